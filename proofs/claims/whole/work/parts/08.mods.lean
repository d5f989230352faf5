set_option maxHeartbeats 4000000 in
set_option maxRecDepth 100000 in
theorem c_forget (l : Launch) (dC : Nat → ClassId) (dI : Nat → Nat → Nat) (h0 qd qs qv : Nat) (cI cJ : ClassId) (sz : Nat) (dk : Nat → Int32) (hf : Nat) (gn : Int32) (rt : Int32) (ct : Int32) (sl : Int32) (sm : Int32) (pw : Bool) (ln : Nat) (lq : Nat → Int32) (vq : Nat → Int64) (ch : Int32)   : Met l y_X_forget w_X_forget ({ frames := 0, cells := 0, slots := 0, locals := 0 }) (va_Pc [.ref h0] (z_pre (dC, dI) classes [(cI, .int), (cJ, .long)] (Xw h0 qd qs qv cI cJ (dk, hf, gn, rt, ct, sl, sm, pw, ln, lq, vq, ch)) sz)) (va_Qv (fun (u : XS) => u = (dk, hf, gn, rt, ct, sl, sm, false, 0, lq, vq, 0)) (fun u => z_at (dC, dI) classes [(cI, .int), (cJ, .long)] (va_A (Xw h0 qd qs qv cI cJ (dk, hf, gn, rt, ct, sl, sm, pw, ln, lq, vq, ch)) sz) (Xw h0 qd qs qv cI cJ u)) (va_A (Xw h0 qd qs qv cI cJ (dk, hf, gn, rt, ct, sl, sm, pw, ln, lq, vq, ch)) sz)) 0 0 (va_A (Xw h0 qd qs qv cI cJ (dk, hf, gn, rt, ct, sl, sm, pw, ln, lq, vq, ch)) sz) := by
  refine Met.ofW (cc := b_X_forget) (maxL := 1) (ret := none) (by decide) rfl ?_
  intro p e s m args below meth c s₁ B hml hv
  obtain ⟨rfl, hsz, hP, hK, hD0⟩ := hv
  have hx := B.exec
  have hb := B.bytes
  have hr := B.returns
  have hts := fun (w : Cond) (h : w ∈ lw_U) => atoms_spec (ws := w_X_forget) B.pre w (List.mem_cons_of_mem _ h)
  have hown : s.vm.findClass R_X = some m.cls := findClass_of_methodNamed B.named
  have hlocks := B.notSynchronized
  subst hsz
  have hD := hD0.self (sz := s.heap.size)
  generalize hAe : va_A (Xw h0 qd qs qv cI cJ (dk, hf, gn, rt, ct, sl, sm, pw, ln, lq, vq, ch)) s.heap.size = A at hD ⊢
  have hA : ∀ q : Nat, s.heap.size ≤ q → A q := fun q h => by rw [← hAe]; exact Or.inr h
  have hS : va_S A s.heap s.heap [] := va_S.rf
  have hP : va_P (dC, dI) classes (Xw h0 qd qs qv cI cJ (dk, hf, gn, rt, ct, sl, sm, pw, ln, lq, vq, ch)) s.heap := hP
  have hl := lv_entry ([.ref h0]) (n := 1) (Nat.le_of_ble_eq_true rfl)
  rw [lg_entry_eq]
  generalize (lg_sl ([.ref h0]) ++ List.replicate (1 - (lg_sl ([.ref h0])).length) Slot.unset).toArray = ls at hl ⊢
  have hl : lv_has ls 1 [(0, .ref h0)] := hl
  refine lv_aload_n hx hb d_X_forget_0 rfl (lv_at hl 0 rfl) ?_
  refine lv_iconst (v := (0 : Int32)) hx hb d_X_forget_1 (by decide) ?_
  refine va_put (D := (dC, dI)) (ci := 0) (v := .int (0 : Int32)) (ty := .boolean) (C := R_X) (T := F_X) (N := 12) hx hb hts lay_X t_X t_X_ok n_X hown hK hP hD hS 0 rfl rfl 7 (by decide) (hts _ m_69) (fun _ h9 => h9) rfl (by decide +kernel) rfl rfl (Nat.le_of_ble_eq_true rfl) d_X_forget_2 (fun H locs hP hD hS => ?_)
  have hP : va_P (dC, dI) classes (Xw h0 qd qs qv cI cJ (dk, hf, gn, rt, ct, sl, sm, false, ln, lq, vq, ch)) H := hP
  have hD : va_D A (Xw h0 qd qs qv cI cJ (dk, hf, gn, rt, ct, sl, sm, false, ln, lq, vq, ch)) := hD
  refine lv_aload_n hx hb d_X_forget_5 rfl (lv_at hl 0 rfl) ?_
  refine lv_iconst (v := nI 0) hx hb d_X_forget_6 (by decide) ?_
  refine va_put (D := (dC, dI)) (ci := 0) (v := .int (nI 0)) (ty := .int) (C := R_X) (T := F_X) (N := 12) hx hb hts lay_X t_X t_X_ok n_X hown hK hP hD hS 0 rfl rfl 8 (by decide) (hts _ m_70) (fun _ h9 => h9) rfl (by decide +kernel) rfl rfl (Nat.le_of_ble_eq_true rfl) d_X_forget_7 (fun H locs hP hD hS => ?_)
  have hP : va_P (dC, dI) classes (Xw h0 qd qs qv cI cJ (dk, hf, gn, rt, ct, sl, sm, false, 0, lq, vq, ch)) H := hP
  have hD : va_D A (Xw h0 qd qs qv cI cJ (dk, hf, gn, rt, ct, sl, sm, false, 0, lq, vq, ch)) := hD
  refine lv_aload_n hx hb d_X_forget_10 rfl (lv_at hl 0 rfl) ?_
  refine lv_iconst (v := (0 : Int32)) hx hb d_X_forget_11 (by decide) ?_
  refine va_put (D := (dC, dI)) (ci := 0) (v := .int (0 : Int32)) (ty := .int) (C := R_X) (T := F_X) (N := 12) hx hb hts lay_X t_X t_X_ok n_X hown hK hP hD hS 0 rfl rfl 11 (by decide) (hts _ m_73) (fun _ h9 => h9) rfl (by decide +kernel) rfl rfl (Nat.le_of_ble_eq_true rfl) d_X_forget_12 (fun H locs hP hD hS => ?_)
  have hP : va_P (dC, dI) classes (Xw h0 qd qs qv cI cJ (dk, hf, gn, rt, ct, sl, sm, false, 0, lq, vq, (0 : Int32))) H := hP
  have hD : va_D A (Xw h0 qd qs qv cI cJ (dk, hf, gn, rt, ct, sl, sm, false, 0, lq, vq, (0 : Int32))) := hD
  exact W.vret hx hb hr (fun t ht hW => ⟨⟨(dk, hf, gn, rt, ct, sl, sm, false, 0, lq, vq, (0 : Int32)), rfl, rfl, by rw [ht]; exact hP, va_K.moved hW.alike hK, hD⟩, hS.F ht⟩) hS.2.2 d_X_forget_15
set_option maxHeartbeats 4000000 in
set_option maxRecDepth 100000 in
theorem c_addToList (l : Launch) (dC : Nat → ClassId) (dI : Nat → Nat → Nat) (h0 qd qs qv : Nat) (cI cJ : ClassId) (sz : Nat) (dk : Nat → Int32) (hf : Nat) (gn : Int32) (rt : Int32) (ct : Int32) (sl : Int32) (sm : Int32) (pw : Bool) (ln : Nat) (lq : Nat → Int32) (vq : Nat → Int64) (ch : Int32) (x0 : Int32) (v0 : Int64) (h_n : ln < 5) : Met l y_X_addToList w_X_addToList ({ frames := 0, cells := 0, slots := 0, locals := 0 }) (va_Pc [.ref h0, .int x0, .long v0] (z_pre (dC, dI) classes [(cI, .int), (cJ, .long)] (Xw h0 qd qs qv cI cJ (dk, hf, gn, rt, ct, sl, sm, pw, ln, lq, vq, ch)) sz)) (va_Qv (fun (u : XS) => u = (dk, hf, gn, rt, ct, sl, sm, pw, ln + 1, upd lq ln x0, vp_updL vq ln v0, ch)) (fun u => z_at (dC, dI) classes [(cI, .int), (cJ, .long)] (va_A (Xw h0 qd qs qv cI cJ (dk, hf, gn, rt, ct, sl, sm, pw, ln, lq, vq, ch)) sz) (Xw h0 qd qs qv cI cJ u)) (va_A (Xw h0 qd qs qv cI cJ (dk, hf, gn, rt, ct, sl, sm, pw, ln, lq, vq, ch)) sz)) 0 0 (va_A (Xw h0 qd qs qv cI cJ (dk, hf, gn, rt, ct, sl, sm, pw, ln, lq, vq, ch)) sz) := by
  refine Met.ofW (cc := b_X_addToList) (maxL := 4) (ret := none) (by decide) rfl ?_
  intro p e s m args below meth c s₁ B hml hv
  obtain ⟨rfl, hsz, hP, hK, hD0⟩ := hv
  have hx := B.exec
  have hb := B.bytes
  have hr := B.returns
  have hts := fun (w : Cond) (h : w ∈ lw_U) => atoms_spec (ws := w_X_addToList) B.pre w (List.mem_cons_of_mem _ h)
  have hown : s.vm.findClass R_X = some m.cls := findClass_of_methodNamed B.named
  have hlocks := B.notSynchronized
  subst hsz
  have hD := hD0.self (sz := s.heap.size)
  generalize hAe : va_A (Xw h0 qd qs qv cI cJ (dk, hf, gn, rt, ct, sl, sm, pw, ln, lq, vq, ch)) s.heap.size = A at hD ⊢
  have hA : ∀ q : Nat, s.heap.size ≤ q → A q := fun q h => by rw [← hAe]; exact Or.inr h
  have hS : va_S A s.heap s.heap [] := va_S.rf
  have hP : va_P (dC, dI) classes (Xw h0 qd qs qv cI cJ (dk, hf, gn, rt, ct, sl, sm, pw, ln, lq, vq, ch)) s.heap := hP
  have hl := lv_entry ([.ref h0, .int x0, .long v0]) (n := 4) (Nat.le_of_ble_eq_true rfl)
  rw [lg_entry_eq]
  generalize (lg_sl ([.ref h0, .int x0, .long v0]) ++ List.replicate (4 - (lg_sl ([.ref h0, .int x0, .long v0])).length) Slot.unset).toArray = ls at hl ⊢
  have hl : lv_has ls 4 [(0, .ref h0), (1, .int x0), (2, .long v0)] := hl
  refine lv_aload_n hx hb d_X_addToList_0 rfl (lv_at hl 0 rfl) ?_
  refine va_get (D := (dC, dI)) (ci := 0) (v := .ref qs) (C := R_X) (T := F_X) (N := 12) hx hb hts lay_X hown hK hP 0 rfl rfl 9 (by decide) (hts _ m_71) (fun _ h9 => h9) rfl d_X_addToList_1 ?_
  refine lv_aload_n hx hb d_X_addToList_4 rfl (lv_at hl 0 rfl) ?_
  refine va_get (D := (dC, dI)) (ci := 0) (v := .int (nI ln)) (C := R_X) (T := F_X) (N := 12) hx hb hts lay_X hown hK hP 0 rfl rfl 8 (by decide) (hts _ m_70) (fun _ h9 => h9) rfl d_X_addToList_5 ?_
  refine lv_iload_n hx hb d_X_addToList_8 rfl (lv_at hl 1 rfl) ?_
  refine z_iast hx hb hK hP hD hS 2 0 rfl rfl (by omega) (by decide) d_X_addToList_9 (fun H locs hP hD hS => ?_)
  have hP : va_P (dC, dI) classes (Xw h0 qd qs qv cI cJ (dk, hf, gn, rt, ct, sl, sm, pw, ln, upd lq ln x0, vq, ch)) H := hP
  have hD : va_D A (Xw h0 qd qs qv cI cJ (dk, hf, gn, rt, ct, sl, sm, pw, ln, upd lq ln x0, vq, ch)) := hD
  refine lv_aload_n hx hb d_X_addToList_10 rfl (lv_at hl 0 rfl) ?_
  refine va_get (D := (dC, dI)) (ci := 0) (v := .ref qv) (C := R_X) (T := F_X) (N := 12) hx hb hts lay_X hown hK hP 0 rfl rfl 10 (by decide) (hts _ m_72) (fun _ h9 => h9) rfl d_X_addToList_11 ?_
  refine lv_aload_n hx hb d_X_addToList_14 rfl (lv_at hl 0 rfl) ?_
  refine va_get (D := (dC, dI)) (ci := 0) (v := .int (nI ln)) (C := R_X) (T := F_X) (N := 12) hx hb hts lay_X hown hK hP 0 rfl rfl 8 (by decide) (hts _ m_70) (fun _ h9 => h9) rfl d_X_addToList_15 ?_
  refine lv_lload_n hx hb d_X_addToList_18 rfl (lv_at hl 2 rfl) ?_
  refine z_last hx hb hK hP hD hS 3 1 rfl rfl (by omega) (by decide) d_X_addToList_19 (fun H locs hP hD hS => ?_)
  have hP : va_P (dC, dI) classes (Xw h0 qd qs qv cI cJ (dk, hf, gn, rt, ct, sl, sm, pw, ln, upd lq ln x0, vp_updL vq ln v0, ch)) H := hP
  have hD : va_D A (Xw h0 qd qs qv cI cJ (dk, hf, gn, rt, ct, sl, sm, pw, ln, upd lq ln x0, vp_updL vq ln v0, ch)) := hD
  refine lv_aload_n hx hb d_X_addToList_20 rfl (lv_at hl 0 rfl) ?_
  refine lv_dup hx hb d_X_addToList_21 rfl ?_
  refine va_get (D := (dC, dI)) (ci := 0) (v := .int (nI ln)) (C := R_X) (T := F_X) (N := 12) hx hb hts lay_X hown hK hP 0 rfl rfl 8 (by decide) (hts _ m_70) (fun _ h9 => h9) rfl d_X_addToList_22 ?_
  refine lv_iconst (v := nI 1) hx hb d_X_addToList_25 (by decide) ?_
  refine lv_iadd hx hb d_X_addToList_26 ?_
  refine z_top (nI_add _ _) ?_
  refine va_put (D := (dC, dI)) (ci := 0) (v := .int (nI (ln + 1))) (ty := .int) (C := R_X) (T := F_X) (N := 12) hx hb hts lay_X t_X t_X_ok n_X hown hK hP hD hS 0 rfl rfl 8 (by decide) (hts _ m_70) (fun _ h9 => h9) rfl (by decide +kernel) rfl rfl (Nat.le_of_ble_eq_true rfl) d_X_addToList_27 (fun H locs hP hD hS => ?_)
  have hP : va_P (dC, dI) classes (Xw h0 qd qs qv cI cJ (dk, hf, gn, rt, ct, sl, sm, pw, ln + 1, upd lq ln x0, vp_updL vq ln v0, ch)) H := hP
  have hD : va_D A (Xw h0 qd qs qv cI cJ (dk, hf, gn, rt, ct, sl, sm, pw, ln + 1, upd lq ln x0, vp_updL vq ln v0, ch)) := hD
  exact W.vret hx hb hr (fun t ht hW => ⟨⟨(dk, hf, gn, rt, ct, sl, sm, pw, ln + 1, upd lq ln x0, vp_updL vq ln v0, ch), rfl, rfl, by rw [ht]; exact hP, va_K.moved hW.alike hK, hD⟩, hS.F ht⟩) hS.2.2 d_X_addToList_30
set_option maxHeartbeats 4000000 in
set_option maxRecDepth 100000 in
theorem c_beginList (l : Launch) (dC : Nat → ClassId) (dI : Nat → Nat → Nat) (h0 qd qs qv : Nat) (cI cJ : ClassId) (sz : Nat) (dk : Nat → Int32) (hf : Nat) (gn : Int32) (rt : Int32) (ct : Int32) (sl : Int32) (sm : Int32) (pw : Bool) (ln : Nat) (lq : Nat → Int32) (vq : Nat → Int64) (ch : Int32)   : Met l y_X_beginList w_X_beginList ({ frames := 1, cells := 0, slots := 0, locals := 22 }) (va_Pc [.ref h0] (z_pre (dC, dI) classes [(cI, .int), (cJ, .long)] (Xw h0 qd qs qv cI cJ (dk, hf, gn, rt, ct, sl, sm, pw, ln, lq, vq, ch)) sz)) (va_Qv (fun (u : XS) => u = (dk, hf, gn, rt, ct, sl, sm, pw, 0, lq, vq, dg (dg 19088743 rt) gn)) (fun u => z_at (dC, dI) classes [(cI, .int), (cJ, .long)] (va_A (Xw h0 qd qs qv cI cJ (dk, hf, gn, rt, ct, sl, sm, pw, ln, lq, vq, ch)) sz) (Xw h0 qd qs qv cI cJ u)) (va_A (Xw h0 qd qs qv cI cJ (dk, hf, gn, rt, ct, sl, sm, pw, ln, lq, vq, ch)) sz)) 0 0 (va_A (Xw h0 qd qs qv cI cJ (dk, hf, gn, rt, ct, sl, sm, pw, ln, lq, vq, ch)) sz) := by
  refine Met.ofW (cc := b_X_beginList) (maxL := 1) (ret := none) (by decide) rfl ?_
  intro p e s m args below meth c s₁ B hml hv
  obtain ⟨rfl, hsz, hP, hK, hD0⟩ := hv
  have hx := B.exec
  have hb := B.bytes
  have hr := B.returns
  have hts := fun (w : Cond) (h : w ∈ lw_U) => atoms_spec (ws := w_X_beginList) B.pre w (List.mem_cons_of_mem _ h)
  have hown : s.vm.findClass R_X = some m.cls := findClass_of_methodNamed B.named
  have hlocks := B.notSynchronized
  subst hsz
  have hD := hD0.self (sz := s.heap.size)
  generalize hAe : va_A (Xw h0 qd qs qv cI cJ (dk, hf, gn, rt, ct, sl, sm, pw, ln, lq, vq, ch)) s.heap.size = A at hD ⊢
  have hA : ∀ q : Nat, s.heap.size ≤ q → A q := fun q h => by rw [← hAe]; exact Or.inr h
  have hS : va_S A s.heap s.heap [] := va_S.rf
  have hP : va_P (dC, dI) classes (Xw h0 qd qs qv cI cJ (dk, hf, gn, rt, ct, sl, sm, pw, ln, lq, vq, ch)) s.heap := hP
  have hl := lv_entry ([.ref h0]) (n := 1) (Nat.le_of_ble_eq_true rfl)
  rw [lg_entry_eq]
  generalize (lg_sl ([.ref h0]) ++ List.replicate (1 - (lg_sl ([.ref h0])).length) Slot.unset).toArray = ls at hl ⊢
  have hl : lv_has ls 1 [(0, .ref h0)] := hl
  refine lv_aload_n hx hb d_X_beginList_0 rfl (lv_at hl 0 rfl) ?_
  refine lv_iconst (v := nI 0) hx hb d_X_beginList_1 (by decide) ?_
  refine va_put (D := (dC, dI)) (ci := 0) (v := .int (nI 0)) (ty := .int) (C := R_X) (T := F_X) (N := 12) hx hb hts lay_X t_X t_X_ok n_X hown hK hP hD hS 0 rfl rfl 8 (by decide) (hts _ m_70) (fun _ h9 => h9) rfl (by decide +kernel) rfl rfl (Nat.le_of_ble_eq_true rfl) d_X_beginList_2 (fun H locs hP hD hS => ?_)
  have hP : va_P (dC, dI) classes (Xw h0 qd qs qv cI cJ (dk, hf, gn, rt, ct, sl, sm, pw, 0, lq, vq, ch)) H := hP
  have hD : va_D A (Xw h0 qd qs qv cI cJ (dk, hf, gn, rt, ct, sl, sm, pw, 0, lq, vq, ch)) := hD
  refine lv_aload_n hx hb d_X_beginList_5 rfl (lv_at hl 0 rfl) ?_
  refine lv_ldc (v := 19088743) hx hb hown (hts _ m_46) d_X_beginList_6 ?_
  refine lv_aload_n hx hb d_X_beginList_8 rfl (lv_at hl 0 rfl) ?_
  refine va_get (D := (dC, dI)) (ci := 0) (v := .int rt) (C := R_X) (T := F_X) (N := 12) hx hb hts lay_X hown hK hP 0 rfl rfl 3 (by decide) (hts _ m_65) (fun _ h9 => h9) rfl d_X_beginList_9 ?_
  refine vp_callSi (W.runS (As := [.int (19088743 : Int32), .int rt]) (rest := [.ref h0]) ⟨hx, hb, hml, hown, hts⟩ (c_digest l (19088743 : Int32) rt) (cwS 2 hts g_X_100 rfl rfl rfl (by decide +kernel) ⟨(Nat.le_of_ble_eq_true rfl), (Nat.le_of_ble_eq_true rfl)⟩) preEq rfl rfl hl.1 rfl (lv_room (Nat.le_of_ble_eq_true rfl)) d_X_beginList_12 ⟨(Nat.le_of_ble_eq_true rfl), (Nat.le_of_ble_eq_true rfl)⟩) (fun r hr0 => ?_)
  subst hr0
  refine lv_aload_n hx hb d_X_beginList_15 rfl (lv_at hl 0 rfl) ?_
  refine va_get (D := (dC, dI)) (ci := 0) (v := .int gn) (C := R_X) (T := F_X) (N := 12) hx hb hts lay_X hown hK hP 0 rfl rfl 2 (by decide) (hts _ m_64) (fun _ h9 => h9) rfl d_X_beginList_16 ?_
  refine vp_callSi (W.runS (As := [.int (dg (19088743 : Int32) rt), .int gn]) (rest := [.ref h0]) ⟨hx, hb, hml, hown, hts⟩ (c_digest l (dg (19088743 : Int32) rt) gn) (cwS 2 hts g_X_100 rfl rfl rfl (by decide +kernel) ⟨(Nat.le_of_ble_eq_true rfl), (Nat.le_of_ble_eq_true rfl)⟩) preEq rfl rfl hl.1 rfl (lv_room (Nat.le_of_ble_eq_true rfl)) d_X_beginList_19 ⟨(Nat.le_of_ble_eq_true rfl), (Nat.le_of_ble_eq_true rfl)⟩) (fun r hr0 => ?_)
  subst hr0
  refine va_put (D := (dC, dI)) (ci := 0) (v := .int (dg (dg (19088743 : Int32) rt) gn)) (ty := .int) (C := R_X) (T := F_X) (N := 12) hx hb hts lay_X t_X t_X_ok n_X hown hK hP hD hS 0 rfl rfl 11 (by decide) (hts _ m_73) (fun _ h9 => h9) rfl (by decide +kernel) rfl rfl (Nat.le_of_ble_eq_true rfl) d_X_beginList_22 (fun H locs hP hD hS => ?_)
  have hP : va_P (dC, dI) classes (Xw h0 qd qs qv cI cJ (dk, hf, gn, rt, ct, sl, sm, pw, 0, lq, vq, dg (dg (19088743 : Int32) rt) gn)) H := hP
  have hD : va_D A (Xw h0 qd qs qv cI cJ (dk, hf, gn, rt, ct, sl, sm, pw, 0, lq, vq, dg (dg (19088743 : Int32) rt) gn)) := hD
  exact W.vret hx hb hr (fun t ht hW => ⟨⟨(dk, hf, gn, rt, ct, sl, sm, pw, 0, lq, vq, dg (dg (19088743 : Int32) rt) gn), rfl, rfl, by rw [ht]; exact hP, va_K.moved hW.alike hK, hD⟩, hS.F ht⟩) hS.2.2 d_X_beginList_25
set_option maxHeartbeats 4000000 in
set_option maxRecDepth 100000 in
theorem c_takeJournal (l : Launch) (dC : Nat → ClassId) (dI : Nat → Nat → Nat) (h0 qd qs qv : Nat) (cI cJ : ClassId) (sz : Nat) (dk : Nat → Int32) (hf : Nat) (gn : Int32) (rt : Int32) (ct : Int32) (sl : Int32) (sm : Int32) (pw : Bool) (ln : Nat) (lq : Nat → Int32) (vq : Nat → Int64) (ch : Int32)  (h_f : hf < 2) : Met l y_X_takeJournal w_X_takeJournal ({ frames := 3, cells := 0, slots := 0, locals := 69 }) (va_Pc [.ref h0] (z_pre (dC, dI) classes [(cI, .int), (cJ, .long)] (Xw h0 qd qs qv cI cJ (dk, hf, gn, rt, ct, sl, sm, pw, ln, lq, vq, ch)) sz)) (va_Qv (fun (u : XS) => ∃ (n1 : Nat) (lq1 : Nat → Int32) (vq1 : Nat → Int64) (ch1 : Int32), tj dk hf gn 5 0 lq vq (dg (dg 19088743 rt) gn) = (n1, lq1, vq1, ch1) ∧ n1 ≤ 5 ∧ u = (dk, hf, gn, rt, ct, sl, sm, pw, n1, lq1, vq1, ch1)) (fun u => z_at (dC, dI) classes [(cI, .int), (cJ, .long)] (va_A (Xw h0 qd qs qv cI cJ (dk, hf, gn, rt, ct, sl, sm, pw, ln, lq, vq, ch)) sz) (Xw h0 qd qs qv cI cJ u)) (va_A (Xw h0 qd qs qv cI cJ (dk, hf, gn, rt, ct, sl, sm, pw, ln, lq, vq, ch)) sz)) 0 0 (va_A (Xw h0 qd qs qv cI cJ (dk, hf, gn, rt, ct, sl, sm, pw, ln, lq, vq, ch)) sz) := by
  refine Met.ofW (cc := b_X_takeJournal) (maxL := 7) (ret := none) (by decide) rfl ?_
  intro p e s m args below meth c s₁ B hml hv
  obtain ⟨rfl, hsz, hP, hK, hD0⟩ := hv
  have hx := B.exec
  have hb := B.bytes
  have hr := B.returns
  have hts := fun (w : Cond) (h : w ∈ lw_U) => atoms_spec (ws := w_X_takeJournal) B.pre w (List.mem_cons_of_mem _ h)
  have hown : s.vm.findClass R_X = some m.cls := findClass_of_methodNamed B.named
  have hlocks := B.notSynchronized
  subst hsz
  have hD := hD0.self (sz := s.heap.size)
  generalize hAe : va_A (Xw h0 qd qs qv cI cJ (dk, hf, gn, rt, ct, sl, sm, pw, ln, lq, vq, ch)) s.heap.size = A at hD ⊢
  have hA : ∀ q : Nat, s.heap.size ≤ q → A q := fun q h => by rw [← hAe]; exact Or.inr h
  have hS : va_S A s.heap s.heap [] := va_S.rf
  have hP : va_P (dC, dI) classes (Xw h0 qd qs qv cI cJ (dk, hf, gn, rt, ct, sl, sm, pw, ln, lq, vq, ch)) s.heap := hP
  have hl := lv_entry ([.ref h0]) (n := 7) (Nat.le_of_ble_eq_true rfl)
  rw [lg_entry_eq]
  generalize (lg_sl ([.ref h0]) ++ List.replicate (7 - (lg_sl ([.ref h0])).length) Slot.unset).toArray = ls at hl ⊢
  have hl : lv_has ls 7 [(0, .ref h0)] := hl
  have loop : ∀ (j k : Nat) (lq1 : Nat → Int32) (vq1 : Nat → Int64) (ch1 : Int32) (ls : Array Slot) (H : Heap) (locs : List Loc), k + j = 5 → lv_has ls 7 [(0, .ref h0), (1, .int (nI k))] → va_P (dC, dI) classes (Xw h0 qd qs qv cI cJ (dk, hf, gn, rt, ct, sl, sm, pw, k, lq1, vq1, ch1)) H → va_D A (Xw h0 qd qs qv cI cJ (dk, hf, gn, rt, ct, sl, sm, pw, k, lq1, vq1, ch1)) → va_S A s.heap H locs → tj dk hf gn j k lq1 vq1 ch1 = tj dk hf gn 5 0 lq vq (dg (dg 19088743 rt) gn) → W p l e (headSpec w_X_takeJournal ({ frames := 3, cells := 0, slots := 0, locals := 69 })).room s m ([.ref h0].toArray) below meth c H locs 0 0 (MQ below (va_Qv (fun (u : XS) => ∃ (n1 : Nat) (lq1 : Nat → Int32) (vq1 : Nat → Int64) (ch1 : Int32), tj dk hf gn 5 0 lq vq (dg (dg 19088743 rt) gn) = (n1, lq1, vq1, ch1) ∧ n1 ≤ 5 ∧ u = (dk, hf, gn, rt, ct, sl, sm, pw, n1, lq1, vq1, ch1)) (fun u => z_at (dC, dI) classes [(cI, .int), (cJ, .long)] A (Xw h0 qd qs qv cI cJ u)) A) ([.ref h0].toArray) s 0 0 A) (F0 m 6 ls []) := by
    intro j
    induction j with
    | zero =>
      intro k lq1 vq1 ch1 ls H locs hk hl hP hD hS hF
      refine lv_iload_n hx hb d_X_takeJournal_6 rfl (lv_at hl 1 rfl) ?_
      refine lv_iconst (v := nI 5) hx hb d_X_takeJournal_7 (by decide) ?_
      refine lv_icmp_ge (tgt := 101) hx hb d_X_takeJournal_8 (by decide) (fun _ => ?_) (fun h9 => absurd ((nI_leI (by omega) (by omega)).mpr (by omega)) h9)
      exact W.vret hx hb hr (fun t ht hW => ⟨⟨(dk, hf, gn, rt, ct, sl, sm, pw, k, lq1, vq1, ch1), rfl, ⟨_, _, _, _, hF.symm, by omega, rfl⟩, by rw [ht]; exact hP, va_K.moved hW.alike hK, hD⟩, hS.F ht⟩) hS.2.2 d_X_takeJournal_101
    | succ j ih =>
      intro k lq1 vq1 ch1 ls H locs hk hl hP hD hS hF
      refine lv_iload_n hx hb d_X_takeJournal_6 rfl (lv_at hl 1 rfl) ?_
      refine lv_iconst (v := nI 5) hx hb d_X_takeJournal_7 (by decide) ?_
      refine lv_icmp_ge (tgt := 101) hx hb d_X_takeJournal_8 (by decide) (fun h9 => absurd h9 (fun q => absurd ((nI_leI (by omega) (by omega)).mp q) (by omega))) (fun _ => ?_)
      refine lv_aload_n hx hb d_X_takeJournal_11 rfl (lv_at hl 0 rfl) ?_
      refine va_get (D := (dC, dI)) (ci := 0) (v := .int (nI hf)) (C := R_X) (T := F_X) (N := 12) hx hb hts lay_X hown hK hP 0 rfl rfl 1 (by decide) (hts _ m_63) (fun _ h9 => h9) rfl d_X_takeJournal_12 ?_
      refine lv_iload_n hx hb d_X_takeJournal_15 rfl (lv_at hl 1 rfl) ?_
      refine vp_callSi (W.runS (As := [.int (nI hf), .int (nI k)]) (rest := []) ⟨hx, hb, hml, hown, hts⟩ (c_recordPlace l hf k) (cwS 2 hts g_X_123 rfl rfl rfl (by decide +kernel) ⟨(Nat.le_of_ble_eq_true rfl), (Nat.le_of_ble_eq_true rfl)⟩) preEq rfl rfl hl.1 rfl (lv_room (Nat.le_of_ble_eq_true rfl)) d_X_takeJournal_16 ⟨(Nat.le_of_ble_eq_true rfl), (Nat.le_of_ble_eq_true rfl)⟩) (fun r hr0 => ?_)
      subst hr0
      refine lv_istore_n hx hb d_X_takeJournal_19 rfl hl (by decide) rfl (fun ls hl => ?_)
      have hl : lv_has ls 7 [(2, .int (nI (51 * hf + 31 + 4 * k))), (0, .ref h0), (1, .int (nI k))] := hl
      refine lv_aload_n hx hb d_X_takeJournal_20 rfl (lv_at hl 1 rfl) ?_
      refine lv_iload_n hx hb d_X_takeJournal_21 rfl (lv_at hl 0 rfl) ?_
      refine vp_callSi (W.runV (C := R_X) (b := h0) (As := [.int (nI (51 * hf + 31 + 4 * k))]) (rest := []) ⟨hx, hb, hml, hown, hts⟩ (c_chainBehind l dC dI h0 qd qs qv cI cJ _ dk hf gn rt ct sl sm pw k lq1 vq1 ch1 (51 * hf + 31 + 4 * k) (by omega)) (cwV 1 hts g_X_126 rfl rfl rfl (by decide +kernel) ⟨(Nat.le_of_ble_eq_true rfl), (Nat.le_of_ble_eq_true rfl)⟩) (z_preV (va_recv (q0 := 0) hK hP rfl rfl) hP hK hD) rfl rfl hl.1 rfl (lv_room (Nat.le_of_ble_eq_true rfl)) d_X_takeJournal_22 ⟨(Nat.le_of_ble_eq_true rfl), (Nat.le_of_ble_eq_true rfl)⟩) (fun r hr0 => ?_)
      subst hr0
      refine lv_istore_n hx hb d_X_takeJournal_25 rfl hl (by decide) rfl (fun ls hl => ?_)
      have hl : lv_has ls 7 [(3, .int (chn ch1 dk (51 * hf + 31 + 4 * k))), (2, .int (nI (51 * hf + 31 + 4 * k))), (0, .ref h0), (1, .int (nI k))] := hl
      refine lv_aload_n hx hb d_X_takeJournal_26 rfl (lv_at hl 2 rfl) ?_
      refine va_get (D := (dC, dI)) (ci := 0) (v := .ref qd) (C := R_X) (T := F_X) (N := 12) hx hb hts lay_X hown hK hP 0 rfl rfl 0 (by decide) (hts _ m_62) (fun _ h9 => h9) rfl d_X_takeJournal_27 ?_
      refine lv_iload_n hx hb d_X_takeJournal_30 rfl (lv_at hl 1 rfl) ?_
      refine z_iald hx hb hK hP 1 0 rfl rfl (by omega) (by decide) d_X_takeJournal_31 ?_
      refine lv_iload_n hx hb d_X_takeJournal_32 rfl (lv_at hl 1 rfl) ?_
      refine lv_aload_n hx hb d_X_takeJournal_33 rfl (lv_at hl 2 rfl) ?_
      refine va_get (D := (dC, dI)) (ci := 0) (v := .int gn) (C := R_X) (T := F_X) (N := 12) hx hb hts lay_X hown hK hP 0 rfl rfl 2 (by decide) (hts _ m_64) (fun _ h9 => h9) rfl d_X_takeJournal_34 ?_
      refine vp_callSi (W.runS (As := [.int (dk (51 * hf + 31 + 4 * k)), .int (nI (51 * hf + 31 + 4 * k)), .int gn]) (rest := []) ⟨hx, hb, hml, hown, hts⟩ (c_encipher l (dk (51 * hf + 31 + 4 * k)) (nI (51 * hf + 31 + 4 * k)) gn) (cwS 3 hts g_X_27 rfl rfl rfl (by decide +kernel) ⟨(Nat.le_of_ble_eq_true rfl), (Nat.le_of_ble_eq_true rfl)⟩) preEq rfl rfl hl.1 rfl (lv_room (Nat.le_of_ble_eq_true rfl)) d_X_takeJournal_37 ⟨(Nat.le_of_ble_eq_true rfl), (Nat.le_of_ble_eq_true rfl)⟩) (fun r hr0 => ?_)
      subst hr0
      refine lv_istore hx hb d_X_takeJournal_40 hl (by decide) rfl (fun ls hl => ?_)
      have hl : lv_has ls 7 [(4, .int (enc (dk (51 * hf + 31 + 4 * k)) (nI (51 * hf + 31 + 4 * k)) gn)), (3, .int (chn ch1 dk (51 * hf + 31 + 4 * k))), (2, .int (nI (51 * hf + 31 + 4 * k))), (0, .ref h0), (1, .int (nI k))] := hl
      refine lv_aload_n hx hb d_X_takeJournal_42 rfl (lv_at hl 3 rfl) ?_
      refine lv_iload_n hx hb d_X_takeJournal_43 rfl (lv_at hl 2 rfl) ?_
      refine lv_iconst (v := nI 1) hx hb d_X_takeJournal_44 (by decide) ?_
      refine lv_iadd hx hb d_X_takeJournal_45 ?_
      refine z_top (nI_add _ _) ?_
      refine vp_callSl (W.runV (C := R_X) (b := h0) (As := [.int (nI ((51 * hf + 31 + 4 * k) + 1))]) (rest := []) ⟨hx, hb, hml, hown, hts⟩ (c_valueAt l dC dI h0 qd qs qv cI cJ _ dk hf gn rt ct sl sm pw k lq1 vq1 ch1 ((51 * hf + 31 + 4 * k) + 1) (by omega)) (cwV 1 hts g_X_114 rfl rfl rfl (by decide +kernel) ⟨(Nat.le_of_ble_eq_true rfl), (Nat.le_of_ble_eq_true rfl)⟩) (z_preV (va_recv (q0 := 0) hK hP rfl rfl) hP hK hD) rfl rfl hl.1 rfl (lv_room (Nat.le_of_ble_eq_true rfl)) d_X_takeJournal_46 ⟨(Nat.le_of_ble_eq_true rfl), (Nat.le_of_ble_eq_true rfl)⟩) (fun r hr0 => ?_)
      subst hr0
      refine lv_lstore hx hb d_X_takeJournal_49 hl (by decide) rfl (fun ls hl => ?_)
      have hl : lv_has ls 7 [(5, .long (vat dk gn ((51 * hf + 31 + 4 * k) + 1))), (4, .int (enc (dk (51 * hf + 31 + 4 * k)) (nI (51 * hf + 31 + 4 * k)) gn)), (3, .int (chn ch1 dk (51 * hf + 31 + 4 * k))), (2, .int (nI (51 * hf + 31 + 4 * k))), (0, .ref h0), (1, .int (nI k))] := hl
      refine lv_aload_n hx hb d_X_takeJournal_51 rfl (lv_at hl 4 rfl) ?_
      refine va_get (D := (dC, dI)) (ci := 0) (v := .ref qd) (C := R_X) (T := F_X) (N := 12) hx hb hts lay_X hown hK hP 0 rfl rfl 0 (by decide) (hts _ m_62) (fun _ h9 => h9) rfl d_X_takeJournal_52 ?_
      refine lv_iload_n hx hb d_X_takeJournal_55 rfl (lv_at hl 3 rfl) ?_
      refine lv_iconst (v := nI 3) hx hb d_X_takeJournal_56 (by decide) ?_
      refine lv_iadd hx hb d_X_takeJournal_57 ?_
      refine z_top (nI_add _ _) ?_
      refine z_iald hx hb hK hP 1 0 rfl rfl (by omega) (by decide) d_X_takeJournal_58 ?_
      refine lv_iload_n hx hb d_X_takeJournal_59 rfl (lv_at hl 2 rfl) ?_
      refine vp_callSi (W.runS (As := [.int (chn ch1 dk (51 * hf + 31 + 4 * k))]) (rest := [.int (dk ((51 * hf + 31 + 4 * k) + 3))]) ⟨hx, hb, hml, hown, hts⟩ (c_markOf l (chn ch1 dk (51 * hf + 31 + 4 * k))) (cwS 1 hts g_X_129 rfl rfl rfl (by decide +kernel) ⟨(Nat.le_of_ble_eq_true rfl), (Nat.le_of_ble_eq_true rfl)⟩) preEq rfl rfl hl.1 rfl (lv_room (Nat.le_of_ble_eq_true rfl)) d_X_takeJournal_60 ⟨(Nat.le_of_ble_eq_true rfl), (Nat.le_of_ble_eq_true rfl)⟩) (fun r hr0 => ?_)
      subst hr0
      refine lv_icmp_ne (tgt := 81) hx hb d_X_takeJournal_63 (by decide) (fun h1 => ?_) (fun h1 => ?_)
      · exact W.vret hx hb hr (fun t ht hW => ⟨⟨(dk, hf, gn, rt, ct, sl, sm, pw, k, lq1, vq1, ch1), rfl, ⟨_, _, _, _, (by rw [← hF]; unfold tj; rw [if_neg (fun q => by simp_all)]), by omega, rfl⟩, by rw [ht]; exact hP, va_K.moved hW.alike hK, hD⟩, hS.F ht⟩) hS.2.2 d_X_takeJournal_81
      · refine lv_iload hx hb d_X_takeJournal_66 (lv_at hl 1 rfl) ?_
        refine vp_callSi (W.runS (As := [.int (enc (dk (51 * hf + 31 + 4 * k)) (nI (51 * hf + 31 + 4 * k)) gn)]) (rest := []) ⟨hx, hb, hml, hown, hts⟩ (c_isSector l (enc (dk (51 * hf + 31 + 4 * k)) (nI (51 * hf + 31 + 4 * k)) gn)) (cwS 1 hts g_X_57 rfl rfl rfl (by decide +kernel) ⟨(Nat.le_of_ble_eq_true rfl), (Nat.le_of_ble_eq_true rfl)⟩) preEq rfl rfl hl.1 rfl (lv_room (Nat.le_of_ble_eq_true rfl)) d_X_takeJournal_68 ⟨(Nat.le_of_ble_eq_true rfl), (Nat.le_of_ble_eq_true rfl)⟩) (fun r hr0 => ?_)
        subst hr0
        refine lv_if_eq (tgt := 81) hx hb d_X_takeJournal_71 (by decide) (fun h2 => ?_) (fun h2 => ?_)
        · exact W.vret hx hb hr (fun t ht hW => ⟨⟨(dk, hf, gn, rt, ct, sl, sm, pw, k, lq1, vq1, ch1), rfl, ⟨_, _, _, _, (by rw [← hF]; unfold tj; rw [if_neg (fun q => by simp_all)]), by omega, rfl⟩, by rw [ht]; exact hP, va_K.moved hW.alike hK, hD⟩, hS.F ht⟩) hS.2.2 d_X_takeJournal_81
        · refine lv_lload hx hb d_X_takeJournal_74 (lv_at hl 0 rfl) ?_
          refine lv_lconst (v := 0) hx hb d_X_takeJournal_76 (by decide) ?_
          refine W.lcmp hx hb d_X_takeJournal_77 ?_
          refine lv_if_ge (tgt := 82) hx hb d_X_takeJournal_78 (by decide) (fun h3 => ?_) (fun h3 => ?_)
          · refine lv_aload_n hx hb d_X_takeJournal_82 rfl (lv_at hl 4 rfl) ?_
            refine lv_iload_n hx hb d_X_takeJournal_83 rfl (lv_at hl 2 rfl) ?_
            refine va_put (D := (dC, dI)) (ci := 0) (v := .int (chn ch1 dk (51 * hf + 31 + 4 * k))) (ty := .int) (C := R_X) (T := F_X) (N := 12) hx hb hts lay_X t_X t_X_ok n_X hown hK hP hD hS 0 rfl rfl 11 (by decide) (hts _ m_73) (fun _ h9 => h9) rfl (by decide +kernel) rfl rfl (Nat.le_of_ble_eq_true rfl) d_X_takeJournal_84 (fun H locs hP hD hS => ?_)
            have hP : va_P (dC, dI) classes (Xw h0 qd qs qv cI cJ (dk, hf, gn, rt, ct, sl, sm, pw, k, lq1, vq1, chn ch1 dk (51 * hf + 31 + 4 * k))) H := hP
            have hD : va_D A (Xw h0 qd qs qv cI cJ (dk, hf, gn, rt, ct, sl, sm, pw, k, lq1, vq1, chn ch1 dk (51 * hf + 31 + 4 * k))) := hD
            refine lv_aload_n hx hb d_X_takeJournal_87 rfl (lv_at hl 4 rfl) ?_
            refine lv_iload hx hb d_X_takeJournal_88 (lv_at hl 1 rfl) ?_
            refine lv_lload hx hb d_X_takeJournal_90 (lv_at hl 0 rfl) ?_
            refine z_callv (va_runV (C := R_X) (b := h0) (As := [.int (enc (dk (51 * hf + 31 + 4 * k)) (nI (51 * hf + 31 + 4 * k)) gn), .long (vat dk gn ((51 * hf + 31 + 4 * k) + 1))]) (rest := []) ⟨hx, hb, hml, hown, hts⟩ (c_addToList l dC dI h0 qd qs qv cI cJ _ dk hf gn rt ct sl sm pw k lq1 vq1 (chn ch1 dk (51 * hf + 31 + 4 * k)) (enc (dk (51 * hf + 31 + 4 * k)) (nI (51 * hf + 31 + 4 * k)) gn) (vat dk gn ((51 * hf + 31 + 4 * k) + 1)) (by omega)) (cwV 2 hts g_X_69 rfl rfl rfl (by decide +kernel) ⟨(Nat.le_of_ble_eq_true rfl), (Nat.le_of_ble_eq_true rfl)⟩) (z_preV (va_recv (q0 := 0) hK hP rfl rfl) hP hK hD) rfl rfl hl.1 rfl (lv_room (Nat.le_of_ble_eq_true rfl)) d_X_takeJournal_92 ⟨(Nat.le_of_ble_eq_true rfl), (Nat.le_of_ble_eq_true rfl)⟩) hS hD hA (fun u H locs hr0 hP hD hS => ?_)
            subst hr0
            refine lv_iinc (k := 5) hx hb d_X_takeJournal_95 hl rfl (z_inc _ 1) (by decide) rfl (fun ls hl => ?_)
            have hl : lv_has ls 7 [(1, .int (nI (k + 1))), (5, .long (vat dk gn ((51 * hf + 31 + 4 * k) + 1))), (4, .int (enc (dk (51 * hf + 31 + 4 * k)) (nI (51 * hf + 31 + 4 * k)) gn)), (3, .int (chn ch1 dk (51 * hf + 31 + 4 * k))), (2, .int (nI (51 * hf + 31 + 4 * k))), (0, .ref h0)] := hl
            refine lv_goto (tgt := 6) hx hb d_X_takeJournal_98 (by decide) ?_
            exact ih (k + 1) _ _ _ ls _ _ (by omega) (lv_sub hl [5, 0] rfl) hP hD hS (by rw [← hF]; conv => rhs; unfold tj; rw [if_pos ⟨by simp_all, by simp_all, by simp_all⟩])
          · exact W.vret hx hb hr (fun t ht hW => ⟨⟨(dk, hf, gn, rt, ct, sl, sm, pw, k, lq1, vq1, ch1), rfl, ⟨_, _, _, _, (by rw [← hF]; unfold tj; rw [if_neg (fun q => by simp_all)]), by omega, rfl⟩, by rw [ht]; exact hP, va_K.moved hW.alike hK, hD⟩, hS.F ht⟩) hS.2.2 d_X_takeJournal_81
  refine lv_aload_n hx hb d_X_takeJournal_0 rfl (lv_at hl 0 rfl) ?_
  refine z_callv (va_runV (C := R_X) (b := h0) (As := []) (rest := []) ⟨hx, hb, hml, hown, hts⟩ (c_beginList l dC dI h0 qd qs qv cI cJ _ dk hf gn rt ct sl sm pw ln lq vq ch ) (cwV 0 hts g_X_120 rfl rfl rfl (by decide +kernel) ⟨(Nat.le_of_ble_eq_true rfl), (Nat.le_of_ble_eq_true rfl)⟩) (z_preV (va_recv (q0 := 0) hK hP rfl rfl) hP hK hD) rfl rfl hl.1 rfl (lv_room (Nat.le_of_ble_eq_true rfl)) d_X_takeJournal_1 ⟨(Nat.le_of_ble_eq_true rfl), (Nat.le_of_ble_eq_true rfl)⟩) hS hD hA (fun u H locs hr0 hP hD hS => ?_)
  subst hr0
  refine lv_iconst (v := nI 0) hx hb d_X_takeJournal_4 (by decide) ?_
  refine lv_istore_n hx hb d_X_takeJournal_5 rfl hl (by decide) rfl (fun ls hl => ?_)
  have hl : lv_has ls 7 [(1, .int (nI 0)), (0, .ref h0)] := hl
  exact loop 5 0 _ _ _ ls _ _ rfl (lv_sub hl [1, 0] rfl) hP hD hS rfl
set_option maxHeartbeats 4000000 in
set_option maxRecDepth 100000 in
theorem c_stepHappens (l : Launch) (dC : Nat → ClassId) (dI : Nat → Nat → Nat) (h0 qd qs qv : Nat) (cI cJ : ClassId) (sz : Nat) (dk : Nat → Int32) (hf : Nat) (gn : Int32) (rt : Int32) (ct : Int32) (sl : Int32) (sm : Int32) (pw : Bool) (ln : Nat) (lq : Nat → Int32) (vq : Nat → Int64) (ch : Int32)   : Met l y_X_stepHappens w_X_stepHappens ({ frames := 1, cells := 0, slots := 0, locals := 20 }) (va_Pc [.ref h0] (z_pre (dC, dI) classes [(cI, .int), (cJ, .long)] (Xw h0 qd qs qv cI cJ (dk, hf, gn, rt, ct, sl, sm, pw, ln, lq, vq, ch)) sz)) (va_Qi (fun (r : Int32) (u : XS) => (sl = 0 ∧ r = 0 ∧ u = (dk, hf, gn, rt, ct, -1, sm, false, 0, lq, vq, 0)) ∨ (¬ sl = 0 ∧ r = 1 ∧ u = (dk, hf, gn, rt, ct, dec1 sl, sm + 1, pw, ln, lq, vq, ch))) (fun u => z_at (dC, dI) classes [(cI, .int), (cJ, .long)] (va_A (Xw h0 qd qs qv cI cJ (dk, hf, gn, rt, ct, sl, sm, pw, ln, lq, vq, ch)) sz) (Xw h0 qd qs qv cI cJ u)) (va_A (Xw h0 qd qs qv cI cJ (dk, hf, gn, rt, ct, sl, sm, pw, ln, lq, vq, ch)) sz)) 0 0 (va_A (Xw h0 qd qs qv cI cJ (dk, hf, gn, rt, ct, sl, sm, pw, ln, lq, vq, ch)) sz) := by
  refine Met.ofW (cc := b_X_stepHappens) (maxL := 1) (ret := (some .boolean)) (by decide) rfl ?_
  intro p e s m args below meth c s₁ B hml hv
  obtain ⟨rfl, hsz, hP, hK, hD0⟩ := hv
  have hx := B.exec
  have hb := B.bytes
  have hr := B.returns
  have hts := fun (w : Cond) (h : w ∈ lw_U) => atoms_spec (ws := w_X_stepHappens) B.pre w (List.mem_cons_of_mem _ h)
  have hown : s.vm.findClass R_X = some m.cls := findClass_of_methodNamed B.named
  have hlocks := B.notSynchronized
  subst hsz
  have hD := hD0.self (sz := s.heap.size)
  generalize hAe : va_A (Xw h0 qd qs qv cI cJ (dk, hf, gn, rt, ct, sl, sm, pw, ln, lq, vq, ch)) s.heap.size = A at hD ⊢
  have hA : ∀ q : Nat, s.heap.size ≤ q → A q := fun q h => by rw [← hAe]; exact Or.inr h
  have hS : va_S A s.heap s.heap [] := va_S.rf
  have hP : va_P (dC, dI) classes (Xw h0 qd qs qv cI cJ (dk, hf, gn, rt, ct, sl, sm, pw, ln, lq, vq, ch)) s.heap := hP
  have hl := lv_entry ([.ref h0]) (n := 1) (Nat.le_of_ble_eq_true rfl)
  rw [lg_entry_eq]
  generalize (lg_sl ([.ref h0]) ++ List.replicate (1 - (lg_sl ([.ref h0])).length) Slot.unset).toArray = ls at hl ⊢
  have hl : lv_has ls 1 [(0, .ref h0)] := hl
  refine lv_aload_n hx hb d_X_stepHappens_0 rfl (lv_at hl 0 rfl) ?_
  refine va_get (D := (dC, dI)) (ci := 0) (v := .int sl) (C := R_X) (T := F_X) (N := 12) hx hb hts lay_X hown hK hP 0 rfl rfl 5 (by decide) (hts _ m_67) (fun _ h9 => h9) rfl d_X_stepHappens_1 ?_
  refine lv_if_ne (tgt := 18) hx hb d_X_stepHappens_4 (by decide) (fun h1 => ?_) (fun h1 => ?_)
  · refine lv_aload_n hx hb d_X_stepHappens_18 rfl (lv_at hl 0 rfl) ?_
    refine va_get (D := (dC, dI)) (ci := 0) (v := .int sl) (C := R_X) (T := F_X) (N := 12) hx hb hts lay_X hown hK hP 0 rfl rfl 5 (by decide) (hts _ m_67) (fun _ h9 => h9) rfl d_X_stepHappens_19 ?_
    refine lv_if_le (tgt := 35) hx hb d_X_stepHappens_22 (by decide) (fun h2 => ?_) (fun h2 => ?_)
    · refine lv_aload_n hx hb d_X_stepHappens_35 rfl (lv_at hl 0 rfl) ?_
      refine lv_dup hx hb d_X_stepHappens_36 rfl ?_
      refine va_get (D := (dC, dI)) (ci := 0) (v := .int sm) (C := R_X) (T := F_X) (N := 12) hx hb hts lay_X hown hK hP 0 rfl rfl 6 (by decide) (hts _ m_68) (fun _ h9 => h9) rfl d_X_stepHappens_37 ?_
      refine lv_iconst (v := (1 : Int32)) hx hb d_X_stepHappens_40 (by decide) ?_
      refine lv_iadd hx hb d_X_stepHappens_41 ?_
      refine va_put (D := (dC, dI)) (ci := 0) (v := .int (sm + (1 : Int32))) (ty := .int) (C := R_X) (T := F_X) (N := 12) hx hb hts lay_X t_X t_X_ok n_X hown hK hP hD hS 0 rfl rfl 6 (by decide) (hts _ m_68) (fun _ h9 => h9) rfl (by decide +kernel) rfl rfl (Nat.le_of_ble_eq_true rfl) d_X_stepHappens_42 (fun H locs hP hD hS => ?_)
      have hP : va_P (dC, dI) classes (Xw h0 qd qs qv cI cJ (dk, hf, gn, rt, ct, sl, sm + (1 : Int32), pw, ln, lq, vq, ch)) H := hP
      have hD : va_D A (Xw h0 qd qs qv cI cJ (dk, hf, gn, rt, ct, sl, sm + (1 : Int32), pw, ln, lq, vq, ch)) := hD
      refine lv_iconst (v := (1 : Int32)) hx hb d_X_stepHappens_45 (by decide) ?_
      exact W.zret hx hb hr rfl (fun t ht hW => ⟨⟨(1 : Int32), (dk, hf, gn, rt, ct, sl, sm + (1 : Int32), pw, ln, lq, vq, ch), rfl, Or.inr ⟨h1, rfl, by rw [dec1, if_neg (z_le0 h2)]⟩, by rw [ht]; exact hP, va_K.moved hW.alike hK, hD⟩, hS.F ht⟩) hS.2.2 d_X_stepHappens_46
    · refine lv_aload_n hx hb d_X_stepHappens_25 rfl (lv_at hl 0 rfl) ?_
      refine lv_dup hx hb d_X_stepHappens_26 rfl ?_
      refine va_get (D := (dC, dI)) (ci := 0) (v := .int sl) (C := R_X) (T := F_X) (N := 12) hx hb hts lay_X hown hK hP 0 rfl rfl 5 (by decide) (hts _ m_67) (fun _ h9 => h9) rfl d_X_stepHappens_27 ?_
      refine lv_iconst (v := (1 : Int32)) hx hb d_X_stepHappens_30 (by decide) ?_
      refine lv_isub hx hb d_X_stepHappens_31 ?_
      refine va_put (D := (dC, dI)) (ci := 0) (v := .int (sl - (1 : Int32))) (ty := .int) (C := R_X) (T := F_X) (N := 12) hx hb hts lay_X t_X t_X_ok n_X hown hK hP hD hS 0 rfl rfl 5 (by decide) (hts _ m_67) (fun _ h9 => h9) rfl (by decide +kernel) rfl rfl (Nat.le_of_ble_eq_true rfl) d_X_stepHappens_32 (fun H locs hP hD hS => ?_)
      have hP : va_P (dC, dI) classes (Xw h0 qd qs qv cI cJ (dk, hf, gn, rt, ct, sl - (1 : Int32), sm, pw, ln, lq, vq, ch)) H := hP
      have hD : va_D A (Xw h0 qd qs qv cI cJ (dk, hf, gn, rt, ct, sl - (1 : Int32), sm, pw, ln, lq, vq, ch)) := hD
      refine lv_aload_n hx hb d_X_stepHappens_35 rfl (lv_at hl 0 rfl) ?_
      refine lv_dup hx hb d_X_stepHappens_36 rfl ?_
      refine va_get (D := (dC, dI)) (ci := 0) (v := .int sm) (C := R_X) (T := F_X) (N := 12) hx hb hts lay_X hown hK hP 0 rfl rfl 6 (by decide) (hts _ m_68) (fun _ h9 => h9) rfl d_X_stepHappens_37 ?_
      refine lv_iconst (v := (1 : Int32)) hx hb d_X_stepHappens_40 (by decide) ?_
      refine lv_iadd hx hb d_X_stepHappens_41 ?_
      refine va_put (D := (dC, dI)) (ci := 0) (v := .int (sm + (1 : Int32))) (ty := .int) (C := R_X) (T := F_X) (N := 12) hx hb hts lay_X t_X t_X_ok n_X hown hK hP hD hS 0 rfl rfl 6 (by decide) (hts _ m_68) (fun _ h9 => h9) rfl (by decide +kernel) rfl rfl (Nat.le_of_ble_eq_true rfl) d_X_stepHappens_42 (fun H locs hP hD hS => ?_)
      have hP : va_P (dC, dI) classes (Xw h0 qd qs qv cI cJ (dk, hf, gn, rt, ct, sl - (1 : Int32), sm + (1 : Int32), pw, ln, lq, vq, ch)) H := hP
      have hD : va_D A (Xw h0 qd qs qv cI cJ (dk, hf, gn, rt, ct, sl - (1 : Int32), sm + (1 : Int32), pw, ln, lq, vq, ch)) := hD
      refine lv_iconst (v := (1 : Int32)) hx hb d_X_stepHappens_45 (by decide) ?_
      exact W.zret hx hb hr rfl (fun t ht hW => ⟨⟨(1 : Int32), (dk, hf, gn, rt, ct, sl - (1 : Int32), sm + (1 : Int32), pw, ln, lq, vq, ch), rfl, Or.inr ⟨h1, rfl, by rw [dec1, if_pos (z_nle0 h2)]⟩, by rw [ht]; exact hP, va_K.moved hW.alike hK, hD⟩, hS.F ht⟩) hS.2.2 d_X_stepHappens_46
  · refine lv_aload_n hx hb d_X_stepHappens_7 rfl (lv_at hl 0 rfl) ?_
    refine lv_iconst (v := (-1 : Int32)) hx hb d_X_stepHappens_8 (by decide) ?_
    refine va_put (D := (dC, dI)) (ci := 0) (v := .int (-1 : Int32)) (ty := .int) (C := R_X) (T := F_X) (N := 12) hx hb hts lay_X t_X t_X_ok n_X hown hK hP hD hS 0 rfl rfl 5 (by decide) (hts _ m_67) (fun _ h9 => h9) rfl (by decide +kernel) rfl rfl (Nat.le_of_ble_eq_true rfl) d_X_stepHappens_9 (fun H locs hP hD hS => ?_)
    have hP : va_P (dC, dI) classes (Xw h0 qd qs qv cI cJ (dk, hf, gn, rt, ct, (-1 : Int32), sm, pw, ln, lq, vq, ch)) H := hP
    have hD : va_D A (Xw h0 qd qs qv cI cJ (dk, hf, gn, rt, ct, (-1 : Int32), sm, pw, ln, lq, vq, ch)) := hD
    refine lv_aload_n hx hb d_X_stepHappens_12 rfl (lv_at hl 0 rfl) ?_
    refine z_callv (va_runV (C := R_X) (b := h0) (As := []) (rest := []) ⟨hx, hb, hml, hown, hts⟩ (c_forget l dC dI h0 qd qs qv cI cJ _ dk hf gn rt ct (-1 : Int32) sm pw ln lq vq ch ) (cwV 0 hts g_X_50 rfl rfl rfl (by decide +kernel) ⟨(Nat.le_of_ble_eq_true rfl), (Nat.le_of_ble_eq_true rfl)⟩) (z_preV (va_recv (q0 := 0) hK hP rfl rfl) hP hK hD) rfl rfl hl.1 rfl (lv_room (Nat.le_of_ble_eq_true rfl)) d_X_stepHappens_13 ⟨(Nat.le_of_ble_eq_true rfl), (Nat.le_of_ble_eq_true rfl)⟩) hS hD hA (fun u H locs hr0 hP hD hS => ?_)
    subst hr0
    refine lv_iconst (v := (0 : Int32)) hx hb d_X_stepHappens_16 (by decide) ?_
    exact W.zret hx hb hr rfl (fun t ht hW => ⟨⟨(0 : Int32), (dk, hf, gn, rt, ct, (-1 : Int32), sm, false, 0, lq, vq, (0 : Int32)), rfl, Or.inl ⟨h1, rfl, rfl⟩, by rw [ht]; exact hP, va_K.moved hW.alike hK, hD⟩, hS.F ht⟩) hS.2.2 d_X_stepHappens_17
set_option maxHeartbeats 4000000 in
set_option maxRecDepth 100000 in
theorem c_storeWord (l : Launch) (dC : Nat → ClassId) (dI : Nat → Nat → Nat) (h0 qd qs qv : Nat) (cI cJ : ClassId) (sz : Nat) (dk : Nat → Int32) (hf : Nat) (gn : Int32) (rt : Int32) (ct : Int32) (sl : Int32) (sm : Int32) (pw : Bool) (ln : Nat) (lq : Nat → Int32) (vq : Nat → Int64) (ch : Int32) (pp : Nat) (w0 : Int32) (h_p : pp < 102) : Met l y_X_storeWord w_X_storeWord ({ frames := 2, cells := 0, slots := 0, locals := 40 }) (va_Pc [.ref h0, .int (nI pp), .int w0] (z_pre (dC, dI) classes [(cI, .int), (cJ, .long)] (Xw h0 qd qs qv cI cJ (dk, hf, gn, rt, ct, sl, sm, pw, ln, lq, vq, ch)) sz)) (va_Qi (fun (r : Int32) (u : XS) => (sl = 0 ∧ r = 0 ∧ u = (dk, hf, gn, rt, ct, -1, sm, false, 0, lq, vq, 0)) ∨ (¬ sl = 0 ∧ r = 1 ∧ u = (upd dk pp w0, hf, gn, rt, ct, dec1 sl, sm + 1, pw, ln, lq, vq, ch))) (fun u => z_at (dC, dI) classes [(cI, .int), (cJ, .long)] (va_A (Xw h0 qd qs qv cI cJ (dk, hf, gn, rt, ct, sl, sm, pw, ln, lq, vq, ch)) sz) (Xw h0 qd qs qv cI cJ u)) (va_A (Xw h0 qd qs qv cI cJ (dk, hf, gn, rt, ct, sl, sm, pw, ln, lq, vq, ch)) sz)) 0 0 (va_A (Xw h0 qd qs qv cI cJ (dk, hf, gn, rt, ct, sl, sm, pw, ln, lq, vq, ch)) sz) := by
  refine Met.ofW (cc := b_X_storeWord) (maxL := 3) (ret := (some .boolean)) (by decide) rfl ?_
  intro p e s m args below meth c s₁ B hml hv
  obtain ⟨rfl, hsz, hP, hK, hD0⟩ := hv
  have hx := B.exec
  have hb := B.bytes
  have hr := B.returns
  have hts := fun (w : Cond) (h : w ∈ lw_U) => atoms_spec (ws := w_X_storeWord) B.pre w (List.mem_cons_of_mem _ h)
  have hown : s.vm.findClass R_X = some m.cls := findClass_of_methodNamed B.named
  have hlocks := B.notSynchronized
  subst hsz
  have hD := hD0.self (sz := s.heap.size)
  generalize hAe : va_A (Xw h0 qd qs qv cI cJ (dk, hf, gn, rt, ct, sl, sm, pw, ln, lq, vq, ch)) s.heap.size = A at hD ⊢
  have hA : ∀ q : Nat, s.heap.size ≤ q → A q := fun q h => by rw [← hAe]; exact Or.inr h
  have hS : va_S A s.heap s.heap [] := va_S.rf
  have hP : va_P (dC, dI) classes (Xw h0 qd qs qv cI cJ (dk, hf, gn, rt, ct, sl, sm, pw, ln, lq, vq, ch)) s.heap := hP
  have hl := lv_entry ([.ref h0, .int (nI pp), .int w0]) (n := 3) (Nat.le_of_ble_eq_true rfl)
  rw [lg_entry_eq]
  generalize (lg_sl ([.ref h0, .int (nI pp), .int w0]) ++ List.replicate (3 - (lg_sl ([.ref h0, .int (nI pp), .int w0])).length) Slot.unset).toArray = ls at hl ⊢
  have hl : lv_has ls 3 [(0, .ref h0), (1, .int (nI pp)), (2, .int w0)] := hl
  refine lv_aload_n hx hb d_X_storeWord_0 rfl (lv_at hl 0 rfl) ?_
  refine z_calli (va_runV (C := R_X) (b := h0) (As := []) (rest := []) ⟨hx, hb, hml, hown, hts⟩ (c_stepHappens l dC dI h0 qd qs qv cI cJ _ dk hf gn rt ct sl sm pw ln lq vq ch ) (cwV 0 hts g_X_132 rfl rfl rfl (by decide +kernel) ⟨(Nat.le_of_ble_eq_true rfl), (Nat.le_of_ble_eq_true rfl)⟩) (z_preV (va_recv (q0 := 0) hK hP rfl rfl) hP hK hD) rfl rfl hl.1 rfl (lv_room (Nat.le_of_ble_eq_true rfl)) d_X_storeWord_1 ⟨(Nat.le_of_ble_eq_true rfl), (Nat.le_of_ble_eq_true rfl)⟩) hS hD hA (fun r u H locs hr0 hP hD hS => ?_)
  obtain ⟨h1, rfl, rfl⟩ | ⟨h1, rfl, rfl⟩ := hr0
  · refine lv_if_ne (tgt := 9) hx hb d_X_storeWord_4 (by decide) (fun h9 => absurd (by decide) h9) (fun _ => ?_)
    refine lv_iconst (v := (0 : Int32)) hx hb d_X_storeWord_7 (by decide) ?_
    exact W.zret hx hb hr rfl (fun t ht hW => ⟨⟨(0 : Int32), (dk, hf, gn, rt, ct, -1, sm, false, 0, lq, vq, (0 : Int32)), rfl, Or.inl ⟨h1, rfl, rfl⟩, by rw [ht]; exact hP, va_K.moved hW.alike hK, hD⟩, hS.F ht⟩) hS.2.2 d_X_storeWord_8
  · refine lv_if_ne (tgt := 9) hx hb d_X_storeWord_4 (by decide) (fun _ => ?_) (fun h9 => absurd h9 (by decide))
    refine lv_aload_n hx hb d_X_storeWord_9 rfl (lv_at hl 0 rfl) ?_
    refine va_get (D := (dC, dI)) (ci := 0) (v := .ref qd) (C := R_X) (T := F_X) (N := 12) hx hb hts lay_X hown hK hP 0 rfl rfl 0 (by decide) (hts _ m_62) (fun _ h9 => h9) rfl d_X_storeWord_10 ?_
    refine lv_iload_n hx hb d_X_storeWord_13 rfl (lv_at hl 1 rfl) ?_
    refine lv_iload_n hx hb d_X_storeWord_14 rfl (lv_at hl 2 rfl) ?_
    refine z_iast hx hb hK hP hD hS 1 0 rfl rfl (by omega) (by decide) d_X_storeWord_15 (fun H locs hP hD hS => ?_)
    have hP : va_P (dC, dI) classes (Xw h0 qd qs qv cI cJ (upd dk pp w0, hf, gn, rt, ct, dec1 sl, sm + 1, pw, ln, lq, vq, ch)) H := hP
    have hD : va_D A (Xw h0 qd qs qv cI cJ (upd dk pp w0, hf, gn, rt, ct, dec1 sl, sm + 1, pw, ln, lq, vq, ch)) := hD
    refine lv_iconst (v := (1 : Int32)) hx hb d_X_storeWord_16 (by decide) ?_
    exact W.zret hx hb hr rfl (fun t ht hW => ⟨⟨(1 : Int32), (upd dk pp w0, hf, gn, rt, ct, dec1 sl, sm + 1, pw, ln, lq, vq, ch), rfl, Or.inr ⟨h1, rfl, rfl⟩, by rw [ht]; exact hP, va_K.moved hW.alike hK, hD⟩, hS.F ht⟩) hS.2.2 d_X_storeWord_17
set_option maxHeartbeats 4000000 in
set_option maxRecDepth 100000 in
theorem c_storeValue (l : Launch) (dC : Nat → ClassId) (dI : Nat → Nat → Nat) (h0 qd qs qv : Nat) (cI cJ : ClassId) (sz : Nat) (dk : Nat → Int32) (hf : Nat) (gn : Int32) (rt : Int32) (ct : Int32) (sl : Int32) (sm : Int32) (pw : Bool) (ln : Nat) (lq : Nat → Int32) (vq : Nat → Int64) (ch : Int32) (pp : Nat) (v0 : Int64) (g0 : Int32) (h_p : pp + 1 < 102) : Met l y_X_storeValue w_X_storeValue ({ frames := 3, cells := 0, slots := 0, locals := 62 }) (va_Pc [.ref h0, .int (nI pp), .long v0, .int g0] (z_pre (dC, dI) classes [(cI, .int), (cJ, .long)] (Xw h0 qd qs qv cI cJ (dk, hf, gn, rt, ct, sl, sm, pw, ln, lq, vq, ch)) sz)) (va_Qi (fun (r : Int32) (u : XS) => sPost (wv1 (true, (dk, sl, sm)) pp v0 g0) hf gn rt ct pw ln lq vq ch r u) (fun u => z_at (dC, dI) classes [(cI, .int), (cJ, .long)] (va_A (Xw h0 qd qs qv cI cJ (dk, hf, gn, rt, ct, sl, sm, pw, ln, lq, vq, ch)) sz) (Xw h0 qd qs qv cI cJ u)) (va_A (Xw h0 qd qs qv cI cJ (dk, hf, gn, rt, ct, sl, sm, pw, ln, lq, vq, ch)) sz)) 0 0 (va_A (Xw h0 qd qs qv cI cJ (dk, hf, gn, rt, ct, sl, sm, pw, ln, lq, vq, ch)) sz) := by
  refine Met.ofW (cc := b_X_storeValue) (maxL := 5) (ret := (some .boolean)) (by decide) rfl ?_
  intro p e s m args below meth c s₁ B hml hv
  obtain ⟨rfl, hsz, hP, hK, hD0⟩ := hv
  have hx := B.exec
  have hb := B.bytes
  have hr := B.returns
  have hts := fun (w : Cond) (h : w ∈ lw_U) => atoms_spec (ws := w_X_storeValue) B.pre w (List.mem_cons_of_mem _ h)
  have hown : s.vm.findClass R_X = some m.cls := findClass_of_methodNamed B.named
  have hlocks := B.notSynchronized
  subst hsz
  have hD := hD0.self (sz := s.heap.size)
  generalize hAe : va_A (Xw h0 qd qs qv cI cJ (dk, hf, gn, rt, ct, sl, sm, pw, ln, lq, vq, ch)) s.heap.size = A at hD ⊢
  have hA : ∀ q : Nat, s.heap.size ≤ q → A q := fun q h => by rw [← hAe]; exact Or.inr h
  have hS : va_S A s.heap s.heap [] := va_S.rf
  have hP : va_P (dC, dI) classes (Xw h0 qd qs qv cI cJ (dk, hf, gn, rt, ct, sl, sm, pw, ln, lq, vq, ch)) s.heap := hP
  have hl := lv_entry ([.ref h0, .int (nI pp), .long v0, .int g0]) (n := 5) (Nat.le_of_ble_eq_true rfl)
  rw [lg_entry_eq]
  generalize (lg_sl ([.ref h0, .int (nI pp), .long v0, .int g0]) ++ List.replicate (5 - (lg_sl ([.ref h0, .int (nI pp), .long v0, .int g0])).length) Slot.unset).toArray = ls at hl ⊢
  have hl : lv_has ls 5 [(0, .ref h0), (1, .int (nI pp)), (2, .long v0), (4, .int g0)] := hl
  refine lv_aload_n hx hb d_X_storeValue_0 rfl (lv_at hl 0 rfl) ?_
  refine lv_iload_n hx hb d_X_storeValue_1 rfl (lv_at hl 1 rfl) ?_
  refine lv_lload_n hx hb d_X_storeValue_2 rfl (lv_at hl 2 rfl) ?_
  refine vp_callSi (W.runS (As := [.long v0]) (rest := [.int (nI pp), .ref h0]) ⟨hx, hb, hml, hown, hts⟩ (c_upper l v0) (cwS 1 hts g_X_136 rfl rfl rfl (by decide +kernel) ⟨(Nat.le_of_ble_eq_true rfl), (Nat.le_of_ble_eq_true rfl)⟩) preEq rfl rfl hl.1 rfl (lv_room (Nat.le_of_ble_eq_true rfl)) d_X_storeValue_3 ⟨(Nat.le_of_ble_eq_true rfl), (Nat.le_of_ble_eq_true rfl)⟩) (fun r hr0 => ?_)
  subst hr0
  refine lv_iload_n hx hb d_X_storeValue_6 rfl (lv_at hl 1 rfl) ?_
  refine lv_iload hx hb d_X_storeValue_7 (lv_at hl 3 rfl) ?_
  refine vp_callSi (W.runS (As := [.int (hiW v0), .int (nI pp), .int g0]) (rest := [.int (nI pp), .ref h0]) ⟨hx, hb, hml, hown, hts⟩ (c_encipher l (hiW v0) (nI pp) g0) (cwS 3 hts g_X_27 rfl rfl rfl (by decide +kernel) ⟨(Nat.le_of_ble_eq_true rfl), (Nat.le_of_ble_eq_true rfl)⟩) preEq rfl rfl hl.1 rfl (lv_room (Nat.le_of_ble_eq_true rfl)) d_X_storeValue_9 ⟨(Nat.le_of_ble_eq_true rfl), (Nat.le_of_ble_eq_true rfl)⟩) (fun r hr0 => ?_)
  subst hr0
  refine z_calli (va_runV (C := R_X) (b := h0) (As := [.int (nI pp), .int (enc (hiW v0) (nI pp) g0)]) (rest := []) ⟨hx, hb, hml, hown, hts⟩ (c_storeWord l dC dI h0 qd qs qv cI cJ _ dk hf gn rt ct sl sm pw ln lq vq ch pp (enc (hiW v0) (nI pp) g0) (by omega)) (cwV 2 hts g_X_140 rfl rfl rfl (by decide +kernel) ⟨(Nat.le_of_ble_eq_true rfl), (Nat.le_of_ble_eq_true rfl)⟩) (z_preV (va_recv (q0 := 0) hK hP rfl rfl) hP hK hD) rfl rfl hl.1 rfl (lv_room (Nat.le_of_ble_eq_true rfl)) d_X_storeValue_12 ⟨(Nat.le_of_ble_eq_true rfl), (Nat.le_of_ble_eq_true rfl)⟩) hS hD hA (fun r u H locs hr0 hP hD hS => ?_)
  obtain ⟨h1, rfl, rfl⟩ | ⟨h1, rfl, rfl⟩ := hr0
  · refine lv_if_eq (tgt := 44) hx hb d_X_storeValue_15 (by decide) (fun _ => ?_) (fun h9 => absurd (by decide) h9)
    refine lv_iconst (v := (0 : Int32)) hx hb d_X_storeValue_44 (by decide) ?_
    exact W.zret hx hb hr rfl (fun t ht hW => ⟨⟨(0 : Int32), (dk, hf, gn, rt, ct, -1, sm, false, 0, lq, vq, (0 : Int32)), rfl, ⟨_, _, _, Or.inr ⟨(by rw [wv1, wr1_0 h1]; try simp only [wr1_f, wv1_f, clM_f, ssF_f, snF_f]), rfl, rfl⟩⟩, by rw [ht]; exact hP, va_K.moved hW.alike hK, hD⟩, hS.F ht⟩) hS.2.2 d_X_storeValue_45
  · refine lv_if_eq (tgt := 44) hx hb d_X_storeValue_15 (by decide) (fun h9 => absurd h9 (by decide)) (fun _ => ?_)
    refine lv_aload_n hx hb d_X_storeValue_18 rfl (lv_at hl 0 rfl) ?_
    refine lv_iload_n hx hb d_X_storeValue_19 rfl (lv_at hl 1 rfl) ?_
    refine lv_iconst (v := nI 1) hx hb d_X_storeValue_20 (by decide) ?_
    refine lv_iadd hx hb d_X_storeValue_21 ?_
    refine z_top (nI_add _ _) ?_
    refine lv_lload_n hx hb d_X_storeValue_22 rfl (lv_at hl 2 rfl) ?_
    refine vp_callSi (W.runS (As := [.long v0]) (rest := [.int (nI (pp + 1)), .ref h0]) ⟨hx, hb, hml, hown, hts⟩ (c_lower l v0) (cwS 1 hts g_X_144 rfl rfl rfl (by decide +kernel) ⟨(Nat.le_of_ble_eq_true rfl), (Nat.le_of_ble_eq_true rfl)⟩) preEq rfl rfl hl.1 rfl (lv_room (Nat.le_of_ble_eq_true rfl)) d_X_storeValue_23 ⟨(Nat.le_of_ble_eq_true rfl), (Nat.le_of_ble_eq_true rfl)⟩) (fun r hr0 => ?_)
    subst hr0
    refine lv_iload_n hx hb d_X_storeValue_26 rfl (lv_at hl 1 rfl) ?_
    refine lv_iconst (v := nI 1) hx hb d_X_storeValue_27 (by decide) ?_
    refine lv_iadd hx hb d_X_storeValue_28 ?_
    refine z_top (nI_add _ _) ?_
    refine lv_iload hx hb d_X_storeValue_29 (lv_at hl 3 rfl) ?_
    refine vp_callSi (W.runS (As := [.int (loW v0), .int (nI (pp + 1)), .int g0]) (rest := [.int (nI (pp + 1)), .ref h0]) ⟨hx, hb, hml, hown, hts⟩ (c_encipher l (loW v0) (nI (pp + 1)) g0) (cwS 3 hts g_X_27 rfl rfl rfl (by decide +kernel) ⟨(Nat.le_of_ble_eq_true rfl), (Nat.le_of_ble_eq_true rfl)⟩) preEq rfl rfl hl.1 rfl (lv_room (Nat.le_of_ble_eq_true rfl)) d_X_storeValue_31 ⟨(Nat.le_of_ble_eq_true rfl), (Nat.le_of_ble_eq_true rfl)⟩) (fun r hr0 => ?_)
    subst hr0
    refine z_calli (va_runV (C := R_X) (b := h0) (As := [.int (nI (pp + 1)), .int (enc (loW v0) (nI (pp + 1)) g0)]) (rest := []) ⟨hx, hb, hml, hown, hts⟩ (c_storeWord l dC dI h0 qd qs qv cI cJ _ (upd dk pp (enc (hiW v0) (nI pp) g0)) hf gn rt ct (dec1 sl) (sm + 1) pw ln lq vq ch (pp + 1) (enc (loW v0) (nI (pp + 1)) g0) (by omega)) (cwV 2 hts g_X_140 rfl rfl rfl (by decide +kernel) ⟨(Nat.le_of_ble_eq_true rfl), (Nat.le_of_ble_eq_true rfl)⟩) (z_preV (va_recv (q0 := 0) hK hP rfl rfl) hP hK hD) rfl rfl hl.1 rfl (lv_room (Nat.le_of_ble_eq_true rfl)) d_X_storeValue_34 ⟨(Nat.le_of_ble_eq_true rfl), (Nat.le_of_ble_eq_true rfl)⟩) hS hD hA (fun r u H locs hr0 hP hD hS => ?_)
    obtain ⟨h2, rfl, rfl⟩ | ⟨h2, rfl, rfl⟩ := hr0
    · refine lv_if_eq (tgt := 44) hx hb d_X_storeValue_37 (by decide) (fun _ => ?_) (fun h9 => absurd (by decide) h9)
      refine lv_iconst (v := (0 : Int32)) hx hb d_X_storeValue_44 (by decide) ?_
      exact W.zret hx hb hr rfl (fun t ht hW => ⟨⟨(0 : Int32), (upd dk pp (enc (hiW v0) (nI pp) g0), hf, gn, rt, ct, -1, sm + 1, false, 0, lq, vq, (0 : Int32)), rfl, ⟨_, _, _, Or.inr ⟨(by rw [wv1, wr1_1 h1, wr1_0 h2]; try simp only [wr1_f, wv1_f, clM_f, ssF_f, snF_f]), rfl, rfl⟩⟩, by rw [ht]; exact hP, va_K.moved hW.alike hK, hD⟩, hS.F ht⟩) hS.2.2 d_X_storeValue_45
    · refine lv_if_eq (tgt := 44) hx hb d_X_storeValue_37 (by decide) (fun h9 => absurd h9 (by decide)) (fun _ => ?_)
      refine lv_iconst (v := (1 : Int32)) hx hb d_X_storeValue_40 (by decide) ?_
      refine lv_goto (tgt := 45) hx hb d_X_storeValue_41 (by decide) ?_
      exact W.zret hx hb hr rfl (fun t ht hW => ⟨⟨(1 : Int32), (upd (upd dk pp (enc (hiW v0) (nI pp) g0)) (pp + 1) (enc (loW v0) (nI (pp + 1)) g0), hf, gn, rt, ct, dec1 (dec1 sl), (sm + 1) + 1, pw, ln, lq, vq, ch), rfl, ⟨_, _, _, Or.inl ⟨(by rw [wv1, wr1_1 h1, wr1_1 h2]), rfl, rfl⟩⟩, by rw [ht]; exact hP, va_K.moved hW.alike hK, hD⟩, hS.F ht⟩) hS.2.2 d_X_storeValue_45
set_option maxHeartbeats 4000000 in
set_option maxRecDepth 100000 in
theorem c_changeSeal (l : Launch) (dC : Nat → ClassId) (dI : Nat → Nat → Nat) (h0 qd qs qv : Nat) (cI cJ : ClassId) (sz : Nat) (dk : Nat → Int32) (hf : Nat) (gn : Int32) (rt : Int32) (ct : Int32) (sl : Int32) (sm : Int32) (pw : Bool) (ln : Nat) (lq : Nat → Int32) (vq : Nat → Int64) (ch : Int32) (a1 : Nat) (b1 c1 d1 : Int32)  : Met l y_X_changeSeal w_X_changeSeal ({ frames := 2, cells := 0, slots := 0, locals := 40 }) (va_Pc [.ref h0, .int (nI a1), .int b1, .int c1, .int d1] (z_pre (dC, dI) classes [(cI, .int), (cJ, .long)] (Xw h0 qd qs qv cI cJ (dk, hf, gn, rt, ct, sl, sm, pw, ln, lq, vq, ch)) sz)) (va_Qi (fun (r : Int32) (u : XS) => (sl = 0 ∧ r = 0 ∧ u = (dk, hf, gn, rt, ct, -1, sm, false, 0, lq, vq, 0)) ∨ (¬ sl = 0 ∧ r = 1 ∧ u = (dk, a1, b1, c1, d1, dec1 sl, sm + 1, pw, ln, lq, vq, ch))) (fun u => z_at (dC, dI) classes [(cI, .int), (cJ, .long)] (va_A (Xw h0 qd qs qv cI cJ (dk, hf, gn, rt, ct, sl, sm, pw, ln, lq, vq, ch)) sz) (Xw h0 qd qs qv cI cJ u)) (va_A (Xw h0 qd qs qv cI cJ (dk, hf, gn, rt, ct, sl, sm, pw, ln, lq, vq, ch)) sz)) 0 0 (va_A (Xw h0 qd qs qv cI cJ (dk, hf, gn, rt, ct, sl, sm, pw, ln, lq, vq, ch)) sz) := by
  refine Met.ofW (cc := b_X_changeSeal) (maxL := 5) (ret := (some .boolean)) (by decide) rfl ?_
  intro p e s m args below meth c s₁ B hml hv
  obtain ⟨rfl, hsz, hP, hK, hD0⟩ := hv
  have hx := B.exec
  have hb := B.bytes
  have hr := B.returns
  have hts := fun (w : Cond) (h : w ∈ lw_U) => atoms_spec (ws := w_X_changeSeal) B.pre w (List.mem_cons_of_mem _ h)
  have hown : s.vm.findClass R_X = some m.cls := findClass_of_methodNamed B.named
  have hlocks := B.notSynchronized
  subst hsz
  have hD := hD0.self (sz := s.heap.size)
  generalize hAe : va_A (Xw h0 qd qs qv cI cJ (dk, hf, gn, rt, ct, sl, sm, pw, ln, lq, vq, ch)) s.heap.size = A at hD ⊢
  have hA : ∀ q : Nat, s.heap.size ≤ q → A q := fun q h => by rw [← hAe]; exact Or.inr h
  have hS : va_S A s.heap s.heap [] := va_S.rf
  have hP : va_P (dC, dI) classes (Xw h0 qd qs qv cI cJ (dk, hf, gn, rt, ct, sl, sm, pw, ln, lq, vq, ch)) s.heap := hP
  have hl := lv_entry ([.ref h0, .int (nI a1), .int b1, .int c1, .int d1]) (n := 5) (Nat.le_of_ble_eq_true rfl)
  rw [lg_entry_eq]
  generalize (lg_sl ([.ref h0, .int (nI a1), .int b1, .int c1, .int d1]) ++ List.replicate (5 - (lg_sl ([.ref h0, .int (nI a1), .int b1, .int c1, .int d1])).length) Slot.unset).toArray = ls at hl ⊢
  have hl : lv_has ls 5 [(0, .ref h0), (1, .int (nI a1)), (2, .int b1), (3, .int c1), (4, .int d1)] := hl
  refine lv_aload_n hx hb d_X_changeSeal_0 rfl (lv_at hl 0 rfl) ?_
  refine z_calli (va_runV (C := R_X) (b := h0) (As := []) (rest := []) ⟨hx, hb, hml, hown, hts⟩ (c_stepHappens l dC dI h0 qd qs qv cI cJ _ dk hf gn rt ct sl sm pw ln lq vq ch ) (cwV 0 hts g_X_132 rfl rfl rfl (by decide +kernel) ⟨(Nat.le_of_ble_eq_true rfl), (Nat.le_of_ble_eq_true rfl)⟩) (z_preV (va_recv (q0 := 0) hK hP rfl rfl) hP hK hD) rfl rfl hl.1 rfl (lv_room (Nat.le_of_ble_eq_true rfl)) d_X_changeSeal_1 ⟨(Nat.le_of_ble_eq_true rfl), (Nat.le_of_ble_eq_true rfl)⟩) hS hD hA (fun r u H locs hr0 hP hD hS => ?_)
  obtain ⟨h1, rfl, rfl⟩ | ⟨h1, rfl, rfl⟩ := hr0
  · refine lv_if_ne (tgt := 9) hx hb d_X_changeSeal_4 (by decide) (fun h9 => absurd (by decide) h9) (fun _ => ?_)
    refine lv_iconst (v := (0 : Int32)) hx hb d_X_changeSeal_7 (by decide) ?_
    exact W.zret hx hb hr rfl (fun t ht hW => ⟨⟨(0 : Int32), (dk, hf, gn, rt, ct, -1, sm, false, 0, lq, vq, (0 : Int32)), rfl, Or.inl ⟨h1, rfl, rfl⟩, by rw [ht]; exact hP, va_K.moved hW.alike hK, hD⟩, hS.F ht⟩) hS.2.2 d_X_changeSeal_8
  · refine lv_if_ne (tgt := 9) hx hb d_X_changeSeal_4 (by decide) (fun _ => ?_) (fun h9 => absurd h9 (by decide))
    refine lv_aload_n hx hb d_X_changeSeal_9 rfl (lv_at hl 0 rfl) ?_
    refine lv_iload_n hx hb d_X_changeSeal_10 rfl (lv_at hl 1 rfl) ?_
    refine va_put (D := (dC, dI)) (ci := 0) (v := .int (nI a1)) (ty := .int) (C := R_X) (T := F_X) (N := 12) hx hb hts lay_X t_X t_X_ok n_X hown hK hP hD hS 0 rfl rfl 1 (by decide) (hts _ m_63) (fun _ h9 => h9) rfl (by decide +kernel) rfl rfl (Nat.le_of_ble_eq_true rfl) d_X_changeSeal_11 (fun H locs hP hD hS => ?_)
    have hP : va_P (dC, dI) classes (Xw h0 qd qs qv cI cJ (dk, a1, gn, rt, ct, dec1 sl, sm + 1, pw, ln, lq, vq, ch)) H := hP
    have hD : va_D A (Xw h0 qd qs qv cI cJ (dk, a1, gn, rt, ct, dec1 sl, sm + 1, pw, ln, lq, vq, ch)) := hD
    refine lv_aload_n hx hb d_X_changeSeal_14 rfl (lv_at hl 0 rfl) ?_
    refine lv_iload_n hx hb d_X_changeSeal_15 rfl (lv_at hl 2 rfl) ?_
    refine va_put (D := (dC, dI)) (ci := 0) (v := .int b1) (ty := .int) (C := R_X) (T := F_X) (N := 12) hx hb hts lay_X t_X t_X_ok n_X hown hK hP hD hS 0 rfl rfl 2 (by decide) (hts _ m_64) (fun _ h9 => h9) rfl (by decide +kernel) rfl rfl (Nat.le_of_ble_eq_true rfl) d_X_changeSeal_16 (fun H locs hP hD hS => ?_)
    have hP : va_P (dC, dI) classes (Xw h0 qd qs qv cI cJ (dk, a1, b1, rt, ct, dec1 sl, sm + 1, pw, ln, lq, vq, ch)) H := hP
    have hD : va_D A (Xw h0 qd qs qv cI cJ (dk, a1, b1, rt, ct, dec1 sl, sm + 1, pw, ln, lq, vq, ch)) := hD
    refine lv_aload_n hx hb d_X_changeSeal_19 rfl (lv_at hl 0 rfl) ?_
    refine lv_iload_n hx hb d_X_changeSeal_20 rfl (lv_at hl 3 rfl) ?_
    refine va_put (D := (dC, dI)) (ci := 0) (v := .int c1) (ty := .int) (C := R_X) (T := F_X) (N := 12) hx hb hts lay_X t_X t_X_ok n_X hown hK hP hD hS 0 rfl rfl 3 (by decide) (hts _ m_65) (fun _ h9 => h9) rfl (by decide +kernel) rfl rfl (Nat.le_of_ble_eq_true rfl) d_X_changeSeal_21 (fun H locs hP hD hS => ?_)
    have hP : va_P (dC, dI) classes (Xw h0 qd qs qv cI cJ (dk, a1, b1, c1, ct, dec1 sl, sm + 1, pw, ln, lq, vq, ch)) H := hP
    have hD : va_D A (Xw h0 qd qs qv cI cJ (dk, a1, b1, c1, ct, dec1 sl, sm + 1, pw, ln, lq, vq, ch)) := hD
    refine lv_aload_n hx hb d_X_changeSeal_24 rfl (lv_at hl 0 rfl) ?_
    refine lv_iload hx hb d_X_changeSeal_25 (lv_at hl 4 rfl) ?_
    refine va_put (D := (dC, dI)) (ci := 0) (v := .int d1) (ty := .int) (C := R_X) (T := F_X) (N := 12) hx hb hts lay_X t_X t_X_ok n_X hown hK hP hD hS 0 rfl rfl 4 (by decide) (hts _ m_66) (fun _ h9 => h9) rfl (by decide +kernel) rfl rfl (Nat.le_of_ble_eq_true rfl) d_X_changeSeal_27 (fun H locs hP hD hS => ?_)
    have hP : va_P (dC, dI) classes (Xw h0 qd qs qv cI cJ (dk, a1, b1, c1, d1, dec1 sl, sm + 1, pw, ln, lq, vq, ch)) H := hP
    have hD : va_D A (Xw h0 qd qs qv cI cJ (dk, a1, b1, c1, d1, dec1 sl, sm + 1, pw, ln, lq, vq, ch)) := hD
    refine lv_iconst (v := (1 : Int32)) hx hb d_X_changeSeal_30 (by decide) ?_
    exact W.zret hx hb hr rfl (fun t ht hW => ⟨⟨(1 : Int32), (dk, a1, b1, c1, d1, dec1 sl, sm + 1, pw, ln, lq, vq, ch), rfl, Or.inr ⟨h1, rfl, rfl⟩, by rw [ht]; exact hP, va_K.moved hW.alike hK, hD⟩, hS.F ht⟩) hS.2.2 d_X_changeSeal_31
set_option maxHeartbeats 4000000 in
set_option maxRecDepth 100000 in
theorem c_storeRecord (l : Launch) (dC : Nat → ClassId) (dI : Nat → Nat → Nat) (h0 qd qs qv : Nat) (cI cJ : ClassId) (sz : Nat) (dk : Nat → Int32) (hf : Nat) (gn : Int32) (rt : Int32) (ct : Int32) (sl : Int32) (sm : Int32) (pw : Bool) (ln : Nat) (lq : Nat → Int32) (vq : Nat → Int64) (ch : Int32) (x0 : Int32) (v0 : Int64) (h_f : hf < 2) (h_n : ln < 5) : Met l y_X_storeRecord w_X_storeRecord ({ frames := 4, cells := 0, slots := 0, locals := 86 }) (va_Pc [.ref h0, .int x0, .long v0] (z_pre (dC, dI) classes [(cI, .int), (cJ, .long)] (Xw h0 qd qs qv cI cJ (dk, hf, gn, rt, ct, sl, sm, pw, ln, lq, vq, ch)) sz)) (va_Qi (fun (r : Int32) (u : XS) => ∃ (d1 : Nat → Int32) (sl1 sm1 : Int32), (srC (true, (dk, sl, sm)) (51 * hf + 31 + 4 * ln) (enc x0 (nI (51 * hf + 31 + 4 * ln)) gn) v0 gn ch = (true, (d1, sl1, sm1)) ∧ r = 1 ∧ u = (d1, hf, gn, rt, ct, sl1, sm1, pw, ln, lq, vq, chn ch (wv1 (wr1 (true, (dk, sl, sm)) (51 * hf + 31 + 4 * ln) (enc x0 (nI (51 * hf + 31 + 4 * ln)) gn)) ((51 * hf + 31 + 4 * ln) + 1) v0 gn).2.1 (51 * hf + 31 + 4 * ln))) ∨ (srC (true, (dk, sl, sm)) (51 * hf + 31 + 4 * ln) (enc x0 (nI (51 * hf + 31 + 4 * ln)) gn) v0 gn ch = (false, (d1, sl1, sm1)) ∧ r = 0 ∧ u = (d1, hf, gn, rt, ct, sl1, sm1, false, 0, lq, vq, 0))) (fun u => z_at (dC, dI) classes [(cI, .int), (cJ, .long)] (va_A (Xw h0 qd qs qv cI cJ (dk, hf, gn, rt, ct, sl, sm, pw, ln, lq, vq, ch)) sz) (Xw h0 qd qs qv cI cJ u)) (va_A (Xw h0 qd qs qv cI cJ (dk, hf, gn, rt, ct, sl, sm, pw, ln, lq, vq, ch)) sz)) 0 0 (va_A (Xw h0 qd qs qv cI cJ (dk, hf, gn, rt, ct, sl, sm, pw, ln, lq, vq, ch)) sz) := by
  refine Met.ofW (cc := b_X_storeRecord) (maxL := 6) (ret := (some .boolean)) (by decide) rfl ?_
  intro p e s m args below meth c s₁ B hml hv
  obtain ⟨rfl, hsz, hP, hK, hD0⟩ := hv
  have hx := B.exec
  have hb := B.bytes
  have hr := B.returns
  have hts := fun (w : Cond) (h : w ∈ lw_U) => atoms_spec (ws := w_X_storeRecord) B.pre w (List.mem_cons_of_mem _ h)
  have hown : s.vm.findClass R_X = some m.cls := findClass_of_methodNamed B.named
  have hlocks := B.notSynchronized
  subst hsz
  have hD := hD0.self (sz := s.heap.size)
  generalize hAe : va_A (Xw h0 qd qs qv cI cJ (dk, hf, gn, rt, ct, sl, sm, pw, ln, lq, vq, ch)) s.heap.size = A at hD ⊢
  have hA : ∀ q : Nat, s.heap.size ≤ q → A q := fun q h => by rw [← hAe]; exact Or.inr h
  have hS : va_S A s.heap s.heap [] := va_S.rf
  have hP : va_P (dC, dI) classes (Xw h0 qd qs qv cI cJ (dk, hf, gn, rt, ct, sl, sm, pw, ln, lq, vq, ch)) s.heap := hP
  have hl := lv_entry ([.ref h0, .int x0, .long v0]) (n := 6) (Nat.le_of_ble_eq_true rfl)
  rw [lg_entry_eq]
  generalize (lg_sl ([.ref h0, .int x0, .long v0]) ++ List.replicate (6 - (lg_sl ([.ref h0, .int x0, .long v0])).length) Slot.unset).toArray = ls at hl ⊢
  have hl : lv_has ls 6 [(0, .ref h0), (1, .int x0), (2, .long v0)] := hl
  refine lv_aload_n hx hb d_X_storeRecord_0 rfl (lv_at hl 0 rfl) ?_
  refine va_get (D := (dC, dI)) (ci := 0) (v := .int (nI hf)) (C := R_X) (T := F_X) (N := 12) hx hb hts lay_X hown hK hP 0 rfl rfl 1 (by decide) (hts _ m_63) (fun _ h9 => h9) rfl d_X_storeRecord_1 ?_
  refine lv_aload_n hx hb d_X_storeRecord_4 rfl (lv_at hl 0 rfl) ?_
  refine va_get (D := (dC, dI)) (ci := 0) (v := .int (nI ln)) (C := R_X) (T := F_X) (N := 12) hx hb hts lay_X hown hK hP 0 rfl rfl 8 (by decide) (hts _ m_70) (fun _ h9 => h9) rfl d_X_storeRecord_5 ?_
  refine vp_callSi (W.runS (As := [.int (nI hf), .int (nI ln)]) (rest := []) ⟨hx, hb, hml, hown, hts⟩ (c_recordPlace l hf ln) (cwS 2 hts g_X_123 rfl rfl rfl (by decide +kernel) ⟨(Nat.le_of_ble_eq_true rfl), (Nat.le_of_ble_eq_true rfl)⟩) preEq rfl rfl hl.1 rfl (lv_room (Nat.le_of_ble_eq_true rfl)) d_X_storeRecord_8 ⟨(Nat.le_of_ble_eq_true rfl), (Nat.le_of_ble_eq_true rfl)⟩) (fun r hr0 => ?_)
  subst hr0
  refine lv_istore hx hb d_X_storeRecord_11 hl (by decide) rfl (fun ls hl => ?_)
  have hl : lv_has ls 6 [(4, .int (nI (51 * hf + 31 + 4 * ln))), (0, .ref h0), (1, .int x0), (2, .long v0)] := hl
  refine lv_aload_n hx hb d_X_storeRecord_13 rfl (lv_at hl 1 rfl) ?_
  refine lv_iload hx hb d_X_storeRecord_14 (lv_at hl 0 rfl) ?_
  refine lv_iload_n hx hb d_X_storeRecord_16 rfl (lv_at hl 2 rfl) ?_
  refine lv_iload hx hb d_X_storeRecord_17 (lv_at hl 0 rfl) ?_
  refine lv_aload_n hx hb d_X_storeRecord_19 rfl (lv_at hl 1 rfl) ?_
  refine va_get (D := (dC, dI)) (ci := 0) (v := .int gn) (C := R_X) (T := F_X) (N := 12) hx hb hts lay_X hown hK hP 0 rfl rfl 2 (by decide) (hts _ m_64) (fun _ h9 => h9) rfl d_X_storeRecord_20 ?_
  refine vp_callSi (W.runS (As := [.int x0, .int (nI (51 * hf + 31 + 4 * ln)), .int gn]) (rest := [.int (nI (51 * hf + 31 + 4 * ln)), .ref h0]) ⟨hx, hb, hml, hown, hts⟩ (c_encipher l x0 (nI (51 * hf + 31 + 4 * ln)) gn) (cwS 3 hts g_X_27 rfl rfl rfl (by decide +kernel) ⟨(Nat.le_of_ble_eq_true rfl), (Nat.le_of_ble_eq_true rfl)⟩) preEq rfl rfl hl.1 rfl (lv_room (Nat.le_of_ble_eq_true rfl)) d_X_storeRecord_23 ⟨(Nat.le_of_ble_eq_true rfl), (Nat.le_of_ble_eq_true rfl)⟩) (fun r hr0 => ?_)
  subst hr0
  refine z_calli (va_runV (C := R_X) (b := h0) (As := [.int (nI (51 * hf + 31 + 4 * ln)), .int (enc x0 (nI (51 * hf + 31 + 4 * ln)) gn)]) (rest := []) ⟨hx, hb, hml, hown, hts⟩ (c_storeWord l dC dI h0 qd qs qv cI cJ _ dk hf gn rt ct sl sm pw ln lq vq ch (51 * hf + 31 + 4 * ln) (enc x0 (nI (51 * hf + 31 + 4 * ln)) gn) (by omega)) (cwV 2 hts g_X_140 rfl rfl rfl (by decide +kernel) ⟨(Nat.le_of_ble_eq_true rfl), (Nat.le_of_ble_eq_true rfl)⟩) (z_preV (va_recv (q0 := 0) hK hP rfl rfl) hP hK hD) rfl rfl hl.1 rfl (lv_room (Nat.le_of_ble_eq_true rfl)) d_X_storeRecord_26 ⟨(Nat.le_of_ble_eq_true rfl), (Nat.le_of_ble_eq_true rfl)⟩) hS hD hA (fun r u H locs hr0 hP hD hS => ?_)
  obtain ⟨h1, rfl, rfl⟩ | ⟨h1, rfl, rfl⟩ := hr0
  · refine lv_if_eq (tgt := 48) hx hb d_X_storeRecord_29 (by decide) (fun _ => ?_) (fun h9 => absurd (by decide) h9)
    refine lv_iconst (v := (0 : Int32)) hx hb d_X_storeRecord_48 (by decide) ?_
    exact W.zret hx hb hr rfl (fun t ht hW => ⟨⟨(0 : Int32), (dk, hf, gn, rt, ct, -1, sm, false, 0, lq, vq, (0 : Int32)), rfl, ⟨_, _, _, Or.inr ⟨(by rw [srC, wr1_0 h1]; try simp only [wr1_f, wv1_f]), rfl, rfl⟩⟩, by rw [ht]; exact hP, va_K.moved hW.alike hK, hD⟩, hS.F ht⟩) hS.2.2 d_X_storeRecord_49
  · refine lv_if_eq (tgt := 48) hx hb d_X_storeRecord_29 (by decide) (fun h9 => absurd h9 (by decide)) (fun _ => ?_)
    refine lv_aload_n hx hb d_X_storeRecord_32 rfl (lv_at hl 1 rfl) ?_
    refine lv_iload hx hb d_X_storeRecord_33 (lv_at hl 0 rfl) ?_
    refine lv_iconst (v := nI 1) hx hb d_X_storeRecord_35 (by decide) ?_
    refine lv_iadd hx hb d_X_storeRecord_36 ?_
    refine z_top (nI_add _ _) ?_
    refine lv_lload_n hx hb d_X_storeRecord_37 rfl (lv_at hl 3 rfl) ?_
    refine lv_aload_n hx hb d_X_storeRecord_38 rfl (lv_at hl 1 rfl) ?_
    refine va_get (D := (dC, dI)) (ci := 0) (v := .int gn) (C := R_X) (T := F_X) (N := 12) hx hb hts lay_X hown hK hP 0 rfl rfl 2 (by decide) (hts _ m_64) (fun _ h9 => h9) rfl d_X_storeRecord_39 ?_
    refine z_calli (va_runV (C := R_X) (b := h0) (As := [.int (nI ((51 * hf + 31 + 4 * ln) + 1)), .long v0, .int gn]) (rest := []) ⟨hx, hb, hml, hown, hts⟩ (c_storeValue l dC dI h0 qd qs qv cI cJ _ (upd dk (51 * hf + 31 + 4 * ln) (enc x0 (nI (51 * hf + 31 + 4 * ln)) gn)) hf gn rt ct (dec1 sl) (sm + 1) pw ln lq vq ch ((51 * hf + 31 + 4 * ln) + 1) v0 gn (by omega)) (cwV 3 hts g_X_147 rfl rfl rfl (by decide +kernel) ⟨(Nat.le_of_ble_eq_true rfl), (Nat.le_of_ble_eq_true rfl)⟩) (z_preV (va_recv (q0 := 0) hK hP rfl rfl) hP hK hD) rfl rfl hl.1 rfl (lv_room (Nat.le_of_ble_eq_true rfl)) d_X_storeRecord_42 ⟨(Nat.le_of_ble_eq_true rfl), (Nat.le_of_ble_eq_true rfl)⟩) hS hD hA (fun r u H locs hr0 hP hD hS => ?_)
    obtain ⟨d2, sl2, sm2, ⟨hc2, rfl, rfl⟩ | ⟨hc2, rfl, rfl⟩⟩ := hr0
    · refine lv_if_ne (tgt := 50) hx hb d_X_storeRecord_45 (by decide) (fun _ => ?_) (fun h9 => absurd h9 (by decide))
      refine lv_aload_n hx hb d_X_storeRecord_50 rfl (lv_at hl 1 rfl) ?_
      refine lv_iload hx hb d_X_storeRecord_51 (lv_at hl 0 rfl) ?_
      refine vp_callSi (W.runV (C := R_X) (b := h0) (As := [.int (nI (51 * hf + 31 + 4 * ln))]) (rest := []) ⟨hx, hb, hml, hown, hts⟩ (c_chainBehind l dC dI h0 qd qs qv cI cJ _ d2 hf gn rt ct sl2 sm2 pw ln lq vq ch (51 * hf + 31 + 4 * ln) (by omega)) (cwV 1 hts g_X_126 rfl rfl rfl (by decide +kernel) ⟨(Nat.le_of_ble_eq_true rfl), (Nat.le_of_ble_eq_true rfl)⟩) (z_preV (va_recv (q0 := 0) hK hP rfl rfl) hP hK hD) rfl rfl hl.1 rfl (lv_room (Nat.le_of_ble_eq_true rfl)) d_X_storeRecord_53 ⟨(Nat.le_of_ble_eq_true rfl), (Nat.le_of_ble_eq_true rfl)⟩) (fun r hr0 => ?_)
      subst hr0
      refine lv_istore hx hb d_X_storeRecord_56 hl (by decide) rfl (fun ls hl => ?_)
      have hl : lv_has ls 6 [(5, .int (chn ch d2 (51 * hf + 31 + 4 * ln))), (4, .int (nI (51 * hf + 31 + 4 * ln))), (0, .ref h0), (1, .int x0), (2, .long v0)] := hl
      refine lv_aload_n hx hb d_X_storeRecord_58 rfl (lv_at hl 2 rfl) ?_
      refine lv_iload hx hb d_X_storeRecord_59 (lv_at hl 1 rfl) ?_
      refine lv_iconst (v := nI 3) hx hb d_X_storeRecord_61 (by decide) ?_
      refine lv_iadd hx hb d_X_storeRecord_62 ?_
      refine z_top (nI_add _ _) ?_
      refine lv_iload hx hb d_X_storeRecord_63 (lv_at hl 0 rfl) ?_
      refine vp_callSi (W.runS (As := [.int (chn ch d2 (51 * hf + 31 + 4 * ln))]) (rest := [.int (nI ((51 * hf + 31 + 4 * ln) + 3)), .ref h0]) ⟨hx, hb, hml, hown, hts⟩ (c_markOf l (chn ch d2 (51 * hf + 31 + 4 * ln))) (cwS 1 hts g_X_129 rfl rfl rfl (by decide +kernel) ⟨(Nat.le_of_ble_eq_true rfl), (Nat.le_of_ble_eq_true rfl)⟩) preEq rfl rfl hl.1 rfl (lv_room (Nat.le_of_ble_eq_true rfl)) d_X_storeRecord_65 ⟨(Nat.le_of_ble_eq_true rfl), (Nat.le_of_ble_eq_true rfl)⟩) (fun r hr0 => ?_)
      subst hr0
      refine z_calli (va_runV (C := R_X) (b := h0) (As := [.int (nI ((51 * hf + 31 + 4 * ln) + 3)), .int ((chn ch d2 (51 * hf + 31 + 4 * ln)) ||| 1)]) (rest := []) ⟨hx, hb, hml, hown, hts⟩ (c_storeWord l dC dI h0 qd qs qv cI cJ _ d2 hf gn rt ct sl2 sm2 pw ln lq vq ch ((51 * hf + 31 + 4 * ln) + 3) ((chn ch d2 (51 * hf + 31 + 4 * ln)) ||| 1) (by omega)) (cwV 2 hts g_X_140 rfl rfl rfl (by decide +kernel) ⟨(Nat.le_of_ble_eq_true rfl), (Nat.le_of_ble_eq_true rfl)⟩) (z_preV (va_recv (q0 := 0) hK hP rfl rfl) hP hK hD) rfl rfl hl.1 rfl (lv_room (Nat.le_of_ble_eq_true rfl)) d_X_storeRecord_68 ⟨(Nat.le_of_ble_eq_true rfl), (Nat.le_of_ble_eq_true rfl)⟩) hS hD hA (fun r u H locs hr0 hP hD hS => ?_)
      obtain ⟨h3, rfl, rfl⟩ | ⟨h3, rfl, rfl⟩ := hr0
      · refine lv_if_ne (tgt := 76) hx hb d_X_storeRecord_71 (by decide) (fun h9 => absurd (by decide) h9) (fun _ => ?_)
        refine lv_iconst (v := (0 : Int32)) hx hb d_X_storeRecord_74 (by decide) ?_
        exact W.zret hx hb hr rfl (fun t ht hW => ⟨⟨(0 : Int32), (d2, hf, gn, rt, ct, -1, sm2, false, 0, lq, vq, (0 : Int32)), rfl, ⟨_, _, _, Or.inr ⟨(by rw [srC, wr1_1 h1, hc2, wr1_0 h3]; try simp only [wr1_f, wv1_f]), rfl, rfl⟩⟩, by rw [ht]; exact hP, va_K.moved hW.alike hK, hD⟩, hS.F ht⟩) hS.2.2 d_X_storeRecord_75
      · refine lv_if_ne (tgt := 76) hx hb d_X_storeRecord_71 (by decide) (fun _ => ?_) (fun h9 => absurd h9 (by decide))
        refine lv_aload_n hx hb d_X_storeRecord_76 rfl (lv_at hl 2 rfl) ?_
        refine lv_iload hx hb d_X_storeRecord_77 (lv_at hl 0 rfl) ?_
        refine va_put (D := (dC, dI)) (ci := 0) (v := .int (chn ch d2 (51 * hf + 31 + 4 * ln))) (ty := .int) (C := R_X) (T := F_X) (N := 12) hx hb hts lay_X t_X t_X_ok n_X hown hK hP hD hS 0 rfl rfl 11 (by decide) (hts _ m_73) (fun _ h9 => h9) rfl (by decide +kernel) rfl rfl (Nat.le_of_ble_eq_true rfl) d_X_storeRecord_79 (fun H locs hP hD hS => ?_)
        have hP : va_P (dC, dI) classes (Xw h0 qd qs qv cI cJ (upd d2 ((51 * hf + 31 + 4 * ln) + 3) ((chn ch d2 (51 * hf + 31 + 4 * ln)) ||| 1), hf, gn, rt, ct, dec1 sl2, sm2 + 1, pw, ln, lq, vq, chn ch d2 (51 * hf + 31 + 4 * ln))) H := hP
        have hD : va_D A (Xw h0 qd qs qv cI cJ (upd d2 ((51 * hf + 31 + 4 * ln) + 3) ((chn ch d2 (51 * hf + 31 + 4 * ln)) ||| 1), hf, gn, rt, ct, dec1 sl2, sm2 + 1, pw, ln, lq, vq, chn ch d2 (51 * hf + 31 + 4 * ln))) := hD
        refine lv_iconst (v := (1 : Int32)) hx hb d_X_storeRecord_82 (by decide) ?_
        exact W.zret hx hb hr rfl (fun t ht hW => ⟨⟨(1 : Int32), (upd d2 ((51 * hf + 31 + 4 * ln) + 3) ((chn ch d2 (51 * hf + 31 + 4 * ln)) ||| 1), hf, gn, rt, ct, dec1 sl2, sm2 + 1, pw, ln, lq, vq, chn ch d2 (51 * hf + 31 + 4 * ln)), rfl, ⟨_, _, _, Or.inl ⟨(by rw [srC, wr1_1 h1, hc2, wr1_1 h3]), rfl, (by rw [wr1_1 h1, hc2])⟩⟩, by rw [ht]; exact hP, va_K.moved hW.alike hK, hD⟩, hS.F ht⟩) hS.2.2 d_X_storeRecord_83
    · refine lv_if_ne (tgt := 50) hx hb d_X_storeRecord_45 (by decide) (fun h9 => absurd (by decide) h9) (fun _ => ?_)
      refine lv_iconst (v := (0 : Int32)) hx hb d_X_storeRecord_48 (by decide) ?_
      exact W.zret hx hb hr rfl (fun t ht hW => ⟨⟨(0 : Int32), (d2, hf, gn, rt, ct, sl2, sm2, false, 0, lq, vq, (0 : Int32)), rfl, ⟨_, _, _, Or.inr ⟨(by rw [srC, wr1_1 h1, hc2]; try simp only [wr1_f, wv1_f]), rfl, rfl⟩⟩, by rw [ht]; exact hP, va_K.moved hW.alike hK, hD⟩, hS.F ht⟩) hS.2.2 d_X_storeRecord_49
set_option maxHeartbeats 4000000 in
set_option maxRecDepth 100000 in
theorem c_clearMarks (l : Launch) (dC : Nat → ClassId) (dI : Nat → Nat → Nat) (h0 qd qs qv : Nat) (cI cJ : ClassId) (sz : Nat) (dk : Nat → Int32) (hf : Nat) (gn : Int32) (rt : Int32) (ct : Int32) (sl : Int32) (sm : Int32) (pw : Bool) (ln : Nat) (lq : Nat → Int32) (vq : Nat → Int64) (ch : Int32) (a1 : Nat) (h_a : a1 < 2) : Met l y_X_clearMarks w_X_clearMarks ({ frames := 3, cells := 0, slots := 0, locals := 62 }) (va_Pc [.ref h0, .int (nI a1)] (z_pre (dC, dI) classes [(cI, .int), (cJ, .long)] (Xw h0 qd qs qv cI cJ (dk, hf, gn, rt, ct, sl, sm, pw, ln, lq, vq, ch)) sz)) (va_Qi (fun (r : Int32) (u : XS) => sPost (clM a1 5 0 (true, (dk, sl, sm))) hf gn rt ct pw ln lq vq ch r u) (fun u => z_at (dC, dI) classes [(cI, .int), (cJ, .long)] (va_A (Xw h0 qd qs qv cI cJ (dk, hf, gn, rt, ct, sl, sm, pw, ln, lq, vq, ch)) sz) (Xw h0 qd qs qv cI cJ u)) (va_A (Xw h0 qd qs qv cI cJ (dk, hf, gn, rt, ct, sl, sm, pw, ln, lq, vq, ch)) sz)) 0 0 (va_A (Xw h0 qd qs qv cI cJ (dk, hf, gn, rt, ct, sl, sm, pw, ln, lq, vq, ch)) sz) := by
  refine Met.ofW (cc := b_X_clearMarks) (maxL := 3) (ret := (some .boolean)) (by decide) rfl ?_
  intro p e s m args below meth c s₁ B hml hv
  obtain ⟨rfl, hsz, hP, hK, hD0⟩ := hv
  have hx := B.exec
  have hb := B.bytes
  have hr := B.returns
  have hts := fun (w : Cond) (h : w ∈ lw_U) => atoms_spec (ws := w_X_clearMarks) B.pre w (List.mem_cons_of_mem _ h)
  have hown : s.vm.findClass R_X = some m.cls := findClass_of_methodNamed B.named
  have hlocks := B.notSynchronized
  subst hsz
  have hD := hD0.self (sz := s.heap.size)
  generalize hAe : va_A (Xw h0 qd qs qv cI cJ (dk, hf, gn, rt, ct, sl, sm, pw, ln, lq, vq, ch)) s.heap.size = A at hD ⊢
  have hA : ∀ q : Nat, s.heap.size ≤ q → A q := fun q h => by rw [← hAe]; exact Or.inr h
  have hS : va_S A s.heap s.heap [] := va_S.rf
  have hP : va_P (dC, dI) classes (Xw h0 qd qs qv cI cJ (dk, hf, gn, rt, ct, sl, sm, pw, ln, lq, vq, ch)) s.heap := hP
  have hl := lv_entry ([.ref h0, .int (nI a1)]) (n := 3) (Nat.le_of_ble_eq_true rfl)
  rw [lg_entry_eq]
  generalize (lg_sl ([.ref h0, .int (nI a1)]) ++ List.replicate (3 - (lg_sl ([.ref h0, .int (nI a1)])).length) Slot.unset).toArray = ls at hl ⊢
  have hl : lv_has ls 3 [(0, .ref h0), (1, .int (nI a1))] := hl
  have loop : ∀ (j k : Nat) (d0 : Nat → Int32) (sl0 sm0 : Int32) (ls : Array Slot) (H : Heap) (locs : List Loc), k + j = 5 → lv_has ls 3 [(0, .ref h0), (1, .int (nI a1)), (2, .int (nI k))] → va_P (dC, dI) classes (Xw h0 qd qs qv cI cJ (d0, hf, gn, rt, ct, sl0, sm0, pw, ln, lq, vq, ch)) H → va_D A (Xw h0 qd qs qv cI cJ (d0, hf, gn, rt, ct, sl0, sm0, pw, ln, lq, vq, ch)) → va_S A s.heap H locs → clM a1 j k (true, (d0, sl0, sm0)) = clM a1 5 0 (true, (dk, sl, sm)) → W p l e (headSpec w_X_clearMarks ({ frames := 3, cells := 0, slots := 0, locals := 62 })).room s m ([.ref h0, .int (nI a1)].toArray) below meth c H locs 0 0 (MQ below (va_Qi (fun (r : Int32) (u : XS) => sPost (clM a1 5 0 (true, (dk, sl, sm))) hf gn rt ct pw ln lq vq ch r u) (fun u => z_at (dC, dI) classes [(cI, .int), (cJ, .long)] A (Xw h0 qd qs qv cI cJ u)) A) ([.ref h0, .int (nI a1)].toArray) s 0 0 A) (F0 m 2 ls []) := by
    intro j
    induction j with
    | zero =>
      intro k d0 sl0 sm0 ls H locs hk hl hP hD hS hF
      refine lv_iload_n hx hb d_X_clearMarks_2 rfl (lv_at hl 2 rfl) ?_
      refine lv_iconst (v := nI 5) hx hb d_X_clearMarks_3 (by decide) ?_
      refine lv_icmp_ge (tgt := 30) hx hb d_X_clearMarks_4 (by decide) (fun _ => ?_) (fun h9 => absurd ((nI_leI (by omega) (by omega)).mpr (by omega)) h9)
      refine lv_iconst (v := (1 : Int32)) hx hb d_X_clearMarks_30 (by decide) ?_
      exact W.zret hx hb hr rfl (fun t ht hW => ⟨⟨(1 : Int32), (d0, hf, gn, rt, ct, sl0, sm0, pw, ln, lq, vq, ch), rfl, ⟨_, _, _, Or.inl ⟨hF.symm, rfl, rfl⟩⟩, by rw [ht]; exact hP, va_K.moved hW.alike hK, hD⟩, hS.F ht⟩) hS.2.2 d_X_clearMarks_31
    | succ j ih =>
      intro k d0 sl0 sm0 ls H locs hk hl hP hD hS hF
      refine lv_iload_n hx hb d_X_clearMarks_2 rfl (lv_at hl 2 rfl) ?_
      refine lv_iconst (v := nI 5) hx hb d_X_clearMarks_3 (by decide) ?_
      refine lv_icmp_ge (tgt := 30) hx hb d_X_clearMarks_4 (by decide) (fun h9 => absurd h9 (fun q => absurd ((nI_leI (by omega) (by omega)).mp q) (by omega))) (fun _ => ?_)
      refine lv_aload_n hx hb d_X_clearMarks_7 rfl (lv_at hl 0 rfl) ?_
      refine lv_iload_n hx hb d_X_clearMarks_8 rfl (lv_at hl 1 rfl) ?_
      refine lv_iload_n hx hb d_X_clearMarks_9 rfl (lv_at hl 2 rfl) ?_
      refine vp_callSi (W.runS (As := [.int (nI a1), .int (nI k)]) (rest := [.ref h0]) ⟨hx, hb, hml, hown, hts⟩ (c_recordPlace l a1 k) (cwS 2 hts g_X_123 rfl rfl rfl (by decide +kernel) ⟨(Nat.le_of_ble_eq_true rfl), (Nat.le_of_ble_eq_true rfl)⟩) preEq rfl rfl hl.1 rfl (lv_room (Nat.le_of_ble_eq_true rfl)) d_X_clearMarks_10 ⟨(Nat.le_of_ble_eq_true rfl), (Nat.le_of_ble_eq_true rfl)⟩) (fun r hr0 => ?_)
      subst hr0
      refine lv_iconst (v := nI 3) hx hb d_X_clearMarks_13 (by decide) ?_
      refine lv_iadd hx hb d_X_clearMarks_14 ?_
      refine z_top (nI_add _ _) ?_
      refine lv_iconst (v := (0 : Int32)) hx hb d_X_clearMarks_15 (by decide) ?_
      refine z_calli (va_runV (C := R_X) (b := h0) (As := [.int (nI ((51 * a1 + 31 + 4 * k) + 3)), .int (0 : Int32)]) (rest := []) ⟨hx, hb, hml, hown, hts⟩ (c_storeWord l dC dI h0 qd qs qv cI cJ _ d0 hf gn rt ct sl0 sm0 pw ln lq vq ch ((51 * a1 + 31 + 4 * k) + 3) (0 : Int32) (by omega)) (cwV 2 hts g_X_140 rfl rfl rfl (by decide +kernel) ⟨(Nat.le_of_ble_eq_true rfl), (Nat.le_of_ble_eq_true rfl)⟩) (z_preV (va_recv (q0 := 0) hK hP rfl rfl) hP hK hD) rfl rfl hl.1 rfl (lv_room (Nat.le_of_ble_eq_true rfl)) d_X_clearMarks_16 ⟨(Nat.le_of_ble_eq_true rfl), (Nat.le_of_ble_eq_true rfl)⟩) hS hD hA (fun r u H locs hr0 hP hD hS => ?_)
      obtain ⟨h1, rfl, rfl⟩ | ⟨h1, rfl, rfl⟩ := hr0
      · refine lv_if_ne (tgt := 24) hx hb d_X_clearMarks_19 (by decide) (fun h9 => absurd (by decide) h9) (fun _ => ?_)
        refine lv_iconst (v := (0 : Int32)) hx hb d_X_clearMarks_22 (by decide) ?_
        exact W.zret hx hb hr rfl (fun t ht hW => ⟨⟨(0 : Int32), (d0, hf, gn, rt, ct, -1, sm0, false, 0, lq, vq, (0 : Int32)), rfl, ⟨_, _, _, Or.inr ⟨(by rw [← hF, clM, wr1_0 h1, clM_f]), rfl, rfl⟩⟩, by rw [ht]; exact hP, va_K.moved hW.alike hK, hD⟩, hS.F ht⟩) hS.2.2 d_X_clearMarks_23
      · refine lv_if_ne (tgt := 24) hx hb d_X_clearMarks_19 (by decide) (fun _ => ?_) (fun h9 => absurd h9 (by decide))
        refine lv_iinc (k := 2) hx hb d_X_clearMarks_24 hl rfl (z_inc _ 1) (by decide) rfl (fun ls hl => ?_)
        have hl : lv_has ls 3 [(2, .int (nI (k + 1))), (0, .ref h0), (1, .int (nI a1))] := hl
        refine lv_goto (tgt := 2) hx hb d_X_clearMarks_27 (by decide) ?_
        exact ih (k + 1) _ _ _ ls _ _ (by omega) (lv_sub hl [1, 2, 0] rfl) hP hD hS (by rw [← hF, clM, wr1_1 h1])
  refine lv_iconst (v := nI 0) hx hb d_X_clearMarks_0 (by decide) ?_
  refine lv_istore_n hx hb d_X_clearMarks_1 rfl hl (by decide) rfl (fun ls hl => ?_)
  have hl : lv_has ls 3 [(2, .int (nI 0)), (0, .ref h0), (1, .int (nI a1))] := hl
  exact loop 5 0 _ _ _ ls _ _ rfl (lv_sub hl [1, 2, 0] rfl) hP hD hS rfl
set_option maxHeartbeats 4000000 in
set_option maxRecDepth 100000 in
theorem c_storeSectors (l : Launch) (dC : Nat → ClassId) (dI : Nat → Nat → Nat) (h0 qd qs qv : Nat) (cI cJ : ClassId) (sz : Nat) (dk : Nat → Int32) (hf : Nat) (gn : Int32) (rt : Int32) (ct : Int32) (sl : Int32) (sm : Int32) (pw : Bool) (ln : Nat) (lq : Nat → Int32) (vq : Nat → Int64) (ch : Int32) (a1 : Nat) (g1 : Int32) (h_a : a1 < 2) (h_f : hf < 2) (h_n : ln ≤ 5) : Met l y_X_storeSectors w_X_storeSectors ({ frames := 4, cells := 0, slots := 0, locals := 94 }) (va_Pc [.ref h0, .int (nI a1), .int g1] (z_pre (dC, dI) classes [(cI, .int), (cJ, .long)] (Xw h0 qd qs qv cI cJ (dk, hf, gn, rt, ct, sl, sm, pw, ln, lq, vq, ch)) sz)) (va_Qi (fun (r : Int32) (u : XS) => sPost (ssF (fun d k => vof d hf gn rt ln lq vq k) a1 g1 8 0 (true, (dk, sl, sm))) hf gn rt ct pw ln lq vq ch r u) (fun u => z_at (dC, dI) classes [(cI, .int), (cJ, .long)] (va_A (Xw h0 qd qs qv cI cJ (dk, hf, gn, rt, ct, sl, sm, pw, ln, lq, vq, ch)) sz) (Xw h0 qd qs qv cI cJ u)) (va_A (Xw h0 qd qs qv cI cJ (dk, hf, gn, rt, ct, sl, sm, pw, ln, lq, vq, ch)) sz)) 0 0 (va_A (Xw h0 qd qs qv cI cJ (dk, hf, gn, rt, ct, sl, sm, pw, ln, lq, vq, ch)) sz) := by
  refine Met.ofW (cc := b_X_storeSectors) (maxL := 4) (ret := (some .boolean)) (by decide) rfl ?_
  intro p e s m args below meth c s₁ B hml hv
  obtain ⟨rfl, hsz, hP, hK, hD0⟩ := hv
  have hx := B.exec
  have hb := B.bytes
  have hr := B.returns
  have hts := fun (w : Cond) (h : w ∈ lw_U) => atoms_spec (ws := w_X_storeSectors) B.pre w (List.mem_cons_of_mem _ h)
  have hown : s.vm.findClass R_X = some m.cls := findClass_of_methodNamed B.named
  have hlocks := B.notSynchronized
  subst hsz
  have hD := hD0.self (sz := s.heap.size)
  generalize hAe : va_A (Xw h0 qd qs qv cI cJ (dk, hf, gn, rt, ct, sl, sm, pw, ln, lq, vq, ch)) s.heap.size = A at hD ⊢
  have hA : ∀ q : Nat, s.heap.size ≤ q → A q := fun q h => by rw [← hAe]; exact Or.inr h
  have hS : va_S A s.heap s.heap [] := va_S.rf
  have hP : va_P (dC, dI) classes (Xw h0 qd qs qv cI cJ (dk, hf, gn, rt, ct, sl, sm, pw, ln, lq, vq, ch)) s.heap := hP
  have hl := lv_entry ([.ref h0, .int (nI a1), .int g1]) (n := 4) (Nat.le_of_ble_eq_true rfl)
  rw [lg_entry_eq]
  generalize (lg_sl ([.ref h0, .int (nI a1), .int g1]) ++ List.replicate (4 - (lg_sl ([.ref h0, .int (nI a1), .int g1])).length) Slot.unset).toArray = ls at hl ⊢
  have hl : lv_has ls 4 [(0, .ref h0), (1, .int (nI a1)), (2, .int g1)] := hl
  have loop : ∀ (j k : Nat) (d0 : Nat → Int32) (sl0 sm0 : Int32) (ls : Array Slot) (H : Heap) (locs : List Loc), k + j = 8 → lv_has ls 4 [(0, .ref h0), (1, .int (nI a1)), (2, .int g1), (3, .int (nI k))] → va_P (dC, dI) classes (Xw h0 qd qs qv cI cJ (d0, hf, gn, rt, ct, sl0, sm0, pw, ln, lq, vq, ch)) H → va_D A (Xw h0 qd qs qv cI cJ (d0, hf, gn, rt, ct, sl0, sm0, pw, ln, lq, vq, ch)) → va_S A s.heap H locs → ssF (fun d k => vof d hf gn rt ln lq vq k) a1 g1 j k (true, (d0, sl0, sm0)) = ssF (fun d k => vof d hf gn rt ln lq vq k) a1 g1 8 0 (true, (dk, sl, sm)) → W p l e (headSpec w_X_storeSectors ({ frames := 4, cells := 0, slots := 0, locals := 94 })).room s m ([.ref h0, .int (nI a1), .int g1].toArray) below meth c H locs 0 0 (MQ below (va_Qi (fun (r : Int32) (u : XS) => sPost (ssF (fun d k => vof d hf gn rt ln lq vq k) a1 g1 8 0 (true, (dk, sl, sm))) hf gn rt ct pw ln lq vq ch r u) (fun u => z_at (dC, dI) classes [(cI, .int), (cJ, .long)] A (Xw h0 qd qs qv cI cJ u)) A) ([.ref h0, .int (nI a1), .int g1].toArray) s 0 0 A) (F0 m 2 ls []) := by
    intro j
    induction j with
    | zero =>
      intro k d0 sl0 sm0 ls H locs hk hl hP hD hS hF
      refine lv_iload_n hx hb d_X_storeSectors_2 rfl (lv_at hl 3 rfl) ?_
      refine lv_bipush (v := nI 8) hx hb d_X_storeSectors_3 (by decide) ?_
      refine lv_icmp_ge (tgt := 34) hx hb d_X_storeSectors_5 (by decide) (fun _ => ?_) (fun h9 => absurd ((nI_leI (by omega) (by omega)).mpr (by omega)) h9)
      refine lv_iconst (v := (1 : Int32)) hx hb d_X_storeSectors_34 (by decide) ?_
      exact W.zret hx hb hr rfl (fun t ht hW => ⟨⟨(1 : Int32), (d0, hf, gn, rt, ct, sl0, sm0, pw, ln, lq, vq, ch), rfl, ⟨_, _, _, Or.inl ⟨hF.symm, rfl, rfl⟩⟩, by rw [ht]; exact hP, va_K.moved hW.alike hK, hD⟩, hS.F ht⟩) hS.2.2 d_X_storeSectors_35
    | succ j ih =>
      intro k d0 sl0 sm0 ls H locs hk hl hP hD hS hF
      refine lv_iload_n hx hb d_X_storeSectors_2 rfl (lv_at hl 3 rfl) ?_
      refine lv_bipush (v := nI 8) hx hb d_X_storeSectors_3 (by decide) ?_
      refine lv_icmp_ge (tgt := 34) hx hb d_X_storeSectors_5 (by decide) (fun h9 => absurd h9 (fun q => absurd ((nI_leI (by omega) (by omega)).mp q) (by omega))) (fun _ => ?_)
      refine lv_aload_n hx hb d_X_storeSectors_8 rfl (lv_at hl 0 rfl) ?_
      refine lv_iload_n hx hb d_X_storeSectors_9 rfl (lv_at hl 1 rfl) ?_
      refine lv_iload_n hx hb d_X_storeSectors_10 rfl (lv_at hl 3 rfl) ?_
      refine vp_callSi (W.runS (As := [.int (nI a1), .int (nI k)]) (rest := [.ref h0]) ⟨hx, hb, hml, hown, hts⟩ (c_sectorPlace l a1 k) (cwS 2 hts g_X_103 rfl rfl rfl (by decide +kernel) ⟨(Nat.le_of_ble_eq_true rfl), (Nat.le_of_ble_eq_true rfl)⟩) preEq rfl rfl hl.1 rfl (lv_room (Nat.le_of_ble_eq_true rfl)) d_X_storeSectors_11 ⟨(Nat.le_of_ble_eq_true rfl), (Nat.le_of_ble_eq_true rfl)⟩) (fun r hr0 => ?_)
      subst hr0
      refine lv_aload_n hx hb d_X_storeSectors_14 rfl (lv_at hl 0 rfl) ?_
      refine lv_iload_n hx hb d_X_storeSectors_15 rfl (lv_at hl 3 rfl) ?_
      refine vp_callSl (W.runV (C := R_X) (b := h0) (As := [.int (nI k)]) (rest := [.int (nI (51 * a1 + 2 * k)), .ref h0]) ⟨hx, hb, hml, hown, hts⟩ (c_valueOf l dC dI h0 qd qs qv cI cJ _ d0 hf gn rt ct sl0 sm0 pw ln lq vq ch k (by omega) (by omega) (by omega)) (cwV 1 hts g_X_77 rfl rfl rfl (by decide +kernel) ⟨(Nat.le_of_ble_eq_true rfl), (Nat.le_of_ble_eq_true rfl)⟩) (z_preV (va_recv (q0 := 0) hK hP rfl rfl) hP hK hD) rfl rfl hl.1 rfl (lv_room (Nat.le_of_ble_eq_true rfl)) d_X_storeSectors_16 ⟨(Nat.le_of_ble_eq_true rfl), (Nat.le_of_ble_eq_true rfl)⟩) (fun r hr0 => ?_)
      subst hr0
      refine lv_iload_n hx hb d_X_storeSectors_19 rfl (lv_at hl 2 rfl) ?_
      refine z_calli (va_runV (C := R_X) (b := h0) (As := [.int (nI (51 * a1 + 2 * k)), .long (vof d0 hf gn rt ln lq vq k), .int g1]) (rest := []) ⟨hx, hb, hml, hown, hts⟩ (c_storeValue l dC dI h0 qd qs qv cI cJ _ d0 hf gn rt ct sl0 sm0 pw ln lq vq ch (51 * a1 + 2 * k) (vof d0 hf gn rt ln lq vq k) g1 (by omega)) (cwV 3 hts g_X_147 rfl rfl rfl (by decide +kernel) ⟨(Nat.le_of_ble_eq_true rfl), (Nat.le_of_ble_eq_true rfl)⟩) (z_preV (va_recv (q0 := 0) hK hP rfl rfl) hP hK hD) rfl rfl hl.1 rfl (lv_room (Nat.le_of_ble_eq_true rfl)) d_X_storeSectors_20 ⟨(Nat.le_of_ble_eq_true rfl), (Nat.le_of_ble_eq_true rfl)⟩) hS hD hA (fun r u H locs hr0 hP hD hS => ?_)
      obtain ⟨d1, sl1, sm1, ⟨hc1, rfl, rfl⟩ | ⟨hc1, rfl, rfl⟩⟩ := hr0
      · refine lv_if_ne (tgt := 28) hx hb d_X_storeSectors_23 (by decide) (fun _ => ?_) (fun h9 => absurd h9 (by decide))
        refine lv_iinc (k := 3) hx hb d_X_storeSectors_28 hl rfl (z_inc _ 1) (by decide) rfl (fun ls hl => ?_)
        have hl : lv_has ls 4 [(3, .int (nI (k + 1))), (0, .ref h0), (1, .int (nI a1)), (2, .int g1)] := hl
        refine lv_goto (tgt := 2) hx hb d_X_storeSectors_31 (by decide) ?_
        exact ih (k + 1) _ _ _ ls _ _ (by omega) (lv_sub hl [1, 2, 3, 0] rfl) hP hD hS (by rw [← hF, ssF, hc1])
      · refine lv_if_ne (tgt := 28) hx hb d_X_storeSectors_23 (by decide) (fun h9 => absurd (by decide) h9) (fun _ => ?_)
        refine lv_iconst (v := (0 : Int32)) hx hb d_X_storeSectors_26 (by decide) ?_
        exact W.zret hx hb hr rfl (fun t ht hW => ⟨⟨(0 : Int32), (d1, hf, gn, rt, ct, sl1, sm1, false, 0, lq, vq, (0 : Int32)), rfl, ⟨_, _, _, Or.inr ⟨(by rw [← hF, ssF, hc1, ssF_f]), rfl, rfl⟩⟩, by rw [ht]; exact hP, va_K.moved hW.alike hK, hD⟩, hS.F ht⟩) hS.2.2 d_X_storeSectors_27
  refine lv_iconst (v := nI 0) hx hb d_X_storeSectors_0 (by decide) ?_
  refine lv_istore_n hx hb d_X_storeSectors_1 rfl hl (by decide) rfl (fun ls hl => ?_)
  have hl : lv_has ls 4 [(3, .int (nI 0)), (0, .ref h0), (1, .int (nI a1)), (2, .int g1)] := hl
  exact loop 8 0 _ _ _ ls _ _ rfl (lv_sub hl [1, 2, 3, 0] rfl) hP hD hS rfl
set_option maxHeartbeats 4000000 in
set_option maxRecDepth 100000 in
theorem c_storeNodes (l : Launch) (dC : Nat → ClassId) (dI : Nat → Nat → Nat) (h0 qd qs qv : Nat) (cI cJ : ClassId) (sz : Nat) (dk : Nat → Int32) (hf : Nat) (gn : Int32) (rt : Int32) (ct : Int32) (sl : Int32) (sm : Int32) (pw : Bool) (ln : Nat) (lq : Nat → Int32) (vq : Nat → Int64) (ch : Int32) (a1 : Nat) (g1 : Int32) (h_a : a1 < 2) : Met l y_X_storeNodes w_X_storeNodes ({ frames := 3, cells := 0, slots := 0, locals := 62 }) (va_Pc [.ref h0, .int (nI a1), .int g1] (z_pre (dC, dI) classes [(cI, .int), (cJ, .long)] (Xw h0 qd qs qv cI cJ (dk, hf, gn, rt, ct, sl, sm, pw, ln, lq, vq, ch)) sz)) (va_Qi (fun (r : Int32) (u : XS) => sPost (snF a1 g1 15 (true, (dk, sl, sm))) hf gn rt ct pw ln lq vq ch r u) (fun u => z_at (dC, dI) classes [(cI, .int), (cJ, .long)] (va_A (Xw h0 qd qs qv cI cJ (dk, hf, gn, rt, ct, sl, sm, pw, ln, lq, vq, ch)) sz) (Xw h0 qd qs qv cI cJ u)) (va_A (Xw h0 qd qs qv cI cJ (dk, hf, gn, rt, ct, sl, sm, pw, ln, lq, vq, ch)) sz)) 0 0 (va_A (Xw h0 qd qs qv cI cJ (dk, hf, gn, rt, ct, sl, sm, pw, ln, lq, vq, ch)) sz) := by
  refine Met.ofW (cc := b_X_storeNodes) (maxL := 4) (ret := (some .boolean)) (by decide) rfl ?_
  intro p e s m args below meth c s₁ B hml hv
  obtain ⟨rfl, hsz, hP, hK, hD0⟩ := hv
  have hx := B.exec
  have hb := B.bytes
  have hr := B.returns
  have hts := fun (w : Cond) (h : w ∈ lw_U) => atoms_spec (ws := w_X_storeNodes) B.pre w (List.mem_cons_of_mem _ h)
  have hown : s.vm.findClass R_X = some m.cls := findClass_of_methodNamed B.named
  have hlocks := B.notSynchronized
  subst hsz
  have hD := hD0.self (sz := s.heap.size)
  generalize hAe : va_A (Xw h0 qd qs qv cI cJ (dk, hf, gn, rt, ct, sl, sm, pw, ln, lq, vq, ch)) s.heap.size = A at hD ⊢
  have hA : ∀ q : Nat, s.heap.size ≤ q → A q := fun q h => by rw [← hAe]; exact Or.inr h
  have hS : va_S A s.heap s.heap [] := va_S.rf
  have hP : va_P (dC, dI) classes (Xw h0 qd qs qv cI cJ (dk, hf, gn, rt, ct, sl, sm, pw, ln, lq, vq, ch)) s.heap := hP
  have hl := lv_entry ([.ref h0, .int (nI a1), .int g1]) (n := 4) (Nat.le_of_ble_eq_true rfl)
  rw [lg_entry_eq]
  generalize (lg_sl ([.ref h0, .int (nI a1), .int g1]) ++ List.replicate (4 - (lg_sl ([.ref h0, .int (nI a1), .int g1])).length) Slot.unset).toArray = ls at hl ⊢
  have hl : lv_has ls 4 [(0, .ref h0), (1, .int (nI a1)), (2, .int g1)] := hl
  have loop : ∀ (k : Nat) (d0 : Nat → Int32) (sl0 sm0 : Int32) (ls : Array Slot) (H : Heap) (locs : List Loc), k ≤ 15 → lv_has ls 4 [(0, .ref h0), (1, .int (nI a1)), (2, .int g1), (3, .int (nI k))] → va_P (dC, dI) classes (Xw h0 qd qs qv cI cJ (d0, hf, gn, rt, ct, sl0, sm0, pw, ln, lq, vq, ch)) H → va_D A (Xw h0 qd qs qv cI cJ (d0, hf, gn, rt, ct, sl0, sm0, pw, ln, lq, vq, ch)) → va_S A s.heap H locs → snF a1 g1 k (true, (d0, sl0, sm0)) = snF a1 g1 15 (true, (dk, sl, sm)) → W p l e (headSpec w_X_storeNodes ({ frames := 3, cells := 0, slots := 0, locals := 62 })).room s m ([.ref h0, .int (nI a1), .int g1].toArray) below meth c H locs 0 0 (MQ below (va_Qi (fun (r : Int32) (u : XS) => sPost (snF a1 g1 15 (true, (dk, sl, sm))) hf gn rt ct pw ln lq vq ch r u) (fun u => z_at (dC, dI) classes [(cI, .int), (cJ, .long)] A (Xw h0 qd qs qv cI cJ u)) A) ([.ref h0, .int (nI a1), .int g1].toArray) s 0 0 A) (F0 m 3 ls []) := by
    intro k
    induction k with
    | zero =>
      intro d0 sl0 sm0 ls H locs hk hl hP hD hS hF
      refine lv_iload_n hx hb d_X_storeNodes_3 rfl (lv_at hl 3 rfl) ?_
      refine lv_iconst (v := nI 1) hx hb d_X_storeNodes_4 (by decide) ?_
      refine lv_icmp_lt (tgt := 35) hx hb d_X_storeNodes_5 (by decide) (fun _ => ?_) (fun h9 => absurd ((nI_ltI (by omega) (by omega)).mpr (by omega)) h9)
      refine lv_iconst (v := (1 : Int32)) hx hb d_X_storeNodes_35 (by decide) ?_
      exact W.zret hx hb hr rfl (fun t ht hW => ⟨⟨(1 : Int32), (d0, hf, gn, rt, ct, sl0, sm0, pw, ln, lq, vq, ch), rfl, ⟨_, _, _, Or.inl ⟨hF.symm, rfl, rfl⟩⟩, by rw [ht]; exact hP, va_K.moved hW.alike hK, hD⟩, hS.F ht⟩) hS.2.2 d_X_storeNodes_36
    | succ k ih =>
      intro d0 sl0 sm0 ls H locs hk hl hP hD hS hF
      refine lv_iload_n hx hb d_X_storeNodes_3 rfl (lv_at hl 3 rfl) ?_
      refine lv_iconst (v := nI 1) hx hb d_X_storeNodes_4 (by decide) ?_
      refine lv_icmp_lt (tgt := 35) hx hb d_X_storeNodes_5 (by decide) (fun h9 => absurd h9 (fun q => absurd ((nI_ltI (by omega) (by omega)).mp q) (by omega))) (fun _ => ?_)
      refine lv_aload_n hx hb d_X_storeNodes_8 rfl (lv_at hl 0 rfl) ?_
      refine lv_iload_n hx hb d_X_storeNodes_9 rfl (lv_at hl 1 rfl) ?_
      refine lv_iload_n hx hb d_X_storeNodes_10 rfl (lv_at hl 3 rfl) ?_
      refine vp_callSi (W.runS (As := [.int (nI a1), .int (nI (k + 1))]) (rest := [.ref h0]) ⟨hx, hb, hml, hown, hts⟩ (c_nodePlace l a1 (k + 1)) (cwS 2 hts g_X_31 rfl rfl rfl (by decide +kernel) ⟨(Nat.le_of_ble_eq_true rfl), (Nat.le_of_ble_eq_true rfl)⟩) preEq rfl rfl hl.1 rfl (lv_room (Nat.le_of_ble_eq_true rfl)) d_X_storeNodes_11 ⟨(Nat.le_of_ble_eq_true rfl), (Nat.le_of_ble_eq_true rfl)⟩) (fun r hr0 => ?_)
      subst hr0
      refine lv_aload_n hx hb d_X_storeNodes_14 rfl (lv_at hl 0 rfl) ?_
      refine lv_iload_n hx hb d_X_storeNodes_15 rfl (lv_at hl 1 rfl) ?_
      refine lv_iload_n hx hb d_X_storeNodes_16 rfl (lv_at hl 3 rfl) ?_
      refine lv_iload_n hx hb d_X_storeNodes_17 rfl (lv_at hl 2 rfl) ?_
      refine vp_callSi (W.runV (C := R_X) (b := h0) (As := [.int (nI a1), .int (nI (k + 1)), .int g1]) (rest := [.int (nI (51 * a1 + 15 + (k + 1))), .ref h0]) ⟨hx, hb, hml, hown, hts⟩ (c_dueNode l dC dI h0 qd qs qv cI cJ _ d0 hf gn rt ct sl0 sm0 pw ln lq vq ch a1 (k + 1) g1 (by omega) (by omega)) (cwV 3 hts g_X_35 rfl rfl rfl (by decide +kernel) ⟨(Nat.le_of_ble_eq_true rfl), (Nat.le_of_ble_eq_true rfl)⟩) (z_preV (va_recv (q0 := 0) hK hP rfl rfl) hP hK hD) rfl rfl hl.1 rfl (lv_room (Nat.le_of_ble_eq_true rfl)) d_X_storeNodes_18 ⟨(Nat.le_of_ble_eq_true rfl), (Nat.le_of_ble_eq_true rfl)⟩) (fun r hr0 => ?_)
      subst hr0
      refine z_calli (va_runV (C := R_X) (b := h0) (As := [.int (nI (51 * a1 + 15 + (k + 1))), .int (due d0 a1 (k + 1) g1)]) (rest := []) ⟨hx, hb, hml, hown, hts⟩ (c_storeWord l dC dI h0 qd qs qv cI cJ _ d0 hf gn rt ct sl0 sm0 pw ln lq vq ch (51 * a1 + 15 + (k + 1)) (due d0 a1 (k + 1) g1) (by omega)) (cwV 2 hts g_X_140 rfl rfl rfl (by decide +kernel) ⟨(Nat.le_of_ble_eq_true rfl), (Nat.le_of_ble_eq_true rfl)⟩) (z_preV (va_recv (q0 := 0) hK hP rfl rfl) hP hK hD) rfl rfl hl.1 rfl (lv_room (Nat.le_of_ble_eq_true rfl)) d_X_storeNodes_21 ⟨(Nat.le_of_ble_eq_true rfl), (Nat.le_of_ble_eq_true rfl)⟩) hS hD hA (fun r u H locs hr0 hP hD hS => ?_)
      obtain ⟨h1, rfl, rfl⟩ | ⟨h1, rfl, rfl⟩ := hr0
      · refine lv_if_ne (tgt := 29) hx hb d_X_storeNodes_24 (by decide) (fun h9 => absurd (by decide) h9) (fun _ => ?_)
        refine lv_iconst (v := (0 : Int32)) hx hb d_X_storeNodes_27 (by decide) ?_
        exact W.zret hx hb hr rfl (fun t ht hW => ⟨⟨(0 : Int32), (d0, hf, gn, rt, ct, -1, sm0, false, 0, lq, vq, (0 : Int32)), rfl, ⟨_, _, _, Or.inr ⟨(by rw [← hF, snF, wr1_0 h1, snF_f]), rfl, rfl⟩⟩, by rw [ht]; exact hP, va_K.moved hW.alike hK, hD⟩, hS.F ht⟩) hS.2.2 d_X_storeNodes_28
      · refine lv_if_ne (tgt := 29) hx hb d_X_storeNodes_24 (by decide) (fun _ => ?_) (fun h9 => absurd h9 (by decide))
        refine lv_iinc (k := 3) hx hb d_X_storeNodes_29 hl rfl (z_dec _) (by decide) rfl (fun ls hl => ?_)
        have hl : lv_has ls 4 [(3, .int (nI k)), (0, .ref h0), (1, .int (nI a1)), (2, .int g1)] := hl
        refine lv_goto (tgt := 3) hx hb d_X_storeNodes_32 (by decide) ?_
        exact ih _ _ _ ls _ _ (by omega) (lv_sub hl [1, 2, 3, 0] rfl) hP hD hS (by rw [← hF, snF, wr1_1 h1])
  refine lv_bipush (v := nI 15) hx hb d_X_storeNodes_0 (by decide) ?_
  refine lv_istore_n hx hb d_X_storeNodes_2 rfl hl (by decide) rfl (fun ls hl => ?_)
  have hl : lv_has ls 4 [(3, .int (nI 15)), (0, .ref h0), (1, .int (nI a1)), (2, .int g1)] := hl
  exact loop 15 _ _ _ ls _ _ (by decide) (lv_sub hl [1, 2, 3, 0] rfl) hP hD hS rfl
