set_option maxHeartbeats 1000000 in
set_option maxRecDepth 100000 in
theorem mc_arm (l : Launch) (dC : Nat → ClassId) (dI : Nat → Nat → Nat) (h0 qd qs qv qh qn : Nat) (cI cJ : ClassId) (sz : Nat) (dk : Nat → Int32) (hf : Nat) (gn : Int32) (rt : Int32) (ct : Int32) (pw : Bool) (sl : Int32) (sm : Int32) (cu : Bool) (ln : Nat) (lk : Int32) (lq : Nat → Int32) (vq : Nat → Int64) (hs : Nat → Int64) (nd : Nat → Int32) (x0 : Int32)  : Met l y_M_arm w_M_arm ({ frames := 0, cells := 0, slots := 0, locals := 0 }) (va_Pc [.ref h0, .int x0] (z_pre (dC, dI) classes [(cI, .int), (cJ, .long)] (Mw h0 qd qs qv qh qn cI cJ (dk, hf, gn, rt, ct, pw, sl, sm, cu, ln, lk, lq, vq, hs, nd)) sz)) (va_Qi (fun (r : Int32) (u : MS) => (0 ≤ x0 ∧ r = 1 ∧ u = (dk, hf, gn, rt, ct, pw, x0, sm, cu, ln, lk, lq, vq, hs, nd)) ∨ (¬ 0 ≤ x0 ∧ r = 0 ∧ u = (dk, hf, gn, rt, ct, pw, sl, sm, cu, ln, lk, lq, vq, hs, nd))) (fun u => z_at (dC, dI) classes [(cI, .int), (cJ, .long)] (va_A (Mw h0 qd qs qv qh qn cI cJ (dk, hf, gn, rt, ct, pw, sl, sm, cu, ln, lk, lq, vq, hs, nd)) sz) (Mw h0 qd qs qv qh qn cI cJ u)) (va_A (Mw h0 qd qs qv qh qn cI cJ (dk, hf, gn, rt, ct, pw, sl, sm, cu, ln, lk, lq, vq, hs, nd)) sz)) 0 0 (va_A (Mw h0 qd qs qv qh qn cI cJ (dk, hf, gn, rt, ct, pw, sl, sm, cu, ln, lk, lq, vq, hs, nd)) sz) := by
  refine Met.ofW (cc := b_M_arm) (maxL := 2) (ret := (some .boolean)) (by decide) rfl ?_
  intro p e s m args below meth c s₁ B hml hv
  obtain ⟨rfl, hsz, hP, hK, hD0⟩ := hv
  have hx := B.exec
  have hb := B.bytes
  have hr := B.returns
  have hts := fun (w : Cond) (h : w ∈ lw_U) => atoms_spec (ws := w_M_arm) B.pre w (List.mem_cons_of_mem _ h)
  have hown : s.vm.findClass R_M = some m.cls := findClass_of_methodNamed B.named
  have hlocks := B.notSynchronized
  subst hsz
  have hD := hD0.self (sz := s.heap.size)
  generalize hAe : va_A (Mw h0 qd qs qv qh qn cI cJ (dk, hf, gn, rt, ct, pw, sl, sm, cu, ln, lk, lq, vq, hs, nd)) s.heap.size = A at hD ⊢
  have hA : ∀ q : Nat, s.heap.size ≤ q → A q := fun q h => by rw [← hAe]; exact Or.inr h
  have hS : va_S A s.heap s.heap [] := va_S.rf
  have hP : va_P (dC, dI) classes (Mw h0 qd qs qv qh qn cI cJ (dk, hf, gn, rt, ct, pw, sl, sm, cu, ln, lk, lq, vq, hs, nd)) s.heap := hP
  have hl := lv_entry ([.ref h0, .int x0]) (n := 2) (Nat.le_of_ble_eq_true rfl)
  rw [lg_entry_eq]
  generalize (lg_sl ([.ref h0, .int x0]) ++ List.replicate (2 - (lg_sl ([.ref h0, .int x0])).length) Slot.unset).toArray = ls at hl ⊢
  have hl : lv_has ls 2 [(0, .ref h0), (1, .int x0)] := hl
  refine lv_iload_n hx hb d_M_arm_0 rfl (lv_at hl 1 rfl) ?_
  refine lv_if_ge (tgt := 6) hx hb d_M_arm_1 (by decide) (fun h1 => ?_) (fun h1 => ?_)
  · refine lv_aload_n hx hb d_M_arm_6 rfl (lv_at hl 0 rfl) ?_
    refine lv_iload_n hx hb d_M_arm_7 rfl (lv_at hl 1 rfl) ?_
    refine va_put (D := (dC, dI)) (ci := 1) (v := .int x0) (ty := .int) (C := R_M) (T := F_M) (N := 15) hx hb hts lay_M t_M t_M_ok n_M hown hK hP hD hS 0 rfl rfl 6 (by decide) (hts _ m_276) (fun _ h9 => h9) rfl (by decide +kernel) rfl rfl (Nat.le_of_ble_eq_true rfl) d_M_arm_8 (fun H locs hP hD hS => ?_)
    have hP : va_P (dC, dI) classes (Mw h0 qd qs qv qh qn cI cJ (dk, hf, gn, rt, ct, pw, x0, sm, cu, ln, lk, lq, vq, hs, nd)) H := hP
    have hD : va_D A (Mw h0 qd qs qv qh qn cI cJ (dk, hf, gn, rt, ct, pw, x0, sm, cu, ln, lk, lq, vq, hs, nd)) := hD
    refine lv_iconst (v := (1 : Int32)) hx hb d_M_arm_11 (by decide) ?_
    exact W.zret hx hb hr rfl (fun t ht hW => ⟨⟨(1 : Int32), (dk, hf, gn, rt, ct, pw, x0, sm, cu, ln, lk, lq, vq, hs, nd), rfl, Or.inl ⟨h1, rfl, rfl⟩, by rw [ht]; exact hP, va_K.moved hW.alike hK, hD⟩, hS.F ht⟩) hS.2.2 d_M_arm_12
  · refine lv_iconst (v := (0 : Int32)) hx hb d_M_arm_4 (by decide) ?_
    exact W.zret hx hb hr rfl (fun t ht hW => ⟨⟨(0 : Int32), (dk, hf, gn, rt, ct, pw, sl, sm, cu, ln, lk, lq, vq, hs, nd), rfl, Or.inr ⟨h1, rfl, rfl⟩, by rw [ht]; exact hP, va_K.moved hW.alike hK, hD⟩, hS.F ht⟩) hS.2.2 d_M_arm_5
set_option maxHeartbeats 1000000 in
set_option maxRecDepth 100000 in
theorem mc_isOn (l : Launch) (dC : Nat → ClassId) (dI : Nat → Nat → Nat) (h0 qd qs qv qh qn : Nat) (cI cJ : ClassId) (sz : Nat) (dk : Nat → Int32) (hf : Nat) (gn : Int32) (rt : Int32) (ct : Int32) (pw : Bool) (sl : Int32) (sm : Int32) (cu : Bool) (ln : Nat) (lk : Int32) (lq : Nat → Int32) (vq : Nat → Int64) (hs : Nat → Int64) (nd : Nat → Int32)   : Met l y_M_isOn w_M_isOn ({ frames := 0, cells := 0, slots := 0, locals := 0 }) (va_Pc [.ref h0] (z_pre (dC, dI) classes [(cI, .int), (cJ, .long)] (Mw h0 qd qs qv qh qn cI cJ (dk, hf, gn, rt, ct, pw, sl, sm, cu, ln, lk, lq, vq, hs, nd)) sz)) (vp_Si (fun r => r = bI pw)) 0 0 (fun _ => False) := by
  refine Met.ofW (cc := b_M_isOn) (maxL := 1) (ret := (some .boolean)) (by decide) rfl ?_
  intro p e s m args below meth c s₁ B hml hv
  obtain ⟨rfl, hsz, hP, hK, hD0⟩ := hv
  have hx := B.exec
  have hb := B.bytes
  have hr := B.returns
  have hts := fun (w : Cond) (h : w ∈ lw_U) => atoms_spec (ws := w_M_isOn) B.pre w (List.mem_cons_of_mem _ h)
  have hown : s.vm.findClass R_M = some m.cls := findClass_of_methodNamed B.named
  have hlocks := B.notSynchronized
  subst hsz
  have hD := hD0
  have hl := lv_entry ([.ref h0]) (n := 1) (Nat.le_of_ble_eq_true rfl)
  rw [lg_entry_eq]
  generalize (lg_sl ([.ref h0]) ++ List.replicate (1 - (lg_sl ([.ref h0])).length) Slot.unset).toArray = ls at hl ⊢
  have hl : lv_has ls 1 [(0, .ref h0)] := hl
  refine lv_aload_n hx hb d_M_isOn_0 rfl (lv_at hl 0 rfl) ?_
  refine va_get (D := (dC, dI)) (ci := 1) (v := .int (bI pw)) (C := R_M) (T := F_M) (N := 15) hx hb hts lay_M hown hK hP 0 rfl rfl 5 (by decide) (hts _ m_275) (fun _ h9 => h9) rfl d_M_isOn_1 ?_
  exact W.zret hx hb hr (by cases pw <;> rfl) (fun t ht hW => ⟨_, rfl, rfl, ht⟩) (fun q h => by cases h) d_M_isOn_4
set_option maxHeartbeats 1000000 in
set_option maxRecDepth 100000 in
theorem mc_mount (l : Launch) (dC : Nat → ClassId) (dI : Nat → Nat → Nat) (h0 qd qs qv qh qn : Nat) (cI cJ : ClassId) (sz : Nat) (dk : Nat → Int32) (hf : Nat) (gn : Int32) (rt : Int32) (ct : Int32) (pw : Bool) (sl : Int32) (sm : Int32) (cu : Bool) (ln : Nat) (lk : Int32) (lq : Nat → Int32) (vq : Nat → Int64) (hs : Nat → Int64) (nd : Nat → Int32)  (h_f : hf < 2) : Met l y_M_mount w_M_mount ({ frames := 5, cells := 0, slots := 0, locals := 112 }) (va_Pc [.ref h0] (z_pre (dC, dI) classes [(cI, .int), (cJ, .long)] (Mw h0 qd qs qv qh qn cI cJ (dk, hf, gn, rt, ct, pw, sl, sm, cu, ln, lk, lq, vq, hs, nd)) sz)) (va_Qi (fun (r : Int32) (u : MS) => ∃ (n1 : Nat), gct dk hf gn (dg (dg 19088743 rt) gn) 5 0 = n1 ∧ n1 ≤ 5 ∧ ((ct ≤ nI n1 ∧ r = nI n1 ∧ ∃ (lq1 : Nat → Int32) (vq1 : Nat → Int64), (∀ i, i < n1 → lq1 i = enc (dk (51 * hf + 31 + 4 * i)) (nI (51 * hf + 31 + 4 * i)) gn ∧ vq1 i = vat dk gn (51 * hf + 31 + 4 * i + 1)) ∧ u = (dk, hf, gn, rt, ct, true, sl, sm, cu, n1, chM dk hf n1 0 (dg (dg 19088743 rt) gn), lq1, vq1, hs, nd)) ∨ (¬ ct ≤ nI n1 ∧ r = -3 ∧ u = (dk, hf, gn, rt, ct, false, sl, sm, cu, 0, lk, lq, vq, hs, nd)))) (fun u => z_at (dC, dI) classes [(cI, .int), (cJ, .long)] (va_A (Mw h0 qd qs qv qh qn cI cJ (dk, hf, gn, rt, ct, pw, sl, sm, cu, ln, lk, lq, vq, hs, nd)) sz) (Mw h0 qd qs qv qh qn cI cJ u)) (va_A (Mw h0 qd qs qv qh qn cI cJ (dk, hf, gn, rt, ct, pw, sl, sm, cu, ln, lk, lq, vq, hs, nd)) sz)) 0 0 (va_A (Mw h0 qd qs qv qh qn cI cJ (dk, hf, gn, rt, ct, pw, sl, sm, cu, ln, lk, lq, vq, hs, nd)) sz) := by
  refine Met.ofW (cc := b_M_mount) (maxL := 3) (ret := (some .int)) (by decide) rfl ?_
  intro p e s m args below meth c s₁ B hml hv
  obtain ⟨rfl, hsz, hP, hK, hD0⟩ := hv
  have hx := B.exec
  have hb := B.bytes
  have hr := B.returns
  have hts := fun (w : Cond) (h : w ∈ lw_U) => atoms_spec (ws := w_M_mount) B.pre w (List.mem_cons_of_mem _ h)
  have hown : s.vm.findClass R_M = some m.cls := findClass_of_methodNamed B.named
  have hlocks := B.notSynchronized
  subst hsz
  have hD := hD0.self (sz := s.heap.size)
  generalize hAe : va_A (Mw h0 qd qs qv qh qn cI cJ (dk, hf, gn, rt, ct, pw, sl, sm, cu, ln, lk, lq, vq, hs, nd)) s.heap.size = A at hD ⊢
  have hA : ∀ q : Nat, s.heap.size ≤ q → A q := fun q h => by rw [← hAe]; exact Or.inr h
  have hS : va_S A s.heap s.heap [] := va_S.rf
  have hP : va_P (dC, dI) classes (Mw h0 qd qs qv qh qn cI cJ (dk, hf, gn, rt, ct, pw, sl, sm, cu, ln, lk, lq, vq, hs, nd)) s.heap := hP
  have hl := lv_entry ([.ref h0]) (n := 3) (Nat.le_of_ble_eq_true rfl)
  rw [lg_entry_eq]
  generalize (lg_sl ([.ref h0]) ++ List.replicate (3 - (lg_sl ([.ref h0])).length) Slot.unset).toArray = ls at hl ⊢
  have hl : lv_has ls 3 [(0, .ref h0)] := hl
  have loop2 : ∀ (n1 : Nat), gct dk hf gn (dg (dg 19088743 rt) gn) 5 0 = n1 → n1 ≤ 5 → ct ≤ nI n1 → ∀ (j k : Nat) (lq1 : Nat → Int32) (vq1 : Nat → Int64) (ls : Array Slot) (H : Heap) (locs : List Loc), k + j = n1 → (∀ i, i < k → lq1 i = enc (dk (51 * hf + 31 + 4 * i)) (nI (51 * hf + 31 + 4 * i)) gn ∧ vq1 i = vat dk gn (51 * hf + 31 + 4 * i + 1)) → lv_has ls 3 [(0, .ref h0), (1, .int (nI n1)), (2, .int (nI k))] → va_P (dC, dI) classes (Mw h0 qd qs qv qh qn cI cJ (dk, hf, gn, rt, ct, true, sl, sm, cu, 0, lk, lq1, vq1, hs, nd)) H → va_D A (Mw h0 qd qs qv qh qn cI cJ (dk, hf, gn, rt, ct, true, sl, sm, cu, 0, lk, lq1, vq1, hs, nd)) → va_S A s.heap H locs → W p l e (headSpec w_M_mount ({ frames := 5, cells := 0, slots := 0, locals := 112 })).room s m ([.ref h0].toArray) below meth c H locs 0 0 (MQ below (va_Qi (fun (r : Int32) (u : MS) => ∃ (n1 : Nat), gct dk hf gn (dg (dg 19088743 rt) gn) 5 0 = n1 ∧ n1 ≤ 5 ∧ ((ct ≤ nI n1 ∧ r = nI n1 ∧ ∃ (lq1 : Nat → Int32) (vq1 : Nat → Int64), (∀ i, i < n1 → lq1 i = enc (dk (51 * hf + 31 + 4 * i)) (nI (51 * hf + 31 + 4 * i)) gn ∧ vq1 i = vat dk gn (51 * hf + 31 + 4 * i + 1)) ∧ u = (dk, hf, gn, rt, ct, true, sl, sm, cu, n1, chM dk hf n1 0 (dg (dg 19088743 rt) gn), lq1, vq1, hs, nd)) ∨ (¬ ct ≤ nI n1 ∧ r = -3 ∧ u = (dk, hf, gn, rt, ct, false, sl, sm, cu, 0, lk, lq, vq, hs, nd)))) (fun u => z_at (dC, dI) classes [(cI, .int), (cJ, .long)] A (Mw h0 qd qs qv qh qn cI cJ u)) A) ([.ref h0].toArray) s 0 0 A) (F0 m 49 ls []) := by
    intro n1 hg hn1 hct j
    induction j with
    | zero =>
      intro k lq1 vq1 ls H locs hk hpt hl hP hD hS
      have hkn : k = n1 := by omega
      subst hkn
      refine lv_iload_n hx hb d_M_mount_49 rfl (lv_at hl 2 rfl) ?_
      refine lv_iload_n hx hb d_M_mount_50 rfl (lv_at hl 1 rfl) ?_
      refine lv_icmp_ge (tgt := 90) hx hb d_M_mount_51 (by decide) (fun _ => ?_) (fun h9 => absurd ((nI_leI (by omega) (by omega)).mpr (by omega)) h9)
      refine lv_aload_n hx hb d_M_mount_90 rfl (lv_at hl 0 rfl) ?_
      refine lv_iload_n hx hb d_M_mount_91 rfl (lv_at hl 1 rfl) ?_
      refine va_put (D := (dC, dI)) (ci := 1) (v := .int (nI k)) (ty := .int) (C := R_M) (T := F_M) (N := 15) hx hb hts lay_M t_M t_M_ok n_M hown hK hP hD hS 0 rfl rfl 9 (by decide) (hts _ m_279) (fun _ h9 => h9) rfl (by decide +kernel) rfl rfl (Nat.le_of_ble_eq_true rfl) d_M_mount_92 (fun H locs hP hD hS => ?_)
      have hP : va_P (dC, dI) classes (Mw h0 qd qs qv qh qn cI cJ (dk, hf, gn, rt, ct, true, sl, sm, cu, k, lk, lq1, vq1, hs, nd)) H := hP
      have hD : va_D A (Mw h0 qd qs qv qh qn cI cJ (dk, hf, gn, rt, ct, true, sl, sm, cu, k, lk, lq1, vq1, hs, nd)) := hD
      refine lv_aload_n hx hb d_M_mount_95 rfl (lv_at hl 0 rfl) ?_
      refine lv_aload_n hx hb d_M_mount_96 rfl (lv_at hl 0 rfl) ?_
      refine lv_iload_n hx hb d_M_mount_97 rfl (lv_at hl 1 rfl) ?_
      refine vp_callSi (W.runV (C := R_M) (b := h0) (As := [.int (nI k)]) (rest := [.ref h0]) ⟨hx, hb, hml, hown, hts⟩ (mc_chain l dC dI h0 qd qs qv qh qn cI cJ _ dk hf gn rt ct true sl sm cu k lk lq1 vq1 hs nd k (by omega) (by omega)) (cwV 1 hts g_M_90 rfl rfl rfl (by decide +kernel) ⟨(Nat.le_of_ble_eq_true rfl), (Nat.le_of_ble_eq_true rfl)⟩) (z_preV (va_recv (q0 := 0) hK hP rfl rfl) hP hK hD) rfl rfl hl.1 rfl (lv_room (Nat.le_of_ble_eq_true rfl)) d_M_mount_98 ⟨(Nat.le_of_ble_eq_true rfl), (Nat.le_of_ble_eq_true rfl)⟩) (fun r hr0 => ?_)
      subst hr0
      refine va_put (D := (dC, dI)) (ci := 1) (v := .int (chM dk hf k 0 (dg (dg 19088743 rt) gn))) (ty := .int) (C := R_M) (T := F_M) (N := 15) hx hb hts lay_M t_M t_M_ok n_M hown hK hP hD hS 0 rfl rfl 10 (by decide) (hts _ m_280) (fun _ h9 => h9) rfl (by decide +kernel) rfl rfl (Nat.le_of_ble_eq_true rfl) d_M_mount_101 (fun H locs hP hD hS => ?_)
      have hP : va_P (dC, dI) classes (Mw h0 qd qs qv qh qn cI cJ (dk, hf, gn, rt, ct, true, sl, sm, cu, k, chM dk hf k 0 (dg (dg 19088743 rt) gn), lq1, vq1, hs, nd)) H := hP
      have hD : va_D A (Mw h0 qd qs qv qh qn cI cJ (dk, hf, gn, rt, ct, true, sl, sm, cu, k, chM dk hf k 0 (dg (dg 19088743 rt) gn), lq1, vq1, hs, nd)) := hD
      refine lv_iload_n hx hb d_M_mount_104 rfl (lv_at hl 1 rfl) ?_
      exact W.iret hx hb hr (fun t ht hW => ⟨⟨nI k, (dk, hf, gn, rt, ct, true, sl, sm, cu, k, chM dk hf k 0 (dg (dg 19088743 rt) gn), lq1, vq1, hs, nd), rfl, ⟨_, hg, hn1, Or.inl ⟨hct, rfl, _, _, hpt, rfl⟩⟩, by rw [ht]; exact hP, va_K.moved hW.alike hK, hD⟩, hS.F ht⟩) hS.2.2 d_M_mount_105
    | succ j ih =>
      intro k lq1 vq1 ls H locs hk hpt hl hP hD hS
      refine lv_iload_n hx hb d_M_mount_49 rfl (lv_at hl 2 rfl) ?_
      refine lv_iload_n hx hb d_M_mount_50 rfl (lv_at hl 1 rfl) ?_
      refine lv_icmp_ge (tgt := 90) hx hb d_M_mount_51 (by decide) (fun h9 => absurd h9 (fun q => absurd ((nI_leI (by omega) (by omega)).mp q) (by omega))) (fun _ => ?_)
      refine lv_aload_n hx hb d_M_mount_54 rfl (lv_at hl 0 rfl) ?_
      refine va_get (D := (dC, dI)) (ci := 1) (v := .ref qs) (C := R_M) (T := F_M) (N := 15) hx hb hts lay_M hown hK hP 0 rfl rfl 11 (by decide) (hts _ m_281) (fun _ h9 => h9) rfl d_M_mount_55 ?_
      refine lv_iload_n hx hb d_M_mount_58 rfl (lv_at hl 2 rfl) ?_
      refine lv_aload_n hx hb d_M_mount_59 rfl (lv_at hl 0 rfl) ?_
      refine lv_aload_n hx hb d_M_mount_60 rfl (lv_at hl 0 rfl) ?_
      refine lv_iload_n hx hb d_M_mount_61 rfl (lv_at hl 2 rfl) ?_
      refine vp_callSi (W.runV (C := R_M) (b := h0) (As := [.int (nI k)]) (rest := [.ref h0, .int (nI k), .ref qs]) ⟨hx, hb, hml, hown, hts⟩ (mc_entryAt l dC dI h0 qd qs qv qh qn cI cJ _ dk hf gn rt ct true sl sm cu 0 lk lq1 vq1 hs nd k) (cwV 1 hts g_M_79 rfl rfl rfl (by decide +kernel) ⟨(Nat.le_of_ble_eq_true rfl), (Nat.le_of_ble_eq_true rfl)⟩) (z_preV (va_recv (q0 := 0) hK hP rfl rfl) hP hK hD) rfl rfl hl.1 rfl (lv_room (Nat.le_of_ble_eq_true rfl)) d_M_mount_62 ⟨(Nat.le_of_ble_eq_true rfl), (Nat.le_of_ble_eq_true rfl)⟩) (fun r hr0 => ?_)
      subst hr0
      refine lv_aload_n hx hb d_M_mount_65 rfl (lv_at hl 0 rfl) ?_
      refine va_get (D := (dC, dI)) (ci := 1) (v := .int gn) (C := R_M) (T := F_M) (N := 15) hx hb hts lay_M hown hK hP 0 rfl rfl 2 (by decide) (hts _ m_272) (fun _ h9 => h9) rfl d_M_mount_66 ?_
      refine vp_callSi (W.runV (C := R_M) (b := h0) (As := [.int (nI (51 * hf + 31 + 4 * k)), .int gn]) (rest := [.int (nI k), .ref qs]) ⟨hx, hb, hml, hown, hts⟩ (mc_clear l dC dI h0 qd qs qv qh qn cI cJ _ dk hf gn rt ct true sl sm cu 0 lk lq1 vq1 hs nd (51 * hf + 31 + 4 * k) gn (by omega)) (cwV 2 hts g_M_83 rfl rfl rfl (by decide +kernel) ⟨(Nat.le_of_ble_eq_true rfl), (Nat.le_of_ble_eq_true rfl)⟩) (z_preV (va_recv (q0 := 0) hK hP rfl rfl) hP hK hD) rfl rfl hl.1 rfl (lv_room (Nat.le_of_ble_eq_true rfl)) d_M_mount_69 ⟨(Nat.le_of_ble_eq_true rfl), (Nat.le_of_ble_eq_true rfl)⟩) (fun r hr0 => ?_)
      subst hr0
      refine z_iast hx hb hK hP hD hS 2 0 rfl rfl (by omega) (by decide) d_M_mount_72 (fun H locs hP hD hS => ?_)
      have hP : va_P (dC, dI) classes (Mw h0 qd qs qv qh qn cI cJ (dk, hf, gn, rt, ct, true, sl, sm, cu, 0, lk, upd lq1 k (enc (dk (51 * hf + 31 + 4 * k)) (nI (51 * hf + 31 + 4 * k)) gn), vq1, hs, nd)) H := hP
      have hD : va_D A (Mw h0 qd qs qv qh qn cI cJ (dk, hf, gn, rt, ct, true, sl, sm, cu, 0, lk, upd lq1 k (enc (dk (51 * hf + 31 + 4 * k)) (nI (51 * hf + 31 + 4 * k)) gn), vq1, hs, nd)) := hD
      refine lv_aload_n hx hb d_M_mount_73 rfl (lv_at hl 0 rfl) ?_
      refine va_get (D := (dC, dI)) (ci := 1) (v := .ref qv) (C := R_M) (T := F_M) (N := 15) hx hb hts lay_M hown hK hP 0 rfl rfl 12 (by decide) (hts _ m_282) (fun _ h9 => h9) rfl d_M_mount_74 ?_
      refine lv_iload_n hx hb d_M_mount_77 rfl (lv_at hl 2 rfl) ?_
      refine lv_aload_n hx hb d_M_mount_78 rfl (lv_at hl 0 rfl) ?_
      refine lv_iload_n hx hb d_M_mount_79 rfl (lv_at hl 2 rfl) ?_
      refine vp_callSl (W.runV (C := R_M) (b := h0) (As := [.int (nI k)]) (rest := [.int (nI k), .ref qv]) ⟨hx, hb, hml, hown, hts⟩ (mc_recorded l dC dI h0 qd qs qv qh qn cI cJ _ dk hf gn rt ct true sl sm cu 0 lk (upd lq1 k (enc (dk (51 * hf + 31 + 4 * k)) (nI (51 * hf + 31 + 4 * k)) gn)) vq1 hs nd k (by omega) (by omega)) (cwV 1 hts g_M_93 rfl rfl rfl (by decide +kernel) ⟨(Nat.le_of_ble_eq_true rfl), (Nat.le_of_ble_eq_true rfl)⟩) (z_preV (va_recv (q0 := 0) hK hP rfl rfl) hP hK hD) rfl rfl hl.1 rfl (lv_room (Nat.le_of_ble_eq_true rfl)) d_M_mount_80 ⟨(Nat.le_of_ble_eq_true rfl), (Nat.le_of_ble_eq_true rfl)⟩) (fun r hr0 => ?_)
      subst hr0
      refine z_last hx hb hK hP hD hS 3 1 rfl rfl (by omega) (by decide) d_M_mount_83 (fun H locs hP hD hS => ?_)
      have hP : va_P (dC, dI) classes (Mw h0 qd qs qv qh qn cI cJ (dk, hf, gn, rt, ct, true, sl, sm, cu, 0, lk, upd lq1 k (enc (dk (51 * hf + 31 + 4 * k)) (nI (51 * hf + 31 + 4 * k)) gn), vp_updL vq1 k (vat dk gn (51 * hf + 31 + 4 * k + 1)), hs, nd)) H := hP
      have hD : va_D A (Mw h0 qd qs qv qh qn cI cJ (dk, hf, gn, rt, ct, true, sl, sm, cu, 0, lk, upd lq1 k (enc (dk (51 * hf + 31 + 4 * k)) (nI (51 * hf + 31 + 4 * k)) gn), vp_updL vq1 k (vat dk gn (51 * hf + 31 + 4 * k + 1)), hs, nd)) := hD
      refine lv_iinc (k := 2) hx hb d_M_mount_84 hl rfl (z_inc _ 1) (by decide) rfl (fun ls hl => ?_)
      have hl : lv_has ls 3 [(2, .int (nI (k + 1))), (0, .ref h0), (1, .int (nI n1))] := hl
      refine lv_goto (tgt := 49) hx hb d_M_mount_87 (by decide) ?_
      exact ih (k + 1) _ _ ls _ _ (by omega) (z_pt2 hpt) (lv_sub hl [1, 2, 0] rfl) hP hD hS
  have rest : ∀ (n1 : Nat) (ls : Array Slot), gct dk hf gn (dg (dg 19088743 rt) gn) 5 0 = n1 → n1 ≤ 5 → lv_has ls 3 [(0, .ref h0), (1, .int (nI n1))] → W p l e (headSpec w_M_mount ({ frames := 5, cells := 0, slots := 0, locals := 112 })).room s m ([.ref h0].toArray) below meth c s.heap [] 0 0 (MQ below (va_Qi (fun (r : Int32) (u : MS) => ∃ (n1 : Nat), gct dk hf gn (dg (dg 19088743 rt) gn) 5 0 = n1 ∧ n1 ≤ 5 ∧ ((ct ≤ nI n1 ∧ r = nI n1 ∧ ∃ (lq1 : Nat → Int32) (vq1 : Nat → Int64), (∀ i, i < n1 → lq1 i = enc (dk (51 * hf + 31 + 4 * i)) (nI (51 * hf + 31 + 4 * i)) gn ∧ vq1 i = vat dk gn (51 * hf + 31 + 4 * i + 1)) ∧ u = (dk, hf, gn, rt, ct, true, sl, sm, cu, n1, chM dk hf n1 0 (dg (dg 19088743 rt) gn), lq1, vq1, hs, nd)) ∨ (¬ ct ≤ nI n1 ∧ r = -3 ∧ u = (dk, hf, gn, rt, ct, false, sl, sm, cu, 0, lk, lq, vq, hs, nd)))) (fun u => z_at (dC, dI) classes [(cI, .int), (cJ, .long)] A (Mw h0 qd qs qv qh qn cI cJ u)) A) ([.ref h0].toArray) s 0 0 A) (F0 m 21 ls []) := by
    intro n1 ls hg hn1 hl
    refine lv_aload_n hx hb d_M_mount_21 rfl (lv_at hl 0 rfl) ?_
    refine lv_iconst (v := nI 0) hx hb d_M_mount_22 (by decide) ?_
    refine va_put (D := (dC, dI)) (ci := 1) (v := .int (nI 0)) (ty := .int) (C := R_M) (T := F_M) (N := 15) hx hb hts lay_M t_M t_M_ok n_M hown hK hP hD hS 0 rfl rfl 9 (by decide) (hts _ m_279) (fun _ h9 => h9) rfl (by decide +kernel) rfl rfl (Nat.le_of_ble_eq_true rfl) d_M_mount_23 (fun H locs hP hD hS => ?_)
    have hP : va_P (dC, dI) classes (Mw h0 qd qs qv qh qn cI cJ (dk, hf, gn, rt, ct, pw, sl, sm, cu, 0, lk, lq, vq, hs, nd)) H := hP
    have hD : va_D A (Mw h0 qd qs qv qh qn cI cJ (dk, hf, gn, rt, ct, pw, sl, sm, cu, 0, lk, lq, vq, hs, nd)) := hD
    refine lv_iload_n hx hb d_M_mount_26 rfl (lv_at hl 1 rfl) ?_
    refine lv_aload_n hx hb d_M_mount_27 rfl (lv_at hl 0 rfl) ?_
    refine va_get (D := (dC, dI)) (ci := 1) (v := .int ct) (C := R_M) (T := F_M) (N := 15) hx hb hts lay_M hown hK hP 0 rfl rfl 4 (by decide) (hts _ m_274) (fun _ h9 => h9) rfl d_M_mount_28 ?_
    refine lv_icmp_ge (tgt := 42) hx hb d_M_mount_31 (by decide) (fun h1 => ?_) (fun h1 => ?_)
    · refine lv_aload_n hx hb d_M_mount_42 rfl (lv_at hl 0 rfl) ?_
      refine lv_iconst (v := (1 : Int32)) hx hb d_M_mount_43 (by decide) ?_
      refine va_put (D := (dC, dI)) (ci := 1) (v := .int (1 : Int32)) (ty := .boolean) (C := R_M) (T := F_M) (N := 15) hx hb hts lay_M t_M t_M_ok n_M hown hK hP hD hS 0 rfl rfl 5 (by decide) (hts _ m_275) (fun _ h9 => h9) rfl (by decide +kernel) rfl rfl (Nat.le_of_ble_eq_true rfl) d_M_mount_44 (fun H locs hP hD hS => ?_)
      have hP : va_P (dC, dI) classes (Mw h0 qd qs qv qh qn cI cJ (dk, hf, gn, rt, ct, true, sl, sm, cu, 0, lk, lq, vq, hs, nd)) H := hP
      have hD : va_D A (Mw h0 qd qs qv qh qn cI cJ (dk, hf, gn, rt, ct, true, sl, sm, cu, 0, lk, lq, vq, hs, nd)) := hD
      refine lv_iconst (v := nI 0) hx hb d_M_mount_47 (by decide) ?_
      refine lv_istore_n hx hb d_M_mount_48 rfl hl (by decide) rfl (fun ls hl => ?_)
      have hl : lv_has ls 3 [(2, .int (nI 0)), (0, .ref h0), (1, .int (nI n1))] := hl
      exact loop2 n1 hg hn1 h1 n1 0 _ _ ls _ _ (by omega) (fun i hi => absurd hi (by omega)) (lv_sub hl [1, 2, 0] rfl) hP hD hS
    · refine lv_aload_n hx hb d_M_mount_34 rfl (lv_at hl 0 rfl) ?_
      refine lv_iconst (v := (0 : Int32)) hx hb d_M_mount_35 (by decide) ?_
      refine va_put (D := (dC, dI)) (ci := 1) (v := .int (0 : Int32)) (ty := .boolean) (C := R_M) (T := F_M) (N := 15) hx hb hts lay_M t_M t_M_ok n_M hown hK hP hD hS 0 rfl rfl 5 (by decide) (hts _ m_275) (fun _ h9 => h9) rfl (by decide +kernel) rfl rfl (Nat.le_of_ble_eq_true rfl) d_M_mount_36 (fun H locs hP hD hS => ?_)
      have hP : va_P (dC, dI) classes (Mw h0 qd qs qv qh qn cI cJ (dk, hf, gn, rt, ct, false, sl, sm, cu, 0, lk, lq, vq, hs, nd)) H := hP
      have hD : va_D A (Mw h0 qd qs qv qh qn cI cJ (dk, hf, gn, rt, ct, false, sl, sm, cu, 0, lk, lq, vq, hs, nd)) := hD
      refine lv_bipush (v := (-3 : Int32)) hx hb d_M_mount_39 (by decide) ?_
      exact W.iret hx hb hr (fun t ht hW => ⟨⟨(-3 : Int32), (dk, hf, gn, rt, ct, false, sl, sm, cu, 0, lk, lq, vq, hs, nd), rfl, ⟨_, hg, hn1, Or.inr ⟨h1, rfl, rfl⟩⟩, by rw [ht]; exact hP, va_K.moved hW.alike hK, hD⟩, hS.F ht⟩) hS.2.2 d_M_mount_41
  have loop1 : ∀ (j k : Nat) (ls : Array Slot), k + j = 5 → lv_has ls 3 [(0, .ref h0), (1, .int (nI k))] → gct dk hf gn (dg (dg 19088743 rt) gn) j k = gct dk hf gn (dg (dg 19088743 rt) gn) 5 0 → W p l e (headSpec w_M_mount ({ frames := 5, cells := 0, slots := 0, locals := 112 })).room s m ([.ref h0].toArray) below meth c s.heap [] 0 0 (MQ below (va_Qi (fun (r : Int32) (u : MS) => ∃ (n1 : Nat), gct dk hf gn (dg (dg 19088743 rt) gn) 5 0 = n1 ∧ n1 ≤ 5 ∧ ((ct ≤ nI n1 ∧ r = nI n1 ∧ ∃ (lq1 : Nat → Int32) (vq1 : Nat → Int64), (∀ i, i < n1 → lq1 i = enc (dk (51 * hf + 31 + 4 * i)) (nI (51 * hf + 31 + 4 * i)) gn ∧ vq1 i = vat dk gn (51 * hf + 31 + 4 * i + 1)) ∧ u = (dk, hf, gn, rt, ct, true, sl, sm, cu, n1, chM dk hf n1 0 (dg (dg 19088743 rt) gn), lq1, vq1, hs, nd)) ∨ (¬ ct ≤ nI n1 ∧ r = -3 ∧ u = (dk, hf, gn, rt, ct, false, sl, sm, cu, 0, lk, lq, vq, hs, nd)))) (fun u => z_at (dC, dI) classes [(cI, .int), (cJ, .long)] A (Mw h0 qd qs qv qh qn cI cJ u)) A) ([.ref h0].toArray) s 0 0 A) (F0 m 2 ls []) := by
    intro j
    induction j with
    | zero =>
      intro k ls hk hl hF
      refine lv_iload_n hx hb d_M_mount_2 rfl (lv_at hl 1 rfl) ?_
      refine lv_iconst (v := nI 5) hx hb d_M_mount_3 (by decide) ?_
      refine lv_icmp_ge (tgt := 21) hx hb d_M_mount_4 (by decide) (fun _ => ?_) (fun h9 => absurd ((nI_leI (by omega) (by omega)).mpr (by omega)) h9)
      exact rest k ls hF.symm (by omega) (lv_sub hl [0, 1] rfl)
    | succ j ih =>
      intro k ls hk hl hF
      by_cases hg : jgood dk hf gn (chM dk hf k 0 (dg (dg 19088743 rt) gn)) k
      · refine lv_iload_n hx hb d_M_mount_2 rfl (lv_at hl 1 rfl) ?_
        refine lv_iconst (v := nI 5) hx hb d_M_mount_3 (by decide) ?_
        refine lv_icmp_ge (tgt := 21) hx hb d_M_mount_4 (by decide) (fun h9 => absurd h9 (fun q => absurd ((nI_leI (by omega) (by omega)).mp q) (by omega))) (fun _ => ?_)
        refine lv_aload_n hx hb d_M_mount_7 rfl (lv_at hl 0 rfl) ?_
        refine lv_iload_n hx hb d_M_mount_8 rfl (lv_at hl 1 rfl) ?_
        refine vp_callSi (W.runV (C := R_M) (b := h0) (As := [.int (nI k)]) (rest := []) ⟨hx, hb, hml, hown, hts⟩ (mc_due l dC dI h0 qd qs qv qh qn cI cJ _ dk hf gn rt ct pw sl sm cu ln lk lq vq hs nd k (by omega) (by omega)) (cwV 1 hts g_M_97 rfl rfl rfl (by decide +kernel) ⟨(Nat.le_of_ble_eq_true rfl), (Nat.le_of_ble_eq_true rfl)⟩) (z_preV (va_recv (q0 := 0) hK hP rfl rfl) hP hK hD) rfl rfl hl.1 rfl (lv_room (Nat.le_of_ble_eq_true rfl)) d_M_mount_9 ⟨(Nat.le_of_ble_eq_true rfl), (Nat.le_of_ble_eq_true rfl)⟩) (fun r hr0 => ?_)
        subst hr0
        refine lv_if_eq (tgt := 21) hx hb d_M_mount_12 (by decide) (fun h9 => absurd h9 (by rw [if_pos hg]; decide)) (fun _ => ?_)
        refine lv_iinc (k := 1) hx hb d_M_mount_15 hl rfl (z_inc _ 1) (by decide) rfl (fun ls hl => ?_)
        have hl : lv_has ls 3 [(1, .int (nI (k + 1))), (0, .ref h0)] := hl
        refine lv_goto (tgt := 2) hx hb d_M_mount_18 (by decide) ?_
        exact ih (k + 1) ls (by omega) (lv_sub hl [1, 0] rfl) (by rw [← hF, gct, if_pos hg])
      · refine lv_iload_n hx hb d_M_mount_2 rfl (lv_at hl 1 rfl) ?_
        refine lv_iconst (v := nI 5) hx hb d_M_mount_3 (by decide) ?_
        refine lv_icmp_ge (tgt := 21) hx hb d_M_mount_4 (by decide) (fun h9 => absurd h9 (fun q => absurd ((nI_leI (by omega) (by omega)).mp q) (by omega))) (fun _ => ?_)
        refine lv_aload_n hx hb d_M_mount_7 rfl (lv_at hl 0 rfl) ?_
        refine lv_iload_n hx hb d_M_mount_8 rfl (lv_at hl 1 rfl) ?_
        refine vp_callSi (W.runV (C := R_M) (b := h0) (As := [.int (nI k)]) (rest := []) ⟨hx, hb, hml, hown, hts⟩ (mc_due l dC dI h0 qd qs qv qh qn cI cJ _ dk hf gn rt ct pw sl sm cu ln lk lq vq hs nd k (by omega) (by omega)) (cwV 1 hts g_M_97 rfl rfl rfl (by decide +kernel) ⟨(Nat.le_of_ble_eq_true rfl), (Nat.le_of_ble_eq_true rfl)⟩) (z_preV (va_recv (q0 := 0) hK hP rfl rfl) hP hK hD) rfl rfl hl.1 rfl (lv_room (Nat.le_of_ble_eq_true rfl)) d_M_mount_9 ⟨(Nat.le_of_ble_eq_true rfl), (Nat.le_of_ble_eq_true rfl)⟩) (fun r hr0 => ?_)
        subst hr0
        refine lv_if_eq (tgt := 21) hx hb d_M_mount_12 (by decide) (fun _ => ?_) (fun h9 => absurd (if_neg hg) h9)
        exact rest k ls (by rw [← hF, gct, if_neg hg]) (by omega) (lv_sub hl [0, 1] rfl)
  refine lv_iconst (v := nI 0) hx hb d_M_mount_0 (by decide) ?_
  refine lv_istore_n hx hb d_M_mount_1 rfl hl (by decide) rfl (fun ls hl => ?_)
  have hl : lv_has ls 3 [(1, .int (nI 0)), (0, .ref h0)] := hl
  exact loop1 5 0 ls rfl (lv_sub hl [1, 0] rfl) rfl
set_option maxHeartbeats 1000000 in
set_option maxRecDepth 100000 in
theorem mc_read (l : Launch) (dC : Nat → ClassId) (dI : Nat → Nat → Nat) (h0 qd qs qv qh qn : Nat) (cI cJ : ClassId) (sz : Nat) (dk : Nat → Int32) (hf : Nat) (gn : Int32) (rt : Int32) (ct : Int32) (pw : Bool) (sl : Int32) (sm : Int32) (cu : Bool) (ln : Nat) (lk : Int32) (lq : Nat → Int32) (vq : Nat → Int64) (hs : Nat → Int64) (nd : Nat → Int32) (x0 : Int32) (h_f : hf < 2) (h_n : ln ≤ 5) : Met l y_M_read w_M_read ({ frames := 5, cells := 0, slots := 0, locals := 113 }) (va_Pc [.ref h0, .int x0] (z_pre (dC, dI) classes [(cI, .int), (cJ, .long)] (Mw h0 qd qs qv qh qn cI cJ (dk, hf, gn, rt, ct, pw, sl, sm, cu, ln, lk, lq, vq, hs, nd)) sz)) (vp_Sl (fun r => r = (if pw = true then (if isIn 8 x0 = 0 then -2 else (if lg_cmp (vofM dk hf gn rt ln lq vq x0.toNatClampNeg) 0 < 0 then -3 else vofM dk hf gn rt ln lq vq x0.toNatClampNeg)) else -1))) 0 0 (fun _ => False) := by
  refine Met.ofW (cc := b_M_read) (maxL := 4) (ret := (some .long)) (by decide) rfl ?_
  intro p e s m args below meth c s₁ B hml hv
  obtain ⟨rfl, hsz, hP, hK, hD0⟩ := hv
  have hx := B.exec
  have hb := B.bytes
  have hr := B.returns
  have hts := fun (w : Cond) (h : w ∈ lw_U) => atoms_spec (ws := w_M_read) B.pre w (List.mem_cons_of_mem _ h)
  have hown : s.vm.findClass R_M = some m.cls := findClass_of_methodNamed B.named
  have hlocks := B.notSynchronized
  subst hsz
  have hD := hD0
  have hl := lv_entry ([.ref h0, .int x0]) (n := 4) (Nat.le_of_ble_eq_true rfl)
  rw [lg_entry_eq]
  generalize (lg_sl ([.ref h0, .int x0]) ++ List.replicate (4 - (lg_sl ([.ref h0, .int x0])).length) Slot.unset).toArray = ls at hl ⊢
  have hl : lv_has ls 4 [(0, .ref h0), (1, .int x0)] := hl
  cases pw with
  | false =>
    refine lv_aload_n hx hb d_M_read_0 rfl (lv_at hl 0 rfl) ?_
    refine va_get (D := (dC, dI)) (ci := 1) (v := .int (bI false)) (C := R_M) (T := F_M) (N := 15) hx hb hts lay_M hown hK hP 0 rfl rfl 5 (by decide) (hts _ m_275) (fun _ h9 => h9) rfl d_M_read_1 ?_
    refine lv_if_ne (tgt := 11) hx hb d_M_read_4 (by decide) (fun h9 => absurd (by decide) h9) (fun _ => ?_)
    refine lv_ldc2 (v := -1) hx hb hown (hts _ m_356) d_M_read_7 ?_
    exact W.lret hx hb hr (fun t ht hW => ⟨_, rfl, rfl, ht⟩) (fun q h => by cases h) d_M_read_10
  | true =>
    by_cases h8 : isIn 8 x0 = 0
    · refine lv_aload_n hx hb d_M_read_0 rfl (lv_at hl 0 rfl) ?_
      refine va_get (D := (dC, dI)) (ci := 1) (v := .int (bI true)) (C := R_M) (T := F_M) (N := 15) hx hb hts lay_M hown hK hP 0 rfl rfl 5 (by decide) (hts _ m_275) (fun _ h9 => h9) rfl d_M_read_1 ?_
      refine lv_if_ne (tgt := 11) hx hb d_M_read_4 (by decide) (fun _ => ?_) (fun h9 => absurd h9 (by decide))
      refine lv_iload_n hx hb d_M_read_11 rfl (lv_at hl 1 rfl) ?_
      refine lv_if_lt (tgt := 21) hx hb d_M_read_12 (by decide) (fun h1 => ?_) (fun h1 => ?_)
      · refine lv_ldc2 (v := -2) hx hb hown (hts _ m_357) d_M_read_21 ?_
        exact W.lret hx hb hr (fun t ht hW => ⟨_, rfl, (by rw [if_pos rfl, if_pos h8]), ht⟩) (fun q h => by cases h) d_M_read_24
      · refine lv_iload_n hx hb d_M_read_15 rfl (lv_at hl 1 rfl) ?_
        refine lv_bipush (v := (7 : Int32)) hx hb d_M_read_16 (by decide) ?_
        refine lv_icmp_le (tgt := 25) hx hb d_M_read_18 (by decide) (fun h2 => ?_) (fun h2 => ?_)
        · exact absurd h8 (isIn_no h1 (z_le7 h2))
        · refine lv_ldc2 (v := -2) hx hb hown (hts _ m_357) d_M_read_21 ?_
          exact W.lret hx hb hr (fun t ht hW => ⟨_, rfl, (by rw [if_pos rfl, if_pos h8]), ht⟩) (fun q h => by cases h) d_M_read_24
    · obtain ⟨j, hj, rfl⟩ := isIn_of (n := 8) h8 rfl (by decide)
      refine lv_aload_n hx hb d_M_read_0 rfl (lv_at hl 0 rfl) ?_
      refine va_get (D := (dC, dI)) (ci := 1) (v := .int (bI true)) (C := R_M) (T := F_M) (N := 15) hx hb hts lay_M hown hK hP 0 rfl rfl 5 (by decide) (hts _ m_275) (fun _ h9 => h9) rfl d_M_read_1 ?_
      refine lv_if_ne (tgt := 11) hx hb d_M_read_4 (by decide) (fun _ => ?_) (fun h9 => absurd h9 (by decide))
      refine lv_iload_n hx hb d_M_read_11 rfl (lv_at hl 1 rfl) ?_
      refine lv_if_lt (tgt := 21) hx hb d_M_read_12 (by decide) (fun h9 => absurd h9 (nI_pos (by omega))) (fun _ => ?_)
      refine lv_iload_n hx hb d_M_read_15 rfl (lv_at hl 1 rfl) ?_
      refine lv_bipush (v := (7 : Int32)) hx hb d_M_read_16 (by decide) ?_
      refine lv_icmp_le (tgt := 25) hx hb d_M_read_18 (by decide) (fun _ => ?_) (fun h9 => absurd (nI_le (b := 7) (by omega) (by decide)) h9)
      refine lv_aload_n hx hb d_M_read_25 rfl (lv_at hl 0 rfl) ?_
      refine lv_iload_n hx hb d_M_read_26 rfl (lv_at hl 1 rfl) ?_
      refine vp_callSl (W.runV (C := R_M) (b := h0) (As := [.int (nI j)]) (rest := []) ⟨hx, hb, hml, hown, hts⟩ (mc_value l dC dI h0 qd qs qv qh qn cI cJ _ dk hf gn rt ct true sl sm cu ln lk lq vq hs nd j (by omega) (by omega) (by omega)) (cwV 1 hts g_M_111 rfl rfl rfl (by decide +kernel) ⟨(Nat.le_of_ble_eq_true rfl), (Nat.le_of_ble_eq_true rfl)⟩) (z_preV (va_recv (q0 := 0) hK hP rfl rfl) hP hK hD) rfl rfl hl.1 rfl (lv_room (Nat.le_of_ble_eq_true rfl)) d_M_read_27 ⟨(Nat.le_of_ble_eq_true rfl), (Nat.le_of_ble_eq_true rfl)⟩) (fun r hr0 => ?_)
      subst hr0
      refine lv_lstore_n hx hb d_M_read_30 rfl hl (by decide) rfl (fun ls hl => ?_)
      have hl : lv_has ls 4 [(2, .long (vofM dk hf gn rt ln lq vq j)), (0, .ref h0), (1, .int (nI j))] := hl
      refine lv_lload_n hx hb d_M_read_31 rfl (lv_at hl 0 rfl) ?_
      refine lv_lconst (v := 0) hx hb d_M_read_32 (by decide) ?_
      refine W.lcmp hx hb d_M_read_33 ?_
      refine lv_if_ge (tgt := 43) hx hb d_M_read_34 (by decide) (fun h3 => ?_) (fun h3 => ?_)
      · refine lv_lload_n hx hb d_M_read_43 rfl (lv_at hl 0 rfl) ?_
        exact W.lret hx hb hr (fun t ht hW => ⟨_, rfl, (by rw [if_pos rfl, if_neg h8, nI_clamp (by omega), if_neg (z_nn4 h3)]), ht⟩) (fun q h => by cases h) d_M_read_44
      · refine lv_ldc2 (v := -3) hx hb hown (hts _ m_366) d_M_read_37 ?_
        refine lv_goto (tgt := 44) hx hb d_M_read_40 (by decide) ?_
        exact W.lret hx hb hr (fun t ht hW => ⟨_, rfl, (by rw [if_pos rfl, if_neg h8, nI_clamp (by omega), if_pos (z_nn3 h3)]), ht⟩) (fun q h => by cases h) d_M_read_44
set_option maxHeartbeats 1000000 in
set_option maxRecDepth 100000 in
theorem mc_sound (l : Launch) (dC : Nat → ClassId) (dI : Nat → Nat → Nat) (h0 qd qs qv qh qn : Nat) (cI cJ : ClassId) (sz : Nat) (dk : Nat → Int32) (hf : Nat) (gn : Int32) (rt : Int32) (ct : Int32) (pw : Bool) (sl : Int32) (sm : Int32) (cu : Bool) (ln : Nat) (lk : Int32) (lq : Nat → Int32) (vq : Nat → Int64) (hs : Nat → Int64) (nd : Nat → Int32)  (h_f : hf < 2) (h_n : ln ≤ 5) : Met l y_M_sound w_M_sound ({ frames := 5, cells := 0, slots := 0, locals := 113 }) (va_Pc [.ref h0] (z_pre (dC, dI) classes [(cI, .int), (cJ, .long)] (Mw h0 qd qs qv qh qn cI cJ (dk, hf, gn, rt, ct, pw, sl, sm, cu, ln, lk, lq, vq, hs, nd)) sz)) (vp_Si (fun r => r = (if pw = true then sndM (vofM dk hf gn rt ln lq vq) 8 0 0 else -1))) 0 0 (fun _ => False) := by
  refine Met.ofW (cc := b_M_sound) (maxL := 3) (ret := (some .int)) (by decide) rfl ?_
  intro p e s m args below meth c s₁ B hml hv
  obtain ⟨rfl, hsz, hP, hK, hD0⟩ := hv
  have hx := B.exec
  have hb := B.bytes
  have hr := B.returns
  have hts := fun (w : Cond) (h : w ∈ lw_U) => atoms_spec (ws := w_M_sound) B.pre w (List.mem_cons_of_mem _ h)
  have hown : s.vm.findClass R_M = some m.cls := findClass_of_methodNamed B.named
  have hlocks := B.notSynchronized
  subst hsz
  have hD := hD0
  have hl := lv_entry ([.ref h0]) (n := 3) (Nat.le_of_ble_eq_true rfl)
  rw [lg_entry_eq]
  generalize (lg_sl ([.ref h0]) ++ List.replicate (3 - (lg_sl ([.ref h0])).length) Slot.unset).toArray = ls at hl ⊢
  have hl : lv_has ls 3 [(0, .ref h0)] := hl
  have loop : ∀ (j k : Nat) (x : Int32) (ls : Array Slot), k + j = 8 → lv_has ls 3 [(0, .ref h0), (1, .int x), (2, .int (nI k))] → sndM (vofM dk hf gn rt ln lq vq) j k x = sndM (vofM dk hf gn rt ln lq vq) 8 0 0 → W p l e (headSpec w_M_sound ({ frames := 5, cells := 0, slots := 0, locals := 113 })).room s m ([.ref h0].toArray) below meth c s.heap [] 0 0 (MQ below (vp_Si (fun r => r = (if pw = true then sndM (vofM dk hf gn rt ln lq vq) 8 0 0 else -1))) ([.ref h0].toArray) s 0 0 (fun _ => False)) (F0 m 4 ls []) := by
    intro j
    induction j with
    | zero =>
      intro k x ls hk hl hF
      have hF : x = sndM (vofM dk hf gn rt ln lq vq) 8 0 0 := hF
      rw [← hF]
      cases pw with
      | false =>
        refine lv_iload_n hx hb d_M_sound_4 rfl (lv_at hl 2 rfl) ?_
        refine lv_bipush (v := nI 8) hx hb d_M_sound_5 (by decide) ?_
        refine lv_icmp_ge (tgt := 36) hx hb d_M_sound_7 (by decide) (fun _ => ?_) (fun h9 => absurd ((nI_leI (by omega) (by omega)).mpr (by omega)) h9)
        refine lv_aload_n hx hb d_M_sound_36 rfl (lv_at hl 0 rfl) ?_
        refine va_get (D := (dC, dI)) (ci := 1) (v := .int (bI false)) (C := R_M) (T := F_M) (N := 15) hx hb hts lay_M hown hK hP 0 rfl rfl 5 (by decide) (hts _ m_275) (fun _ h9 => h9) rfl d_M_sound_37 ?_
        refine lv_if_eq (tgt := 47) hx hb d_M_sound_40 (by decide) (fun _ => ?_) (fun h9 => absurd (by decide) h9)
        refine lv_iconst (v := (-1 : Int32)) hx hb d_M_sound_47 (by decide) ?_
        exact W.iret hx hb hr (fun t ht hW => ⟨_, rfl, rfl, ht⟩) (fun q h => by cases h) d_M_sound_48
      | true =>
        refine lv_iload_n hx hb d_M_sound_4 rfl (lv_at hl 2 rfl) ?_
        refine lv_bipush (v := nI 8) hx hb d_M_sound_5 (by decide) ?_
        refine lv_icmp_ge (tgt := 36) hx hb d_M_sound_7 (by decide) (fun _ => ?_) (fun h9 => absurd ((nI_leI (by omega) (by omega)).mpr (by omega)) h9)
        refine lv_aload_n hx hb d_M_sound_36 rfl (lv_at hl 0 rfl) ?_
        refine va_get (D := (dC, dI)) (ci := 1) (v := .int (bI true)) (C := R_M) (T := F_M) (N := 15) hx hb hts lay_M hown hK hP 0 rfl rfl 5 (by decide) (hts _ m_275) (fun _ h9 => h9) rfl d_M_sound_37 ?_
        refine lv_if_eq (tgt := 47) hx hb d_M_sound_40 (by decide) (fun h9 => absurd h9 (by decide)) (fun _ => ?_)
        refine lv_iload_n hx hb d_M_sound_43 rfl (lv_at hl 1 rfl) ?_
        refine lv_goto (tgt := 48) hx hb d_M_sound_44 (by decide) ?_
        exact W.iret hx hb hr (fun t ht hW => ⟨_, rfl, rfl, ht⟩) (fun q h => by cases h) d_M_sound_48
    | succ j ih =>
      intro k x ls hk hl hF
      refine lv_iload_n hx hb d_M_sound_4 rfl (lv_at hl 2 rfl) ?_
      refine lv_bipush (v := nI 8) hx hb d_M_sound_5 (by decide) ?_
      refine lv_icmp_ge (tgt := 36) hx hb d_M_sound_7 (by decide) (fun h9 => absurd h9 (fun q => absurd ((nI_leI (by omega) (by omega)).mp q) (by omega))) (fun _ => ?_)
      refine lv_aload_n hx hb d_M_sound_10 rfl (lv_at hl 0 rfl) ?_
      refine lv_iload_n hx hb d_M_sound_11 rfl (lv_at hl 2 rfl) ?_
      refine vp_callSl (W.runV (C := R_M) (b := h0) (As := [.int (nI k)]) (rest := []) ⟨hx, hb, hml, hown, hts⟩ (mc_value l dC dI h0 qd qs qv qh qn cI cJ _ dk hf gn rt ct pw sl sm cu ln lk lq vq hs nd k (by omega) (by omega) (by omega)) (cwV 1 hts g_M_111 rfl rfl rfl (by decide +kernel) ⟨(Nat.le_of_ble_eq_true rfl), (Nat.le_of_ble_eq_true rfl)⟩) (z_preV (va_recv (q0 := 0) hK hP rfl rfl) hP hK hD) rfl rfl hl.1 rfl (lv_room (Nat.le_of_ble_eq_true rfl)) d_M_sound_12 ⟨(Nat.le_of_ble_eq_true rfl), (Nat.le_of_ble_eq_true rfl)⟩) (fun r hr0 => ?_)
      subst hr0
      refine lv_lconst (v := 0) hx hb d_M_sound_15 (by decide) ?_
      refine W.lcmp hx hb d_M_sound_16 ?_
      refine lv_if_ge (tgt := 24) hx hb d_M_sound_17 (by decide) (fun h1 => ?_) (fun h1 => ?_)
      · refine lv_iload_n hx hb d_M_sound_24 rfl (lv_at hl 1 rfl) ?_
        refine lv_iconst (v := (1 : Int32)) hx hb d_M_sound_25 (by decide) ?_
        refine lv_iload_n hx hb d_M_sound_26 rfl (lv_at hl 2 rfl) ?_
        refine lv_ishl hx hb d_M_sound_27 ?_
        refine lv_ior hx hb d_M_sound_28 ?_
        refine lv_istore_n hx hb d_M_sound_29 rfl hl (by decide) rfl (fun ls hl => ?_)
        have hl : lv_has ls 3 [(1, .int (x ||| ((1 : Int32) <<< ((nI k) &&& 31)))), (0, .ref h0), (2, .int (nI k))] := hl
        refine lv_iinc (k := 2) hx hb d_M_sound_30 hl rfl (z_inc _ 1) (by decide) rfl (fun ls hl => ?_)
        have hl : lv_has ls 3 [(2, .int (nI (k + 1))), (1, .int (x ||| ((1 : Int32) <<< ((nI k) &&& 31)))), (0, .ref h0)] := hl
        refine lv_goto (tgt := 4) hx hb d_M_sound_33 (by decide) ?_
        exact ih (k + 1) _ ls (by omega) (lv_sub hl [2, 1, 0] rfl) (by rw [← hF, sndM, if_neg (z_nn4 h1)])
      · refine lv_iload_n hx hb d_M_sound_20 rfl (lv_at hl 1 rfl) ?_
        refine lv_goto (tgt := 29) hx hb d_M_sound_21 (by decide) ?_
        refine lv_istore_n hx hb d_M_sound_29 rfl hl (by decide) rfl (fun ls hl => ?_)
        have hl : lv_has ls 3 [(1, .int x), (0, .ref h0), (2, .int (nI k))] := hl
        refine lv_iinc (k := 2) hx hb d_M_sound_30 hl rfl (z_inc _ 1) (by decide) rfl (fun ls hl => ?_)
        have hl : lv_has ls 3 [(2, .int (nI (k + 1))), (1, .int x), (0, .ref h0)] := hl
        refine lv_goto (tgt := 4) hx hb d_M_sound_33 (by decide) ?_
        exact ih (k + 1) _ ls (by omega) (lv_sub hl [2, 1, 0] rfl) (by rw [← hF, sndM, if_pos (z_nn3 h1)])
  refine lv_iconst (v := (0 : Int32)) hx hb d_M_sound_0 (by decide) ?_
  refine lv_istore_n hx hb d_M_sound_1 rfl hl (by decide) rfl (fun ls hl => ?_)
  have hl : lv_has ls 3 [(1, .int (0 : Int32)), (0, .ref h0)] := hl
  refine lv_iconst (v := nI 0) hx hb d_M_sound_2 (by decide) ?_
  refine lv_istore_n hx hb d_M_sound_3 rfl hl (by decide) rfl (fun ls hl => ?_)
  have hl : lv_has ls 3 [(2, .int (nI 0)), (1, .int (0 : Int32)), (0, .ref h0)] := hl
  exact loop 8 0 _ ls rfl (lv_sub hl [2, 1, 0] rfl) rfl
set_option maxHeartbeats 1000000 in
set_option maxRecDepth 100000 in
theorem mc_change (l : Launch) (dC : Nat → ClassId) (dI : Nat → Nat → Nat) (h0 qd qs qv qh qn : Nat) (cI cJ : ClassId) (sz : Nat) (dk : Nat → Int32) (hf : Nat) (gn : Int32) (rt : Int32) (ct : Int32) (pw : Bool) (sl : Int32) (sm : Int32) (ln : Nat) (lk : Int32) (lq : Nat → Int32) (vq : Nat → Int64) (hs : Nat → Int64) (nd : Nat → Int32)  (h_f : hf < 2) (h_n : ln ≤ 5) : Met l y_M_change w_M_change ({ frames := 5, cells := 0, slots := 0, locals := 113 }) (va_Pc [.ref h0] (z_pre (dC, dI) classes [(cI, .int), (cJ, .long)] (Mw h0 qd qs qv qh qn cI cJ (dk, hf, gn, rt, ct, pw, sl, sm, false, ln, lk, lq, vq, hs, nd)) sz)) (va_Qi (fun (r : Int32) (u : MS) => chgP dk hf gn rt ct pw sl sm ln lk lq vq hs nd r u) (fun u => z_at (dC, dI) classes [(cI, .int), (cJ, .long)] (va_A (Mw h0 qd qs qv qh qn cI cJ (dk, hf, gn, rt, ct, pw, sl, sm, false, ln, lk, lq, vq, hs, nd)) sz) (Mw h0 qd qs qv qh qn cI cJ u)) (va_A (Mw h0 qd qs qv qh qn cI cJ (dk, hf, gn, rt, ct, pw, sl, sm, false, ln, lk, lq, vq, hs, nd)) sz)) 0 0 (va_A (Mw h0 qd qs qv qh qn cI cJ (dk, hf, gn, rt, ct, pw, sl, sm, false, ln, lk, lq, vq, hs, nd)) sz) := by
  refine Met.ofW (cc := b_M_change) (maxL := 6) (ret := (some .int)) (by decide) rfl ?_
  intro p e s m args below meth c s₁ B hml hv
  obtain ⟨rfl, hsz, hP, hK, hD0⟩ := hv
  have hx := B.exec
  have hb := B.bytes
  have hr := B.returns
  have hts := fun (w : Cond) (h : w ∈ lw_U) => atoms_spec (ws := w_M_change) B.pre w (List.mem_cons_of_mem _ h)
  have hown : s.vm.findClass R_M = some m.cls := findClass_of_methodNamed B.named
  have hlocks := B.notSynchronized
  subst hsz
  have hD := hD0.self (sz := s.heap.size)
  generalize hAe : va_A (Mw h0 qd qs qv qh qn cI cJ (dk, hf, gn, rt, ct, pw, sl, sm, false, ln, lk, lq, vq, hs, nd)) s.heap.size = A at hD ⊢
  have hA : ∀ q : Nat, s.heap.size ≤ q → A q := fun q h => by rw [← hAe]; exact Or.inr h
  have hS : va_S A s.heap s.heap [] := va_S.rf
  have hP : va_P (dC, dI) classes (Mw h0 qd qs qv qh qn cI cJ (dk, hf, gn, rt, ct, pw, sl, sm, false, ln, lk, lq, vq, hs, nd)) s.heap := hP
  have hl := lv_entry ([.ref h0]) (n := 6) (Nat.le_of_ble_eq_true rfl)
  rw [lg_entry_eq]
  generalize (lg_sl ([.ref h0]) ++ List.replicate (6 - (lg_sl ([.ref h0])).length) Slot.unset).toArray = ls at hl ⊢
  have hl : lv_has ls 6 [(0, .ref h0)] := hl
  have loops : alB (vofM dk hf gn rt ln lq vq) 8 0 true = true → ∀ hs1 : Nat → Int64, (∀ i, i < 8 → hs1 i = vofM dk hf gn rt ln lq vq i) → ∀ (ls : Array Slot) (H : Heap) (locs : List Loc), lv_has ls 6 [(0, .ref h0)] → va_P (dC, dI) classes (Mw h0 qd qs qv qh qn cI cJ (dk, hf, gn, rt, ct, pw, sl, sm, false, ln, lk, lq, vq, hs1, nd)) H → va_D A (Mw h0 qd qs qv qh qn cI cJ (dk, hf, gn, rt, ct, pw, sl, sm, false, ln, lk, lq, vq, hs1, nd)) → va_S A s.heap H locs → W p l e (headSpec w_M_change ({ frames := 5, cells := 0, slots := 0, locals := 113 })).room s m ([.ref h0].toArray) below meth c H locs 0 0 (MQ below (va_Qi (fun (r : Int32) (u : MS) => chgP dk hf gn rt ct pw sl sm ln lk lq vq hs nd r u) (fun u => z_at (dC, dI) classes [(cI, .int), (cJ, .long)] A (Mw h0 qd qs qv qh qn cI cJ u)) A) ([.ref h0].toArray) s 0 0 A) (F0 m 55 ls []) := by
    intro hall hs1 hh
    have loop4 : ∀ (n0 : Nat → Int32), n0 = mND (vofM dk hf gn rt ln lq vq) (1 - hf) (gn + 1) (true, (dk, sl, sm)) nd → ∀ (k : Nat) (q0 : Bool × M3) (ls : Array Slot) (H : Heap) (locs : List Loc), k ≤ 15 → lv_has ls 6 [(0, .ref h0), (2, .int (nI (1 - hf))), (3, .int (gn + 1)), (4, .int (nI k))] → va_P (dC, dI) classes (Mw h0 qd qs qv qh qn cI cJ (mS q0 hf gn rt ct pw ln lk lq vq hs1 n0)) H → va_D A (Mw h0 qd qs qv qh qn cI cJ (mS q0 hf gn rt ct pw ln lk lq vq hs1 n0)) → va_S A s.heap H locs → msn n0 (1 - hf) k q0 = mQ4 (vofM dk hf gn rt ln lq vq) (1 - hf) (gn + 1) (true, (dk, sl, sm)) nd → W p l e (headSpec w_M_change ({ frames := 5, cells := 0, slots := 0, locals := 113 })).room s m ([.ref h0].toArray) below meth c H locs 0 0 (MQ below (va_Qi (fun (r : Int32) (u : MS) => chgP dk hf gn rt ct pw sl sm ln lk lq vq hs nd r u) (fun u => z_at (dC, dI) classes [(cI, .int), (cJ, .long)] A (Mw h0 qd qs qv qh qn cI cJ u)) A) ([.ref h0].toArray) s 0 0 A) (F0 m 187 ls []) := by
      intro n0 hn0 k
      induction k with
      | zero =>
        intro q0 ls H locs hk hl hP hD hS hF
        have hF : q0 = mQ4 (vofM dk hf gn rt ln lq vq) (1 - hf) (gn + 1) (true, (dk, sl, sm)) nd := hF
        refine lv_iload hx hb d_M_change_187 (lv_at hl 3 rfl) ?_
        refine lv_if_le (tgt := 219) hx hb d_M_change_189 (by decide) (fun _ => ?_) (fun h9 => absurd (by decide) h9)
        refine lv_aload_n hx hb d_M_change_219 rfl (lv_at hl 0 rfl) ?_
        refine lv_iload_n hx hb d_M_change_220 rfl (lv_at hl 1 rfl) ?_
        refine lv_iload_n hx hb d_M_change_221 rfl (lv_at hl 2 rfl) ?_
        refine lv_aload_n hx hb d_M_change_222 rfl (lv_at hl 0 rfl) ?_
        refine va_get (D := (dC, dI)) (ci := 1) (v := .ref qn) (C := R_M) (T := F_M) (N := 15) hx hb hts lay_M hown hK hP 0 rfl rfl 14 (by decide) (hts _ m_284) (fun _ h9 => h9) rfl d_M_change_223 ?_
        refine lv_iconst (v := nI 1) hx hb d_M_change_226 (by decide) ?_
        refine z_iald hx hb hK hP 5 0 rfl rfl (by omega) (by decide) d_M_change_227 ?_
        refine lv_iconst (v := (0 : Int32)) hx hb d_M_change_228 (by decide) ?_
        refine z_callv (va_runV (C := R_M) (b := h0) (As := [.int (nI (1 - hf)), .int (gn + 1), .int (n0 1), .int (0 : Int32)]) (rest := []) ⟨hx, hb, hml, hown, hts⟩ (mc_changeSeal l dC dI h0 qd qs qv qh qn cI cJ _ q0 hf gn rt ct pw ln lk lq vq hs1 n0 (1 - hf) (gn + 1) (n0 1) (0 : Int32)) (cwV 4 hts g_M_119 rfl rfl rfl (by decide +kernel) ⟨(Nat.le_of_ble_eq_true rfl), (Nat.le_of_ble_eq_true rfl)⟩) (z_preV (va_recv (q0 := 0) hK hP rfl rfl) hP hK hD) rfl rfl hl.1 rfl (lv_room (Nat.le_of_ble_eq_true rfl)) d_M_change_229 ⟨(Nat.le_of_ble_eq_true rfl), (Nat.le_of_ble_eq_true rfl)⟩) hS hD hA (fun u H locs hr0 hP hD hS => ?_)
        obtain ⟨d1, sl1, sm1, ⟨hc1, rfl⟩ | ⟨hc1, rfl⟩⟩ := hr0
        · refine lv_aload_n hx hb d_M_change_232 rfl (lv_at hl 0 rfl) ?_
          refine lv_iconst (v := nI 0) hx hb d_M_change_233 (by decide) ?_
          refine va_put (D := (dC, dI)) (ci := 1) (v := .int (nI 0)) (ty := .int) (C := R_M) (T := F_M) (N := 15) hx hb hts lay_M t_M t_M_ok n_M hown hK hP hD hS 0 rfl rfl 9 (by decide) (hts _ m_279) (fun _ h9 => h9) rfl (by decide +kernel) rfl rfl (Nat.le_of_ble_eq_true rfl) d_M_change_234 (fun H locs hP hD hS => ?_)
          have hP : va_P (dC, dI) classes (Mw h0 qd qs qv qh qn cI cJ (d1, 1 - hf, gn + 1, n0 1, (0 : Int32), pw, sl1, sm1, false, 0, lk, lq, vq, hs1, n0)) H := hP
          have hD : va_D A (Mw h0 qd qs qv qh qn cI cJ (d1, 1 - hf, gn + 1, n0 1, (0 : Int32), pw, sl1, sm1, false, 0, lk, lq, vq, hs1, n0)) := hD
          refine lv_aload_n hx hb d_M_change_237 rfl (lv_at hl 0 rfl) ?_
          refine lv_aload_n hx hb d_M_change_238 rfl (lv_at hl 0 rfl) ?_
          refine lv_iconst (v := nI 0) hx hb d_M_change_239 (by decide) ?_
          refine vp_callSi (W.runV (C := R_M) (b := h0) (As := [.int (nI 0)]) (rest := [.ref h0]) ⟨hx, hb, hml, hown, hts⟩ (mc_chain l dC dI h0 qd qs qv qh qn cI cJ _ d1 (1 - hf) (gn + 1) (n0 1) (0 : Int32) pw sl1 sm1 false 0 lk lq vq hs1 n0 0 (by omega) (by omega)) (cwV 1 hts g_M_90 rfl rfl rfl (by decide +kernel) ⟨(Nat.le_of_ble_eq_true rfl), (Nat.le_of_ble_eq_true rfl)⟩) (z_preV (va_recv (q0 := 0) hK hP rfl rfl) hP hK hD) rfl rfl hl.1 rfl (lv_room (Nat.le_of_ble_eq_true rfl)) d_M_change_240 ⟨(Nat.le_of_ble_eq_true rfl), (Nat.le_of_ble_eq_true rfl)⟩) (fun r hr0 => ?_)
          subst hr0
          refine va_put (D := (dC, dI)) (ci := 1) (v := .int (chM d1 (1 - hf) 0 0 (dg (dg 19088743 (n0 1)) (gn + 1)))) (ty := .int) (C := R_M) (T := F_M) (N := 15) hx hb hts lay_M t_M t_M_ok n_M hown hK hP hD hS 0 rfl rfl 10 (by decide) (hts _ m_280) (fun _ h9 => h9) rfl (by decide +kernel) rfl rfl (Nat.le_of_ble_eq_true rfl) d_M_change_243 (fun H locs hP hD hS => ?_)
          have hP : va_P (dC, dI) classes (Mw h0 qd qs qv qh qn cI cJ (d1, 1 - hf, gn + 1, n0 1, (0 : Int32), pw, sl1, sm1, false, 0, chM d1 (1 - hf) 0 0 (dg (dg 19088743 (n0 1)) (gn + 1)), lq, vq, hs1, n0)) H := hP
          have hD : va_D A (Mw h0 qd qs qv qh qn cI cJ (d1, 1 - hf, gn + 1, n0 1, (0 : Int32), pw, sl1, sm1, false, 0, chM d1 (1 - hf) 0 0 (dg (dg 19088743 (n0 1)) (gn + 1)), lq, vq, hs1, n0)) := hD
          refine lv_aload_n hx hb d_M_change_246 rfl (lv_at hl 0 rfl) ?_
          refine va_get (D := (dC, dI)) (ci := 1) (v := .int (bI false)) (C := R_M) (T := F_M) (N := 15) hx hb hts lay_M hown hK hP 0 rfl rfl 8 (by decide) (hts _ m_278) (fun _ h9 => h9) rfl d_M_change_247 ?_
          refine lv_if_eq (tgt := 258) hx hb d_M_change_250 (by decide) (fun _ => ?_) (fun h9 => absurd (by decide) h9)
          refine lv_iconst (v := (0 : Int32)) hx hb d_M_change_258 (by decide) ?_
          exact W.iret hx hb hr (fun t ht hW => ⟨⟨(0 : Int32), (d1, 1 - hf, gn + 1, n0 1, (0 : Int32), pw, sl1, sm1, false, 0, chM d1 (1 - hf) 0 0 (dg (dg 19088743 (n0 1)) (gn + 1)), lq, vq, hs1, n0), rfl, Or.inr ⟨hall, _, _, _, _, _, hn0, Or.inl ⟨(by rw [← hF]; exact hc1), rfl, rfl⟩⟩, by rw [ht]; exact hP, va_K.moved hW.alike hK, hD⟩, hS.F ht⟩) hS.2.2 d_M_change_259
        · refine lv_aload_n hx hb d_M_change_232 rfl (lv_at hl 0 rfl) ?_
          refine lv_iconst (v := nI 0) hx hb d_M_change_233 (by decide) ?_
          refine va_put (D := (dC, dI)) (ci := 1) (v := .int (nI 0)) (ty := .int) (C := R_M) (T := F_M) (N := 15) hx hb hts lay_M t_M t_M_ok n_M hown hK hP hD hS 0 rfl rfl 9 (by decide) (hts _ m_279) (fun _ h9 => h9) rfl (by decide +kernel) rfl rfl (Nat.le_of_ble_eq_true rfl) d_M_change_234 (fun H locs hP hD hS => ?_)
          have hP : va_P (dC, dI) classes (Mw h0 qd qs qv qh qn cI cJ (d1, hf, gn, rt, ct, false, sl1, sm1, true, 0, lk, lq, vq, hs1, n0)) H := hP
          have hD : va_D A (Mw h0 qd qs qv qh qn cI cJ (d1, hf, gn, rt, ct, false, sl1, sm1, true, 0, lk, lq, vq, hs1, n0)) := hD
          refine lv_aload_n hx hb d_M_change_237 rfl (lv_at hl 0 rfl) ?_
          refine lv_aload_n hx hb d_M_change_238 rfl (lv_at hl 0 rfl) ?_
          refine lv_iconst (v := nI 0) hx hb d_M_change_239 (by decide) ?_
          refine vp_callSi (W.runV (C := R_M) (b := h0) (As := [.int (nI 0)]) (rest := [.ref h0]) ⟨hx, hb, hml, hown, hts⟩ (mc_chain l dC dI h0 qd qs qv qh qn cI cJ _ d1 hf gn rt ct false sl1 sm1 true 0 lk lq vq hs1 n0 0 (by omega) (by omega)) (cwV 1 hts g_M_90 rfl rfl rfl (by decide +kernel) ⟨(Nat.le_of_ble_eq_true rfl), (Nat.le_of_ble_eq_true rfl)⟩) (z_preV (va_recv (q0 := 0) hK hP rfl rfl) hP hK hD) rfl rfl hl.1 rfl (lv_room (Nat.le_of_ble_eq_true rfl)) d_M_change_240 ⟨(Nat.le_of_ble_eq_true rfl), (Nat.le_of_ble_eq_true rfl)⟩) (fun r hr0 => ?_)
          subst hr0
          refine va_put (D := (dC, dI)) (ci := 1) (v := .int (chM d1 hf 0 0 (dg (dg 19088743 rt) gn))) (ty := .int) (C := R_M) (T := F_M) (N := 15) hx hb hts lay_M t_M t_M_ok n_M hown hK hP hD hS 0 rfl rfl 10 (by decide) (hts _ m_280) (fun _ h9 => h9) rfl (by decide +kernel) rfl rfl (Nat.le_of_ble_eq_true rfl) d_M_change_243 (fun H locs hP hD hS => ?_)
          have hP : va_P (dC, dI) classes (Mw h0 qd qs qv qh qn cI cJ (d1, hf, gn, rt, ct, false, sl1, sm1, true, 0, chM d1 hf 0 0 (dg (dg 19088743 rt) gn), lq, vq, hs1, n0)) H := hP
          have hD : va_D A (Mw h0 qd qs qv qh qn cI cJ (d1, hf, gn, rt, ct, false, sl1, sm1, true, 0, chM d1 hf 0 0 (dg (dg 19088743 rt) gn), lq, vq, hs1, n0)) := hD
          refine lv_aload_n hx hb d_M_change_246 rfl (lv_at hl 0 rfl) ?_
          refine va_get (D := (dC, dI)) (ci := 1) (v := .int (bI true)) (C := R_M) (T := F_M) (N := 15) hx hb hts lay_M hown hK hP 0 rfl rfl 8 (by decide) (hts _ m_278) (fun _ h9 => h9) rfl d_M_change_247 ?_
          refine lv_if_eq (tgt := 258) hx hb d_M_change_250 (by decide) (fun h9 => absurd h9 (by decide)) (fun _ => ?_)
          refine lv_bipush (v := (-4 : Int32)) hx hb d_M_change_253 (by decide) ?_
          refine lv_goto (tgt := 259) hx hb d_M_change_255 (by decide) ?_
          exact W.iret hx hb hr (fun t ht hW => ⟨⟨(-4 : Int32), (d1, hf, gn, rt, ct, false, sl1, sm1, true, 0, chM d1 hf 0 0 (dg (dg 19088743 rt) gn), lq, vq, hs1, n0), rfl, Or.inr ⟨hall, _, _, _, _, _, hn0, Or.inr ⟨(by rw [← hF]; exact hc1), rfl, _, rfl⟩⟩, by rw [ht]; exact hP, va_K.moved hW.alike hK, hD⟩, hS.F ht⟩) hS.2.2 d_M_change_259
      | succ k ih =>
        intro q0 ls H locs hk hl hP hD hS hF
        refine lv_iload hx hb d_M_change_187 (lv_at hl 3 rfl) ?_
        refine lv_if_le (tgt := 219) hx hb d_M_change_189 (by decide) (fun h9 => absurd h9 (nI_nle (by omega) (by omega))) (fun _ => ?_)
        refine lv_aload_n hx hb d_M_change_192 rfl (lv_at hl 0 rfl) ?_
        refine lv_bipush (v := nI 51) hx hb d_M_change_193 (by decide) ?_
        refine lv_iload_n hx hb d_M_change_195 rfl (lv_at hl 1 rfl) ?_
        refine lv_imul hx hb d_M_change_196 ?_
        refine z_top (pk_mul _ _) ?_
        refine lv_bipush (v := nI 15) hx hb d_M_change_197 (by decide) ?_
        refine lv_iadd hx hb d_M_change_199 ?_
        refine z_top (nI_add _ _) ?_
        refine lv_iload hx hb d_M_change_200 (lv_at hl 3 rfl) ?_
        refine lv_iadd hx hb d_M_change_202 ?_
        refine z_top (nI_add _ _) ?_
        refine lv_aload_n hx hb d_M_change_203 rfl (lv_at hl 0 rfl) ?_
        refine va_get (D := (dC, dI)) (ci := 1) (v := .ref qn) (C := R_M) (T := F_M) (N := 15) hx hb hts lay_M hown hK hP 0 rfl rfl 14 (by decide) (hts _ m_284) (fun _ h9 => h9) rfl d_M_change_204 ?_
        refine lv_iload hx hb d_M_change_207 (lv_at hl 3 rfl) ?_
        refine z_iald hx hb hK hP 5 0 rfl rfl (by omega) (by decide) d_M_change_209 ?_
        refine z_callv (va_runV (C := R_M) (b := h0) (As := [.int (nI (((51 * (1 - hf)) + 15) + (k + 1))), .int (n0 (k + 1))]) (rest := []) ⟨hx, hb, hml, hown, hts⟩ (mc_put l dC dI h0 qd qs qv qh qn cI cJ _ q0 hf gn rt ct pw ln lk lq vq hs1 n0 (((51 * (1 - hf)) + 15) + (k + 1)) (n0 (k + 1)) (by omega)) (cwV 2 hts g_M_116 rfl rfl rfl (by decide +kernel) ⟨(Nat.le_of_ble_eq_true rfl), (Nat.le_of_ble_eq_true rfl)⟩) (z_preV (va_recv (q0 := 0) hK hP rfl rfl) hP hK hD) rfl rfl hl.1 rfl (lv_room (Nat.le_of_ble_eq_true rfl)) d_M_change_210 ⟨(Nat.le_of_ble_eq_true rfl), (Nat.le_of_ble_eq_true rfl)⟩) hS hD hA (fun u H locs hr0 hP hD hS => ?_)
        obtain ⟨q2, hq2, rfl⟩ := hr0
        refine lv_iinc (k := 3) hx hb d_M_change_213 hl rfl (z_dec _) (by decide) rfl (fun ls hl => ?_)
        have hl : lv_has ls 6 [(4, .int (nI k)), (0, .ref h0), (2, .int (nI (1 - hf))), (3, .int (gn + 1))] := hl
        refine lv_goto (tgt := 187) hx hb d_M_change_216 (by decide) ?_
        exact ih _ ls _ _ (by omega) (lv_sub hl [1, 2, 3, 0] rfl) hP hD hS (by rw [← hF, hq2]; rfl)
    have loop3 : ∀ (j k : Nat) (q0 : Bool × M3) (ls : Array Slot) (H : Heap) (locs : List Loc), k + j = 8 → lv_has ls 6 [(0, .ref h0), (2, .int (nI (1 - hf))), (3, .int (gn + 1)), (4, .int (nI k))] → va_P (dC, dI) classes (Mw h0 qd qs qv qh qn cI cJ (mS q0 hf gn rt ct pw ln lk lq vq hs1 nd)) H → va_D A (Mw h0 qd qs qv qh qn cI cJ (mS q0 hf gn rt ct pw ln lk lq vq hs1 nd)) → va_S A s.heap H locs → ssF (fun _ k => vofM dk hf gn rt ln lq vq k) (1 - hf) (gn + 1) j k q0 = mQ2 (vofM dk hf gn rt ln lq vq) (1 - hf) (gn + 1) (true, (dk, sl, sm)) → W p l e (headSpec w_M_change ({ frames := 5, cells := 0, slots := 0, locals := 113 })).room s m ([.ref h0].toArray) below meth c H locs 0 0 (MQ below (va_Qi (fun (r : Int32) (u : MS) => chgP dk hf gn rt ct pw sl sm ln lk lq vq hs nd r u) (fun u => z_at (dC, dI) classes [(cI, .int), (cJ, .long)] A (Mw h0 qd qs qv qh qn cI cJ u)) A) ([.ref h0].toArray) s 0 0 A) (F0 m 104 ls []) := by
      intro j
      induction j with
      | zero =>
        intro k q0 ls H locs hk hl hP hD hS hF
        have hF : q0 = mQ2 (vofM dk hf gn rt ln lq vq) (1 - hf) (gn + 1) (true, (dk, sl, sm)) := hF
        refine lv_iload hx hb d_M_change_104 (lv_at hl 3 rfl) ?_
        refine lv_bipush (v := nI 8) hx hb d_M_change_106 (by decide) ?_
        refine lv_icmp_ge (tgt := 177) hx hb d_M_change_108 (by decide) (fun _ => ?_) (fun h9 => absurd ((nI_leI (by omega) (by omega)).mpr (by omega)) h9)
        refine lv_aload_n hx hb d_M_change_177 rfl (lv_at hl 0 rfl) ?_
        refine lv_iload_n hx hb d_M_change_178 rfl (lv_at hl 1 rfl) ?_
        refine lv_iload_n hx hb d_M_change_179 rfl (lv_at hl 2 rfl) ?_
        refine z_callv (va_runV (C := R_M) (b := h0) (As := [.int (nI (1 - hf)), .int (gn + 1)]) (rest := []) ⟨hx, hb, hml, hown, hts⟩ (mc_nodes l dC dI h0 qd qs qv qh qn cI cJ _ q0.2.1 hf gn rt ct (q0.1 && pw) q0.2.2.1 q0.2.2.2 (!q0.1) (cond q0.1 ln 0) lk lq vq hs1 nd (1 - hf) (gn + 1) (by omega)) (cwV 2 hts g_M_37 rfl rfl rfl (by decide +kernel) ⟨(Nat.le_of_ble_eq_true rfl), (Nat.le_of_ble_eq_true rfl)⟩) (z_preV (va_recv (q0 := 0) hK hP rfl rfl) hP hK hD) rfl rfl hl.1 rfl (lv_room (Nat.le_of_ble_eq_true rfl)) d_M_change_180 ⟨(Nat.le_of_ble_eq_true rfl), (Nat.le_of_ble_eq_true rfl)⟩) hS hD hA (fun u H locs hr0 hP hD hS => ?_)
        subst hr0
        have hP : va_P (dC, dI) classes (Mw h0 qd qs qv qh qn cI cJ (mS q0 hf gn rt ct pw ln lk lq vq hs1 (ndB 7 (ndA q0.2.1 (1 - hf) (gn + 1) 8 0 nd)))) H := hP
        have hD : va_D A (Mw h0 qd qs qv qh qn cI cJ (mS q0 hf gn rt ct pw ln lk lq vq hs1 (ndB 7 (ndA q0.2.1 (1 - hf) (gn + 1) 8 0 nd)))) := hD
        refine lv_bipush (v := nI 15) hx hb d_M_change_183 (by decide) ?_
        refine lv_istore hx hb d_M_change_185 hl (by decide) rfl (fun ls hl => ?_)
        have hl : lv_has ls 6 [(4, .int (nI 15)), (0, .ref h0), (2, .int (nI (1 - hf))), (3, .int (gn + 1))] := hl
        exact loop4 _ (by rw [hF]; rfl) 15 _ ls _ _ (by decide) (lv_sub hl [1, 2, 3, 0] rfl) hP hD hS (by rw [hF]; rfl)
      | succ j ih =>
        intro k q0 ls H locs hk hl hP hD hS hF
        refine lv_iload hx hb d_M_change_104 (lv_at hl 3 rfl) ?_
        refine lv_bipush (v := nI 8) hx hb d_M_change_106 (by decide) ?_
        refine lv_icmp_ge (tgt := 177) hx hb d_M_change_108 (by decide) (fun h9 => absurd h9 (fun q => absurd ((nI_leI (by omega) (by omega)).mp q) (by omega))) (fun _ => ?_)
        refine lv_bipush (v := nI 51) hx hb d_M_change_111 (by decide) ?_
        refine lv_iload_n hx hb d_M_change_113 rfl (lv_at hl 1 rfl) ?_
        refine lv_imul hx hb d_M_change_114 ?_
        refine z_top (pk_mul _ _) ?_
        refine lv_iconst (v := nI 2) hx hb d_M_change_115 (by decide) ?_
        refine lv_iload hx hb d_M_change_116 (lv_at hl 3 rfl) ?_
        refine lv_imul hx hb d_M_change_118 ?_
        refine z_top (pk_mul _ _) ?_
        refine lv_iadd hx hb d_M_change_119 ?_
        refine z_top (nI_add _ _) ?_
        refine lv_istore hx hb d_M_change_120 hl (by decide) rfl (fun ls hl => ?_)
        have hl : lv_has ls 6 [(5, .int (nI ((51 * (1 - hf)) + (2 * k)))), (0, .ref h0), (2, .int (nI (1 - hf))), (3, .int (gn + 1)), (4, .int (nI k))] := hl
        refine lv_aload_n hx hb d_M_change_122 rfl (lv_at hl 1 rfl) ?_
        refine lv_iload hx hb d_M_change_123 (lv_at hl 0 rfl) ?_
        refine lv_aload_n hx hb d_M_change_125 rfl (lv_at hl 1 rfl) ?_
        refine va_get (D := (dC, dI)) (ci := 1) (v := .ref qh) (C := R_M) (T := F_M) (N := 15) hx hb hts lay_M hown hK hP 0 rfl rfl 13 (by decide) (hts _ m_283) (fun _ h9 => h9) rfl d_M_change_126 ?_
        refine lv_iload hx hb d_M_change_129 (lv_at hl 4 rfl) ?_
        refine z_lald hx hb hK hP 4 1 rfl rfl (by omega) (by decide) d_M_change_131 ?_
        refine z_topl (hh k (by omega)) ?_
        refine lv_bipush (v := (32 : Int32)) hx hb d_M_change_132 (by decide) ?_
        refine lv_lshr hx hb d_M_change_134 rfl ?_
        refine lv_l2i hx hb d_M_change_135 rfl ?_
        refine z_top (z_hi _) ?_
        refine lv_iload_n hx hb d_M_change_136 rfl (lv_at hl 3 rfl) ?_
        refine lv_iload hx hb d_M_change_137 (lv_at hl 0 rfl) ?_
        refine vp_callSi (W.runS (As := [.int (gn + 1), .int (nI ((51 * (1 - hf)) + (2 * k)))]) (rest := [.int (hiW (vofM dk hf gn rt ln lq vq k)), .int (nI ((51 * (1 - hf)) + (2 * k))), .ref h0]) ⟨hx, hb, hml, hown, hts⟩ (mc_key l (gn + 1) (nI ((51 * (1 - hf)) + (2 * k)))) (cwS 2 hts g_M_33 rfl rfl rfl (by decide +kernel) ⟨(Nat.le_of_ble_eq_true rfl), (Nat.le_of_ble_eq_true rfl)⟩) preEq rfl rfl hl.1 rfl (lv_room (Nat.le_of_ble_eq_true rfl)) d_M_change_139 ⟨(Nat.le_of_ble_eq_true rfl), (Nat.le_of_ble_eq_true rfl)⟩) (fun r hr0 => ?_)
        subst hr0
        refine lv_ixor hx hb d_M_change_142 ?_
        refine z_callv (va_runV (C := R_M) (b := h0) (As := [.int (nI ((51 * (1 - hf)) + (2 * k))), .int ((hiW (vofM dk hf gn rt ln lq vq k)) ^^^ (dg (dg 19088743 (gn + 1)) (nI ((51 * (1 - hf)) + (2 * k)))))]) (rest := []) ⟨hx, hb, hml, hown, hts⟩ (mc_put l dC dI h0 qd qs qv qh qn cI cJ _ q0 hf gn rt ct pw ln lk lq vq hs1 nd ((51 * (1 - hf)) + (2 * k)) ((hiW (vofM dk hf gn rt ln lq vq k)) ^^^ (dg (dg 19088743 (gn + 1)) (nI ((51 * (1 - hf)) + (2 * k))))) (by omega)) (cwV 2 hts g_M_116 rfl rfl rfl (by decide +kernel) ⟨(Nat.le_of_ble_eq_true rfl), (Nat.le_of_ble_eq_true rfl)⟩) (z_preV (va_recv (q0 := 0) hK hP rfl rfl) hP hK hD) rfl rfl hl.1 rfl (lv_room (Nat.le_of_ble_eq_true rfl)) d_M_change_143 ⟨(Nat.le_of_ble_eq_true rfl), (Nat.le_of_ble_eq_true rfl)⟩) hS hD hA (fun u H locs hr0 hP hD hS => ?_)
        obtain ⟨q3, hq3, rfl⟩ := hr0
        refine lv_aload_n hx hb d_M_change_146 rfl (lv_at hl 1 rfl) ?_
        refine lv_iload hx hb d_M_change_147 (lv_at hl 0 rfl) ?_
        refine lv_iconst (v := nI 1) hx hb d_M_change_149 (by decide) ?_
        refine lv_iadd hx hb d_M_change_150 ?_
        refine z_top (nI_add _ _) ?_
        refine lv_aload_n hx hb d_M_change_151 rfl (lv_at hl 1 rfl) ?_
        refine va_get (D := (dC, dI)) (ci := 1) (v := .ref qh) (C := R_M) (T := F_M) (N := 15) hx hb hts lay_M hown hK hP 0 rfl rfl 13 (by decide) (hts _ m_283) (fun _ h9 => h9) rfl d_M_change_152 ?_
        refine lv_iload hx hb d_M_change_155 (lv_at hl 4 rfl) ?_
        refine z_lald hx hb hK hP 4 1 rfl rfl (by omega) (by decide) d_M_change_157 ?_
        refine z_topl (hh k (by omega)) ?_
        refine lv_l2i hx hb d_M_change_158 rfl ?_
        refine lv_iload_n hx hb d_M_change_159 rfl (lv_at hl 3 rfl) ?_
        refine lv_iload hx hb d_M_change_160 (lv_at hl 0 rfl) ?_
        refine lv_iconst (v := nI 1) hx hb d_M_change_162 (by decide) ?_
        refine lv_iadd hx hb d_M_change_163 ?_
        refine z_top (nI_add _ _) ?_
        refine vp_callSi (W.runS (As := [.int (gn + 1), .int (nI (((51 * (1 - hf)) + (2 * k)) + 1))]) (rest := [.int ((vofM dk hf gn rt ln lq vq k).toInt32), .int (nI (((51 * (1 - hf)) + (2 * k)) + 1)), .ref h0]) ⟨hx, hb, hml, hown, hts⟩ (mc_key l (gn + 1) (nI (((51 * (1 - hf)) + (2 * k)) + 1))) (cwS 2 hts g_M_33 rfl rfl rfl (by decide +kernel) ⟨(Nat.le_of_ble_eq_true rfl), (Nat.le_of_ble_eq_true rfl)⟩) preEq rfl rfl hl.1 rfl (lv_room (Nat.le_of_ble_eq_true rfl)) d_M_change_164 ⟨(Nat.le_of_ble_eq_true rfl), (Nat.le_of_ble_eq_true rfl)⟩) (fun r hr0 => ?_)
        subst hr0
        refine lv_ixor hx hb d_M_change_167 ?_
        refine z_callv (va_runV (C := R_M) (b := h0) (As := [.int (nI (((51 * (1 - hf)) + (2 * k)) + 1)), .int (((vofM dk hf gn rt ln lq vq k).toInt32) ^^^ (dg (dg 19088743 (gn + 1)) (nI (((51 * (1 - hf)) + (2 * k)) + 1))))]) (rest := []) ⟨hx, hb, hml, hown, hts⟩ (mc_put l dC dI h0 qd qs qv qh qn cI cJ _ q3 hf gn rt ct pw ln lk lq vq hs1 nd (((51 * (1 - hf)) + (2 * k)) + 1) (((vofM dk hf gn rt ln lq vq k).toInt32) ^^^ (dg (dg 19088743 (gn + 1)) (nI (((51 * (1 - hf)) + (2 * k)) + 1)))) (by omega)) (cwV 2 hts g_M_116 rfl rfl rfl (by decide +kernel) ⟨(Nat.le_of_ble_eq_true rfl), (Nat.le_of_ble_eq_true rfl)⟩) (z_preV (va_recv (q0 := 0) hK hP rfl rfl) hP hK hD) rfl rfl hl.1 rfl (lv_room (Nat.le_of_ble_eq_true rfl)) d_M_change_168 ⟨(Nat.le_of_ble_eq_true rfl), (Nat.le_of_ble_eq_true rfl)⟩) hS hD hA (fun u H locs hr0 hP hD hS => ?_)
        obtain ⟨q4, hq4, rfl⟩ := hr0
        refine lv_iinc (k := 4) hx hb d_M_change_171 hl rfl (z_inc _ 1) (by decide) rfl (fun ls hl => ?_)
        have hl : lv_has ls 6 [(4, .int (nI (k + 1))), (5, .int (nI ((51 * (1 - hf)) + (2 * k)))), (0, .ref h0), (2, .int (nI (1 - hf))), (3, .int (gn + 1))] := hl
        refine lv_goto (tgt := 104) hx hb d_M_change_174 (by decide) ?_
        exact ih (k + 1) _ ls _ _ (by omega) (lv_sub hl [2, 3, 4, 0] rfl) hP hD hS (by rw [← hF, hq4, hq3]; rfl)
    have loop2 : ∀ (j k : Nat) (q0 : Bool × M3) (ls : Array Slot) (H : Heap) (locs : List Loc), k + j = 5 → lv_has ls 6 [(0, .ref h0), (2, .int (nI (1 - hf))), (3, .int (gn + 1)), (4, .int (nI k))] → va_P (dC, dI) classes (Mw h0 qd qs qv qh qn cI cJ (mS q0 hf gn rt ct pw ln lk lq vq hs1 nd)) H → va_D A (Mw h0 qd qs qv qh qn cI cJ (mS q0 hf gn rt ct pw ln lk lq vq hs1 nd)) → va_S A s.heap H locs → clM (1 - hf) j k q0 = clM (1 - hf) 5 0 (true, (dk, sl, sm)) → W p l e (headSpec w_M_change ({ frames := 5, cells := 0, slots := 0, locals := 113 })).room s m ([.ref h0].toArray) below meth c H locs 0 0 (MQ below (va_Qi (fun (r : Int32) (u : MS) => chgP dk hf gn rt ct pw sl sm ln lk lq vq hs nd r u) (fun u => z_at (dC, dI) classes [(cI, .int), (cJ, .long)] A (Mw h0 qd qs qv qh qn cI cJ u)) A) ([.ref h0].toArray) s 0 0 A) (F0 m 72 ls []) := by
      intro j
      induction j with
      | zero =>
        intro k q0 ls H locs hk hl hP hD hS hF
        have hF : q0 = clM (1 - hf) 5 0 (true, (dk, sl, sm)) := hF
        refine lv_iload hx hb d_M_change_72 (lv_at hl 3 rfl) ?_
        refine lv_iconst (v := nI 5) hx hb d_M_change_74 (by decide) ?_
        refine lv_icmp_ge (tgt := 101) hx hb d_M_change_75 (by decide) (fun _ => ?_) (fun h9 => absurd ((nI_leI (by omega) (by omega)).mpr (by omega)) h9)
        refine lv_iconst (v := nI 0) hx hb d_M_change_101 (by decide) ?_
        refine lv_istore hx hb d_M_change_102 hl (by decide) rfl (fun ls hl => ?_)
        have hl : lv_has ls 6 [(4, .int (nI 0)), (0, .ref h0), (2, .int (nI (1 - hf))), (3, .int (gn + 1))] := hl
        exact loop3 8 0 _ ls _ _ rfl (lv_sub hl [1, 2, 3, 0] rfl) hP hD hS (by rw [hF]; rfl)
      | succ j ih =>
        intro k q0 ls H locs hk hl hP hD hS hF
        refine lv_iload hx hb d_M_change_72 (lv_at hl 3 rfl) ?_
        refine lv_iconst (v := nI 5) hx hb d_M_change_74 (by decide) ?_
        refine lv_icmp_ge (tgt := 101) hx hb d_M_change_75 (by decide) (fun h9 => absurd h9 (fun q => absurd ((nI_leI (by omega) (by omega)).mp q) (by omega))) (fun _ => ?_)
        refine lv_aload_n hx hb d_M_change_78 rfl (lv_at hl 0 rfl) ?_
        refine lv_bipush (v := nI 51) hx hb d_M_change_79 (by decide) ?_
        refine lv_iload_n hx hb d_M_change_81 rfl (lv_at hl 1 rfl) ?_
        refine lv_imul hx hb d_M_change_82 ?_
        refine z_top (pk_mul _ _) ?_
        refine lv_bipush (v := nI 34) hx hb d_M_change_83 (by decide) ?_
        refine lv_iadd hx hb d_M_change_85 ?_
        refine z_top (nI_add _ _) ?_
        refine lv_iconst (v := nI 4) hx hb d_M_change_86 (by decide) ?_
        refine lv_iload hx hb d_M_change_87 (lv_at hl 3 rfl) ?_
        refine lv_imul hx hb d_M_change_89 ?_
        refine z_top (pk_mul _ _) ?_
        refine lv_iadd hx hb d_M_change_90 ?_
        refine z_top (nI_add _ _) ?_
        refine z_top (show nI (51 * (1 - hf) + 34 + 4 * k) = nI (51 * (1 - hf) + 31 + 4 * k + 3) from congrArg nI (by omega)) ?_
        refine lv_iconst (v := (0 : Int32)) hx hb d_M_change_91 (by decide) ?_
        refine z_callv (va_runV (C := R_M) (b := h0) (As := [.int (nI (51 * (1 - hf) + 31 + 4 * k + 3)), .int (0 : Int32)]) (rest := []) ⟨hx, hb, hml, hown, hts⟩ (mc_put l dC dI h0 qd qs qv qh qn cI cJ _ q0 hf gn rt ct pw ln lk lq vq hs1 nd (51 * (1 - hf) + 31 + 4 * k + 3) (0 : Int32) (by omega)) (cwV 2 hts g_M_116 rfl rfl rfl (by decide +kernel) ⟨(Nat.le_of_ble_eq_true rfl), (Nat.le_of_ble_eq_true rfl)⟩) (z_preV (va_recv (q0 := 0) hK hP rfl rfl) hP hK hD) rfl rfl hl.1 rfl (lv_room (Nat.le_of_ble_eq_true rfl)) d_M_change_92 ⟨(Nat.le_of_ble_eq_true rfl), (Nat.le_of_ble_eq_true rfl)⟩) hS hD hA (fun u H locs hr0 hP hD hS => ?_)
        obtain ⟨q5, hq5, rfl⟩ := hr0
        refine lv_iinc (k := 3) hx hb d_M_change_95 hl rfl (z_inc _ 1) (by decide) rfl (fun ls hl => ?_)
        have hl : lv_has ls 6 [(4, .int (nI (k + 1))), (0, .ref h0), (2, .int (nI (1 - hf))), (3, .int (gn + 1))] := hl
        refine lv_goto (tgt := 72) hx hb d_M_change_98 (by decide) ?_
        exact ih (k + 1) _ ls _ _ (by omega) (lv_sub hl [1, 2, 3, 0] rfl) hP hD hS (by rw [← hF, hq5]; rfl)
    intro ls H locs hl hP hD hS
    refine lv_iconst (v := nI 1) hx hb d_M_change_55 (by decide) ?_
    refine lv_aload_n hx hb d_M_change_56 rfl (lv_at hl 0 rfl) ?_
    refine va_get (D := (dC, dI)) (ci := 1) (v := .int (nI hf)) (C := R_M) (T := F_M) (N := 15) hx hb hts lay_M hown hK hP 0 rfl rfl 1 (by decide) (hts _ m_271) (fun _ h9 => h9) rfl d_M_change_57 ?_
    refine lv_isub hx hb d_M_change_60 ?_
    refine z_top (pk_sub (by omega)) ?_
    refine lv_istore_n hx hb d_M_change_61 rfl hl (by decide) rfl (fun ls hl => ?_)
    have hl : lv_has ls 6 [(2, .int (nI (1 - hf))), (0, .ref h0)] := hl
    refine lv_aload_n hx hb d_M_change_62 rfl (lv_at hl 1 rfl) ?_
    refine va_get (D := (dC, dI)) (ci := 1) (v := .int gn) (C := R_M) (T := F_M) (N := 15) hx hb hts lay_M hown hK hP 0 rfl rfl 2 (by decide) (hts _ m_272) (fun _ h9 => h9) rfl d_M_change_63 ?_
    refine lv_iconst (v := (1 : Int32)) hx hb d_M_change_66 (by decide) ?_
    refine lv_iadd hx hb d_M_change_67 ?_
    refine lv_istore_n hx hb d_M_change_68 rfl hl (by decide) rfl (fun ls hl => ?_)
    have hl : lv_has ls 6 [(3, .int (gn + (1 : Int32))), (2, .int (nI (1 - hf))), (0, .ref h0)] := hl
    refine lv_iconst (v := nI 0) hx hb d_M_change_69 (by decide) ?_
    refine lv_istore hx hb d_M_change_70 hl (by decide) rfl (fun ls hl => ?_)
    have hl : lv_has ls 6 [(4, .int (nI 0)), (3, .int (gn + (1 : Int32))), (2, .int (nI (1 - hf))), (0, .ref h0)] := hl
    exact loop2 5 0 (true, (dk, sl, sm)) ls _ _ rfl (lv_sub hl [3, 2, 1, 0] rfl) hP hD hS rfl
  have loop1 : ∀ (j k : Nat) (ba : Bool) (hs1 : Nat → Int64) (ls : Array Slot) (H : Heap) (locs : List Loc), k + j = 8 → (∀ i, i < k → hs1 i = vofM dk hf gn rt ln lq vq i) → lv_has ls 6 [(0, .ref h0), (1, .int (bI ba)), (2, .int (nI k))] → va_P (dC, dI) classes (Mw h0 qd qs qv qh qn cI cJ (dk, hf, gn, rt, ct, pw, sl, sm, false, ln, lk, lq, vq, hs1, nd)) H → va_D A (Mw h0 qd qs qv qh qn cI cJ (dk, hf, gn, rt, ct, pw, sl, sm, false, ln, lk, lq, vq, hs1, nd)) → va_S A s.heap H locs → alB (vofM dk hf gn rt ln lq vq) j k ba = alB (vofM dk hf gn rt ln lq vq) 8 0 true → W p l e (headSpec w_M_change ({ frames := 5, cells := 0, slots := 0, locals := 113 })).room s m ([.ref h0].toArray) below meth c H locs 0 0 (MQ below (va_Qi (fun (r : Int32) (u : MS) => chgP dk hf gn rt ct pw sl sm ln lk lq vq hs nd r u) (fun u => z_at (dC, dI) classes [(cI, .int), (cJ, .long)] A (Mw h0 qd qs qv qh qn cI cJ u)) A) ([.ref h0].toArray) s 0 0 A) (F0 m 4 ls []) := by
    intro j
    induction j with
    | zero =>
      intro k ba hs1 ls H locs hk hh hl hP hD hS hF
      have hF : ba = alB (vofM dk hf gn rt ln lq vq) 8 0 true := hF
      have hk8 : k = 8 := by omega
      subst hk8
      cases ba with
      | false =>
        refine lv_iload_n hx hb d_M_change_4 rfl (lv_at hl 2 rfl) ?_
        refine lv_bipush (v := nI 8) hx hb d_M_change_5 (by decide) ?_
        refine lv_icmp_ge (tgt := 48) hx hb d_M_change_7 (by decide) (fun _ => ?_) (fun h9 => absurd ((nI_leI (by omega) (by omega)).mpr (by omega)) h9)
        refine lv_iload_n hx hb d_M_change_48 rfl (lv_at hl 1 rfl) ?_
        refine lv_if_ne (tgt := 55) hx hb d_M_change_49 (by decide) (fun h9 => absurd (by decide) h9) (fun _ => ?_)
        refine lv_bipush (v := (-3 : Int32)) hx hb d_M_change_52 (by decide) ?_
        exact W.iret hx hb hr (fun t ht hW => ⟨⟨(-3 : Int32), (dk, hf, gn, rt, ct, pw, sl, sm, false, ln, lk, lq, vq, hs1, nd), rfl, Or.inl ⟨hF.symm, rfl, _, rfl⟩, by rw [ht]; exact hP, va_K.moved hW.alike hK, hD⟩, hS.F ht⟩) hS.2.2 d_M_change_54
      | true =>
        refine lv_iload_n hx hb d_M_change_4 rfl (lv_at hl 2 rfl) ?_
        refine lv_bipush (v := nI 8) hx hb d_M_change_5 (by decide) ?_
        refine lv_icmp_ge (tgt := 48) hx hb d_M_change_7 (by decide) (fun _ => ?_) (fun h9 => absurd ((nI_leI (by omega) (by omega)).mpr (by omega)) h9)
        refine lv_iload_n hx hb d_M_change_48 rfl (lv_at hl 1 rfl) ?_
        refine lv_if_ne (tgt := 55) hx hb d_M_change_49 (by decide) (fun _ => ?_) (fun h9 => absurd h9 (by decide))
        exact loops hF.symm hs1 hh ls _ _ (lv_sub hl [0] rfl) hP hD hS
    | succ j ih =>
      intro k ba hs1 ls H locs hk hh hl hP hD hS hF
      cases ba with
      | false =>
        refine lv_iload_n hx hb d_M_change_4 rfl (lv_at hl 2 rfl) ?_
        refine lv_bipush (v := nI 8) hx hb d_M_change_5 (by decide) ?_
        refine lv_icmp_ge (tgt := 48) hx hb d_M_change_7 (by decide) (fun h9 => absurd h9 (fun q => absurd ((nI_leI (by omega) (by omega)).mp q) (by omega))) (fun _ => ?_)
        refine lv_aload_n hx hb d_M_change_10 rfl (lv_at hl 0 rfl) ?_
        refine va_get (D := (dC, dI)) (ci := 1) (v := .ref qh) (C := R_M) (T := F_M) (N := 15) hx hb hts lay_M hown hK hP 0 rfl rfl 13 (by decide) (hts _ m_283) (fun _ h9 => h9) rfl d_M_change_11 ?_
        refine lv_iload_n hx hb d_M_change_14 rfl (lv_at hl 2 rfl) ?_
        refine lv_aload_n hx hb d_M_change_15 rfl (lv_at hl 0 rfl) ?_
        refine lv_iload_n hx hb d_M_change_16 rfl (lv_at hl 2 rfl) ?_
        refine vp_callSl (W.runV (C := R_M) (b := h0) (As := [.int (nI k)]) (rest := [.int (nI k), .ref qh]) ⟨hx, hb, hml, hown, hts⟩ (mc_value l dC dI h0 qd qs qv qh qn cI cJ _ dk hf gn rt ct pw sl sm false ln lk lq vq hs1 nd k (by omega) (by omega) (by omega)) (cwV 1 hts g_M_111 rfl rfl rfl (by decide +kernel) ⟨(Nat.le_of_ble_eq_true rfl), (Nat.le_of_ble_eq_true rfl)⟩) (z_preV (va_recv (q0 := 0) hK hP rfl rfl) hP hK hD) rfl rfl hl.1 rfl (lv_room (Nat.le_of_ble_eq_true rfl)) d_M_change_17 ⟨(Nat.le_of_ble_eq_true rfl), (Nat.le_of_ble_eq_true rfl)⟩) (fun r hr0 => ?_)
        subst hr0
        refine z_last hx hb hK hP hD hS 4 1 rfl rfl (by omega) (by decide) d_M_change_20 (fun H locs hP hD hS => ?_)
        have hP : va_P (dC, dI) classes (Mw h0 qd qs qv qh qn cI cJ (dk, hf, gn, rt, ct, pw, sl, sm, false, ln, lk, lq, vq, vp_updL hs1 k (vofM dk hf gn rt ln lq vq k), nd)) H := hP
        have hD : va_D A (Mw h0 qd qs qv qh qn cI cJ (dk, hf, gn, rt, ct, pw, sl, sm, false, ln, lk, lq, vq, vp_updL hs1 k (vofM dk hf gn rt ln lq vq k), nd)) := hD
        refine lv_iload_n hx hb d_M_change_21 rfl (lv_at hl 1 rfl) ?_
        refine lv_if_eq (tgt := 40) hx hb d_M_change_22 (by decide) (fun _ => ?_) (fun h9 => absurd (by decide) h9)
        refine lv_iconst (v := (0 : Int32)) hx hb d_M_change_40 (by decide) ?_
        refine lv_istore_n hx hb d_M_change_41 rfl hl (by decide) rfl (fun ls hl => ?_)
        have hl : lv_has ls 6 [(1, .int (0 : Int32)), (0, .ref h0), (2, .int (nI k))] := hl
        refine lv_iinc (k := 2) hx hb d_M_change_42 hl rfl (z_inc _ 1) (by decide) rfl (fun ls hl => ?_)
        have hl : lv_has ls 6 [(2, .int (nI (k + 1))), (1, .int (0 : Int32)), (0, .ref h0)] := hl
        refine lv_goto (tgt := 4) hx hb d_M_change_45 (by decide) ?_
        exact ih (k + 1) false _ ls _ _ (by omega) (z_hh hh) (lv_sub hl [2, 1, 0] rfl) hP hD hS (by rw [← hF, alB]; rfl)
      | true =>
        refine lv_iload_n hx hb d_M_change_4 rfl (lv_at hl 2 rfl) ?_
        refine lv_bipush (v := nI 8) hx hb d_M_change_5 (by decide) ?_
        refine lv_icmp_ge (tgt := 48) hx hb d_M_change_7 (by decide) (fun h9 => absurd h9 (fun q => absurd ((nI_leI (by omega) (by omega)).mp q) (by omega))) (fun _ => ?_)
        refine lv_aload_n hx hb d_M_change_10 rfl (lv_at hl 0 rfl) ?_
        refine va_get (D := (dC, dI)) (ci := 1) (v := .ref qh) (C := R_M) (T := F_M) (N := 15) hx hb hts lay_M hown hK hP 0 rfl rfl 13 (by decide) (hts _ m_283) (fun _ h9 => h9) rfl d_M_change_11 ?_
        refine lv_iload_n hx hb d_M_change_14 rfl (lv_at hl 2 rfl) ?_
        refine lv_aload_n hx hb d_M_change_15 rfl (lv_at hl 0 rfl) ?_
        refine lv_iload_n hx hb d_M_change_16 rfl (lv_at hl 2 rfl) ?_
        refine vp_callSl (W.runV (C := R_M) (b := h0) (As := [.int (nI k)]) (rest := [.int (nI k), .ref qh]) ⟨hx, hb, hml, hown, hts⟩ (mc_value l dC dI h0 qd qs qv qh qn cI cJ _ dk hf gn rt ct pw sl sm false ln lk lq vq hs1 nd k (by omega) (by omega) (by omega)) (cwV 1 hts g_M_111 rfl rfl rfl (by decide +kernel) ⟨(Nat.le_of_ble_eq_true rfl), (Nat.le_of_ble_eq_true rfl)⟩) (z_preV (va_recv (q0 := 0) hK hP rfl rfl) hP hK hD) rfl rfl hl.1 rfl (lv_room (Nat.le_of_ble_eq_true rfl)) d_M_change_17 ⟨(Nat.le_of_ble_eq_true rfl), (Nat.le_of_ble_eq_true rfl)⟩) (fun r hr0 => ?_)
        subst hr0
        refine z_last hx hb hK hP hD hS 4 1 rfl rfl (by omega) (by decide) d_M_change_20 (fun H locs hP hD hS => ?_)
        have hP : va_P (dC, dI) classes (Mw h0 qd qs qv qh qn cI cJ (dk, hf, gn, rt, ct, pw, sl, sm, false, ln, lk, lq, vq, vp_updL hs1 k (vofM dk hf gn rt ln lq vq k), nd)) H := hP
        have hD : va_D A (Mw h0 qd qs qv qh qn cI cJ (dk, hf, gn, rt, ct, pw, sl, sm, false, ln, lk, lq, vq, vp_updL hs1 k (vofM dk hf gn rt ln lq vq k), nd)) := hD
        refine lv_iload_n hx hb d_M_change_21 rfl (lv_at hl 1 rfl) ?_
        refine lv_if_eq (tgt := 40) hx hb d_M_change_22 (by decide) (fun h9 => absurd h9 (by decide)) (fun _ => ?_)
        refine lv_aload_n hx hb d_M_change_25 rfl (lv_at hl 0 rfl) ?_
        refine va_get (D := (dC, dI)) (ci := 1) (v := .ref qh) (C := R_M) (T := F_M) (N := 15) hx hb hts lay_M hown hK hP 0 rfl rfl 13 (by decide) (hts _ m_283) (fun _ h9 => h9) rfl d_M_change_26 ?_
        refine lv_iload_n hx hb d_M_change_29 rfl (lv_at hl 2 rfl) ?_
        refine z_lald hx hb hK hP 4 1 rfl rfl (by omega) (by decide) d_M_change_30 ?_
        refine z_topl (pk_uLs) ?_
        refine lv_lconst (v := 0) hx hb d_M_change_31 (by decide) ?_
        refine W.lcmp hx hb d_M_change_32 ?_
        refine lv_if_lt (tgt := 40) hx hb d_M_change_33 (by decide) (fun h6 => ?_) (fun h6 => ?_)
        · refine lv_iconst (v := (0 : Int32)) hx hb d_M_change_40 (by decide) ?_
          refine lv_istore_n hx hb d_M_change_41 rfl hl (by decide) rfl (fun ls hl => ?_)
          have hl : lv_has ls 6 [(1, .int (0 : Int32)), (0, .ref h0), (2, .int (nI k))] := hl
          refine lv_iinc (k := 2) hx hb d_M_change_42 hl rfl (z_inc _ 1) (by decide) rfl (fun ls hl => ?_)
          have hl : lv_has ls 6 [(2, .int (nI (k + 1))), (1, .int (0 : Int32)), (0, .ref h0)] := hl
          refine lv_goto (tgt := 4) hx hb d_M_change_45 (by decide) ?_
          exact ih (k + 1) false _ ls _ _ (by omega) (z_hh hh) (lv_sub hl [2, 1, 0] rfl) hP hD hS (by rw [← hF, alB]; simp [h6])
        · refine lv_iconst (v := (1 : Int32)) hx hb d_M_change_36 (by decide) ?_
          refine lv_goto (tgt := 41) hx hb d_M_change_37 (by decide) ?_
          refine lv_istore_n hx hb d_M_change_41 rfl hl (by decide) rfl (fun ls hl => ?_)
          have hl : lv_has ls 6 [(1, .int (1 : Int32)), (0, .ref h0), (2, .int (nI k))] := hl
          refine lv_iinc (k := 2) hx hb d_M_change_42 hl rfl (z_inc _ 1) (by decide) rfl (fun ls hl => ?_)
          have hl : lv_has ls 6 [(2, .int (nI (k + 1))), (1, .int (1 : Int32)), (0, .ref h0)] := hl
          refine lv_goto (tgt := 4) hx hb d_M_change_45 (by decide) ?_
          exact ih (k + 1) true _ ls _ _ (by omega) (z_hh hh) (lv_sub hl [2, 1, 0] rfl) hP hD hS (by rw [← hF, alB]; simp [h6])
  refine lv_iconst (v := (1 : Int32)) hx hb d_M_change_0 (by decide) ?_
  refine lv_istore_n hx hb d_M_change_1 rfl hl (by decide) rfl (fun ls hl => ?_)
  have hl : lv_has ls 6 [(1, .int (1 : Int32)), (0, .ref h0)] := hl
  refine lv_iconst (v := nI 0) hx hb d_M_change_2 (by decide) ?_
  refine lv_istore_n hx hb d_M_change_3 rfl hl (by decide) rfl (fun ls hl => ?_)
  have hl : lv_has ls 6 [(2, .int (nI 0)), (1, .int (1 : Int32)), (0, .ref h0)] := hl
  exact loop1 8 0 true _ ls _ _ rfl (fun i hi => absurd hi (by omega)) (lv_sub hl [2, 1, 0] rfl) hP hD hS rfl
set_option maxHeartbeats 1000000 in
set_option maxRecDepth 100000 in
theorem mc_checkpoint (l : Launch) (dC : Nat → ClassId) (dI : Nat → Nat → Nat) (h0 qd qs qv qh qn : Nat) (cI cJ : ClassId) (sz : Nat) (dk : Nat → Int32) (hf : Nat) (gn : Int32) (rt : Int32) (ct : Int32) (pw : Bool) (sl : Int32) (sm : Int32) (cu : Bool) (ln : Nat) (lk : Int32) (lq : Nat → Int32) (vq : Nat → Int64) (hs : Nat → Int64) (nd : Nat → Int32)  (h_f : hf < 2) (h_n : ln ≤ 5) : Met l y_M_checkpoint w_M_checkpoint ({ frames := 6, cells := 0, slots := 0, locals := 138 }) (va_Pc [.ref h0] (z_pre (dC, dI) classes [(cI, .int), (cJ, .long)] (Mw h0 qd qs qv qh qn cI cJ (dk, hf, gn, rt, ct, pw, sl, sm, cu, ln, lk, lq, vq, hs, nd)) sz)) (va_Qi (fun (r : Int32) (u : MS) => (pw = false ∧ r = -1 ∧ u = (dk, hf, gn, rt, ct, pw, sl, sm, cu, ln, lk, lq, vq, hs, nd)) ∨ (pw = true ∧ ∃ r0 : Int32, chgP dk hf gn rt ct true sl sm ln lk lq vq hs nd r0 u ∧ ((r0 = 0 ∧ r = gn + 1) ∨ (¬ r0 = 0 ∧ r = r0)))) (fun u => z_at (dC, dI) classes [(cI, .int), (cJ, .long)] (va_A (Mw h0 qd qs qv qh qn cI cJ (dk, hf, gn, rt, ct, pw, sl, sm, cu, ln, lk, lq, vq, hs, nd)) sz) (Mw h0 qd qs qv qh qn cI cJ u)) (va_A (Mw h0 qd qs qv qh qn cI cJ (dk, hf, gn, rt, ct, pw, sl, sm, cu, ln, lk, lq, vq, hs, nd)) sz)) 0 0 (va_A (Mw h0 qd qs qv qh qn cI cJ (dk, hf, gn, rt, ct, pw, sl, sm, cu, ln, lk, lq, vq, hs, nd)) sz) := by
  refine Met.ofW (cc := b_M_checkpoint) (maxL := 2) (ret := (some .int)) (by decide) rfl ?_
  intro p e s m args below meth c s₁ B hml hv
  obtain ⟨rfl, hsz, hP, hK, hD0⟩ := hv
  have hx := B.exec
  have hb := B.bytes
  have hr := B.returns
  have hts := fun (w : Cond) (h : w ∈ lw_U) => atoms_spec (ws := w_M_checkpoint) B.pre w (List.mem_cons_of_mem _ h)
  have hown : s.vm.findClass R_M = some m.cls := findClass_of_methodNamed B.named
  have hlocks := B.notSynchronized
  subst hsz
  have hD := hD0.self (sz := s.heap.size)
  generalize hAe : va_A (Mw h0 qd qs qv qh qn cI cJ (dk, hf, gn, rt, ct, pw, sl, sm, cu, ln, lk, lq, vq, hs, nd)) s.heap.size = A at hD ⊢
  have hA : ∀ q : Nat, s.heap.size ≤ q → A q := fun q h => by rw [← hAe]; exact Or.inr h
  have hS : va_S A s.heap s.heap [] := va_S.rf
  have hP : va_P (dC, dI) classes (Mw h0 qd qs qv qh qn cI cJ (dk, hf, gn, rt, ct, pw, sl, sm, cu, ln, lk, lq, vq, hs, nd)) s.heap := hP
  have hl := lv_entry ([.ref h0]) (n := 2) (Nat.le_of_ble_eq_true rfl)
  rw [lg_entry_eq]
  generalize (lg_sl ([.ref h0]) ++ List.replicate (2 - (lg_sl ([.ref h0])).length) Slot.unset).toArray = ls at hl ⊢
  have hl : lv_has ls 2 [(0, .ref h0)] := hl
  cases pw with
  | false =>
    refine lv_aload_n hx hb d_M_checkpoint_0 rfl (lv_at hl 0 rfl) ?_
    refine va_get (D := (dC, dI)) (ci := 1) (v := .int (bI false)) (C := R_M) (T := F_M) (N := 15) hx hb hts lay_M hown hK hP 0 rfl rfl 5 (by decide) (hts _ m_275) (fun _ h9 => h9) rfl d_M_checkpoint_1 ?_
    refine lv_if_ne (tgt := 9) hx hb d_M_checkpoint_4 (by decide) (fun h9 => absurd (by decide) h9) (fun _ => ?_)
    refine lv_iconst (v := (-1 : Int32)) hx hb d_M_checkpoint_7 (by decide) ?_
    exact W.iret hx hb hr (fun t ht hW => ⟨⟨(-1 : Int32), (dk, hf, gn, rt, ct, false, sl, sm, cu, ln, lk, lq, vq, hs, nd), rfl, Or.inl ⟨rfl, rfl, rfl⟩, by rw [ht]; exact hP, va_K.moved hW.alike hK, hD⟩, hS.F ht⟩) hS.2.2 d_M_checkpoint_8
  | true =>
    refine lv_aload_n hx hb d_M_checkpoint_0 rfl (lv_at hl 0 rfl) ?_
    refine va_get (D := (dC, dI)) (ci := 1) (v := .int (bI true)) (C := R_M) (T := F_M) (N := 15) hx hb hts lay_M hown hK hP 0 rfl rfl 5 (by decide) (hts _ m_275) (fun _ h9 => h9) rfl d_M_checkpoint_1 ?_
    refine lv_if_ne (tgt := 9) hx hb d_M_checkpoint_4 (by decide) (fun _ => ?_) (fun h9 => absurd h9 (by decide))
    refine lv_aload_n hx hb d_M_checkpoint_9 rfl (lv_at hl 0 rfl) ?_
    refine lv_iconst (v := (0 : Int32)) hx hb d_M_checkpoint_10 (by decide) ?_
    refine va_put (D := (dC, dI)) (ci := 1) (v := .int (0 : Int32)) (ty := .boolean) (C := R_M) (T := F_M) (N := 15) hx hb hts lay_M t_M t_M_ok n_M hown hK hP hD hS 0 rfl rfl 8 (by decide) (hts _ m_278) (fun _ h9 => h9) rfl (by decide +kernel) rfl rfl (Nat.le_of_ble_eq_true rfl) d_M_checkpoint_11 (fun H locs hP hD hS => ?_)
    have hP : va_P (dC, dI) classes (Mw h0 qd qs qv qh qn cI cJ (dk, hf, gn, rt, ct, true, sl, sm, false, ln, lk, lq, vq, hs, nd)) H := hP
    have hD : va_D A (Mw h0 qd qs qv qh qn cI cJ (dk, hf, gn, rt, ct, true, sl, sm, false, ln, lk, lq, vq, hs, nd)) := hD
    refine lv_aload_n hx hb d_M_checkpoint_14 rfl (lv_at hl 0 rfl) ?_
    refine z_calli (va_runV (C := R_M) (b := h0) (As := []) (rest := []) ⟨hx, hb, hml, hown, hts⟩ (mc_change l dC dI h0 qd qs qv qh qn cI cJ _ dk hf gn rt ct true sl sm ln lk lq vq hs nd (by omega) (by omega)) (cwV 0 hts g_M_123 rfl rfl rfl (by decide +kernel) ⟨(Nat.le_of_ble_eq_true rfl), (Nat.le_of_ble_eq_true rfl)⟩) (z_preV (va_recv (q0 := 0) hK hP rfl rfl) hP hK hD) rfl rfl hl.1 rfl (lv_room (Nat.le_of_ble_eq_true rfl)) d_M_checkpoint_15 ⟨(Nat.le_of_ble_eq_true rfl), (Nat.le_of_ble_eq_true rfl)⟩) hS hD hA (fun r u H locs hr0 hP hD hS => ?_)
    have hch1 := hr0
    obtain ⟨ha1, rfl, hs1, rfl⟩ | ⟨ha1, hs1, nd1, d1, sl1, sm1, hn1, ⟨hc1, rfl, rfl⟩ | ⟨hc1, rfl, lk1, rfl⟩⟩ := hr0
    · refine lv_istore_n hx hb d_M_checkpoint_18 rfl hl (by decide) rfl (fun ls hl => ?_)
      have hl : lv_has ls 2 [(1, .int (-3 : Int32)), (0, .ref h0)] := hl
      refine lv_iload_n hx hb d_M_checkpoint_19 rfl (lv_at hl 0 rfl) ?_
      refine lv_if_ge (tgt := 27) hx hb d_M_checkpoint_20 (by decide) (fun h9 => absurd h9 (by decide)) (fun _ => ?_)
      refine lv_iload_n hx hb d_M_checkpoint_23 rfl (lv_at hl 0 rfl) ?_
      refine lv_goto (tgt := 31) hx hb d_M_checkpoint_24 (by decide) ?_
      exact W.iret hx hb hr (fun t ht hW => ⟨⟨(-3 : Int32), (dk, hf, gn, rt, ct, true, sl, sm, false, ln, lk, lq, vq, hs1, nd), rfl, Or.inr ⟨rfl, _, hch1, Or.inr ⟨by decide, rfl⟩⟩, by rw [ht]; exact hP, va_K.moved hW.alike hK, hD⟩, hS.F ht⟩) hS.2.2 d_M_checkpoint_31
    · refine lv_istore_n hx hb d_M_checkpoint_18 rfl hl (by decide) rfl (fun ls hl => ?_)
      have hl : lv_has ls 2 [(1, .int (0 : Int32)), (0, .ref h0)] := hl
      refine lv_iload_n hx hb d_M_checkpoint_19 rfl (lv_at hl 0 rfl) ?_
      refine lv_if_ge (tgt := 27) hx hb d_M_checkpoint_20 (by decide) (fun _ => ?_) (fun h9 => absurd (by decide) h9)
      refine lv_aload_n hx hb d_M_checkpoint_27 rfl (lv_at hl 1 rfl) ?_
      refine va_get (D := (dC, dI)) (ci := 1) (v := .int (gn + 1)) (C := R_M) (T := F_M) (N := 15) hx hb hts lay_M hown hK hP 0 rfl rfl 2 (by decide) (hts _ m_272) (fun _ h9 => h9) rfl d_M_checkpoint_28 ?_
      exact W.iret hx hb hr (fun t ht hW => ⟨⟨gn + 1, (d1, 1 - hf, gn + 1, nd1 1, 0, true, sl1, sm1, false, 0, dg (dg 19088743 (nd1 1)) (gn + 1), lq, vq, hs1, nd1), rfl, Or.inr ⟨rfl, _, hch1, Or.inl ⟨rfl, rfl⟩⟩, by rw [ht]; exact hP, va_K.moved hW.alike hK, hD⟩, hS.F ht⟩) hS.2.2 d_M_checkpoint_31
    · refine lv_istore_n hx hb d_M_checkpoint_18 rfl hl (by decide) rfl (fun ls hl => ?_)
      have hl : lv_has ls 2 [(1, .int (-4 : Int32)), (0, .ref h0)] := hl
      refine lv_iload_n hx hb d_M_checkpoint_19 rfl (lv_at hl 0 rfl) ?_
      refine lv_if_ge (tgt := 27) hx hb d_M_checkpoint_20 (by decide) (fun h9 => absurd h9 (by decide)) (fun _ => ?_)
      refine lv_iload_n hx hb d_M_checkpoint_23 rfl (lv_at hl 0 rfl) ?_
      refine lv_goto (tgt := 31) hx hb d_M_checkpoint_24 (by decide) ?_
      exact W.iret hx hb hr (fun t ht hW => ⟨⟨(-4 : Int32), (d1, hf, gn, rt, ct, false, sl1, sm1, true, 0, lk1, lq, vq, hs1, nd1), rfl, Or.inr ⟨rfl, _, hch1, Or.inr ⟨by decide, rfl⟩⟩, by rw [ht]; exact hP, va_K.moved hW.alike hK, hD⟩, hS.F ht⟩) hS.2.2 d_M_checkpoint_31
set_option maxHeartbeats 1000000 in
set_option maxRecDepth 100000 in
theorem mc_write (l : Launch) (dC : Nat → ClassId) (dI : Nat → Nat → Nat) (h0 qd qs qv qh qn : Nat) (cI cJ : ClassId) (sz : Nat) (dk : Nat → Int32) (hf : Nat) (gn : Int32) (rt : Int32) (ct : Int32) (pw : Bool) (sl : Int32) (sm : Int32) (cu : Bool) (ln : Nat) (lk : Int32) (lq : Nat → Int32) (vq : Nat → Int64) (hs : Nat → Int64) (nd : Nat → Int32) (x0 : Int32) (v0 : Int64) (h_f : hf < 2) (h_n : ln ≤ 5) : Met l y_M_write w_M_write ({ frames := 6, cells := 0, slots := 0, locals := 138 }) (va_Pc [.ref h0, .int x0, .long v0] (z_pre (dC, dI) classes [(cI, .int), (cJ, .long)] (Mw h0 qd qs qv qh qn cI cJ (dk, hf, gn, rt, ct, pw, sl, sm, cu, ln, lk, lq, vq, hs, nd)) sz)) (va_Qi (fun (r : Int32) (u : MS) => (pw = false ∧ r = -1 ∧ u = (dk, hf, gn, rt, ct, pw, sl, sm, cu, ln, lk, lq, vq, hs, nd)) ∨ (pw = true ∧ (isIn 8 x0 = 0 ∨ lg_cmp v0 0 < 0) ∧ r = -2 ∧ u = (dk, hf, gn, rt, ct, pw, sl, sm, cu, ln, lk, lq, vq, hs, nd)) ∨ (pw = true ∧ ¬ isIn 8 x0 = 0 ∧ ¬ lg_cmp v0 0 < 0 ∧ ((¬ ln = 5 ∧ srP dk hf gn rt ct true sl sm ln lk lq vq hs nd x0 v0 r u) ∨ (ln = 5 ∧ ∃ (r0 : Int32) (u0 : MS), chgP dk hf gn rt ct true sl sm ln lk lq vq hs nd r0 u0 ∧ ((¬ r0 = 0 ∧ r = r0 ∧ u = u0) ∨ (r0 = 0 ∧ srQ u0 x0 v0 r u)))))) (fun u => z_at (dC, dI) classes [(cI, .int), (cJ, .long)] (va_A (Mw h0 qd qs qv qh qn cI cJ (dk, hf, gn, rt, ct, pw, sl, sm, cu, ln, lk, lq, vq, hs, nd)) sz) (Mw h0 qd qs qv qh qn cI cJ u)) (va_A (Mw h0 qd qs qv qh qn cI cJ (dk, hf, gn, rt, ct, pw, sl, sm, cu, ln, lk, lq, vq, hs, nd)) sz)) 0 0 (va_A (Mw h0 qd qs qv qh qn cI cJ (dk, hf, gn, rt, ct, pw, sl, sm, cu, ln, lk, lq, vq, hs, nd)) sz) := by
  refine Met.ofW (cc := b_M_write) (maxL := 11) (ret := (some .int)) (by decide) rfl ?_
  intro p e s m args below meth c s₁ B hml hv
  obtain ⟨rfl, hsz, hP, hK, hD0⟩ := hv
  have hx := B.exec
  have hb := B.bytes
  have hr := B.returns
  have hts := fun (w : Cond) (h : w ∈ lw_U) => atoms_spec (ws := w_M_write) B.pre w (List.mem_cons_of_mem _ h)
  have hown : s.vm.findClass R_M = some m.cls := findClass_of_methodNamed B.named
  have hlocks := B.notSynchronized
  subst hsz
  have hD := hD0.self (sz := s.heap.size)
  generalize hAe : va_A (Mw h0 qd qs qv qh qn cI cJ (dk, hf, gn, rt, ct, pw, sl, sm, cu, ln, lk, lq, vq, hs, nd)) s.heap.size = A at hD ⊢
  have hA : ∀ q : Nat, s.heap.size ≤ q → A q := fun q h => by rw [← hAe]; exact Or.inr h
  have hS : va_S A s.heap s.heap [] := va_S.rf
  have hP : va_P (dC, dI) classes (Mw h0 qd qs qv qh qn cI cJ (dk, hf, gn, rt, ct, pw, sl, sm, cu, ln, lk, lq, vq, hs, nd)) s.heap := hP
  have hl := lv_entry ([.ref h0, .int x0, .long v0]) (n := 11) (Nat.le_of_ble_eq_true rfl)
  rw [lg_entry_eq]
  generalize (lg_sl ([.ref h0, .int x0, .long v0]) ++ List.replicate (11 - (lg_sl ([.ref h0, .int x0, .long v0])).length) Slot.unset).toArray = ls at hl ⊢
  have hl : lv_has ls 11 [(0, .ref h0), (1, .int x0), (2, .long v0)] := hl
  have rest : ∀ (d0 : Nat → Int32) (a0 : Nat) (g0 : Int32) (rt0 : Int32) (ct0 : Int32) (sl0 : Int32) (sm0 : Int32) (n0 : Nat) (lk0 : Int32) (lq0 : Nat → Int32) (vq0 : Nat → Int64) (hs0 : Nat → Int64) (nd0 : Nat → Int32) (ls : Array Slot) (H : Heap) (locs : List Loc), a0 < 2 → n0 < 5 → lv_has ls 11 [(0, .ref h0), (1, .int x0), (2, .long v0)] → va_P (dC, dI) classes (Mw h0 qd qs qv qh qn cI cJ (d0, a0, g0, rt0, ct0, true, sl0, sm0, false, n0, lk0, lq0, vq0, hs0, nd0)) H → va_D A (Mw h0 qd qs qv qh qn cI cJ (d0, a0, g0, rt0, ct0, true, sl0, sm0, false, n0, lk0, lq0, vq0, hs0, nd0)) → va_S A s.heap H locs → (∀ (r : Int32) (u : MS), srP d0 a0 g0 rt0 ct0 true sl0 sm0 n0 lk0 lq0 vq0 hs0 nd0 x0 v0 r u → (pw = false ∧ r = -1 ∧ u = (dk, hf, gn, rt, ct, pw, sl, sm, cu, ln, lk, lq, vq, hs, nd)) ∨ (pw = true ∧ (isIn 8 x0 = 0 ∨ lg_cmp v0 0 < 0) ∧ r = -2 ∧ u = (dk, hf, gn, rt, ct, pw, sl, sm, cu, ln, lk, lq, vq, hs, nd)) ∨ (pw = true ∧ ¬ isIn 8 x0 = 0 ∧ ¬ lg_cmp v0 0 < 0 ∧ ((¬ ln = 5 ∧ srP dk hf gn rt ct true sl sm ln lk lq vq hs nd x0 v0 r u) ∨ (ln = 5 ∧ ∃ (r0 : Int32) (u0 : MS), chgP dk hf gn rt ct true sl sm ln lk lq vq hs nd r0 u0 ∧ ((¬ r0 = 0 ∧ r = r0 ∧ u = u0) ∨ (r0 = 0 ∧ srQ u0 x0 v0 r u)))))) → W p l e (headSpec w_M_write ({ frames := 6, cells := 0, slots := 0, locals := 138 })).room s m ([.ref h0, .int x0, .long v0].toArray) below meth c H locs 0 0 (MQ below (va_Qi (fun (r : Int32) (u : MS) => (pw = false ∧ r = -1 ∧ u = (dk, hf, gn, rt, ct, pw, sl, sm, cu, ln, lk, lq, vq, hs, nd)) ∨ (pw = true ∧ (isIn 8 x0 = 0 ∨ lg_cmp v0 0 < 0) ∧ r = -2 ∧ u = (dk, hf, gn, rt, ct, pw, sl, sm, cu, ln, lk, lq, vq, hs, nd)) ∨ (pw = true ∧ ¬ isIn 8 x0 = 0 ∧ ¬ lg_cmp v0 0 < 0 ∧ ((¬ ln = 5 ∧ srP dk hf gn rt ct true sl sm ln lk lq vq hs nd x0 v0 r u) ∨ (ln = 5 ∧ ∃ (r0 : Int32) (u0 : MS), chgP dk hf gn rt ct true sl sm ln lk lq vq hs nd r0 u0 ∧ ((¬ r0 = 0 ∧ r = r0 ∧ u = u0) ∨ (r0 = 0 ∧ srQ u0 x0 v0 r u)))))) (fun u => z_at (dC, dI) classes [(cI, .int), (cJ, .long)] A (Mw h0 qd qs qv qh qn cI cJ u)) A) ([.ref h0, .int x0, .long v0].toArray) s 0 0 A) (F0 m 59 ls []) := by
    intro d0 a0 g0 rt0 ct0 sl0 sm0 n0 lk0 lq0 vq0 hs0 nd0 ls H locs ha0 hn0 hl hP hD hS hF
    refine lv_aload_n hx hb d_M_write_59 rfl (lv_at hl 0 rfl) ?_
    refine va_get (D := (dC, dI)) (ci := 1) (v := .int (nI n0)) (C := R_M) (T := F_M) (N := 15) hx hb hts lay_M hown hK hP 0 rfl rfl 9 (by decide) (hts _ m_279) (fun _ h9 => h9) rfl d_M_write_60 ?_
    refine lv_istore hx hb d_M_write_63 hl (by decide) rfl (fun ls hl => ?_)
    have hl : lv_has ls 11 [(5, .int (nI n0)), (0, .ref h0), (1, .int x0), (2, .long v0)] := hl
    refine lv_aload_n hx hb d_M_write_65 rfl (lv_at hl 1 rfl) ?_
    refine lv_iload hx hb d_M_write_66 (lv_at hl 0 rfl) ?_
    refine vp_callSi (W.runV (C := R_M) (b := h0) (As := [.int (nI n0)]) (rest := []) ⟨hx, hb, hml, hown, hts⟩ (mc_entryAt l dC dI h0 qd qs qv qh qn cI cJ _ d0 a0 g0 rt0 ct0 true sl0 sm0 false n0 lk0 lq0 vq0 hs0 nd0 n0) (cwV 1 hts g_M_79 rfl rfl rfl (by decide +kernel) ⟨(Nat.le_of_ble_eq_true rfl), (Nat.le_of_ble_eq_true rfl)⟩) (z_preV (va_recv (q0 := 0) hK hP rfl rfl) hP hK hD) rfl rfl hl.1 rfl (lv_room (Nat.le_of_ble_eq_true rfl)) d_M_write_68 ⟨(Nat.le_of_ble_eq_true rfl), (Nat.le_of_ble_eq_true rfl)⟩) (fun r hr0 => ?_)
    subst hr0
    refine lv_istore hx hb d_M_write_71 hl (by decide) rfl (fun ls hl => ?_)
    have hl : lv_has ls 11 [(6, .int (nI (51 * a0 + 31 + 4 * n0))), (5, .int (nI n0)), (0, .ref h0), (1, .int x0), (2, .long v0)] := hl
    refine lv_iload_n hx hb d_M_write_73 rfl (lv_at hl 3 rfl) ?_
    refine lv_aload_n hx hb d_M_write_74 rfl (lv_at hl 2 rfl) ?_
    refine va_get (D := (dC, dI)) (ci := 1) (v := .int g0) (C := R_M) (T := F_M) (N := 15) hx hb hts lay_M hown hK hP 0 rfl rfl 2 (by decide) (hts _ m_272) (fun _ h9 => h9) rfl d_M_write_75 ?_
    refine lv_iload hx hb d_M_write_78 (lv_at hl 0 rfl) ?_
    refine vp_callSi (W.runS (As := [.int g0, .int (nI (51 * a0 + 31 + 4 * n0))]) (rest := [.int x0]) ⟨hx, hb, hml, hown, hts⟩ (mc_key l g0 (nI (51 * a0 + 31 + 4 * n0))) (cwS 2 hts g_M_33 rfl rfl rfl (by decide +kernel) ⟨(Nat.le_of_ble_eq_true rfl), (Nat.le_of_ble_eq_true rfl)⟩) preEq rfl rfl hl.1 rfl (lv_room (Nat.le_of_ble_eq_true rfl)) d_M_write_80 ⟨(Nat.le_of_ble_eq_true rfl), (Nat.le_of_ble_eq_true rfl)⟩) (fun r hr0 => ?_)
    subst hr0
    refine lv_ixor hx hb d_M_write_83 ?_
    refine lv_istore hx hb d_M_write_84 hl (by decide) rfl (fun ls hl => ?_)
    have hl : lv_has ls 11 [(7, .int (x0 ^^^ (dg (dg 19088743 g0) (nI (51 * a0 + 31 + 4 * n0))))), (6, .int (nI (51 * a0 + 31 + 4 * n0))), (5, .int (nI n0)), (0, .ref h0), (1, .int x0), (2, .long v0)] := hl
    refine lv_lload_n hx hb d_M_write_86 rfl (lv_at hl 5 rfl) ?_
    refine lv_bipush (v := (32 : Int32)) hx hb d_M_write_87 (by decide) ?_
    refine lv_lshr hx hb d_M_write_89 rfl ?_
    refine lv_l2i hx hb d_M_write_90 rfl ?_
    refine z_top (z_hi _) ?_
    refine lv_aload_n hx hb d_M_write_91 rfl (lv_at hl 3 rfl) ?_
    refine va_get (D := (dC, dI)) (ci := 1) (v := .int g0) (C := R_M) (T := F_M) (N := 15) hx hb hts lay_M hown hK hP 0 rfl rfl 2 (by decide) (hts _ m_272) (fun _ h9 => h9) rfl d_M_write_92 ?_
    refine lv_iload hx hb d_M_write_95 (lv_at hl 1 rfl) ?_
    refine lv_iconst (v := nI 1) hx hb d_M_write_97 (by decide) ?_
    refine lv_iadd hx hb d_M_write_98 ?_
    refine z_top (nI_add _ _) ?_
    refine vp_callSi (W.runS (As := [.int g0, .int (nI ((51 * a0 + 31 + 4 * n0) + 1))]) (rest := [.int (hiW v0)]) ⟨hx, hb, hml, hown, hts⟩ (mc_key l g0 (nI ((51 * a0 + 31 + 4 * n0) + 1))) (cwS 2 hts g_M_33 rfl rfl rfl (by decide +kernel) ⟨(Nat.le_of_ble_eq_true rfl), (Nat.le_of_ble_eq_true rfl)⟩) preEq rfl rfl hl.1 rfl (lv_room (Nat.le_of_ble_eq_true rfl)) d_M_write_99 ⟨(Nat.le_of_ble_eq_true rfl), (Nat.le_of_ble_eq_true rfl)⟩) (fun r hr0 => ?_)
    subst hr0
    refine lv_ixor hx hb d_M_write_102 ?_
    refine lv_istore hx hb d_M_write_103 hl (by decide) rfl (fun ls hl => ?_)
    have hl : lv_has ls 11 [(8, .int ((hiW v0) ^^^ (dg (dg 19088743 g0) (nI ((51 * a0 + 31 + 4 * n0) + 1))))), (7, .int (x0 ^^^ (dg (dg 19088743 g0) (nI (51 * a0 + 31 + 4 * n0))))), (6, .int (nI (51 * a0 + 31 + 4 * n0))), (5, .int (nI n0)), (0, .ref h0), (1, .int x0), (2, .long v0)] := hl
    refine lv_lload_n hx hb d_M_write_105 rfl (lv_at hl 6 rfl) ?_
    refine lv_l2i hx hb d_M_write_106 rfl ?_
    refine z_top rfl ?_
    refine lv_aload_n hx hb d_M_write_107 rfl (lv_at hl 4 rfl) ?_
    refine va_get (D := (dC, dI)) (ci := 1) (v := .int g0) (C := R_M) (T := F_M) (N := 15) hx hb hts lay_M hown hK hP 0 rfl rfl 2 (by decide) (hts _ m_272) (fun _ h9 => h9) rfl d_M_write_108 ?_
    refine lv_iload hx hb d_M_write_111 (lv_at hl 2 rfl) ?_
    refine lv_iconst (v := nI 2) hx hb d_M_write_113 (by decide) ?_
    refine lv_iadd hx hb d_M_write_114 ?_
    refine z_top (nI_add _ _) ?_
    refine vp_callSi (W.runS (As := [.int g0, .int (nI ((51 * a0 + 31 + 4 * n0) + 2))]) (rest := [.int (loW v0)]) ⟨hx, hb, hml, hown, hts⟩ (mc_key l g0 (nI ((51 * a0 + 31 + 4 * n0) + 2))) (cwS 2 hts g_M_33 rfl rfl rfl (by decide +kernel) ⟨(Nat.le_of_ble_eq_true rfl), (Nat.le_of_ble_eq_true rfl)⟩) preEq rfl rfl hl.1 rfl (lv_room (Nat.le_of_ble_eq_true rfl)) d_M_write_115 ⟨(Nat.le_of_ble_eq_true rfl), (Nat.le_of_ble_eq_true rfl)⟩) (fun r hr0 => ?_)
    subst hr0
    refine lv_ixor hx hb d_M_write_118 ?_
    refine lv_istore hx hb d_M_write_119 hl (by decide) rfl (fun ls hl => ?_)
    have hl : lv_has ls 11 [(9, .int ((loW v0) ^^^ (dg (dg 19088743 g0) (nI ((51 * a0 + 31 + 4 * n0) + 2))))), (8, .int ((hiW v0) ^^^ (dg (dg 19088743 g0) (nI ((51 * a0 + 31 + 4 * n0) + 1))))), (7, .int (x0 ^^^ (dg (dg 19088743 g0) (nI (51 * a0 + 31 + 4 * n0))))), (6, .int (nI (51 * a0 + 31 + 4 * n0))), (5, .int (nI n0)), (0, .ref h0), (1, .int x0), (2, .long v0)] := hl
    refine lv_aload_n hx hb d_M_write_121 rfl (lv_at hl 5 rfl) ?_
    refine va_get (D := (dC, dI)) (ci := 1) (v := .int lk0) (C := R_M) (T := F_M) (N := 15) hx hb hts lay_M hown hK hP 0 rfl rfl 10 (by decide) (hts _ m_280) (fun _ h9 => h9) rfl d_M_write_122 ?_
    refine lv_iload hx hb d_M_write_125 (lv_at hl 2 rfl) ?_
    refine vp_callSi (W.runS (As := [.int lk0, .int (x0 ^^^ (dg (dg 19088743 g0) (nI (51 * a0 + 31 + 4 * n0))))]) (rest := []) ⟨hx, hb, hml, hown, hts⟩ (mc_digest l lk0 (x0 ^^^ (dg (dg 19088743 g0) (nI (51 * a0 + 31 + 4 * n0))))) (cwS 2 hts g_M_47 rfl rfl rfl (by decide +kernel) ⟨(Nat.le_of_ble_eq_true rfl), (Nat.le_of_ble_eq_true rfl)⟩) preEq rfl rfl hl.1 rfl (lv_room (Nat.le_of_ble_eq_true rfl)) d_M_write_127 ⟨(Nat.le_of_ble_eq_true rfl), (Nat.le_of_ble_eq_true rfl)⟩) (fun r hr0 => ?_)
    subst hr0
    refine lv_istore hx hb d_M_write_130 hl (by decide) rfl (fun ls hl => ?_)
    have hl : lv_has ls 11 [(10, .int (dg lk0 (x0 ^^^ (dg (dg 19088743 g0) (nI (51 * a0 + 31 + 4 * n0)))))), (9, .int ((loW v0) ^^^ (dg (dg 19088743 g0) (nI ((51 * a0 + 31 + 4 * n0) + 2))))), (8, .int ((hiW v0) ^^^ (dg (dg 19088743 g0) (nI ((51 * a0 + 31 + 4 * n0) + 1))))), (7, .int (x0 ^^^ (dg (dg 19088743 g0) (nI (51 * a0 + 31 + 4 * n0))))), (6, .int (nI (51 * a0 + 31 + 4 * n0))), (5, .int (nI n0)), (0, .ref h0), (1, .int x0), (2, .long v0)] := hl
    refine lv_iload hx hb d_M_write_132 (lv_at hl 0 rfl) ?_
    refine lv_iload hx hb d_M_write_134 (lv_at hl 2 rfl) ?_
    refine vp_callSi (W.runS (As := [.int (dg lk0 (x0 ^^^ (dg (dg 19088743 g0) (nI (51 * a0 + 31 + 4 * n0))))), .int ((hiW v0) ^^^ (dg (dg 19088743 g0) (nI ((51 * a0 + 31 + 4 * n0) + 1))))]) (rest := []) ⟨hx, hb, hml, hown, hts⟩ (mc_digest l (dg lk0 (x0 ^^^ (dg (dg 19088743 g0) (nI (51 * a0 + 31 + 4 * n0))))) ((hiW v0) ^^^ (dg (dg 19088743 g0) (nI ((51 * a0 + 31 + 4 * n0) + 1))))) (cwS 2 hts g_M_47 rfl rfl rfl (by decide +kernel) ⟨(Nat.le_of_ble_eq_true rfl), (Nat.le_of_ble_eq_true rfl)⟩) preEq rfl rfl hl.1 rfl (lv_room (Nat.le_of_ble_eq_true rfl)) d_M_write_136 ⟨(Nat.le_of_ble_eq_true rfl), (Nat.le_of_ble_eq_true rfl)⟩) (fun r hr0 => ?_)
    subst hr0
    refine lv_istore hx hb d_M_write_139 hl (by decide) rfl (fun ls hl => ?_)
    have hl : lv_has ls 11 [(10, .int (dg (dg lk0 (x0 ^^^ (dg (dg 19088743 g0) (nI (51 * a0 + 31 + 4 * n0))))) ((hiW v0) ^^^ (dg (dg 19088743 g0) (nI ((51 * a0 + 31 + 4 * n0) + 1)))))), (9, .int ((loW v0) ^^^ (dg (dg 19088743 g0) (nI ((51 * a0 + 31 + 4 * n0) + 2))))), (8, .int ((hiW v0) ^^^ (dg (dg 19088743 g0) (nI ((51 * a0 + 31 + 4 * n0) + 1))))), (7, .int (x0 ^^^ (dg (dg 19088743 g0) (nI (51 * a0 + 31 + 4 * n0))))), (6, .int (nI (51 * a0 + 31 + 4 * n0))), (5, .int (nI n0)), (0, .ref h0), (1, .int x0), (2, .long v0)] := hl
    refine lv_iload hx hb d_M_write_141 (lv_at hl 0 rfl) ?_
    refine lv_iload hx hb d_M_write_143 (lv_at hl 1 rfl) ?_
    refine vp_callSi (W.runS (As := [.int (dg (dg lk0 (x0 ^^^ (dg (dg 19088743 g0) (nI (51 * a0 + 31 + 4 * n0))))) ((hiW v0) ^^^ (dg (dg 19088743 g0) (nI ((51 * a0 + 31 + 4 * n0) + 1))))), .int ((loW v0) ^^^ (dg (dg 19088743 g0) (nI ((51 * a0 + 31 + 4 * n0) + 2))))]) (rest := []) ⟨hx, hb, hml, hown, hts⟩ (mc_digest l (dg (dg lk0 (x0 ^^^ (dg (dg 19088743 g0) (nI (51 * a0 + 31 + 4 * n0))))) ((hiW v0) ^^^ (dg (dg 19088743 g0) (nI ((51 * a0 + 31 + 4 * n0) + 1))))) ((loW v0) ^^^ (dg (dg 19088743 g0) (nI ((51 * a0 + 31 + 4 * n0) + 2))))) (cwS 2 hts g_M_47 rfl rfl rfl (by decide +kernel) ⟨(Nat.le_of_ble_eq_true rfl), (Nat.le_of_ble_eq_true rfl)⟩) preEq rfl rfl hl.1 rfl (lv_room (Nat.le_of_ble_eq_true rfl)) d_M_write_145 ⟨(Nat.le_of_ble_eq_true rfl), (Nat.le_of_ble_eq_true rfl)⟩) (fun r hr0 => ?_)
    subst hr0
    refine lv_istore hx hb d_M_write_148 hl (by decide) rfl (fun ls hl => ?_)
    have hl : lv_has ls 11 [(10, .int (dg (dg (dg lk0 (x0 ^^^ (dg (dg 19088743 g0) (nI (51 * a0 + 31 + 4 * n0))))) ((hiW v0) ^^^ (dg (dg 19088743 g0) (nI ((51 * a0 + 31 + 4 * n0) + 1))))) ((loW v0) ^^^ (dg (dg 19088743 g0) (nI ((51 * a0 + 31 + 4 * n0) + 2)))))), (9, .int ((loW v0) ^^^ (dg (dg 19088743 g0) (nI ((51 * a0 + 31 + 4 * n0) + 2))))), (8, .int ((hiW v0) ^^^ (dg (dg 19088743 g0) (nI ((51 * a0 + 31 + 4 * n0) + 1))))), (7, .int (x0 ^^^ (dg (dg 19088743 g0) (nI (51 * a0 + 31 + 4 * n0))))), (6, .int (nI (51 * a0 + 31 + 4 * n0))), (5, .int (nI n0)), (0, .ref h0), (1, .int x0), (2, .long v0)] := hl
    refine lv_aload_n hx hb d_M_write_150 rfl (lv_at hl 6 rfl) ?_
    refine lv_iload hx hb d_M_write_151 (lv_at hl 4 rfl) ?_
    refine lv_iload hx hb d_M_write_153 (lv_at hl 3 rfl) ?_
    refine z_callv (va_runV (C := R_M) (b := h0) (As := [.int (nI (51 * a0 + 31 + 4 * n0)), .int (x0 ^^^ (dg (dg 19088743 g0) (nI (51 * a0 + 31 + 4 * n0))))]) (rest := []) ⟨hx, hb, hml, hown, hts⟩ (mc_put l dC dI h0 qd qs qv qh qn cI cJ _ (true, (d0, sl0, sm0)) a0 g0 rt0 ct0 true n0 lk0 lq0 vq0 hs0 nd0 (51 * a0 + 31 + 4 * n0) (x0 ^^^ (dg (dg 19088743 g0) (nI (51 * a0 + 31 + 4 * n0)))) (by omega)) (cwV 2 hts g_M_116 rfl rfl rfl (by decide +kernel) ⟨(Nat.le_of_ble_eq_true rfl), (Nat.le_of_ble_eq_true rfl)⟩) (z_preV (va_recv (q0 := 0) hK hP rfl rfl) hP hK hD) rfl rfl hl.1 rfl (lv_room (Nat.le_of_ble_eq_true rfl)) d_M_write_155 ⟨(Nat.le_of_ble_eq_true rfl), (Nat.le_of_ble_eq_true rfl)⟩) hS hD hA (fun u H locs hr0 hP hD hS => ?_)
    obtain ⟨q1, hq1, rfl⟩ := hr0
    refine lv_aload_n hx hb d_M_write_158 rfl (lv_at hl 6 rfl) ?_
    refine lv_iload hx hb d_M_write_159 (lv_at hl 4 rfl) ?_
    refine lv_iconst (v := nI 1) hx hb d_M_write_161 (by decide) ?_
    refine lv_iadd hx hb d_M_write_162 ?_
    refine z_top (nI_add _ _) ?_
    refine lv_iload hx hb d_M_write_163 (lv_at hl 2 rfl) ?_
    refine z_callv (va_runV (C := R_M) (b := h0) (As := [.int (nI ((51 * a0 + 31 + 4 * n0) + 1)), .int ((hiW v0) ^^^ (dg (dg 19088743 g0) (nI ((51 * a0 + 31 + 4 * n0) + 1))))]) (rest := []) ⟨hx, hb, hml, hown, hts⟩ (mc_put l dC dI h0 qd qs qv qh qn cI cJ _ q1 a0 g0 rt0 ct0 true n0 lk0 lq0 vq0 hs0 nd0 ((51 * a0 + 31 + 4 * n0) + 1) ((hiW v0) ^^^ (dg (dg 19088743 g0) (nI ((51 * a0 + 31 + 4 * n0) + 1)))) (by omega)) (cwV 2 hts g_M_116 rfl rfl rfl (by decide +kernel) ⟨(Nat.le_of_ble_eq_true rfl), (Nat.le_of_ble_eq_true rfl)⟩) (z_preV (va_recv (q0 := 0) hK hP rfl rfl) hP hK hD) rfl rfl hl.1 rfl (lv_room (Nat.le_of_ble_eq_true rfl)) d_M_write_165 ⟨(Nat.le_of_ble_eq_true rfl), (Nat.le_of_ble_eq_true rfl)⟩) hS hD hA (fun u H locs hr0 hP hD hS => ?_)
    obtain ⟨q2, hq2, rfl⟩ := hr0
    refine lv_aload_n hx hb d_M_write_168 rfl (lv_at hl 6 rfl) ?_
    refine lv_iload hx hb d_M_write_169 (lv_at hl 4 rfl) ?_
    refine lv_iconst (v := nI 2) hx hb d_M_write_171 (by decide) ?_
    refine lv_iadd hx hb d_M_write_172 ?_
    refine z_top (nI_add _ _) ?_
    refine lv_iload hx hb d_M_write_173 (lv_at hl 1 rfl) ?_
    refine z_callv (va_runV (C := R_M) (b := h0) (As := [.int (nI ((51 * a0 + 31 + 4 * n0) + 2)), .int ((loW v0) ^^^ (dg (dg 19088743 g0) (nI ((51 * a0 + 31 + 4 * n0) + 2))))]) (rest := []) ⟨hx, hb, hml, hown, hts⟩ (mc_put l dC dI h0 qd qs qv qh qn cI cJ _ q2 a0 g0 rt0 ct0 true n0 lk0 lq0 vq0 hs0 nd0 ((51 * a0 + 31 + 4 * n0) + 2) ((loW v0) ^^^ (dg (dg 19088743 g0) (nI ((51 * a0 + 31 + 4 * n0) + 2)))) (by omega)) (cwV 2 hts g_M_116 rfl rfl rfl (by decide +kernel) ⟨(Nat.le_of_ble_eq_true rfl), (Nat.le_of_ble_eq_true rfl)⟩) (z_preV (va_recv (q0 := 0) hK hP rfl rfl) hP hK hD) rfl rfl hl.1 rfl (lv_room (Nat.le_of_ble_eq_true rfl)) d_M_write_175 ⟨(Nat.le_of_ble_eq_true rfl), (Nat.le_of_ble_eq_true rfl)⟩) hS hD hA (fun u H locs hr0 hP hD hS => ?_)
    obtain ⟨q3, hq3, rfl⟩ := hr0
    refine lv_aload_n hx hb d_M_write_178 rfl (lv_at hl 6 rfl) ?_
    refine lv_iload hx hb d_M_write_179 (lv_at hl 4 rfl) ?_
    refine lv_iconst (v := nI 3) hx hb d_M_write_181 (by decide) ?_
    refine lv_iadd hx hb d_M_write_182 ?_
    refine z_top (nI_add _ _) ?_
    refine lv_iload hx hb d_M_write_183 (lv_at hl 0 rfl) ?_
    refine lv_iconst (v := (1 : Int32)) hx hb d_M_write_185 (by decide) ?_
    refine lv_ior hx hb d_M_write_186 ?_
    refine z_callv (va_runV (C := R_M) (b := h0) (As := [.int (nI ((51 * a0 + 31 + 4 * n0) + 3)), .int ((dg (dg (dg lk0 (x0 ^^^ (dg (dg 19088743 g0) (nI (51 * a0 + 31 + 4 * n0))))) ((hiW v0) ^^^ (dg (dg 19088743 g0) (nI ((51 * a0 + 31 + 4 * n0) + 1))))) ((loW v0) ^^^ (dg (dg 19088743 g0) (nI ((51 * a0 + 31 + 4 * n0) + 2))))) ||| (1 : Int32))]) (rest := []) ⟨hx, hb, hml, hown, hts⟩ (mc_put l dC dI h0 qd qs qv qh qn cI cJ _ q3 a0 g0 rt0 ct0 true n0 lk0 lq0 vq0 hs0 nd0 ((51 * a0 + 31 + 4 * n0) + 3) ((dg (dg (dg lk0 (x0 ^^^ (dg (dg 19088743 g0) (nI (51 * a0 + 31 + 4 * n0))))) ((hiW v0) ^^^ (dg (dg 19088743 g0) (nI ((51 * a0 + 31 + 4 * n0) + 1))))) ((loW v0) ^^^ (dg (dg 19088743 g0) (nI ((51 * a0 + 31 + 4 * n0) + 2))))) ||| (1 : Int32)) (by omega)) (cwV 2 hts g_M_116 rfl rfl rfl (by decide +kernel) ⟨(Nat.le_of_ble_eq_true rfl), (Nat.le_of_ble_eq_true rfl)⟩) (z_preV (va_recv (q0 := 0) hK hP rfl rfl) hP hK hD) rfl rfl hl.1 rfl (lv_room (Nat.le_of_ble_eq_true rfl)) d_M_write_187 ⟨(Nat.le_of_ble_eq_true rfl), (Nat.le_of_ble_eq_true rfl)⟩) hS hD hA (fun u H locs hr0 hP hD hS => ?_)
    obtain ⟨q4, hq4, rfl⟩ := hr0
    obtain ⟨_ | _, d4, sl4, sm4⟩ := q4
    · refine lv_aload_n hx hb d_M_write_190 rfl (lv_at hl 6 rfl) ?_
      refine va_get (D := (dC, dI)) (ci := 1) (v := .int (bI true)) (C := R_M) (T := F_M) (N := 15) hx hb hts lay_M hown hK hP 0 rfl rfl 8 (by decide) (hts _ m_278) (fun _ h9 => h9) rfl d_M_write_191 ?_
      refine lv_if_eq (tgt := 200) hx hb d_M_write_194 (by decide) (fun h9 => absurd h9 (by decide)) (fun _ => ?_)
      refine lv_bipush (v := (-4 : Int32)) hx hb d_M_write_197 (by decide) ?_
      exact W.iret hx hb hr (fun t ht hW => ⟨⟨(-4 : Int32), (d4, a0, g0, rt0, ct0, false, sl4, sm4, true, 0, lk0, lq0, vq0, hs0, nd0), rfl, hF _ _ ⟨_, _, _, Or.inr ⟨(by unfold srM enc; rw [← hq1, ← hq2, ← hq3]; exact hq4.symm), rfl, rfl⟩⟩, by rw [ht]; exact hP, va_K.moved hW.alike hK, hD⟩, hS.F ht⟩) hS.2.2 d_M_write_199
    · refine lv_aload_n hx hb d_M_write_190 rfl (lv_at hl 6 rfl) ?_
      refine va_get (D := (dC, dI)) (ci := 1) (v := .int (bI false)) (C := R_M) (T := F_M) (N := 15) hx hb hts lay_M hown hK hP 0 rfl rfl 8 (by decide) (hts _ m_278) (fun _ h9 => h9) rfl d_M_write_191 ?_
      refine lv_if_eq (tgt := 200) hx hb d_M_write_194 (by decide) (fun _ => ?_) (fun h9 => absurd (by decide) h9)
      refine lv_aload_n hx hb d_M_write_200 rfl (lv_at hl 6 rfl) ?_
      refine lv_iload hx hb d_M_write_201 (lv_at hl 0 rfl) ?_
      refine va_put (D := (dC, dI)) (ci := 1) (v := .int (dg (dg (dg lk0 (x0 ^^^ (dg (dg 19088743 g0) (nI (51 * a0 + 31 + 4 * n0))))) ((hiW v0) ^^^ (dg (dg 19088743 g0) (nI ((51 * a0 + 31 + 4 * n0) + 1))))) ((loW v0) ^^^ (dg (dg 19088743 g0) (nI ((51 * a0 + 31 + 4 * n0) + 2)))))) (ty := .int) (C := R_M) (T := F_M) (N := 15) hx hb hts lay_M t_M t_M_ok n_M hown hK hP hD hS 0 rfl rfl 10 (by decide) (hts _ m_280) (fun _ h9 => h9) rfl (by decide +kernel) rfl rfl (Nat.le_of_ble_eq_true rfl) d_M_write_203 (fun H locs hP hD hS => ?_)
      have hP : va_P (dC, dI) classes (Mw h0 qd qs qv qh qn cI cJ (d4, a0, g0, rt0, ct0, true, sl4, sm4, false, n0, dg (dg (dg lk0 (x0 ^^^ (dg (dg 19088743 g0) (nI (51 * a0 + 31 + 4 * n0))))) ((hiW v0) ^^^ (dg (dg 19088743 g0) (nI ((51 * a0 + 31 + 4 * n0) + 1))))) ((loW v0) ^^^ (dg (dg 19088743 g0) (nI ((51 * a0 + 31 + 4 * n0) + 2)))), lq0, vq0, hs0, nd0)) H := hP
      have hD : va_D A (Mw h0 qd qs qv qh qn cI cJ (d4, a0, g0, rt0, ct0, true, sl4, sm4, false, n0, dg (dg (dg lk0 (x0 ^^^ (dg (dg 19088743 g0) (nI (51 * a0 + 31 + 4 * n0))))) ((hiW v0) ^^^ (dg (dg 19088743 g0) (nI ((51 * a0 + 31 + 4 * n0) + 1))))) ((loW v0) ^^^ (dg (dg 19088743 g0) (nI ((51 * a0 + 31 + 4 * n0) + 2)))), lq0, vq0, hs0, nd0)) := hD
      refine lv_aload_n hx hb d_M_write_206 rfl (lv_at hl 6 rfl) ?_
      refine va_get (D := (dC, dI)) (ci := 1) (v := .ref qs) (C := R_M) (T := F_M) (N := 15) hx hb hts lay_M hown hK hP 0 rfl rfl 11 (by decide) (hts _ m_281) (fun _ h9 => h9) rfl d_M_write_207 ?_
      refine lv_iload hx hb d_M_write_210 (lv_at hl 5 rfl) ?_
      refine lv_iload_n hx hb d_M_write_212 rfl (lv_at hl 7 rfl) ?_
      refine z_iast hx hb hK hP hD hS 2 0 rfl rfl (by omega) (by decide) d_M_write_213 (fun H locs hP hD hS => ?_)
      have hP : va_P (dC, dI) classes (Mw h0 qd qs qv qh qn cI cJ (d4, a0, g0, rt0, ct0, true, sl4, sm4, false, n0, dg (dg (dg lk0 (x0 ^^^ (dg (dg 19088743 g0) (nI (51 * a0 + 31 + 4 * n0))))) ((hiW v0) ^^^ (dg (dg 19088743 g0) (nI ((51 * a0 + 31 + 4 * n0) + 1))))) ((loW v0) ^^^ (dg (dg 19088743 g0) (nI ((51 * a0 + 31 + 4 * n0) + 2)))), upd lq0 n0 x0, vq0, hs0, nd0)) H := hP
      have hD : va_D A (Mw h0 qd qs qv qh qn cI cJ (d4, a0, g0, rt0, ct0, true, sl4, sm4, false, n0, dg (dg (dg lk0 (x0 ^^^ (dg (dg 19088743 g0) (nI (51 * a0 + 31 + 4 * n0))))) ((hiW v0) ^^^ (dg (dg 19088743 g0) (nI ((51 * a0 + 31 + 4 * n0) + 1))))) ((loW v0) ^^^ (dg (dg 19088743 g0) (nI ((51 * a0 + 31 + 4 * n0) + 2)))), upd lq0 n0 x0, vq0, hs0, nd0)) := hD
      refine lv_aload_n hx hb d_M_write_214 rfl (lv_at hl 6 rfl) ?_
      refine va_get (D := (dC, dI)) (ci := 1) (v := .ref qv) (C := R_M) (T := F_M) (N := 15) hx hb hts lay_M hown hK hP 0 rfl rfl 12 (by decide) (hts _ m_282) (fun _ h9 => h9) rfl d_M_write_215 ?_
      refine lv_iload hx hb d_M_write_218 (lv_at hl 5 rfl) ?_
      refine lv_lload_n hx hb d_M_write_220 rfl (lv_at hl 8 rfl) ?_
      refine z_last hx hb hK hP hD hS 3 1 rfl rfl (by omega) (by decide) d_M_write_221 (fun H locs hP hD hS => ?_)
      have hP : va_P (dC, dI) classes (Mw h0 qd qs qv qh qn cI cJ (d4, a0, g0, rt0, ct0, true, sl4, sm4, false, n0, dg (dg (dg lk0 (x0 ^^^ (dg (dg 19088743 g0) (nI (51 * a0 + 31 + 4 * n0))))) ((hiW v0) ^^^ (dg (dg 19088743 g0) (nI ((51 * a0 + 31 + 4 * n0) + 1))))) ((loW v0) ^^^ (dg (dg 19088743 g0) (nI ((51 * a0 + 31 + 4 * n0) + 2)))), upd lq0 n0 x0, vp_updL vq0 n0 v0, hs0, nd0)) H := hP
      have hD : va_D A (Mw h0 qd qs qv qh qn cI cJ (d4, a0, g0, rt0, ct0, true, sl4, sm4, false, n0, dg (dg (dg lk0 (x0 ^^^ (dg (dg 19088743 g0) (nI (51 * a0 + 31 + 4 * n0))))) ((hiW v0) ^^^ (dg (dg 19088743 g0) (nI ((51 * a0 + 31 + 4 * n0) + 1))))) ((loW v0) ^^^ (dg (dg 19088743 g0) (nI ((51 * a0 + 31 + 4 * n0) + 2)))), upd lq0 n0 x0, vp_updL vq0 n0 v0, hs0, nd0)) := hD
      refine lv_aload_n hx hb d_M_write_222 rfl (lv_at hl 6 rfl) ?_
      refine lv_iload hx hb d_M_write_223 (lv_at hl 5 rfl) ?_
      refine lv_iconst (v := nI 1) hx hb d_M_write_225 (by decide) ?_
      refine lv_iadd hx hb d_M_write_226 ?_
      refine z_top (nI_add _ _) ?_
      refine va_put (D := (dC, dI)) (ci := 1) (v := .int (nI (n0 + 1))) (ty := .int) (C := R_M) (T := F_M) (N := 15) hx hb hts lay_M t_M t_M_ok n_M hown hK hP hD hS 0 rfl rfl 9 (by decide) (hts _ m_279) (fun _ h9 => h9) rfl (by decide +kernel) rfl rfl (Nat.le_of_ble_eq_true rfl) d_M_write_227 (fun H locs hP hD hS => ?_)
      have hP : va_P (dC, dI) classes (Mw h0 qd qs qv qh qn cI cJ (d4, a0, g0, rt0, ct0, true, sl4, sm4, false, n0 + 1, dg (dg (dg lk0 (x0 ^^^ (dg (dg 19088743 g0) (nI (51 * a0 + 31 + 4 * n0))))) ((hiW v0) ^^^ (dg (dg 19088743 g0) (nI ((51 * a0 + 31 + 4 * n0) + 1))))) ((loW v0) ^^^ (dg (dg 19088743 g0) (nI ((51 * a0 + 31 + 4 * n0) + 2)))), upd lq0 n0 x0, vp_updL vq0 n0 v0, hs0, nd0)) H := hP
      have hD : va_D A (Mw h0 qd qs qv qh qn cI cJ (d4, a0, g0, rt0, ct0, true, sl4, sm4, false, n0 + 1, dg (dg (dg lk0 (x0 ^^^ (dg (dg 19088743 g0) (nI (51 * a0 + 31 + 4 * n0))))) ((hiW v0) ^^^ (dg (dg 19088743 g0) (nI ((51 * a0 + 31 + 4 * n0) + 1))))) ((loW v0) ^^^ (dg (dg 19088743 g0) (nI ((51 * a0 + 31 + 4 * n0) + 2)))), upd lq0 n0 x0, vp_updL vq0 n0 v0, hs0, nd0)) := hD
      refine lv_aload_n hx hb d_M_write_230 rfl (lv_at hl 6 rfl) ?_
      refine va_get (D := (dC, dI)) (ci := 1) (v := .int (nI (n0 + 1))) (C := R_M) (T := F_M) (N := 15) hx hb hts lay_M hown hK hP 0 rfl rfl 9 (by decide) (hts _ m_279) (fun _ h9 => h9) rfl d_M_write_231 ?_
      exact W.iret hx hb hr (fun t ht hW => ⟨⟨nI (n0 + 1), (d4, a0, g0, rt0, ct0, true, sl4, sm4, false, n0 + 1, dg (dg (dg lk0 (x0 ^^^ (dg (dg 19088743 g0) (nI (51 * a0 + 31 + 4 * n0))))) ((hiW v0) ^^^ (dg (dg 19088743 g0) (nI ((51 * a0 + 31 + 4 * n0) + 1))))) ((loW v0) ^^^ (dg (dg 19088743 g0) (nI ((51 * a0 + 31 + 4 * n0) + 2)))), upd lq0 n0 x0, vp_updL vq0 n0 v0, hs0, nd0), rfl, hF _ _ ⟨_, _, _, Or.inl ⟨(by unfold srM enc; rw [← hq1, ← hq2, ← hq3]; exact hq4.symm), rfl, rfl⟩⟩, by rw [ht]; exact hP, va_K.moved hW.alike hK, hD⟩, hS.F ht⟩) hS.2.2 d_M_write_234
  cases pw with
  | false =>
    refine lv_aload_n hx hb d_M_write_0 rfl (lv_at hl 0 rfl) ?_
    refine va_get (D := (dC, dI)) (ci := 1) (v := .int (bI false)) (C := R_M) (T := F_M) (N := 15) hx hb hts lay_M hown hK hP 0 rfl rfl 5 (by decide) (hts _ m_275) (fun _ h9 => h9) rfl d_M_write_1 ?_
    refine lv_if_ne (tgt := 9) hx hb d_M_write_4 (by decide) (fun h9 => absurd (by decide) h9) (fun _ => ?_)
    refine lv_iconst (v := (-1 : Int32)) hx hb d_M_write_7 (by decide) ?_
    exact W.iret hx hb hr (fun t ht hW => ⟨⟨(-1 : Int32), (dk, hf, gn, rt, ct, false, sl, sm, cu, ln, lk, lq, vq, hs, nd), rfl, Or.inl ⟨rfl, rfl, rfl⟩, by rw [ht]; exact hP, va_K.moved hW.alike hK, hD⟩, hS.F ht⟩) hS.2.2 d_M_write_8
  | true =>
    refine lv_aload_n hx hb d_M_write_0 rfl (lv_at hl 0 rfl) ?_
    refine va_get (D := (dC, dI)) (ci := 1) (v := .int (bI true)) (C := R_M) (T := F_M) (N := 15) hx hb hts lay_M hown hK hP 0 rfl rfl 5 (by decide) (hts _ m_275) (fun _ h9 => h9) rfl d_M_write_1 ?_
    refine lv_if_ne (tgt := 9) hx hb d_M_write_4 (by decide) (fun _ => ?_) (fun h9 => absurd h9 (by decide))
    refine lv_iload_n hx hb d_M_write_9 rfl (lv_at hl 1 rfl) ?_
    refine lv_if_lt (tgt := 25) hx hb d_M_write_10 (by decide) (fun h5 => ?_) (fun h5 => ?_)
    · refine lv_bipush (v := (-2 : Int32)) hx hb d_M_write_25 (by decide) ?_
      exact W.iret hx hb hr (fun t ht hW => ⟨⟨(-2 : Int32), (dk, hf, gn, rt, ct, true, sl, sm, cu, ln, lk, lq, vq, hs, nd), rfl, Or.inr (Or.inl ⟨rfl, Or.inl (isIn_lo h5), rfl, rfl⟩), by rw [ht]; exact hP, va_K.moved hW.alike hK, hD⟩, hS.F ht⟩) hS.2.2 d_M_write_27
    · refine lv_iload_n hx hb d_M_write_13 rfl (lv_at hl 1 rfl) ?_
      refine lv_bipush (v := (7 : Int32)) hx hb d_M_write_14 (by decide) ?_
      refine lv_icmp_gt (tgt := 25) hx hb d_M_write_16 (by decide) (fun h6 => ?_) (fun h6 => ?_)
      · refine lv_bipush (v := (-2 : Int32)) hx hb d_M_write_25 (by decide) ?_
        exact W.iret hx hb hr (fun t ht hW => ⟨⟨(-2 : Int32), (dk, hf, gn, rt, ct, true, sl, sm, cu, ln, lk, lq, vq, hs, nd), rfl, Or.inr (Or.inl ⟨rfl, Or.inl (isIn_hi ((z_gt (n := 7) (by decide)).mp h6)), rfl, rfl⟩), by rw [ht]; exact hP, va_K.moved hW.alike hK, hD⟩, hS.F ht⟩) hS.2.2 d_M_write_27
      · refine lv_lload_n hx hb d_M_write_19 rfl (lv_at hl 2 rfl) ?_
        refine lv_lconst (v := 0) hx hb d_M_write_20 (by decide) ?_
        refine W.lcmp hx hb d_M_write_21 ?_
        refine lv_if_ge (tgt := 28) hx hb d_M_write_22 (by decide) (fun h7 => ?_) (fun h7 => ?_)
        · refine lv_aload_n hx hb d_M_write_28 rfl (lv_at hl 0 rfl) ?_
          refine lv_iconst (v := (0 : Int32)) hx hb d_M_write_29 (by decide) ?_
          refine va_put (D := (dC, dI)) (ci := 1) (v := .int (0 : Int32)) (ty := .boolean) (C := R_M) (T := F_M) (N := 15) hx hb hts lay_M t_M t_M_ok n_M hown hK hP hD hS 0 rfl rfl 8 (by decide) (hts _ m_278) (fun _ h9 => h9) rfl (by decide +kernel) rfl rfl (Nat.le_of_ble_eq_true rfl) d_M_write_30 (fun H locs hP hD hS => ?_)
          have hP : va_P (dC, dI) classes (Mw h0 qd qs qv qh qn cI cJ (dk, hf, gn, rt, ct, true, sl, sm, false, ln, lk, lq, vq, hs, nd)) H := hP
          have hD : va_D A (Mw h0 qd qs qv qh qn cI cJ (dk, hf, gn, rt, ct, true, sl, sm, false, ln, lk, lq, vq, hs, nd)) := hD
          refine lv_aload_n hx hb d_M_write_33 rfl (lv_at hl 0 rfl) ?_
          refine va_get (D := (dC, dI)) (ci := 1) (v := .int (nI ln)) (C := R_M) (T := F_M) (N := 15) hx hb hts lay_M hown hK hP 0 rfl rfl 9 (by decide) (hts _ m_279) (fun _ h9 => h9) rfl d_M_write_34 ?_
          refine lv_iconst (v := nI 5) hx hb d_M_write_37 (by decide) ?_
          refine lv_icmp_ne (tgt := 48) hx hb d_M_write_38 (by decide) (fun h8 => ?_) (fun h8 => ?_)
          · have h8 : ¬ ln = 5 := fun q => h8 (by rw [q])
            refine lv_iconst (v := (0 : Int32)) hx hb d_M_write_48 (by decide) ?_
            refine lv_istore hx hb d_M_write_49 hl (by decide) rfl (fun ls hl => ?_)
            have hl : lv_has ls 11 [(4, .int (0 : Int32)), (0, .ref h0), (1, .int x0), (2, .long v0)] := hl
            refine lv_iload hx hb d_M_write_51 (lv_at hl 0 rfl) ?_
            refine lv_if_ge (tgt := 59) hx hb d_M_write_53 (by decide) (fun _ => ?_) (fun h9 => absurd (by decide) h9)
            exact rest _ _ _ _ _ _ _ _ _ _ _ _ _ ls _ _ (by omega) (by omega) (lv_sub hl [1, 2, 3] rfl) hP hD hS (fun r u hq => Or.inr (Or.inr ⟨rfl, isIn_no h5 (z_gt7 h6), z_nn4 h7, Or.inl ⟨h8, hq⟩⟩))
          · have h8 : ln = 5 := (nI_eq (b := 5) (by omega) (by decide)).mp h8
            refine lv_aload_n hx hb d_M_write_41 rfl (lv_at hl 0 rfl) ?_
            refine z_calli (va_runV (C := R_M) (b := h0) (As := []) (rest := []) ⟨hx, hb, hml, hown, hts⟩ (mc_change l dC dI h0 qd qs qv qh qn cI cJ _ dk hf gn rt ct true sl sm ln lk lq vq hs nd (by omega) (by omega)) (cwV 0 hts g_M_123 rfl rfl rfl (by decide +kernel) ⟨(Nat.le_of_ble_eq_true rfl), (Nat.le_of_ble_eq_true rfl)⟩) (z_preV (va_recv (q0 := 0) hK hP rfl rfl) hP hK hD) rfl rfl hl.1 rfl (lv_room (Nat.le_of_ble_eq_true rfl)) d_M_write_42 ⟨(Nat.le_of_ble_eq_true rfl), (Nat.le_of_ble_eq_true rfl)⟩) hS hD hA (fun r u H locs hr0 hP hD hS => ?_)
            have hch9 := hr0
            obtain ⟨ha9, rfl, hs9, rfl⟩ | ⟨ha9, hs9, nd9, d9, sl9, sm9, hn9, ⟨hc9, rfl, rfl⟩ | ⟨hc9, rfl, lk9, rfl⟩⟩ := hr0
            · refine lv_goto (tgt := 49) hx hb d_M_write_45 (by decide) ?_
              refine lv_istore hx hb d_M_write_49 hl (by decide) rfl (fun ls hl => ?_)
              have hl : lv_has ls 11 [(4, .int (-3 : Int32)), (0, .ref h0), (1, .int x0), (2, .long v0)] := hl
              refine lv_iload hx hb d_M_write_51 (lv_at hl 0 rfl) ?_
              refine lv_if_ge (tgt := 59) hx hb d_M_write_53 (by decide) (fun h9 => absurd h9 (by decide)) (fun _ => ?_)
              refine lv_iload hx hb d_M_write_56 (lv_at hl 0 rfl) ?_
              exact W.iret hx hb hr (fun t ht hW => ⟨⟨(-3 : Int32), (dk, hf, gn, rt, ct, true, sl, sm, false, ln, lk, lq, vq, hs9, nd), rfl, Or.inr (Or.inr ⟨rfl, isIn_no h5 (z_gt7 h6), z_nn4 h7, Or.inr ⟨h8, _, _, hch9, Or.inl ⟨by decide, rfl, rfl⟩⟩⟩), by rw [ht]; exact hP, va_K.moved hW.alike hK, hD⟩, hS.F ht⟩) hS.2.2 d_M_write_58
            · refine lv_goto (tgt := 49) hx hb d_M_write_45 (by decide) ?_
              refine lv_istore hx hb d_M_write_49 hl (by decide) rfl (fun ls hl => ?_)
              have hl : lv_has ls 11 [(4, .int (0 : Int32)), (0, .ref h0), (1, .int x0), (2, .long v0)] := hl
              refine lv_iload hx hb d_M_write_51 (lv_at hl 0 rfl) ?_
              refine lv_if_ge (tgt := 59) hx hb d_M_write_53 (by decide) (fun _ => ?_) (fun h9 => absurd (by decide) h9)
              exact rest _ _ _ _ _ _ _ _ _ _ _ _ _ ls _ _ (by omega) (by omega) (lv_sub hl [1, 2, 3] rfl) hP hD hS (fun r u hq => Or.inr (Or.inr ⟨rfl, isIn_no h5 (z_gt7 h6), z_nn4 h7, Or.inr ⟨h8, _, _, hch9, Or.inr ⟨rfl, hq⟩⟩⟩))
            · refine lv_goto (tgt := 49) hx hb d_M_write_45 (by decide) ?_
              refine lv_istore hx hb d_M_write_49 hl (by decide) rfl (fun ls hl => ?_)
              have hl : lv_has ls 11 [(4, .int (-4 : Int32)), (0, .ref h0), (1, .int x0), (2, .long v0)] := hl
              refine lv_iload hx hb d_M_write_51 (lv_at hl 0 rfl) ?_
              refine lv_if_ge (tgt := 59) hx hb d_M_write_53 (by decide) (fun h9 => absurd h9 (by decide)) (fun _ => ?_)
              refine lv_iload hx hb d_M_write_56 (lv_at hl 0 rfl) ?_
              exact W.iret hx hb hr (fun t ht hW => ⟨⟨(-4 : Int32), (d9, hf, gn, rt, ct, false, sl9, sm9, true, 0, lk9, lq, vq, hs9, nd9), rfl, Or.inr (Or.inr ⟨rfl, isIn_no h5 (z_gt7 h6), z_nn4 h7, Or.inr ⟨h8, _, _, hch9, Or.inl ⟨by decide, rfl, rfl⟩⟩⟩), by rw [ht]; exact hP, va_K.moved hW.alike hK, hD⟩, hS.F ht⟩) hS.2.2 d_M_write_58
        · refine lv_bipush (v := (-2 : Int32)) hx hb d_M_write_25 (by decide) ?_
          exact W.iret hx hb hr (fun t ht hW => ⟨⟨(-2 : Int32), (dk, hf, gn, rt, ct, true, sl, sm, cu, ln, lk, lq, vq, hs, nd), rfl, Or.inr (Or.inl ⟨rfl, Or.inr (z_nn3 h7), rfl, rfl⟩), by rw [ht]; exact hP, va_K.moved hW.alike hK, hD⟩, hS.F ht⟩) hS.2.2 d_M_write_27
set_option maxHeartbeats 1000000 in
set_option maxRecDepth 100000 in
theorem mc_sync (l : Launch) (dC : Nat → ClassId) (dI : Nat → Nat → Nat) (h0 qd qs qv qh qn : Nat) (cI cJ : ClassId) (sz : Nat) (dk : Nat → Int32) (hf : Nat) (gn : Int32) (rt : Int32) (ct : Int32) (pw : Bool) (sl : Int32) (sm : Int32) (cu : Bool) (ln : Nat) (lk : Int32) (lq : Nat → Int32) (vq : Nat → Int64) (hs : Nat → Int64) (nd : Nat → Int32)   : Met l y_M_sync w_M_sync ({ frames := 2, cells := 0, slots := 0, locals := 44 }) (va_Pc [.ref h0] (z_pre (dC, dI) classes [(cI, .int), (cJ, .long)] (Mw h0 qd qs qv qh qn cI cJ (dk, hf, gn, rt, ct, pw, sl, sm, cu, ln, lk, lq, vq, hs, nd)) sz)) (va_Qi (fun (r : Int32) (u : MS) => (pw = false ∧ r = -1 ∧ u = (dk, hf, gn, rt, ct, pw, sl, sm, cu, ln, lk, lq, vq, hs, nd)) ∨ (pw = true ∧ ∃ (d1 : Nat → Int32) (sl1 sm1 : Int32), (st1 (true, (dk, sl, sm)) = (true, (d1, sl1, sm1)) ∧ r = nI ln ∧ u = (d1, hf, gn, rt, nI ln, true, sl1, sm1, false, ln, lk, lq, vq, hs, nd)) ∨ (st1 (true, (dk, sl, sm)) = (false, (d1, sl1, sm1)) ∧ r = -4 ∧ u = (d1, hf, gn, rt, ct, false, sl1, sm1, true, 0, lk, lq, vq, hs, nd)))) (fun u => z_at (dC, dI) classes [(cI, .int), (cJ, .long)] (va_A (Mw h0 qd qs qv qh qn cI cJ (dk, hf, gn, rt, ct, pw, sl, sm, cu, ln, lk, lq, vq, hs, nd)) sz) (Mw h0 qd qs qv qh qn cI cJ u)) (va_A (Mw h0 qd qs qv qh qn cI cJ (dk, hf, gn, rt, ct, pw, sl, sm, cu, ln, lk, lq, vq, hs, nd)) sz)) 0 0 (va_A (Mw h0 qd qs qv qh qn cI cJ (dk, hf, gn, rt, ct, pw, sl, sm, cu, ln, lk, lq, vq, hs, nd)) sz) := by
  refine Met.ofW (cc := b_M_sync) (maxL := 2) (ret := (some .int)) (by decide) rfl ?_
  intro p e s m args below meth c s₁ B hml hv
  obtain ⟨rfl, hsz, hP, hK, hD0⟩ := hv
  have hx := B.exec
  have hb := B.bytes
  have hr := B.returns
  have hts := fun (w : Cond) (h : w ∈ lw_U) => atoms_spec (ws := w_M_sync) B.pre w (List.mem_cons_of_mem _ h)
  have hown : s.vm.findClass R_M = some m.cls := findClass_of_methodNamed B.named
  have hlocks := B.notSynchronized
  subst hsz
  have hD := hD0.self (sz := s.heap.size)
  generalize hAe : va_A (Mw h0 qd qs qv qh qn cI cJ (dk, hf, gn, rt, ct, pw, sl, sm, cu, ln, lk, lq, vq, hs, nd)) s.heap.size = A at hD ⊢
  have hA : ∀ q : Nat, s.heap.size ≤ q → A q := fun q h => by rw [← hAe]; exact Or.inr h
  have hS : va_S A s.heap s.heap [] := va_S.rf
  have hP : va_P (dC, dI) classes (Mw h0 qd qs qv qh qn cI cJ (dk, hf, gn, rt, ct, pw, sl, sm, cu, ln, lk, lq, vq, hs, nd)) s.heap := hP
  have hl := lv_entry ([.ref h0]) (n := 2) (Nat.le_of_ble_eq_true rfl)
  rw [lg_entry_eq]
  generalize (lg_sl ([.ref h0]) ++ List.replicate (2 - (lg_sl ([.ref h0])).length) Slot.unset).toArray = ls at hl ⊢
  have hl : lv_has ls 2 [(0, .ref h0)] := hl
  cases pw with
  | false =>
    refine lv_aload_n hx hb d_M_sync_0 rfl (lv_at hl 0 rfl) ?_
    refine va_get (D := (dC, dI)) (ci := 1) (v := .int (bI false)) (C := R_M) (T := F_M) (N := 15) hx hb hts lay_M hown hK hP 0 rfl rfl 5 (by decide) (hts _ m_275) (fun _ h9 => h9) rfl d_M_sync_1 ?_
    refine lv_if_ne (tgt := 9) hx hb d_M_sync_4 (by decide) (fun h9 => absurd (by decide) h9) (fun _ => ?_)
    refine lv_iconst (v := (-1 : Int32)) hx hb d_M_sync_7 (by decide) ?_
    exact W.iret hx hb hr (fun t ht hW => ⟨⟨(-1 : Int32), (dk, hf, gn, rt, ct, false, sl, sm, cu, ln, lk, lq, vq, hs, nd), rfl, Or.inl ⟨rfl, rfl, rfl⟩, by rw [ht]; exact hP, va_K.moved hW.alike hK, hD⟩, hS.F ht⟩) hS.2.2 d_M_sync_8
  | true =>
    refine lv_aload_n hx hb d_M_sync_0 rfl (lv_at hl 0 rfl) ?_
    refine va_get (D := (dC, dI)) (ci := 1) (v := .int (bI true)) (C := R_M) (T := F_M) (N := 15) hx hb hts lay_M hown hK hP 0 rfl rfl 5 (by decide) (hts _ m_275) (fun _ h9 => h9) rfl d_M_sync_1 ?_
    refine lv_if_ne (tgt := 9) hx hb d_M_sync_4 (by decide) (fun _ => ?_) (fun h9 => absurd h9 (by decide))
    refine lv_aload_n hx hb d_M_sync_9 rfl (lv_at hl 0 rfl) ?_
    refine lv_iconst (v := (0 : Int32)) hx hb d_M_sync_10 (by decide) ?_
    refine va_put (D := (dC, dI)) (ci := 1) (v := .int (0 : Int32)) (ty := .boolean) (C := R_M) (T := F_M) (N := 15) hx hb hts lay_M t_M t_M_ok n_M hown hK hP hD hS 0 rfl rfl 8 (by decide) (hts _ m_278) (fun _ h9 => h9) rfl (by decide +kernel) rfl rfl (Nat.le_of_ble_eq_true rfl) d_M_sync_11 (fun H locs hP hD hS => ?_)
    have hP : va_P (dC, dI) classes (Mw h0 qd qs qv qh qn cI cJ (dk, hf, gn, rt, ct, true, sl, sm, false, ln, lk, lq, vq, hs, nd)) H := hP
    have hD : va_D A (Mw h0 qd qs qv qh qn cI cJ (dk, hf, gn, rt, ct, true, sl, sm, false, ln, lk, lq, vq, hs, nd)) := hD
    refine lv_aload_n hx hb d_M_sync_14 rfl (lv_at hl 0 rfl) ?_
    refine va_get (D := (dC, dI)) (ci := 1) (v := .int (nI ln)) (C := R_M) (T := F_M) (N := 15) hx hb hts lay_M hown hK hP 0 rfl rfl 9 (by decide) (hts _ m_279) (fun _ h9 => h9) rfl d_M_sync_15 ?_
    refine lv_istore_n hx hb d_M_sync_18 rfl hl (by decide) rfl (fun ls hl => ?_)
    have hl : lv_has ls 2 [(1, .int (nI ln)), (0, .ref h0)] := hl
    refine lv_aload_n hx hb d_M_sync_19 rfl (lv_at hl 1 rfl) ?_
    refine lv_aload_n hx hb d_M_sync_20 rfl (lv_at hl 1 rfl) ?_
    refine va_get (D := (dC, dI)) (ci := 1) (v := .int (nI hf)) (C := R_M) (T := F_M) (N := 15) hx hb hts lay_M hown hK hP 0 rfl rfl 1 (by decide) (hts _ m_271) (fun _ h9 => h9) rfl d_M_sync_21 ?_
    refine lv_aload_n hx hb d_M_sync_24 rfl (lv_at hl 1 rfl) ?_
    refine va_get (D := (dC, dI)) (ci := 1) (v := .int gn) (C := R_M) (T := F_M) (N := 15) hx hb hts lay_M hown hK hP 0 rfl rfl 2 (by decide) (hts _ m_272) (fun _ h9 => h9) rfl d_M_sync_25 ?_
    refine lv_aload_n hx hb d_M_sync_28 rfl (lv_at hl 1 rfl) ?_
    refine va_get (D := (dC, dI)) (ci := 1) (v := .int rt) (C := R_M) (T := F_M) (N := 15) hx hb hts lay_M hown hK hP 0 rfl rfl 3 (by decide) (hts _ m_273) (fun _ h9 => h9) rfl d_M_sync_29 ?_
    refine lv_iload_n hx hb d_M_sync_32 rfl (lv_at hl 0 rfl) ?_
    refine z_callv (va_runV (C := R_M) (b := h0) (As := [.int (nI hf), .int gn, .int rt, .int (nI ln)]) (rest := []) ⟨hx, hb, hml, hown, hts⟩ (mc_changeSeal l dC dI h0 qd qs qv qh qn cI cJ _ (true, (dk, sl, sm)) hf gn rt ct true ln lk lq vq hs nd hf gn rt (nI ln)) (cwV 4 hts g_M_119 rfl rfl rfl (by decide +kernel) ⟨(Nat.le_of_ble_eq_true rfl), (Nat.le_of_ble_eq_true rfl)⟩) (z_preV (va_recv (q0 := 0) hK hP rfl rfl) hP hK hD) rfl rfl hl.1 rfl (lv_room (Nat.le_of_ble_eq_true rfl)) d_M_sync_33 ⟨(Nat.le_of_ble_eq_true rfl), (Nat.le_of_ble_eq_true rfl)⟩) hS hD hA (fun u H locs hr0 hP hD hS => ?_)
    obtain ⟨d1, sl1, sm1, ⟨hc1, rfl⟩ | ⟨hc1, rfl⟩⟩ := hr0
    · refine lv_aload_n hx hb d_M_sync_36 rfl (lv_at hl 1 rfl) ?_
      refine va_get (D := (dC, dI)) (ci := 1) (v := .int (bI false)) (C := R_M) (T := F_M) (N := 15) hx hb hts lay_M hown hK hP 0 rfl rfl 8 (by decide) (hts _ m_278) (fun _ h9 => h9) rfl d_M_sync_37 ?_
      refine lv_if_eq (tgt := 48) hx hb d_M_sync_40 (by decide) (fun _ => ?_) (fun h9 => absurd (by decide) h9)
      refine lv_iload_n hx hb d_M_sync_48 rfl (lv_at hl 0 rfl) ?_
      exact W.iret hx hb hr (fun t ht hW => ⟨⟨nI ln, (d1, hf, gn, rt, nI ln, true, sl1, sm1, false, ln, lk, lq, vq, hs, nd), rfl, Or.inr ⟨rfl, _, _, _, Or.inl ⟨hc1, rfl, rfl⟩⟩, by rw [ht]; exact hP, va_K.moved hW.alike hK, hD⟩, hS.F ht⟩) hS.2.2 d_M_sync_49
    · refine lv_aload_n hx hb d_M_sync_36 rfl (lv_at hl 1 rfl) ?_
      refine va_get (D := (dC, dI)) (ci := 1) (v := .int (bI true)) (C := R_M) (T := F_M) (N := 15) hx hb hts lay_M hown hK hP 0 rfl rfl 8 (by decide) (hts _ m_278) (fun _ h9 => h9) rfl d_M_sync_37 ?_
      refine lv_if_eq (tgt := 48) hx hb d_M_sync_40 (by decide) (fun h9 => absurd h9 (by decide)) (fun _ => ?_)
      refine lv_bipush (v := (-4 : Int32)) hx hb d_M_sync_43 (by decide) ?_
      refine lv_goto (tgt := 49) hx hb d_M_sync_45 (by decide) ?_
      exact W.iret hx hb hr (fun t ht hW => ⟨⟨(-4 : Int32), (d1, hf, gn, rt, ct, false, sl1, sm1, true, 0, lk, lq, vq, hs, nd), rfl, Or.inr ⟨rfl, _, _, _, Or.inr ⟨hc1, rfl, rfl⟩⟩, by rw [ht]; exact hP, va_K.moved hW.alike hK, hD⟩, hS.F ht⟩) hS.2.2 d_M_sync_49
set_option maxHeartbeats 1000000 in
set_option maxRecDepth 100000 in
theorem mc_alter (l : Launch) (dC : Nat → ClassId) (dI : Nat → Nat → Nat) (h0 qd qs qv qh qn : Nat) (cI cJ : ClassId) (sz : Nat) (dk : Nat → Int32) (hf : Nat) (gn : Int32) (rt : Int32) (ct : Int32) (pw : Bool) (sl : Int32) (sm : Int32) (cu : Bool) (ln : Nat) (lk : Int32) (lq : Nat → Int32) (vq : Nat → Int64) (hs : Nat → Int64) (nd : Nat → Int32) (x0 y0 : Int32)  : Met l y_M_alter w_M_alter ({ frames := 1, cells := 0, slots := 0, locals := 20 }) (va_Pc [.ref h0, .int x0, .int y0] (z_pre (dC, dI) classes [(cI, .int), (cJ, .long)] (Mw h0 qd qs qv qh qn cI cJ (dk, hf, gn, rt, ct, pw, sl, sm, cu, ln, lk, lq, vq, hs, nd)) sz)) (va_Qi (fun (r : Int32) (u : MS) => (isIn 102 x0 = 0 ∧ r = 0 ∧ u = (dk, hf, gn, rt, ct, pw, sl, sm, cu, ln, lk, lq, vq, hs, nd)) ∨ (¬ isIn 102 x0 = 0 ∧ r = 1 ∧ u = (upd dk x0.toNatClampNeg (dk x0.toNatClampNeg ^^^ y0), hf, gn, rt, ct, pw, sl, sm, cu, ln, lk, lq, vq, hs, nd))) (fun u => z_at (dC, dI) classes [(cI, .int), (cJ, .long)] (va_A (Mw h0 qd qs qv qh qn cI cJ (dk, hf, gn, rt, ct, pw, sl, sm, cu, ln, lk, lq, vq, hs, nd)) sz) (Mw h0 qd qs qv qh qn cI cJ u)) (va_A (Mw h0 qd qs qv qh qn cI cJ (dk, hf, gn, rt, ct, pw, sl, sm, cu, ln, lk, lq, vq, hs, nd)) sz)) 0 0 (va_A (Mw h0 qd qs qv qh qn cI cJ (dk, hf, gn, rt, ct, pw, sl, sm, cu, ln, lk, lq, vq, hs, nd)) sz) := by
  refine Met.ofW (cc := b_M_alter) (maxL := 3) (ret := (some .boolean)) (by decide) rfl ?_
  intro p e s m args below meth c s₁ B hml hv
  obtain ⟨rfl, hsz, hP, hK, hD0⟩ := hv
  have hx := B.exec
  have hb := B.bytes
  have hr := B.returns
  have hts := fun (w : Cond) (h : w ∈ lw_U) => atoms_spec (ws := w_M_alter) B.pre w (List.mem_cons_of_mem _ h)
  have hown : s.vm.findClass R_M = some m.cls := findClass_of_methodNamed B.named
  have hlocks := B.notSynchronized
  subst hsz
  have hD := hD0.self (sz := s.heap.size)
  generalize hAe : va_A (Mw h0 qd qs qv qh qn cI cJ (dk, hf, gn, rt, ct, pw, sl, sm, cu, ln, lk, lq, vq, hs, nd)) s.heap.size = A at hD ⊢
  have hA : ∀ q : Nat, s.heap.size ≤ q → A q := fun q h => by rw [← hAe]; exact Or.inr h
  have hS : va_S A s.heap s.heap [] := va_S.rf
  have hP : va_P (dC, dI) classes (Mw h0 qd qs qv qh qn cI cJ (dk, hf, gn, rt, ct, pw, sl, sm, cu, ln, lk, lq, vq, hs, nd)) s.heap := hP
  have hl := lv_entry ([.ref h0, .int x0, .int y0]) (n := 3) (Nat.le_of_ble_eq_true rfl)
  rw [lg_entry_eq]
  generalize (lg_sl ([.ref h0, .int x0, .int y0]) ++ List.replicate (3 - (lg_sl ([.ref h0, .int x0, .int y0])).length) Slot.unset).toArray = ls at hl ⊢
  have hl : lv_has ls 3 [(0, .ref h0), (1, .int x0), (2, .int y0)] := hl
  by_cases h8 : isIn 102 x0 = 0
  · refine lv_iload_n hx hb d_M_alter_0 rfl (lv_at hl 1 rfl) ?_
    refine vp_callSi (W.runS (As := [.int x0]) (rest := []) ⟨hx, hb, hml, hown, hts⟩ (mc_place l x0) (cwS 1 hts g_M_127 rfl rfl rfl (by decide +kernel) ⟨(Nat.le_of_ble_eq_true rfl), (Nat.le_of_ble_eq_true rfl)⟩) preEq rfl rfl hl.1 rfl (lv_room (Nat.le_of_ble_eq_true rfl)) d_M_alter_1 ⟨(Nat.le_of_ble_eq_true rfl), (Nat.le_of_ble_eq_true rfl)⟩) (fun r hr0 => ?_)
    subst hr0
    refine lv_if_ne (tgt := 9) hx hb d_M_alter_4 (by decide) (fun h9 => absurd h8 h9) (fun _ => ?_)
    refine lv_iconst (v := (0 : Int32)) hx hb d_M_alter_7 (by decide) ?_
    exact W.zret hx hb hr rfl (fun t ht hW => ⟨⟨(0 : Int32), (dk, hf, gn, rt, ct, pw, sl, sm, cu, ln, lk, lq, vq, hs, nd), rfl, Or.inl ⟨h8, rfl, rfl⟩, by rw [ht]; exact hP, va_K.moved hW.alike hK, hD⟩, hS.F ht⟩) hS.2.2 d_M_alter_8
  · obtain ⟨j, hj, rfl⟩ := isIn_of (n := 102) h8 rfl (by decide)
    refine lv_iload_n hx hb d_M_alter_0 rfl (lv_at hl 1 rfl) ?_
    refine vp_callSi (W.runS (As := [.int (nI j)]) (rest := []) ⟨hx, hb, hml, hown, hts⟩ (mc_place l (nI j)) (cwS 1 hts g_M_127 rfl rfl rfl (by decide +kernel) ⟨(Nat.le_of_ble_eq_true rfl), (Nat.le_of_ble_eq_true rfl)⟩) preEq rfl rfl hl.1 rfl (lv_room (Nat.le_of_ble_eq_true rfl)) d_M_alter_1 ⟨(Nat.le_of_ble_eq_true rfl), (Nat.le_of_ble_eq_true rfl)⟩) (fun r hr0 => ?_)
    subst hr0
    refine lv_if_ne (tgt := 9) hx hb d_M_alter_4 (by decide) (fun _ => ?_) (fun h9 => absurd h9 h8)
    refine lv_aload_n hx hb d_M_alter_9 rfl (lv_at hl 0 rfl) ?_
    refine va_get (D := (dC, dI)) (ci := 1) (v := .ref qd) (C := R_M) (T := F_M) (N := 15) hx hb hts lay_M hown hK hP 0 rfl rfl 0 (by decide) (hts _ m_270) (fun _ h9 => h9) rfl d_M_alter_10 ?_
    refine lv_iload_n hx hb d_M_alter_13 rfl (lv_at hl 1 rfl) ?_
    refine lv_aload_n hx hb d_M_alter_14 rfl (lv_at hl 0 rfl) ?_
    refine va_get (D := (dC, dI)) (ci := 1) (v := .ref qd) (C := R_M) (T := F_M) (N := 15) hx hb hts lay_M hown hK hP 0 rfl rfl 0 (by decide) (hts _ m_270) (fun _ h9 => h9) rfl d_M_alter_15 ?_
    refine lv_iload_n hx hb d_M_alter_18 rfl (lv_at hl 1 rfl) ?_
    refine z_iald hx hb hK hP 1 0 rfl rfl (by omega) (by decide) d_M_alter_19 ?_
    refine lv_iload_n hx hb d_M_alter_20 rfl (lv_at hl 2 rfl) ?_
    refine lv_ixor hx hb d_M_alter_21 ?_
    refine z_iast hx hb hK hP hD hS 1 0 rfl rfl (by omega) (by decide) d_M_alter_22 (fun H locs hP hD hS => ?_)
    have hP : va_P (dC, dI) classes (Mw h0 qd qs qv qh qn cI cJ (upd dk j ((dk j) ^^^ y0), hf, gn, rt, ct, pw, sl, sm, cu, ln, lk, lq, vq, hs, nd)) H := hP
    have hD : va_D A (Mw h0 qd qs qv qh qn cI cJ (upd dk j ((dk j) ^^^ y0), hf, gn, rt, ct, pw, sl, sm, cu, ln, lk, lq, vq, hs, nd)) := hD
    refine lv_iconst (v := (1 : Int32)) hx hb d_M_alter_23 (by decide) ?_
    exact W.zret hx hb hr rfl (fun t ht hW => ⟨⟨(1 : Int32), (upd dk j ((dk j) ^^^ y0), hf, gn, rt, ct, pw, sl, sm, cu, ln, lk, lq, vq, hs, nd), rfl, Or.inr ⟨h8, rfl, (by rw [nI_clamp (by omega)])⟩, by rw [ht]; exact hP, va_K.moved hW.alike hK, hD⟩, hS.F ht⟩) hS.2.2 d_M_alter_24
set_option maxHeartbeats 1000000 in
set_option maxRecDepth 100000 in
theorem mc_peek (l : Launch) (dC : Nat → ClassId) (dI : Nat → Nat → Nat) (h0 qd qs qv qh qn : Nat) (cI cJ : ClassId) (sz : Nat) (dk : Nat → Int32) (hf : Nat) (gn : Int32) (rt : Int32) (ct : Int32) (pw : Bool) (sl : Int32) (sm : Int32) (cu : Bool) (ln : Nat) (lk : Int32) (lq : Nat → Int32) (vq : Nat → Int64) (hs : Nat → Int64) (nd : Nat → Int32) (x0 : Int32)  : Met l y_M_peek w_M_peek ({ frames := 1, cells := 0, slots := 0, locals := 20 }) (va_Pc [.ref h0, .int x0] (z_pre (dC, dI) classes [(cI, .int), (cJ, .long)] (Mw h0 qd qs qv qh qn cI cJ (dk, hf, gn, rt, ct, pw, sl, sm, cu, ln, lk, lq, vq, hs, nd)) sz)) (vp_Si (fun r => r = (if isIn 102 x0 = 0 then 0 else dk x0.toNatClampNeg))) 0 0 (fun _ => False) := by
  refine Met.ofW (cc := b_M_peek) (maxL := 2) (ret := (some .int)) (by decide) rfl ?_
  intro p e s m args below meth c s₁ B hml hv
  obtain ⟨rfl, hsz, hP, hK, hD0⟩ := hv
  have hx := B.exec
  have hb := B.bytes
  have hr := B.returns
  have hts := fun (w : Cond) (h : w ∈ lw_U) => atoms_spec (ws := w_M_peek) B.pre w (List.mem_cons_of_mem _ h)
  have hown : s.vm.findClass R_M = some m.cls := findClass_of_methodNamed B.named
  have hlocks := B.notSynchronized
  subst hsz
  have hD := hD0
  have hl := lv_entry ([.ref h0, .int x0]) (n := 2) (Nat.le_of_ble_eq_true rfl)
  rw [lg_entry_eq]
  generalize (lg_sl ([.ref h0, .int x0]) ++ List.replicate (2 - (lg_sl ([.ref h0, .int x0])).length) Slot.unset).toArray = ls at hl ⊢
  have hl : lv_has ls 2 [(0, .ref h0), (1, .int x0)] := hl
  by_cases h8 : isIn 102 x0 = 0
  · refine lv_iload_n hx hb d_M_peek_0 rfl (lv_at hl 1 rfl) ?_
    refine vp_callSi (W.runS (As := [.int x0]) (rest := []) ⟨hx, hb, hml, hown, hts⟩ (mc_place l x0) (cwS 1 hts g_M_127 rfl rfl rfl (by decide +kernel) ⟨(Nat.le_of_ble_eq_true rfl), (Nat.le_of_ble_eq_true rfl)⟩) preEq rfl rfl hl.1 rfl (lv_room (Nat.le_of_ble_eq_true rfl)) d_M_peek_1 ⟨(Nat.le_of_ble_eq_true rfl), (Nat.le_of_ble_eq_true rfl)⟩) (fun r hr0 => ?_)
    subst hr0
    refine lv_if_eq (tgt := 16) hx hb d_M_peek_4 (by decide) (fun _ => ?_) (fun h9 => absurd h8 h9)
    refine lv_iconst (v := (0 : Int32)) hx hb d_M_peek_16 (by decide) ?_
    exact W.iret hx hb hr (fun t ht hW => ⟨_, rfl, (by rw [if_pos h8]), ht⟩) (fun q h => by cases h) d_M_peek_17
  · obtain ⟨j, hj, rfl⟩ := isIn_of (n := 102) h8 rfl (by decide)
    refine lv_iload_n hx hb d_M_peek_0 rfl (lv_at hl 1 rfl) ?_
    refine vp_callSi (W.runS (As := [.int (nI j)]) (rest := []) ⟨hx, hb, hml, hown, hts⟩ (mc_place l (nI j)) (cwS 1 hts g_M_127 rfl rfl rfl (by decide +kernel) ⟨(Nat.le_of_ble_eq_true rfl), (Nat.le_of_ble_eq_true rfl)⟩) preEq rfl rfl hl.1 rfl (lv_room (Nat.le_of_ble_eq_true rfl)) d_M_peek_1 ⟨(Nat.le_of_ble_eq_true rfl), (Nat.le_of_ble_eq_true rfl)⟩) (fun r hr0 => ?_)
    subst hr0
    refine lv_if_eq (tgt := 16) hx hb d_M_peek_4 (by decide) (fun h9 => absurd h9 h8) (fun _ => ?_)
    refine lv_aload_n hx hb d_M_peek_7 rfl (lv_at hl 0 rfl) ?_
    refine va_get (D := (dC, dI)) (ci := 1) (v := .ref qd) (C := R_M) (T := F_M) (N := 15) hx hb hts lay_M hown hK hP 0 rfl rfl 0 (by decide) (hts _ m_270) (fun _ h9 => h9) rfl d_M_peek_8 ?_
    refine lv_iload_n hx hb d_M_peek_11 rfl (lv_at hl 1 rfl) ?_
    refine z_iald hx hb hK hP 1 0 rfl rfl (by omega) (by decide) d_M_peek_12 ?_
    refine lv_goto (tgt := 17) hx hb d_M_peek_13 (by decide) ?_
    exact W.iret hx hb hr (fun t ht hW => ⟨_, rfl, (by rw [if_neg h8, nI_clamp (by omega)]), ht⟩) (fun q h => by cases h) d_M_peek_17
set_option maxHeartbeats 1000000 in
set_option maxRecDepth 100000 in
theorem mc_seal (l : Launch) (dC : Nat → ClassId) (dI : Nat → Nat → Nat) (h0 qd qs qv qh qn : Nat) (cI cJ : ClassId) (sz : Nat) (dk : Nat → Int32) (hf : Nat) (gn : Int32) (rt : Int32) (ct : Int32) (pw : Bool) (sl : Int32) (sm : Int32) (cu : Bool) (ln : Nat) (lk : Int32) (lq : Nat → Int32) (vq : Nat → Int64) (hs : Nat → Int64) (nd : Nat → Int32) (x0 : Int32)  : Met l y_M_seal w_M_seal ({ frames := 0, cells := 0, slots := 0, locals := 0 }) (va_Pc [.ref h0, .int x0] (z_pre (dC, dI) classes [(cI, .int), (cJ, .long)] (Mw h0 qd qs qv qh qn cI cJ (dk, hf, gn, rt, ct, pw, sl, sm, cu, ln, lk, lq, vq, hs, nd)) sz)) (vp_Si (fun r => r = (if x0 = 0 then nI hf else if x0 = 1 then gn else if x0 = 2 then rt else if x0 = 3 then ct else 0))) 0 0 (fun _ => False) := by
  refine Met.ofW (cc := b_M_seal) (maxL := 2) (ret := (some .int)) (by decide) rfl ?_
  intro p e s m args below meth c s₁ B hml hv
  obtain ⟨rfl, hsz, hP, hK, hD0⟩ := hv
  have hx := B.exec
  have hb := B.bytes
  have hr := B.returns
  have hts := fun (w : Cond) (h : w ∈ lw_U) => atoms_spec (ws := w_M_seal) B.pre w (List.mem_cons_of_mem _ h)
  have hown : s.vm.findClass R_M = some m.cls := findClass_of_methodNamed B.named
  have hlocks := B.notSynchronized
  subst hsz
  have hD := hD0
  have hl := lv_entry ([.ref h0, .int x0]) (n := 2) (Nat.le_of_ble_eq_true rfl)
  rw [lg_entry_eq]
  generalize (lg_sl ([.ref h0, .int x0]) ++ List.replicate (2 - (lg_sl ([.ref h0, .int x0])).length) Slot.unset).toArray = ls at hl ⊢
  have hl : lv_has ls 2 [(0, .ref h0), (1, .int x0)] := hl
  refine lv_iload_n hx hb d_M_seal_0 rfl (lv_at hl 1 rfl) ?_
  refine lv_if_ne (tgt := 11) hx hb d_M_seal_1 (by decide) (fun h1 => ?_) (fun h1 => ?_)
  · refine lv_iload_n hx hb d_M_seal_11 rfl (lv_at hl 1 rfl) ?_
    refine lv_iconst (v := (1 : Int32)) hx hb d_M_seal_12 (by decide) ?_
    refine lv_icmp_ne (tgt := 23) hx hb d_M_seal_13 (by decide) (fun h2 => ?_) (fun h2 => ?_)
    · refine lv_iload_n hx hb d_M_seal_23 rfl (lv_at hl 1 rfl) ?_
      refine lv_iconst (v := (2 : Int32)) hx hb d_M_seal_24 (by decide) ?_
      refine lv_icmp_ne (tgt := 35) hx hb d_M_seal_25 (by decide) (fun h3 => ?_) (fun h3 => ?_)
      · refine lv_iload_n hx hb d_M_seal_35 rfl (lv_at hl 1 rfl) ?_
        refine lv_iconst (v := (3 : Int32)) hx hb d_M_seal_36 (by decide) ?_
        refine lv_icmp_ne (tgt := 47) hx hb d_M_seal_37 (by decide) (fun h4 => ?_) (fun h4 => ?_)
        · refine lv_iconst (v := (0 : Int32)) hx hb d_M_seal_47 (by decide) ?_
          exact W.iret hx hb hr (fun t ht hW => ⟨_, rfl, (by rw [if_neg h1, if_neg h2, if_neg h3, if_neg h4]), ht⟩) (fun q h => by cases h) d_M_seal_48
        · refine lv_aload_n hx hb d_M_seal_40 rfl (lv_at hl 0 rfl) ?_
          refine va_get (D := (dC, dI)) (ci := 1) (v := .int ct) (C := R_M) (T := F_M) (N := 15) hx hb hts lay_M hown hK hP 0 rfl rfl 4 (by decide) (hts _ m_274) (fun _ h9 => h9) rfl d_M_seal_41 ?_
          refine lv_goto (tgt := 48) hx hb d_M_seal_44 (by decide) ?_
          exact W.iret hx hb hr (fun t ht hW => ⟨_, rfl, (by rw [if_neg h1, if_neg h2, if_neg h3, if_pos h4]), ht⟩) (fun q h => by cases h) d_M_seal_48
      · refine lv_aload_n hx hb d_M_seal_28 rfl (lv_at hl 0 rfl) ?_
        refine va_get (D := (dC, dI)) (ci := 1) (v := .int rt) (C := R_M) (T := F_M) (N := 15) hx hb hts lay_M hown hK hP 0 rfl rfl 3 (by decide) (hts _ m_273) (fun _ h9 => h9) rfl d_M_seal_29 ?_
        refine lv_goto (tgt := 48) hx hb d_M_seal_32 (by decide) ?_
        exact W.iret hx hb hr (fun t ht hW => ⟨_, rfl, (by rw [if_neg h1, if_neg h2, if_pos h3]), ht⟩) (fun q h => by cases h) d_M_seal_48
    · refine lv_aload_n hx hb d_M_seal_16 rfl (lv_at hl 0 rfl) ?_
      refine va_get (D := (dC, dI)) (ci := 1) (v := .int gn) (C := R_M) (T := F_M) (N := 15) hx hb hts lay_M hown hK hP 0 rfl rfl 2 (by decide) (hts _ m_272) (fun _ h9 => h9) rfl d_M_seal_17 ?_
      refine lv_goto (tgt := 48) hx hb d_M_seal_20 (by decide) ?_
      exact W.iret hx hb hr (fun t ht hW => ⟨_, rfl, (by rw [if_neg h1, if_pos h2]), ht⟩) (fun q h => by cases h) d_M_seal_48
  · refine lv_aload_n hx hb d_M_seal_4 rfl (lv_at hl 0 rfl) ?_
    refine va_get (D := (dC, dI)) (ci := 1) (v := .int (nI hf)) (C := R_M) (T := F_M) (N := 15) hx hb hts lay_M hown hK hP 0 rfl rfl 1 (by decide) (hts _ m_271) (fun _ h9 => h9) rfl d_M_seal_5 ?_
    refine lv_goto (tgt := 48) hx hb d_M_seal_8 (by decide) ?_
    exact W.iret hx hb hr (fun t ht hW => ⟨_, rfl, (by rw [if_pos h1]), ht⟩) (fun q h => by cases h) d_M_seal_48
set_option maxHeartbeats 1000000 in
set_option maxRecDepth 100000 in
theorem mc_writes (l : Launch) (dC : Nat → ClassId) (dI : Nat → Nat → Nat) (h0 qd qs qv qh qn : Nat) (cI cJ : ClassId) (sz : Nat) (dk : Nat → Int32) (hf : Nat) (gn : Int32) (rt : Int32) (ct : Int32) (pw : Bool) (sl : Int32) (sm : Int32) (cu : Bool) (ln : Nat) (lk : Int32) (lq : Nat → Int32) (vq : Nat → Int64) (hs : Nat → Int64) (nd : Nat → Int32)   : Met l y_M_writes w_M_writes ({ frames := 0, cells := 0, slots := 0, locals := 0 }) (va_Pc [.ref h0] (z_pre (dC, dI) classes [(cI, .int), (cJ, .long)] (Mw h0 qd qs qv qh qn cI cJ (dk, hf, gn, rt, ct, pw, sl, sm, cu, ln, lk, lq, vq, hs, nd)) sz)) (vp_Si (fun r => r = (if pw = true then nI ln else -1))) 0 0 (fun _ => False) := by
  refine Met.ofW (cc := b_M_writes) (maxL := 1) (ret := (some .int)) (by decide) rfl ?_
  intro p e s m args below meth c s₁ B hml hv
  obtain ⟨rfl, hsz, hP, hK, hD0⟩ := hv
  have hx := B.exec
  have hb := B.bytes
  have hr := B.returns
  have hts := fun (w : Cond) (h : w ∈ lw_U) => atoms_spec (ws := w_M_writes) B.pre w (List.mem_cons_of_mem _ h)
  have hown : s.vm.findClass R_M = some m.cls := findClass_of_methodNamed B.named
  have hlocks := B.notSynchronized
  subst hsz
  have hD := hD0
  have hl := lv_entry ([.ref h0]) (n := 1) (Nat.le_of_ble_eq_true rfl)
  rw [lg_entry_eq]
  generalize (lg_sl ([.ref h0]) ++ List.replicate (1 - (lg_sl ([.ref h0])).length) Slot.unset).toArray = ls at hl ⊢
  have hl : lv_has ls 1 [(0, .ref h0)] := hl
  cases pw with
  | false =>
    refine lv_aload_n hx hb d_M_writes_0 rfl (lv_at hl 0 rfl) ?_
    refine va_get (D := (dC, dI)) (ci := 1) (v := .int (bI false)) (C := R_M) (T := F_M) (N := 15) hx hb hts lay_M hown hK hP 0 rfl rfl 5 (by decide) (hts _ m_275) (fun _ h9 => h9) rfl d_M_writes_1 ?_
    refine lv_if_eq (tgt := 14) hx hb d_M_writes_4 (by decide) (fun _ => ?_) (fun h9 => absurd (by decide) h9)
    refine lv_iconst (v := (-1 : Int32)) hx hb d_M_writes_14 (by decide) ?_
    exact W.iret hx hb hr (fun t ht hW => ⟨_, rfl, rfl, ht⟩) (fun q h => by cases h) d_M_writes_15
  | true =>
    refine lv_aload_n hx hb d_M_writes_0 rfl (lv_at hl 0 rfl) ?_
    refine va_get (D := (dC, dI)) (ci := 1) (v := .int (bI true)) (C := R_M) (T := F_M) (N := 15) hx hb hts lay_M hown hK hP 0 rfl rfl 5 (by decide) (hts _ m_275) (fun _ h9 => h9) rfl d_M_writes_1 ?_
    refine lv_if_eq (tgt := 14) hx hb d_M_writes_4 (by decide) (fun h9 => absurd h9 (by decide)) (fun _ => ?_)
    refine lv_aload_n hx hb d_M_writes_7 rfl (lv_at hl 0 rfl) ?_
    refine va_get (D := (dC, dI)) (ci := 1) (v := .int (nI ln)) (C := R_M) (T := F_M) (N := 15) hx hb hts lay_M hown hK hP 0 rfl rfl 9 (by decide) (hts _ m_279) (fun _ h9 => h9) rfl d_M_writes_8 ?_
    refine lv_goto (tgt := 15) hx hb d_M_writes_11 (by decide) ?_
    exact W.iret hx hb hr (fun t ht hW => ⟨_, rfl, rfl, ht⟩) (fun q h => by cases h) d_M_writes_15
set_option maxHeartbeats 1000000 in
set_option maxRecDepth 100000 in
theorem mc_steps (l : Launch) (dC : Nat → ClassId) (dI : Nat → Nat → Nat) (h0 qd qs qv qh qn : Nat) (cI cJ : ClassId) (sz : Nat) (dk : Nat → Int32) (hf : Nat) (gn : Int32) (rt : Int32) (ct : Int32) (pw : Bool) (sl : Int32) (sm : Int32) (cu : Bool) (ln : Nat) (lk : Int32) (lq : Nat → Int32) (vq : Nat → Int64) (hs : Nat → Int64) (nd : Nat → Int32)   : Met l y_M_steps w_M_steps ({ frames := 0, cells := 0, slots := 0, locals := 0 }) (va_Pc [.ref h0] (z_pre (dC, dI) classes [(cI, .int), (cJ, .long)] (Mw h0 qd qs qv qh qn cI cJ (dk, hf, gn, rt, ct, pw, sl, sm, cu, ln, lk, lq, vq, hs, nd)) sz)) (vp_Si (fun r => r = sm)) 0 0 (fun _ => False) := by
  refine Met.ofW (cc := b_M_steps) (maxL := 1) (ret := (some .int)) (by decide) rfl ?_
  intro p e s m args below meth c s₁ B hml hv
  obtain ⟨rfl, hsz, hP, hK, hD0⟩ := hv
  have hx := B.exec
  have hb := B.bytes
  have hr := B.returns
  have hts := fun (w : Cond) (h : w ∈ lw_U) => atoms_spec (ws := w_M_steps) B.pre w (List.mem_cons_of_mem _ h)
  have hown : s.vm.findClass R_M = some m.cls := findClass_of_methodNamed B.named
  have hlocks := B.notSynchronized
  subst hsz
  have hD := hD0
  have hl := lv_entry ([.ref h0]) (n := 1) (Nat.le_of_ble_eq_true rfl)
  rw [lg_entry_eq]
  generalize (lg_sl ([.ref h0]) ++ List.replicate (1 - (lg_sl ([.ref h0])).length) Slot.unset).toArray = ls at hl ⊢
  have hl : lv_has ls 1 [(0, .ref h0)] := hl
  refine lv_aload_n hx hb d_M_steps_0 rfl (lv_at hl 0 rfl) ?_
  refine va_get (D := (dC, dI)) (ci := 1) (v := .int sm) (C := R_M) (T := F_M) (N := 15) hx hb hts lay_M hown hK hP 0 rfl rfl 7 (by decide) (hts _ m_277) (fun _ h9 => h9) rfl d_M_steps_1 ?_
  exact W.iret hx hb hr (fun t ht hW => ⟨_, rfl, rfl, ht⟩) (fun q h => by cases h) d_M_steps_4
