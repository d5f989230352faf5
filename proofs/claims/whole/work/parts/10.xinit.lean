set_option maxHeartbeats 4000000 in
set_option maxRecDepth 100000 in
theorem c_init (l : Launch) (dC : Nat → ClassId) (dI : Nat → Nat → Nat) (h0 sz : Nat) : Met l y_X_init w_X_init ({ frames := 2, cells := 3, slots := 112, locals := 47 }) (va_Pc [.ref h0] (z_pre (dC, dI) classes [] [(h0, .inr (0, [.null, .int 0, .int 0, .int 0, .int 0, .int 0, .int 0, .int 0, .int 0, .null, .null, .int 0]))] sz)) (va_Qv (fun (_ : Nat × Nat × Nat × ClassId × ClassId) => True) (fun (z : Nat × Nat × Nat × ClassId × ClassId) => z_at (dC, dI) classes [(z.2.2.2.1, .int), (z.2.2.2.2, .long)] (va_A [(h0, .inr (0, [.null, .int 0, .int 0, .int 0, .int 0, .int 0, .int 0, .int 0, .int 0, .null, .null, .int 0]))] sz) (Xw h0 z.1 z.2.1 z.2.2.1 z.2.2.2.1 z.2.2.2.2 iniX)) (va_A [(h0, .inr (0, [.null, .int 0, .int 0, .int 0, .int 0, .int 0, .int 0, .int 0, .int 0, .null, .null, .int 0]))] sz)) 3 112 (va_A [(h0, .inr (0, [.null, .int 0, .int 0, .int 0, .int 0, .int 0, .int 0, .int 0, .int 0, .null, .null, .int 0]))] sz) := by
  refine Met.ofW (cc := b_X_init) (maxL := 2) (ret := none) (by decide) rfl ?_
  intro p e s m args below meth c s₁ B hml hv
  obtain ⟨rfl, hsz, hP, hK, hD0⟩ := hv
  have hx := B.exec
  have hb := B.bytes
  have hr := B.returns
  have hts := fun (w : Cond) (h : w ∈ lw_U) => atoms_spec (ws := w_X_init) B.pre w (List.mem_cons_of_mem _ h)
  have hown : s.vm.findClass R_X = some m.cls := findClass_of_methodNamed B.named
  have hlocks := B.notSynchronized
  have hin : meth.name = "<init>" := (name_of_methodNamed B.named B.method).1
  subst hsz
  have hD := hD0.self (sz := s.heap.size)
  generalize hAe : va_A [(h0, .inr (0, [.null, .int 0, .int 0, .int 0, .int 0, .int 0, .int 0, .int 0, .int 0, .null, .null, .int 0]))] s.heap.size = A at hD ⊢
  have hA : ∀ q : Nat, s.heap.size ≤ q → A q := fun q h => by rw [← hAe]; exact Or.inr h
  have hS : va_S A s.heap s.heap [] := va_S.rf
  have hP : va_P (dC, dI) classes [(h0, .inr (0, [.null, .int 0, .int 0, .int 0, .int 0, .int 0, .int 0, .int 0, .int 0, .null, .null, .int 0]))] s.heap := hP
  have hl := lv_entry ([.ref h0]) (n := 2) (Nat.le_of_ble_eq_true rfl)
  rw [lg_entry_eq]
  generalize (lg_sl ([.ref h0]) ++ List.replicate (2 - (lg_sl ([.ref h0])).length) Slot.unset).toArray = ls at hl ⊢
  have hl : lv_has ls 2 [(0, .ref h0)] := hl
  refine lv_aload_n hx hb d_X_init_0 rfl (lv_at hl 0 rfl) ?_
  refine W.objInit hx hb hown (hts _ m_40) (hts _ m_41) (hts _ m_42) rfl (by rw [hml]; exact hl.1) rfl d_X_init_1 (Nat.le_of_ble_eq_true rfl) (Nat.le_of_ble_eq_true rfl) ?_
  refine W.eq (g2 := F0 m 4 ls []) rfl ?_
  refine lv_aload_n hx hb d_X_init_4 rfl (lv_at hl 0 rfl) ?_
  refine lv_bipush (v := 102) hx hb d_X_init_5 (by decide) ?_
  refine va_newa (atype := .int) (a0 := (102, .inl (fun _ => 0))) (N' := 102) hx hb (hts _ m_99) rfl hK hP hD hS hA (fun _ => rfl) (by decide) (by decide) (by decide) (Nat.le_of_ble_eq_true rfl) (Nat.le_of_ble_eq_true rfl) d_X_init_7 (fun qd cqd H hK hP hD hS => ?_)
  have hP : va_P (dC, dI) classes [(h0, .inr (0, [.null, .int 0, .int 0, .int 0, .int 0, .int 0, .int 0, .int 0, .int 0, .null, .null, .int 0])), (qd, .inl (cqd, (102, .inl (fun _ => 0))))] H := hP
  have hD : va_D A [(h0, .inr (0, [.null, .int 0, .int 0, .int 0, .int 0, .int 0, .int 0, .int 0, .int 0, .null, .null, .int 0])), (qd, .inl (cqd, (102, .inl (fun _ => 0))))] := hD
  have hK : va_K (dC, dI) classes [(cqd, .int)] s := hK
  refine W.widen (k := 1) (n := 102) (by omega) (by omega) ?_
  refine va_putF (D := (dC, dI)) (ci := 0) (v := .ref qd) (ty := .array .int) (C := R_X) (T := F_X) (N := 12) hx hb hts lay_X t_X t_X_ok n_X hown hK hP hD hS 0 rfl rfl 0 (by decide) (hts _ m_62) (fun _ h9 => h9) rfl hin rfl (by decide +kernel) rfl rfl (Nat.le_of_ble_eq_true rfl) d_X_init_9 (fun H locs hP hD hS => ?_)
  have hP : va_P (dC, dI) classes [(h0, .inr (0, [.ref qd, .int 0, .int 0, .int 0, .int 0, .int 0, .int 0, .int 0, .int 0, .null, .null, .int 0])), (qd, .inl (cqd, (102, .inl (fun _ => 0))))] H := hP
  have hD : va_D A [(h0, .inr (0, [.ref qd, .int 0, .int 0, .int 0, .int 0, .int 0, .int 0, .int 0, .int 0, .null, .null, .int 0])), (qd, .inl (cqd, (102, .inl (fun _ => 0))))] := hD
  refine lv_aload_n hx hb d_X_init_12 rfl (lv_at hl 0 rfl) ?_
  refine lv_iconst (v := 5) hx hb d_X_init_13 (by decide) ?_
  refine va_newa (atype := .int) (a0 := (5, .inl (fun _ => 0))) (N' := 5) hx hb (hts _ m_99) rfl hK hP hD hS hA (fun _ => rfl) (by decide) (by decide) (by decide) (Nat.le_of_ble_eq_true rfl) (Nat.le_of_ble_eq_true rfl) d_X_init_14 (fun qs cqs H hK hP hD hS => ?_)
  have hP : va_P (dC, dI) classes [(h0, .inr (0, [.ref qd, .int 0, .int 0, .int 0, .int 0, .int 0, .int 0, .int 0, .int 0, .null, .null, .int 0])), (qd, .inl (cqd, (102, .inl (fun _ => 0)))), (qs, .inl (cqs, (5, .inl (fun _ => 0))))] H := hP
  have hD : va_D A [(h0, .inr (0, [.ref qd, .int 0, .int 0, .int 0, .int 0, .int 0, .int 0, .int 0, .int 0, .null, .null, .int 0])), (qd, .inl (cqd, (102, .inl (fun _ => 0)))), (qs, .inl (cqs, (5, .inl (fun _ => 0))))] := hD
  have hK : va_K (dC, dI) classes [(cqd, .int), (cqs, .int)] s := hK
  refine W.widen (k := 2) (n := 107) (by omega) (by omega) ?_
  refine va_putF (D := (dC, dI)) (ci := 0) (v := .ref qs) (ty := .array .int) (C := R_X) (T := F_X) (N := 12) hx hb hts lay_X t_X t_X_ok n_X hown hK hP hD hS 0 rfl rfl 9 (by decide) (hts _ m_71) (fun _ h9 => h9) rfl hin rfl (by decide +kernel) rfl rfl (Nat.le_of_ble_eq_true rfl) d_X_init_16 (fun H locs hP hD hS => ?_)
  have hP : va_P (dC, dI) classes [(h0, .inr (0, [.ref qd, .int 0, .int 0, .int 0, .int 0, .int 0, .int 0, .int 0, .int 0, .ref qs, .null, .int 0])), (qd, .inl (cqd, (102, .inl (fun _ => 0)))), (qs, .inl (cqs, (5, .inl (fun _ => 0))))] H := hP
  have hD : va_D A [(h0, .inr (0, [.ref qd, .int 0, .int 0, .int 0, .int 0, .int 0, .int 0, .int 0, .int 0, .ref qs, .null, .int 0])), (qd, .inl (cqd, (102, .inl (fun _ => 0)))), (qs, .inl (cqs, (5, .inl (fun _ => 0))))] := hD
  refine lv_aload_n hx hb d_X_init_19 rfl (lv_at hl 0 rfl) ?_
  refine lv_iconst (v := 5) hx hb d_X_init_20 (by decide) ?_
  refine va_newa (atype := .long) (a0 := (5, .inr (.inl (fun _ => 0)))) (N' := 5) hx hb (hts _ m_100) rfl hK hP hD hS hA (fun _ => rfl) (by decide) (by decide) (by decide) (Nat.le_of_ble_eq_true rfl) (Nat.le_of_ble_eq_true rfl) d_X_init_21 (fun qv cqv H hK hP hD hS => ?_)
  have hP : va_P (dC, dI) classes [(h0, .inr (0, [.ref qd, .int 0, .int 0, .int 0, .int 0, .int 0, .int 0, .int 0, .int 0, .ref qs, .null, .int 0])), (qd, .inl (cqd, (102, .inl (fun _ => 0)))), (qs, .inl (cqs, (5, .inl (fun _ => 0)))), (qv, .inl (cqv, (5, .inr (.inl (fun _ => 0)))))] H := hP
  have hD : va_D A [(h0, .inr (0, [.ref qd, .int 0, .int 0, .int 0, .int 0, .int 0, .int 0, .int 0, .int 0, .ref qs, .null, .int 0])), (qd, .inl (cqd, (102, .inl (fun _ => 0)))), (qs, .inl (cqs, (5, .inl (fun _ => 0)))), (qv, .inl (cqv, (5, .inr (.inl (fun _ => 0)))))] := hD
  have hK : va_K (dC, dI) classes [(cqd, .int), (cqs, .int), (cqv, .long)] s := hK
  refine W.widen (k := 3) (n := 112) (by omega) (by omega) ?_
  refine va_putF (D := (dC, dI)) (ci := 0) (v := .ref qv) (ty := .array .long) (C := R_X) (T := F_X) (N := 12) hx hb hts lay_X t_X t_X_ok n_X hown hK hP hD hS 0 rfl rfl 10 (by decide) (hts _ m_72) (fun _ h9 => h9) rfl hin rfl (by decide +kernel) rfl rfl (Nat.le_of_ble_eq_true rfl) d_X_init_23 (fun H locs hP hD hS => ?_)
  have hP : va_P (dC, dI) classes [(h0, .inr (0, [.ref qd, .int 0, .int 0, .int 0, .int 0, .int 0, .int 0, .int 0, .int 0, .ref qs, .ref qv, .int 0])), (qd, .inl (cqd, (102, .inl (fun _ => 0)))), (qs, .inl (cqs, (5, .inl (fun _ => 0)))), (qv, .inl (cqv, (5, .inr (.inl (fun _ => 0)))))] H := hP
  have hD : va_D A [(h0, .inr (0, [.ref qd, .int 0, .int 0, .int 0, .int 0, .int 0, .int 0, .int 0, .int 0, .ref qs, .ref qv, .int 0])), (qd, .inl (cqd, (102, .inl (fun _ => 0)))), (qs, .inl (cqs, (5, .inl (fun _ => 0)))), (qv, .inl (cqv, (5, .inr (.inl (fun _ => 0)))))] := hD
  have hcc : cqs = cqd := Option.some.inj (((hK.2 1 _ rfl).2 : s.vm.findClass _ = some cqs).symm.trans ((hK.2 0 _ rfl).2 : s.vm.findClass _ = some cqd))
  subst cqs
  have hK : va_K (dC, dI) classes [(cqd, .int), (cqv, .long)] s := hK.sub [0, 2] rfl
  generalize cqd = cI at hK hP hD
  generalize cqv = cJ at hK hP hD
  have hP : va_P (dC, dI) classes (Xw h0 qd qs qv cI cJ (fun _ => 0, 0, 0, 0, 0, 0, 0, false, 0, fun _ => 0, fun _ => 0, 0)) H := hP
  have hD : va_D A (Xw h0 qd qs qv cI cJ (fun _ => 0, 0, 0, 0, 0, 0, 0, false, 0, fun _ => 0, fun _ => 0, 0)) := hD
  have loop2 : ∀ (k : Nat) (d0 : Nat → Int32) (ls : Array Slot) (H : Heap) (locs : List Loc), k ≤ 15 → lv_has ls 2 [(0, .ref h0), (1, .int (nI k))] → va_P (dC, dI) classes (Xw h0 qd qs qv cI cJ (d0, 0, 1, 0, 0, -1, 0, false, 0, fun _ => 0, fun _ => 0, 0)) H → va_D A (Xw h0 qd qs qv cI cJ (d0, 0, 1, 0, 0, -1, 0, false, 0, fun _ => 0, fun _ => 0, 0)) → va_S A s.heap H locs → ini2 k d0 = iniD → W p l e (headSpec w_X_init ({ frames := 2, cells := 3, slots := 112, locals := 47 })).room s m ([.ref h0].toArray) below meth c H locs 3 112 (MQ below (va_Qv (fun (_ : Nat × Nat × Nat × ClassId × ClassId) => True) (fun (z : Nat × Nat × Nat × ClassId × ClassId) => z_at (dC, dI) classes [(z.2.2.2.1, .int), (z.2.2.2.2, .long)] A (Xw h0 z.1 z.2.1 z.2.2.1 z.2.2.2.1 z.2.2.2.2 iniX)) A) ([.ref h0].toArray) s 3 112 A) (F0 m 68 ls []) := by
    intro k
    induction k with
    | zero =>
      intro d0 ls H locs hk hl hP hD hS hF
      have hF : d0 = iniD := hF
      subst hF
      refine lv_iload_n hx hb d_X_init_68 rfl (lv_at hl 1 rfl) ?_
      refine lv_iconst (v := nI 1) hx hb d_X_init_69 (by decide) ?_
      refine lv_icmp_lt (tgt := 99) hx hb d_X_init_70 (by decide) (fun _ => ?_) (fun h9 => absurd ((nI_ltI (by omega) (by omega)).mpr (by omega)) h9)
      refine lv_aload_n hx hb d_X_init_99 rfl (lv_at hl 0 rfl) ?_
      refine lv_aload_n hx hb d_X_init_100 rfl (lv_at hl 0 rfl) ?_
      refine va_get (D := (dC, dI)) (ci := 0) (v := .ref qd) (C := R_X) (T := F_X) (N := 12) hx hb hts lay_X hown hK hP 0 rfl rfl 0 (by decide) (hts _ m_62) (fun _ h9 => h9) rfl d_X_init_101 ?_
      refine lv_iconst (v := nI 0) hx hb d_X_init_104 (by decide) ?_
      refine lv_iconst (v := nI 1) hx hb d_X_init_105 (by decide) ?_
      refine vp_callSi (W.runS (As := [.int (nI 0), .int (nI 1)]) (rest := [.ref qd, .ref h0]) ⟨hx, hb, hml, hown, hts⟩ (c_nodePlace l 0 1) (cwS 2 hts g_X_31 rfl rfl rfl (by decide +kernel) ⟨(Nat.le_of_ble_eq_true rfl), (Nat.le_of_ble_eq_true rfl)⟩) preEq rfl rfl hl.1 rfl (lv_room (Nat.le_of_ble_eq_true rfl)) d_X_init_106 ⟨(Nat.le_of_ble_eq_true rfl), (Nat.le_of_ble_eq_true rfl)⟩) (fun r hr0 => ?_)
      subst hr0
      refine z_iald hx hb hK hP 1 0 rfl rfl (by omega) (by decide) d_X_init_109 ?_
      refine va_put (D := (dC, dI)) (ci := 0) (v := .int (iniD (51 * 0 + 15 + 1))) (ty := .int) (C := R_X) (T := F_X) (N := 12) hx hb hts lay_X t_X t_X_ok n_X hown hK hP hD hS 0 rfl rfl 3 (by decide) (hts _ m_65) (fun _ h9 => h9) rfl (by decide +kernel) rfl rfl (Nat.le_of_ble_eq_true rfl) d_X_init_110 (fun H locs hP hD hS => ?_)
      have hP : va_P (dC, dI) classes (Xw h0 qd qs qv cI cJ (iniD, 0, 1, iniD (51 * 0 + 15 + 1), 0, -1, 0, false, 0, (fun _ => 0), (fun _ => 0), 0)) H := hP
      have hD : va_D A (Xw h0 qd qs qv cI cJ (iniD, 0, 1, iniD (51 * 0 + 15 + 1), 0, -1, 0, false, 0, (fun _ => 0), (fun _ => 0), 0)) := hD
      exact W.vret hx hb hr (fun t ht hW => ⟨⟨(qd, qs, qv, cI, cJ), rfl, trivial, by rw [ht]; exact hP, va_K.moved hW.alike hK, hD⟩, hS.F ht⟩) hS.2.2 d_X_init_113
    | succ k ih =>
      intro d0 ls H locs hk hl hP hD hS hF
      refine lv_iload_n hx hb d_X_init_68 rfl (lv_at hl 1 rfl) ?_
      refine lv_iconst (v := nI 1) hx hb d_X_init_69 (by decide) ?_
      refine lv_icmp_lt (tgt := 99) hx hb d_X_init_70 (by decide) (fun h9 => absurd h9 (fun q => absurd ((nI_ltI (by omega) (by omega)).mp q) (by omega))) (fun _ => ?_)
      refine lv_aload_n hx hb d_X_init_73 rfl (lv_at hl 0 rfl) ?_
      refine va_get (D := (dC, dI)) (ci := 0) (v := .ref qd) (C := R_X) (T := F_X) (N := 12) hx hb hts lay_X hown hK hP 0 rfl rfl 0 (by decide) (hts _ m_62) (fun _ h9 => h9) rfl d_X_init_74 ?_
      refine lv_iconst (v := nI 0) hx hb d_X_init_77 (by decide) ?_
      refine lv_iload_n hx hb d_X_init_78 rfl (lv_at hl 1 rfl) ?_
      refine vp_callSi (W.runS (As := [.int (nI 0), .int (nI (k + 1))]) (rest := [.ref qd]) ⟨hx, hb, hml, hown, hts⟩ (c_nodePlace l 0 (k + 1)) (cwS 2 hts g_X_31 rfl rfl rfl (by decide +kernel) ⟨(Nat.le_of_ble_eq_true rfl), (Nat.le_of_ble_eq_true rfl)⟩) preEq rfl rfl hl.1 rfl (lv_room (Nat.le_of_ble_eq_true rfl)) d_X_init_79 ⟨(Nat.le_of_ble_eq_true rfl), (Nat.le_of_ble_eq_true rfl)⟩) (fun r hr0 => ?_)
      subst hr0
      refine lv_aload_n hx hb d_X_init_82 rfl (lv_at hl 0 rfl) ?_
      refine lv_iconst (v := nI 0) hx hb d_X_init_83 (by decide) ?_
      refine lv_iload_n hx hb d_X_init_84 rfl (lv_at hl 1 rfl) ?_
      refine lv_aload_n hx hb d_X_init_85 rfl (lv_at hl 0 rfl) ?_
      refine va_get (D := (dC, dI)) (ci := 0) (v := .int 1) (C := R_X) (T := F_X) (N := 12) hx hb hts lay_X hown hK hP 0 rfl rfl 2 (by decide) (hts _ m_64) (fun _ h9 => h9) rfl d_X_init_86 ?_
      refine vp_callSi (W.runV (C := R_X) (b := h0) (As := [.int (nI 0), .int (nI (k + 1)), .int 1]) (rest := [.int (nI (51 * 0 + 15 + (k + 1))), .ref qd]) ⟨hx, hb, hml, hown, hts⟩ (c_dueNode l dC dI h0 qd qs qv cI cJ _ d0 0 1 0 0 (-1) 0 false 0 (fun _ => 0) (fun _ => 0) 0 0 (k + 1) 1 (by omega) (by omega)) (cwV 3 hts g_X_35 rfl rfl rfl (by decide +kernel) ⟨(Nat.le_of_ble_eq_true rfl), (Nat.le_of_ble_eq_true rfl)⟩) (z_preV (va_recv (q0 := 0) hK hP rfl rfl) hP hK hD) rfl rfl hl.1 rfl (lv_room (Nat.le_of_ble_eq_true rfl)) d_X_init_89 ⟨(Nat.le_of_ble_eq_true rfl), (Nat.le_of_ble_eq_true rfl)⟩) (fun r hr0 => ?_)
      subst hr0
      refine z_iast hx hb hK hP hD hS 1 0 rfl rfl (by omega) (by decide) d_X_init_92 (fun H locs hP hD hS => ?_)
      have hP : va_P (dC, dI) classes (Xw h0 qd qs qv cI cJ (upd d0 (51 * 0 + 15 + (k + 1)) (due d0 0 (k + 1) 1), 0, 1, 0, 0, -1, 0, false, 0, (fun _ => 0), (fun _ => 0), 0)) H := hP
      have hD : va_D A (Xw h0 qd qs qv cI cJ (upd d0 (51 * 0 + 15 + (k + 1)) (due d0 0 (k + 1) 1), 0, 1, 0, 0, -1, 0, false, 0, (fun _ => 0), (fun _ => 0), 0)) := hD
      refine lv_iinc (k := 1) hx hb d_X_init_93 hl rfl (z_dec _) (by decide) rfl (fun ls hl => ?_)
      have hl : lv_has ls 2 [(1, .int (nI k)), (0, .ref h0)] := hl
      refine lv_goto (tgt := 68) hx hb d_X_init_96 (by decide) ?_
      exact ih _ ls _ _ (by omega) (lv_sub hl [1, 0] rfl) hP hD hS hF
  have loop1 : ∀ (j k : Nat) (d0 : Nat → Int32) (ls : Array Slot) (H : Heap) (locs : List Loc), k + j = 16 → lv_has ls 2 [(0, .ref h0), (1, .int (nI k))] → va_P (dC, dI) classes (Xw h0 qd qs qv cI cJ (d0, 0, 1, 0, 0, -1, 0, false, 0, fun _ => 0, fun _ => 0, 0)) H → va_D A (Xw h0 qd qs qv cI cJ (d0, 0, 1, 0, 0, -1, 0, false, 0, fun _ => 0, fun _ => 0, 0)) → va_S A s.heap H locs → ini1 j k d0 = ini1 16 0 (fun _ => 0) → W p l e (headSpec w_X_init ({ frames := 2, cells := 3, slots := 112, locals := 47 })).room s m ([.ref h0].toArray) below meth c H locs 3 112 (MQ below (va_Qv (fun (_ : Nat × Nat × Nat × ClassId × ClassId) => True) (fun (z : Nat × Nat × Nat × ClassId × ClassId) => z_at (dC, dI) classes [(z.2.2.2.1, .int), (z.2.2.2.2, .long)] A (Xw h0 z.1 z.2.1 z.2.2.1 z.2.2.2.1 z.2.2.2.2 iniX)) A) ([.ref h0].toArray) s 3 112 A) (F0 m 38 ls []) := by
    intro j
    induction j with
    | zero =>
      intro k d0 ls H locs hk hl hP hD hS hF
      have hF : d0 = ini1 16 0 (fun _ => 0) := hF
      refine lv_iload_n hx hb d_X_init_38 rfl (lv_at hl 1 rfl) ?_
      refine lv_bipush (v := nI 16) hx hb d_X_init_39 (by decide) ?_
      refine lv_icmp_ge (tgt := 65) hx hb d_X_init_41 (by decide) (fun _ => ?_) (fun h9 => absurd ((nI_leI (by omega) (by omega)).mpr (by omega)) h9)
      refine lv_bipush (v := nI 15) hx hb d_X_init_65 (by decide) ?_
      refine lv_istore_n hx hb d_X_init_67 rfl hl (by decide) rfl (fun ls hl => ?_)
      have hl : lv_has ls 2 [(1, .int (nI 15)), (0, .ref h0)] := hl
      exact loop2 15 _ ls _ _ (by decide) (lv_sub hl [1, 0] rfl) hP hD hS (by rw [iniD, hF])
    | succ j ih =>
      intro k d0 ls H locs hk hl hP hD hS hF
      refine lv_iload_n hx hb d_X_init_38 rfl (lv_at hl 1 rfl) ?_
      refine lv_bipush (v := nI 16) hx hb d_X_init_39 (by decide) ?_
      refine lv_icmp_ge (tgt := 65) hx hb d_X_init_41 (by decide) (fun h9 => absurd h9 (fun q => absurd ((nI_leI (by omega) (by omega)).mp q) (by omega))) (fun _ => ?_)
      refine lv_aload_n hx hb d_X_init_44 rfl (lv_at hl 0 rfl) ?_
      refine va_get (D := (dC, dI)) (ci := 0) (v := .ref qd) (C := R_X) (T := F_X) (N := 12) hx hb hts lay_X hown hK hP 0 rfl rfl 0 (by decide) (hts _ m_62) (fun _ h9 => h9) rfl d_X_init_45 ?_
      refine lv_iload_n hx hb d_X_init_48 rfl (lv_at hl 1 rfl) ?_
      refine lv_iconst (v := (0 : Int32)) hx hb d_X_init_49 (by decide) ?_
      refine lv_iload_n hx hb d_X_init_50 rfl (lv_at hl 1 rfl) ?_
      refine lv_aload_n hx hb d_X_init_51 rfl (lv_at hl 0 rfl) ?_
      refine va_get (D := (dC, dI)) (ci := 0) (v := .int 1) (C := R_X) (T := F_X) (N := 12) hx hb hts lay_X hown hK hP 0 rfl rfl 2 (by decide) (hts _ m_64) (fun _ h9 => h9) rfl d_X_init_52 ?_
      refine vp_callSi (W.runS (As := [.int (0 : Int32), .int (nI k), .int 1]) (rest := [.int (nI k), .ref qd]) ⟨hx, hb, hml, hown, hts⟩ (c_encipher l (0 : Int32) (nI k) 1) (cwS 3 hts g_X_27 rfl rfl rfl (by decide +kernel) ⟨(Nat.le_of_ble_eq_true rfl), (Nat.le_of_ble_eq_true rfl)⟩) preEq rfl rfl hl.1 rfl (lv_room (Nat.le_of_ble_eq_true rfl)) d_X_init_55 ⟨(Nat.le_of_ble_eq_true rfl), (Nat.le_of_ble_eq_true rfl)⟩) (fun r hr0 => ?_)
      subst hr0
      refine z_iast hx hb hK hP hD hS 1 0 rfl rfl (by omega) (by decide) d_X_init_58 (fun H locs hP hD hS => ?_)
      have hP : va_P (dC, dI) classes (Xw h0 qd qs qv cI cJ (upd d0 k (enc (0 : Int32) (nI k) 1), 0, 1, 0, 0, -1, 0, false, 0, (fun _ => 0), (fun _ => 0), 0)) H := hP
      have hD : va_D A (Xw h0 qd qs qv cI cJ (upd d0 k (enc (0 : Int32) (nI k) 1), 0, 1, 0, 0, -1, 0, false, 0, (fun _ => 0), (fun _ => 0), 0)) := hD
      refine lv_iinc (k := 1) hx hb d_X_init_59 hl rfl (z_inc _ 1) (by decide) rfl (fun ls hl => ?_)
      have hl : lv_has ls 2 [(1, .int (nI (k + 1))), (0, .ref h0)] := hl
      refine lv_goto (tgt := 38) hx hb d_X_init_62 (by decide) ?_
      exact ih (k + 1) _ ls _ _ (by omega) (lv_sub hl [1, 0] rfl) hP hD hS hF
  refine lv_aload_n hx hb d_X_init_26 rfl (lv_at hl 0 rfl) ?_
  refine lv_iconst (v := (-1 : Int32)) hx hb d_X_init_27 (by decide) ?_
  refine va_put (D := (dC, dI)) (ci := 0) (v := .int (-1 : Int32)) (ty := .int) (C := R_X) (T := F_X) (N := 12) hx hb hts lay_X t_X t_X_ok n_X hown hK hP hD hS 0 rfl rfl 5 (by decide) (hts _ m_67) (fun _ h9 => h9) rfl (by decide +kernel) rfl rfl (Nat.le_of_ble_eq_true rfl) d_X_init_28 (fun H locs hP hD hS => ?_)
  have hP : va_P (dC, dI) classes (Xw h0 qd qs qv cI cJ ((fun _ => 0), 0, 0, 0, 0, (-1 : Int32), 0, false, 0, (fun _ => 0), (fun _ => 0), 0)) H := hP
  have hD : va_D A (Xw h0 qd qs qv cI cJ ((fun _ => 0), 0, 0, 0, 0, (-1 : Int32), 0, false, 0, (fun _ => 0), (fun _ => 0), 0)) := hD
  refine lv_aload_n hx hb d_X_init_31 rfl (lv_at hl 0 rfl) ?_
  refine lv_iconst (v := (1 : Int32)) hx hb d_X_init_32 (by decide) ?_
  refine va_put (D := (dC, dI)) (ci := 0) (v := .int (1 : Int32)) (ty := .int) (C := R_X) (T := F_X) (N := 12) hx hb hts lay_X t_X t_X_ok n_X hown hK hP hD hS 0 rfl rfl 2 (by decide) (hts _ m_64) (fun _ h9 => h9) rfl (by decide +kernel) rfl rfl (Nat.le_of_ble_eq_true rfl) d_X_init_33 (fun H locs hP hD hS => ?_)
  have hP : va_P (dC, dI) classes (Xw h0 qd qs qv cI cJ ((fun _ => 0), 0, (1 : Int32), 0, 0, (-1 : Int32), 0, false, 0, (fun _ => 0), (fun _ => 0), 0)) H := hP
  have hD : va_D A (Xw h0 qd qs qv cI cJ ((fun _ => 0), 0, (1 : Int32), 0, 0, (-1 : Int32), 0, false, 0, (fun _ => 0), (fun _ => 0), 0)) := hD
  refine lv_iconst (v := nI 0) hx hb d_X_init_36 (by decide) ?_
  refine lv_istore_n hx hb d_X_init_37 rfl hl (by decide) rfl (fun ls hl => ?_)
  have hl : lv_has ls 2 [(1, .int (nI 0)), (0, .ref h0)] := hl
  exact loop1 16 0 _ ls _ _ rfl (lv_sub hl [1, 0] rfl) hP hD hS rfl
