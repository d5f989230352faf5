set_option maxHeartbeats 1000000 in
set_option maxRecDepth 100000 in
theorem mc_init (l : Launch) (dC : Nat → ClassId) (dI : Nat → Nat → Nat) (h0 sz : Nat) : Met l y_M_init w_M_init ({ frames := 3, cells := 5, slots := 136, locals := 71 }) (va_Pc [.ref h0] (z_pre (dC, dI) classes [] [(h0, .inr (1, [.null, .int 0, .int 0, .int 0, .int 0, .int 0, .int 0, .int 0, .int 0, .int 0, .int 0, .null, .null, .null, .null]))] sz)) (va_Qv (fun (_ : Nat × Nat × Nat × Nat × Nat × ClassId × ClassId × (Nat → Int64)) => True) (fun (z : Nat × Nat × Nat × Nat × Nat × ClassId × ClassId × (Nat → Int64)) => z_at (dC, dI) classes [(z.2.2.2.2.2.1, .int), (z.2.2.2.2.2.2.1, .long)] (va_A [(h0, .inr (1, [.null, .int 0, .int 0, .int 0, .int 0, .int 0, .int 0, .int 0, .int 0, .int 0, .int 0, .null, .null, .null, .null]))] sz) (Mw h0 z.1 z.2.1 z.2.2.1 z.2.2.2.1 z.2.2.2.2.1 z.2.2.2.2.2.1 z.2.2.2.2.2.2.1 (iniM z.2.2.2.2.2.2.2))) (va_A [(h0, .inr (1, [.null, .int 0, .int 0, .int 0, .int 0, .int 0, .int 0, .int 0, .int 0, .int 0, .int 0, .null, .null, .null, .null]))] sz)) 5 136 (va_A [(h0, .inr (1, [.null, .int 0, .int 0, .int 0, .int 0, .int 0, .int 0, .int 0, .int 0, .int 0, .int 0, .null, .null, .null, .null]))] sz) := by
  refine Met.ofW (cc := b_M_init) (maxL := 2) (ret := none) (by decide) rfl ?_
  intro p e s m args below meth c s₁ B hml hv
  obtain ⟨rfl, hsz, hP, hK, hD0⟩ := hv
  have hx := B.exec
  have hb := B.bytes
  have hr := B.returns
  have hts := fun (w : Cond) (h : w ∈ lw_U) => atoms_spec (ws := w_M_init) B.pre w (List.mem_cons_of_mem _ h)
  have hown : s.vm.findClass R_M = some m.cls := findClass_of_methodNamed B.named
  have hlocks := B.notSynchronized
  have hin : meth.name = "<init>" := (name_of_methodNamed B.named B.method).1
  subst hsz
  have hD := hD0.self (sz := s.heap.size)
  generalize hAe : va_A [(h0, .inr (1, [.null, .int 0, .int 0, .int 0, .int 0, .int 0, .int 0, .int 0, .int 0, .int 0, .int 0, .null, .null, .null, .null]))] s.heap.size = A at hD ⊢
  have hA : ∀ q : Nat, s.heap.size ≤ q → A q := fun q h => by rw [← hAe]; exact Or.inr h
  have hS : va_S A s.heap s.heap [] := va_S.rf
  have hP : va_P (dC, dI) classes [(h0, .inr (1, [.null, .int 0, .int 0, .int 0, .int 0, .int 0, .int 0, .int 0, .int 0, .int 0, .int 0, .null, .null, .null, .null]))] s.heap := hP
  have hl := lv_entry ([.ref h0]) (n := 2) (Nat.le_of_ble_eq_true rfl)
  rw [lg_entry_eq]
  generalize (lg_sl ([.ref h0]) ++ List.replicate (2 - (lg_sl ([.ref h0])).length) Slot.unset).toArray = ls at hl ⊢
  have hl : lv_has ls 2 [(0, .ref h0)] := hl
  refine lv_aload_n hx hb d_M_init_0 rfl (lv_at hl 0 rfl) ?_
  refine W.objInit hx hb hown (hts _ m_252) (hts _ m_41) (hts _ m_42) rfl (by rw [hml]; exact hl.1) rfl d_M_init_1 (Nat.le_of_ble_eq_true rfl) (Nat.le_of_ble_eq_true rfl) ?_
  refine W.eq (g2 := F0 m 4 ls []) rfl ?_
  refine lv_aload_n hx hb d_M_init_4 rfl (lv_at hl 0 rfl) ?_
  refine lv_bipush (v := 102) hx hb d_M_init_5 (by decide) ?_
  refine va_newa (atype := .int) (a0 := (102, .inl (fun _ => 0))) (N' := 102) hx hb (hts _ m_99) rfl hK hP hD hS hA (fun _ => rfl) (by decide) (by decide) (by decide) (Nat.le_of_ble_eq_true rfl) (Nat.le_of_ble_eq_true rfl) d_M_init_7 (fun qd cqd H hK hP hD hS => ?_)
  have hP : va_P (dC, dI) classes [(h0, .inr (1, [.null, .int 0, .int 0, .int 0, .int 0, .int 0, .int 0, .int 0, .int 0, .int 0, .int 0, .null, .null, .null, .null])), (qd, .inl (cqd, (102, .inl (fun _ => 0))))] H := hP
  have hD : va_D A [(h0, .inr (1, [.null, .int 0, .int 0, .int 0, .int 0, .int 0, .int 0, .int 0, .int 0, .int 0, .int 0, .null, .null, .null, .null])), (qd, .inl (cqd, (102, .inl (fun _ => 0))))] := hD
  have hK : va_K (dC, dI) classes [(cqd, .int)] s := hK
  refine W.widen (k := 1) (n := 102) (by omega) (by omega) ?_
  refine va_putF (D := (dC, dI)) (ci := 1) (v := .ref qd) (ty := .array .int) (C := R_M) (T := F_M) (N := 15) hx hb hts lay_M t_M t_M_ok n_M hown hK hP hD hS 0 rfl rfl 0 (by decide) (hts _ m_270) (fun _ h9 => h9) rfl hin rfl (by decide +kernel) rfl rfl (Nat.le_of_ble_eq_true rfl) d_M_init_9 (fun H locs hP hD hS => ?_)
  have hP : va_P (dC, dI) classes [(h0, .inr (1, [.ref qd, .int 0, .int 0, .int 0, .int 0, .int 0, .int 0, .int 0, .int 0, .int 0, .int 0, .null, .null, .null, .null])), (qd, .inl (cqd, (102, .inl (fun _ => 0))))] H := hP
  have hD : va_D A [(h0, .inr (1, [.ref qd, .int 0, .int 0, .int 0, .int 0, .int 0, .int 0, .int 0, .int 0, .int 0, .int 0, .null, .null, .null, .null])), (qd, .inl (cqd, (102, .inl (fun _ => 0))))] := hD
  refine lv_aload_n hx hb d_M_init_12 rfl (lv_at hl 0 rfl) ?_
  refine lv_iconst (v := 1) hx hb d_M_init_13 (by decide) ?_
  refine va_put (D := (dC, dI)) (ci := 1) (v := .int (1)) (ty := .int) (C := R_M) (T := F_M) (N := 15) hx hb hts lay_M t_M t_M_ok n_M hown hK hP hD hS 0 rfl rfl 2 (by decide) (hts _ m_272) (fun _ h9 => h9) rfl (by decide +kernel) rfl rfl (Nat.le_of_ble_eq_true rfl) d_M_init_14 (fun H locs hP hD hS => ?_)
  have hP : va_P (dC, dI) classes [(h0, .inr (1, [.ref qd, .int 0, .int (1), .int 0, .int 0, .int 0, .int 0, .int 0, .int 0, .int 0, .int 0, .null, .null, .null, .null])), (qd, .inl (cqd, (102, .inl (fun _ => 0))))] H := hP
  have hD : va_D A [(h0, .inr (1, [.ref qd, .int 0, .int (1), .int 0, .int 0, .int 0, .int 0, .int 0, .int 0, .int 0, .int 0, .null, .null, .null, .null])), (qd, .inl (cqd, (102, .inl (fun _ => 0))))] := hD
  refine lv_aload_n hx hb d_M_init_17 rfl (lv_at hl 0 rfl) ?_
  refine lv_iconst (v := -1) hx hb d_M_init_18 (by decide) ?_
  refine va_put (D := (dC, dI)) (ci := 1) (v := .int (-1)) (ty := .int) (C := R_M) (T := F_M) (N := 15) hx hb hts lay_M t_M t_M_ok n_M hown hK hP hD hS 0 rfl rfl 6 (by decide) (hts _ m_276) (fun _ h9 => h9) rfl (by decide +kernel) rfl rfl (Nat.le_of_ble_eq_true rfl) d_M_init_19 (fun H locs hP hD hS => ?_)
  have hP : va_P (dC, dI) classes [(h0, .inr (1, [.ref qd, .int 0, .int (1), .int 0, .int 0, .int 0, .int (-1), .int 0, .int 0, .int 0, .int 0, .null, .null, .null, .null])), (qd, .inl (cqd, (102, .inl (fun _ => 0))))] H := hP
  have hD : va_D A [(h0, .inr (1, [.ref qd, .int 0, .int (1), .int 0, .int 0, .int 0, .int (-1), .int 0, .int 0, .int 0, .int 0, .null, .null, .null, .null])), (qd, .inl (cqd, (102, .inl (fun _ => 0))))] := hD
  refine lv_aload_n hx hb d_M_init_22 rfl (lv_at hl 0 rfl) ?_
  refine lv_iconst (v := 5) hx hb d_M_init_23 (by decide) ?_
  refine va_newa (atype := .int) (a0 := (5, .inl (fun _ => 0))) (N' := 5) hx hb (hts _ m_99) rfl hK hP hD hS hA (fun _ => rfl) (by decide) (by decide) (by decide) (Nat.le_of_ble_eq_true rfl) (Nat.le_of_ble_eq_true rfl) d_M_init_24 (fun qs cqs H hK hP hD hS => ?_)
  have hP : va_P (dC, dI) classes [(h0, .inr (1, [.ref qd, .int 0, .int (1), .int 0, .int 0, .int 0, .int (-1), .int 0, .int 0, .int 0, .int 0, .null, .null, .null, .null])), (qd, .inl (cqd, (102, .inl (fun _ => 0)))), (qs, .inl (cqs, (5, .inl (fun _ => 0))))] H := hP
  have hD : va_D A [(h0, .inr (1, [.ref qd, .int 0, .int (1), .int 0, .int 0, .int 0, .int (-1), .int 0, .int 0, .int 0, .int 0, .null, .null, .null, .null])), (qd, .inl (cqd, (102, .inl (fun _ => 0)))), (qs, .inl (cqs, (5, .inl (fun _ => 0))))] := hD
  have hK : va_K (dC, dI) classes [(cqd, .int), (cqs, .int)] s := hK
  refine W.widen (k := 2) (n := 107) (by omega) (by omega) ?_
  refine va_putF (D := (dC, dI)) (ci := 1) (v := .ref qs) (ty := .array .int) (C := R_M) (T := F_M) (N := 15) hx hb hts lay_M t_M t_M_ok n_M hown hK hP hD hS 0 rfl rfl 11 (by decide) (hts _ m_281) (fun _ h9 => h9) rfl hin rfl (by decide +kernel) rfl rfl (Nat.le_of_ble_eq_true rfl) d_M_init_26 (fun H locs hP hD hS => ?_)
  have hP : va_P (dC, dI) classes [(h0, .inr (1, [.ref qd, .int 0, .int (1), .int 0, .int 0, .int 0, .int (-1), .int 0, .int 0, .int 0, .int 0, .ref qs, .null, .null, .null])), (qd, .inl (cqd, (102, .inl (fun _ => 0)))), (qs, .inl (cqs, (5, .inl (fun _ => 0))))] H := hP
  have hD : va_D A [(h0, .inr (1, [.ref qd, .int 0, .int (1), .int 0, .int 0, .int 0, .int (-1), .int 0, .int 0, .int 0, .int 0, .ref qs, .null, .null, .null])), (qd, .inl (cqd, (102, .inl (fun _ => 0)))), (qs, .inl (cqs, (5, .inl (fun _ => 0))))] := hD
  refine lv_aload_n hx hb d_M_init_29 rfl (lv_at hl 0 rfl) ?_
  refine lv_iconst (v := 5) hx hb d_M_init_30 (by decide) ?_
  refine va_newa (atype := .long) (a0 := (5, .inr (.inl (fun _ => 0)))) (N' := 5) hx hb (hts _ m_100) rfl hK hP hD hS hA (fun _ => rfl) (by decide) (by decide) (by decide) (Nat.le_of_ble_eq_true rfl) (Nat.le_of_ble_eq_true rfl) d_M_init_31 (fun qv cqv H hK hP hD hS => ?_)
  have hP : va_P (dC, dI) classes [(h0, .inr (1, [.ref qd, .int 0, .int (1), .int 0, .int 0, .int 0, .int (-1), .int 0, .int 0, .int 0, .int 0, .ref qs, .null, .null, .null])), (qd, .inl (cqd, (102, .inl (fun _ => 0)))), (qs, .inl (cqs, (5, .inl (fun _ => 0)))), (qv, .inl (cqv, (5, .inr (.inl (fun _ => 0)))))] H := hP
  have hD : va_D A [(h0, .inr (1, [.ref qd, .int 0, .int (1), .int 0, .int 0, .int 0, .int (-1), .int 0, .int 0, .int 0, .int 0, .ref qs, .null, .null, .null])), (qd, .inl (cqd, (102, .inl (fun _ => 0)))), (qs, .inl (cqs, (5, .inl (fun _ => 0)))), (qv, .inl (cqv, (5, .inr (.inl (fun _ => 0)))))] := hD
  have hK : va_K (dC, dI) classes [(cqd, .int), (cqs, .int), (cqv, .long)] s := hK
  refine W.widen (k := 3) (n := 112) (by omega) (by omega) ?_
  refine va_putF (D := (dC, dI)) (ci := 1) (v := .ref qv) (ty := .array .long) (C := R_M) (T := F_M) (N := 15) hx hb hts lay_M t_M t_M_ok n_M hown hK hP hD hS 0 rfl rfl 12 (by decide) (hts _ m_282) (fun _ h9 => h9) rfl hin rfl (by decide +kernel) rfl rfl (Nat.le_of_ble_eq_true rfl) d_M_init_33 (fun H locs hP hD hS => ?_)
  have hP : va_P (dC, dI) classes [(h0, .inr (1, [.ref qd, .int 0, .int (1), .int 0, .int 0, .int 0, .int (-1), .int 0, .int 0, .int 0, .int 0, .ref qs, .ref qv, .null, .null])), (qd, .inl (cqd, (102, .inl (fun _ => 0)))), (qs, .inl (cqs, (5, .inl (fun _ => 0)))), (qv, .inl (cqv, (5, .inr (.inl (fun _ => 0)))))] H := hP
  have hD : va_D A [(h0, .inr (1, [.ref qd, .int 0, .int (1), .int 0, .int 0, .int 0, .int (-1), .int 0, .int 0, .int 0, .int 0, .ref qs, .ref qv, .null, .null])), (qd, .inl (cqd, (102, .inl (fun _ => 0)))), (qs, .inl (cqs, (5, .inl (fun _ => 0)))), (qv, .inl (cqv, (5, .inr (.inl (fun _ => 0)))))] := hD
  refine lv_aload_n hx hb d_M_init_36 rfl (lv_at hl 0 rfl) ?_
  refine lv_bipush (v := 8) hx hb d_M_init_37 (by decide) ?_
  refine va_newa (atype := .long) (a0 := (8, .inr (.inl (fun _ => 0)))) (N' := 8) hx hb (hts _ m_100) rfl hK hP hD hS hA (fun _ => rfl) (by decide) (by decide) (by decide) (Nat.le_of_ble_eq_true rfl) (Nat.le_of_ble_eq_true rfl) d_M_init_39 (fun qh cqh H hK hP hD hS => ?_)
  have hP : va_P (dC, dI) classes [(h0, .inr (1, [.ref qd, .int 0, .int (1), .int 0, .int 0, .int 0, .int (-1), .int 0, .int 0, .int 0, .int 0, .ref qs, .ref qv, .null, .null])), (qd, .inl (cqd, (102, .inl (fun _ => 0)))), (qs, .inl (cqs, (5, .inl (fun _ => 0)))), (qv, .inl (cqv, (5, .inr (.inl (fun _ => 0))))), (qh, .inl (cqh, (8, .inr (.inl (fun _ => 0)))))] H := hP
  have hD : va_D A [(h0, .inr (1, [.ref qd, .int 0, .int (1), .int 0, .int 0, .int 0, .int (-1), .int 0, .int 0, .int 0, .int 0, .ref qs, .ref qv, .null, .null])), (qd, .inl (cqd, (102, .inl (fun _ => 0)))), (qs, .inl (cqs, (5, .inl (fun _ => 0)))), (qv, .inl (cqv, (5, .inr (.inl (fun _ => 0))))), (qh, .inl (cqh, (8, .inr (.inl (fun _ => 0)))))] := hD
  have hK : va_K (dC, dI) classes [(cqd, .int), (cqs, .int), (cqv, .long), (cqh, .long)] s := hK
  refine W.widen (k := 4) (n := 120) (by omega) (by omega) ?_
  refine va_putF (D := (dC, dI)) (ci := 1) (v := .ref qh) (ty := .array .long) (C := R_M) (T := F_M) (N := 15) hx hb hts lay_M t_M t_M_ok n_M hown hK hP hD hS 0 rfl rfl 13 (by decide) (hts _ m_283) (fun _ h9 => h9) rfl hin rfl (by decide +kernel) rfl rfl (Nat.le_of_ble_eq_true rfl) d_M_init_41 (fun H locs hP hD hS => ?_)
  have hP : va_P (dC, dI) classes [(h0, .inr (1, [.ref qd, .int 0, .int (1), .int 0, .int 0, .int 0, .int (-1), .int 0, .int 0, .int 0, .int 0, .ref qs, .ref qv, .ref qh, .null])), (qd, .inl (cqd, (102, .inl (fun _ => 0)))), (qs, .inl (cqs, (5, .inl (fun _ => 0)))), (qv, .inl (cqv, (5, .inr (.inl (fun _ => 0))))), (qh, .inl (cqh, (8, .inr (.inl (fun _ => 0)))))] H := hP
  have hD : va_D A [(h0, .inr (1, [.ref qd, .int 0, .int (1), .int 0, .int 0, .int 0, .int (-1), .int 0, .int 0, .int 0, .int 0, .ref qs, .ref qv, .ref qh, .null])), (qd, .inl (cqd, (102, .inl (fun _ => 0)))), (qs, .inl (cqs, (5, .inl (fun _ => 0)))), (qv, .inl (cqv, (5, .inr (.inl (fun _ => 0))))), (qh, .inl (cqh, (8, .inr (.inl (fun _ => 0)))))] := hD
  refine lv_aload_n hx hb d_M_init_44 rfl (lv_at hl 0 rfl) ?_
  refine lv_bipush (v := 16) hx hb d_M_init_45 (by decide) ?_
  refine va_newa (atype := .int) (a0 := (16, .inl (fun _ => 0))) (N' := 16) hx hb (hts _ m_99) rfl hK hP hD hS hA (fun _ => rfl) (by decide) (by decide) (by decide) (Nat.le_of_ble_eq_true rfl) (Nat.le_of_ble_eq_true rfl) d_M_init_47 (fun qn cqn H hK hP hD hS => ?_)
  have hP : va_P (dC, dI) classes [(h0, .inr (1, [.ref qd, .int 0, .int (1), .int 0, .int 0, .int 0, .int (-1), .int 0, .int 0, .int 0, .int 0, .ref qs, .ref qv, .ref qh, .null])), (qd, .inl (cqd, (102, .inl (fun _ => 0)))), (qs, .inl (cqs, (5, .inl (fun _ => 0)))), (qv, .inl (cqv, (5, .inr (.inl (fun _ => 0))))), (qh, .inl (cqh, (8, .inr (.inl (fun _ => 0))))), (qn, .inl (cqn, (16, .inl (fun _ => 0))))] H := hP
  have hD : va_D A [(h0, .inr (1, [.ref qd, .int 0, .int (1), .int 0, .int 0, .int 0, .int (-1), .int 0, .int 0, .int 0, .int 0, .ref qs, .ref qv, .ref qh, .null])), (qd, .inl (cqd, (102, .inl (fun _ => 0)))), (qs, .inl (cqs, (5, .inl (fun _ => 0)))), (qv, .inl (cqv, (5, .inr (.inl (fun _ => 0))))), (qh, .inl (cqh, (8, .inr (.inl (fun _ => 0))))), (qn, .inl (cqn, (16, .inl (fun _ => 0))))] := hD
  have hK : va_K (dC, dI) classes [(cqd, .int), (cqs, .int), (cqv, .long), (cqh, .long), (cqn, .int)] s := hK
  refine W.widen (k := 5) (n := 136) (by omega) (by omega) ?_
  refine va_putF (D := (dC, dI)) (ci := 1) (v := .ref qn) (ty := .array .int) (C := R_M) (T := F_M) (N := 15) hx hb hts lay_M t_M t_M_ok n_M hown hK hP hD hS 0 rfl rfl 14 (by decide) (hts _ m_284) (fun _ h9 => h9) rfl hin rfl (by decide +kernel) rfl rfl (Nat.le_of_ble_eq_true rfl) d_M_init_49 (fun H locs hP hD hS => ?_)
  have hP : va_P (dC, dI) classes [(h0, .inr (1, [.ref qd, .int 0, .int (1), .int 0, .int 0, .int 0, .int (-1), .int 0, .int 0, .int 0, .int 0, .ref qs, .ref qv, .ref qh, .ref qn])), (qd, .inl (cqd, (102, .inl (fun _ => 0)))), (qs, .inl (cqs, (5, .inl (fun _ => 0)))), (qv, .inl (cqv, (5, .inr (.inl (fun _ => 0))))), (qh, .inl (cqh, (8, .inr (.inl (fun _ => 0))))), (qn, .inl (cqn, (16, .inl (fun _ => 0))))] H := hP
  have hD : va_D A [(h0, .inr (1, [.ref qd, .int 0, .int (1), .int 0, .int 0, .int 0, .int (-1), .int 0, .int 0, .int 0, .int 0, .ref qs, .ref qv, .ref qh, .ref qn])), (qd, .inl (cqd, (102, .inl (fun _ => 0)))), (qs, .inl (cqs, (5, .inl (fun _ => 0)))), (qv, .inl (cqv, (5, .inr (.inl (fun _ => 0))))), (qh, .inl (cqh, (8, .inr (.inl (fun _ => 0))))), (qn, .inl (cqn, (16, .inl (fun _ => 0))))] := hD
  have hcc : cqs = cqd := Option.some.inj (((hK.2 1 _ rfl).2 : s.vm.findClass _ = some cqs).symm.trans ((hK.2 0 _ rfl).2 : s.vm.findClass _ = some cqd))
  subst cqs
  have hcc : cqh = cqv := Option.some.inj (((hK.2 3 _ rfl).2 : s.vm.findClass _ = some cqh).symm.trans ((hK.2 2 _ rfl).2 : s.vm.findClass _ = some cqv))
  subst cqh
  have hcc : cqn = cqd := Option.some.inj (((hK.2 4 _ rfl).2 : s.vm.findClass _ = some cqn).symm.trans ((hK.2 0 _ rfl).2 : s.vm.findClass _ = some cqd))
  subst cqn
  have hK : va_K (dC, dI) classes [(cqd, .int), (cqv, .long)] s := hK.sub [0, 2] rfl
  generalize cqd = cI at hK hP hD
  generalize cqv = cJ at hK hP hD
  have hP : va_P (dC, dI) classes (Mw h0 qd qs qv qh qn cI cJ ((fun _ => 0), 0, 1, 0, 0, false, -1, 0, false, 0, 0, (fun _ => 0), (fun _ => 0), (fun _ => 0), (fun _ => 0))) H := hP
  have hD : va_D A (Mw h0 qd qs qv qh qn cI cJ ((fun _ => 0), 0, 1, 0, 0, false, -1, 0, false, 0, 0, (fun _ => 0), (fun _ => 0), (fun _ => 0), (fun _ => 0))) := hD
  have loop3 : ∀ (hs1 : Nat → Int64) (j k : Nat) (d0 : Nat → Int32) (ls : Array Slot) (H : Heap) (locs : List Loc), k + j = 16 → lv_has ls 2 [(0, .ref h0), (1, .int (nI k))] → va_P (dC, dI) classes (Mw h0 qd qs qv qh qn cI cJ (d0, 0, 1, 0, 0, false, -1, 0, false, 0, 0, fun _ => 0, fun _ => 0, hs1, iniN)) H → va_D A (Mw h0 qd qs qv qh qn cI cJ (d0, 0, 1, 0, 0, false, -1, 0, false, 0, 0, fun _ => 0, fun _ => 0, hs1, iniN)) → va_S A s.heap H locs → inM2 iniN j k d0 = iniMD → W p l e (headSpec w_M_init ({ frames := 3, cells := 5, slots := 136, locals := 71 })).room s m ([.ref h0].toArray) below meth c H locs 5 136 (MQ below (va_Qv (fun (_ : Nat × Nat × Nat × Nat × Nat × ClassId × ClassId × (Nat → Int64)) => True) (fun (z : Nat × Nat × Nat × Nat × Nat × ClassId × ClassId × (Nat → Int64)) => z_at (dC, dI) classes [(z.2.2.2.2.2.1, .int), (z.2.2.2.2.2.2.1, .long)] A (Mw h0 z.1 z.2.1 z.2.2.1 z.2.2.2.1 z.2.2.2.2.1 z.2.2.2.2.2.1 z.2.2.2.2.2.2.1 (iniM z.2.2.2.2.2.2.2))) A) ([.ref h0].toArray) s 5 136 A) (F0 m 106 ls []) := by
    intro hs1 j
    induction j with
    | zero =>
      intro k d0 ls H locs hk hl hP hD hS hF
      have hF : d0 = iniMD := hF
      subst hF
      refine lv_iload_n hx hb d_M_init_106 rfl (lv_at hl 1 rfl) ?_
      refine lv_bipush (v := nI 16) hx hb d_M_init_107 (by decide) ?_
      refine lv_icmp_ge (tgt := 133) hx hb d_M_init_109 (by decide) (fun _ => ?_) (fun h9 => absurd ((nI_leI (by omega) (by omega)).mpr (by omega)) h9)
      refine lv_aload_n hx hb d_M_init_133 rfl (lv_at hl 0 rfl) ?_
      refine lv_aload_n hx hb d_M_init_134 rfl (lv_at hl 0 rfl) ?_
      refine va_get (D := (dC, dI)) (ci := 1) (v := .ref qn) (C := R_M) (T := F_M) (N := 15) hx hb hts lay_M hown hK hP 0 rfl rfl 14 (by decide) (hts _ m_284) (fun _ h9 => h9) rfl d_M_init_135 ?_
      refine lv_iconst (v := nI 1) hx hb d_M_init_138 (by decide) ?_
      refine z_iald hx hb hK hP 5 0 rfl rfl (by omega) (by decide) d_M_init_139 ?_
      refine va_put (D := (dC, dI)) (ci := 1) (v := .int (iniN 1)) (ty := .int) (C := R_M) (T := F_M) (N := 15) hx hb hts lay_M t_M t_M_ok n_M hown hK hP hD hS 0 rfl rfl 3 (by decide) (hts _ m_273) (fun _ h9 => h9) rfl (by decide +kernel) rfl rfl (Nat.le_of_ble_eq_true rfl) d_M_init_140 (fun H locs hP hD hS => ?_)
      have hP : va_P (dC, dI) classes (Mw h0 qd qs qv qh qn cI cJ (iniMD, 0, 1, iniN 1, 0, false, -1, 0, false, 0, 0, (fun _ => 0), (fun _ => 0), hs1, iniN)) H := hP
      have hD : va_D A (Mw h0 qd qs qv qh qn cI cJ (iniMD, 0, 1, iniN 1, 0, false, -1, 0, false, 0, 0, (fun _ => 0), (fun _ => 0), hs1, iniN)) := hD
      exact W.vret hx hb hr (fun t ht hW => ⟨⟨(qd, qs, qv, qh, qn, cI, cJ, hs1), rfl, trivial, by rw [ht]; exact hP, va_K.moved hW.alike hK, hD⟩, hS.F ht⟩) hS.2.2 d_M_init_143
    | succ j ih =>
      intro k d0 ls H locs hk hl hP hD hS hF
      refine lv_iload_n hx hb d_M_init_106 rfl (lv_at hl 1 rfl) ?_
      refine lv_bipush (v := nI 16) hx hb d_M_init_107 (by decide) ?_
      refine lv_icmp_ge (tgt := 133) hx hb d_M_init_109 (by decide) (fun h9 => absurd h9 (fun q => absurd ((nI_leI (by omega) (by omega)).mp q) (by omega))) (fun _ => ?_)
      refine lv_aload_n hx hb d_M_init_112 rfl (lv_at hl 0 rfl) ?_
      refine va_get (D := (dC, dI)) (ci := 1) (v := .ref qd) (C := R_M) (T := F_M) (N := 15) hx hb hts lay_M hown hK hP 0 rfl rfl 0 (by decide) (hts _ m_270) (fun _ h9 => h9) rfl d_M_init_113 ?_
      refine lv_bipush (v := nI 15) hx hb d_M_init_116 (by decide) ?_
      refine lv_iload_n hx hb d_M_init_118 rfl (lv_at hl 1 rfl) ?_
      refine lv_iadd hx hb d_M_init_119 ?_
      refine z_top (nI_add _ _) ?_
      refine lv_aload_n hx hb d_M_init_120 rfl (lv_at hl 0 rfl) ?_
      refine va_get (D := (dC, dI)) (ci := 1) (v := .ref qn) (C := R_M) (T := F_M) (N := 15) hx hb hts lay_M hown hK hP 0 rfl rfl 14 (by decide) (hts _ m_284) (fun _ h9 => h9) rfl d_M_init_121 ?_
      refine lv_iload_n hx hb d_M_init_124 rfl (lv_at hl 1 rfl) ?_
      refine z_iald hx hb hK hP 5 0 rfl rfl (by omega) (by decide) d_M_init_125 ?_
      refine z_iast hx hb hK hP hD hS 1 0 rfl rfl (by omega) (by decide) d_M_init_126 (fun H locs hP hD hS => ?_)
      have hP : va_P (dC, dI) classes (Mw h0 qd qs qv qh qn cI cJ (upd d0 (15 + k) (iniN k), 0, 1, 0, 0, false, -1, 0, false, 0, 0, (fun _ => 0), (fun _ => 0), hs1, iniN)) H := hP
      have hD : va_D A (Mw h0 qd qs qv qh qn cI cJ (upd d0 (15 + k) (iniN k), 0, 1, 0, 0, false, -1, 0, false, 0, 0, (fun _ => 0), (fun _ => 0), hs1, iniN)) := hD
      refine lv_iinc (k := 1) hx hb d_M_init_127 hl rfl (z_inc _ 1) (by decide) rfl (fun ls hl => ?_)
      have hl : lv_has ls 2 [(1, .int (nI (k + 1))), (0, .ref h0)] := hl
      refine lv_goto (tgt := 106) hx hb d_M_init_130 (by decide) ?_
      exact ih (k + 1) _ ls _ _ (by omega) (lv_sub hl [1, 0] rfl) hP hD hS hF
  have loop2 : ∀ (hs1 : Nat → Int64) (j k : Nat) (d0 : Nat → Int32) (ls : Array Slot) (H : Heap) (locs : List Loc), k + j = 16 → lv_has ls 2 [(0, .ref h0), (1, .int (nI k))] → va_P (dC, dI) classes (Mw h0 qd qs qv qh qn cI cJ (d0, 0, 1, 0, 0, false, -1, 0, false, 0, 0, fun _ => 0, fun _ => 0, hs1, fun _ => 0)) H → va_D A (Mw h0 qd qs qv qh qn cI cJ (d0, 0, 1, 0, 0, false, -1, 0, false, 0, 0, fun _ => 0, fun _ => 0, hs1, fun _ => 0)) → va_S A s.heap H locs → inM1 j k d0 = inM1 16 0 (fun _ => 0) → W p l e (headSpec w_M_init ({ frames := 3, cells := 5, slots := 136, locals := 71 })).room s m ([.ref h0].toArray) below meth c H locs 5 136 (MQ below (va_Qv (fun (_ : Nat × Nat × Nat × Nat × Nat × ClassId × ClassId × (Nat → Int64)) => True) (fun (z : Nat × Nat × Nat × Nat × Nat × ClassId × ClassId × (Nat → Int64)) => z_at (dC, dI) classes [(z.2.2.2.2.2.1, .int), (z.2.2.2.2.2.2.1, .long)] A (Mw h0 z.1 z.2.1 z.2.2.1 z.2.2.2.1 z.2.2.2.2.1 z.2.2.2.2.2.1 z.2.2.2.2.2.2.1 (iniM z.2.2.2.2.2.2.2))) A) ([.ref h0].toArray) s 5 136 A) (F0 m 75 ls []) := by
    intro hs1 j
    induction j with
    | zero =>
      intro k d0 ls H locs hk hl hP hD hS hF
      have hF : d0 = inM1 16 0 (fun _ => 0) := hF
      subst hF
      refine lv_iload_n hx hb d_M_init_75 rfl (lv_at hl 1 rfl) ?_
      refine lv_bipush (v := nI 16) hx hb d_M_init_76 (by decide) ?_
      refine lv_icmp_ge (tgt := 98) hx hb d_M_init_78 (by decide) (fun _ => ?_) (fun h9 => absurd ((nI_leI (by omega) (by omega)).mpr (by omega)) h9)
      refine lv_aload_n hx hb d_M_init_98 rfl (lv_at hl 0 rfl) ?_
      refine lv_iconst (v := nI 0) hx hb d_M_init_99 (by decide) ?_
      refine lv_iconst (v := (1 : Int32)) hx hb d_M_init_100 (by decide) ?_
      refine z_callv (va_runV (C := R_M) (b := h0) (As := [.int (nI 0), .int (1 : Int32)]) (rest := []) ⟨hx, hb, hml, hown, hts⟩ (mc_nodes l dC dI h0 qd qs qv qh qn cI cJ _ (inM1 16 0 (fun _ => 0)) 0 1 0 0 false (-1) 0 false 0 0 (fun _ => 0) (fun _ => 0) hs1 (fun _ => 0) 0 (1 : Int32) (by omega)) (cwV 2 hts g_M_37 rfl rfl rfl (by decide +kernel) ⟨(Nat.le_of_ble_eq_true rfl), (Nat.le_of_ble_eq_true rfl)⟩) (z_preV (va_recv (q0 := 0) hK hP rfl rfl) hP hK hD) rfl rfl hl.1 rfl (lv_room (Nat.le_of_ble_eq_true rfl)) d_M_init_101 ⟨(Nat.le_of_ble_eq_true rfl), (Nat.le_of_ble_eq_true rfl)⟩) hS hD hA (fun u H locs hr0 hP hD hS => ?_)
      subst hr0
      have hP : va_P (dC, dI) classes (Mw h0 qd qs qv qh qn cI cJ (inM1 16 0 (fun _ => 0), 0, 1, 0, 0, false, -1, 0, false, 0, 0, (fun _ => 0), (fun _ => 0), hs1, ndB 7 (ndA (inM1 16 0 (fun _ => 0)) 0 (1 : Int32) 8 0 (fun _ => 0)))) H := hP
      have hD : va_D A (Mw h0 qd qs qv qh qn cI cJ (inM1 16 0 (fun _ => 0), 0, 1, 0, 0, false, -1, 0, false, 0, 0, (fun _ => 0), (fun _ => 0), hs1, ndB 7 (ndA (inM1 16 0 (fun _ => 0)) 0 (1 : Int32) 8 0 (fun _ => 0)))) := hD
      refine lv_iconst (v := nI 1) hx hb d_M_init_104 (by decide) ?_
      refine lv_istore_n hx hb d_M_init_105 rfl hl (by decide) rfl (fun ls hl => ?_)
      have hl : lv_has ls 2 [(1, .int (nI 1)), (0, .ref h0)] := hl
      exact loop3 hs1 15 1 _ ls _ _ rfl (lv_sub hl [1, 0] rfl) hP hD hS rfl
    | succ j ih =>
      intro k d0 ls H locs hk hl hP hD hS hF
      refine lv_iload_n hx hb d_M_init_75 rfl (lv_at hl 1 rfl) ?_
      refine lv_bipush (v := nI 16) hx hb d_M_init_76 (by decide) ?_
      refine lv_icmp_ge (tgt := 98) hx hb d_M_init_78 (by decide) (fun h9 => absurd h9 (fun q => absurd ((nI_leI (by omega) (by omega)).mp q) (by omega))) (fun _ => ?_)
      refine lv_aload_n hx hb d_M_init_81 rfl (lv_at hl 0 rfl) ?_
      refine va_get (D := (dC, dI)) (ci := 1) (v := .ref qd) (C := R_M) (T := F_M) (N := 15) hx hb hts lay_M hown hK hP 0 rfl rfl 0 (by decide) (hts _ m_270) (fun _ h9 => h9) rfl d_M_init_82 ?_
      refine lv_iload_n hx hb d_M_init_85 rfl (lv_at hl 1 rfl) ?_
      refine lv_iconst (v := (1 : Int32)) hx hb d_M_init_86 (by decide) ?_
      refine lv_iload_n hx hb d_M_init_87 rfl (lv_at hl 1 rfl) ?_
      refine vp_callSi (W.runS (As := [.int (1 : Int32), .int (nI k)]) (rest := [.int (nI k), .ref qd]) ⟨hx, hb, hml, hown, hts⟩ (mc_key l (1 : Int32) (nI k)) (cwS 2 hts g_M_33 rfl rfl rfl (by decide +kernel) ⟨(Nat.le_of_ble_eq_true rfl), (Nat.le_of_ble_eq_true rfl)⟩) preEq rfl rfl hl.1 rfl (lv_room (Nat.le_of_ble_eq_true rfl)) d_M_init_88 ⟨(Nat.le_of_ble_eq_true rfl), (Nat.le_of_ble_eq_true rfl)⟩) (fun r hr0 => ?_)
      subst hr0
      refine z_iast hx hb hK hP hD hS 1 0 rfl rfl (by omega) (by decide) d_M_init_91 (fun H locs hP hD hS => ?_)
      have hP : va_P (dC, dI) classes (Mw h0 qd qs qv qh qn cI cJ (upd d0 k (dg (dg 19088743 (1 : Int32)) (nI k)), 0, 1, 0, 0, false, -1, 0, false, 0, 0, (fun _ => 0), (fun _ => 0), hs1, (fun _ => 0))) H := hP
      have hD : va_D A (Mw h0 qd qs qv qh qn cI cJ (upd d0 k (dg (dg 19088743 (1 : Int32)) (nI k)), 0, 1, 0, 0, false, -1, 0, false, 0, 0, (fun _ => 0), (fun _ => 0), hs1, (fun _ => 0))) := hD
      refine lv_iinc (k := 1) hx hb d_M_init_92 hl rfl (z_inc _ 1) (by decide) rfl (fun ls hl => ?_)
      have hl : lv_has ls 2 [(1, .int (nI (k + 1))), (0, .ref h0)] := hl
      refine lv_goto (tgt := 75) hx hb d_M_init_95 (by decide) ?_
      exact ih (k + 1) _ ls _ _ (by omega) (lv_sub hl [1, 0] rfl) hP hD hS hF
  have loop1 : ∀ (j k : Nat) (hs1 : Nat → Int64) (ls : Array Slot) (H : Heap) (locs : List Loc), k + j = 8 → lv_has ls 2 [(0, .ref h0), (1, .int (nI k))] → va_P (dC, dI) classes (Mw h0 qd qs qv qh qn cI cJ ((fun _ => 0), 0, 1, 0, 0, false, -1, 0, false, 0, 0, fun _ => 0, fun _ => 0, hs1, fun _ => 0)) H → va_D A (Mw h0 qd qs qv qh qn cI cJ ((fun _ => 0), 0, 1, 0, 0, false, -1, 0, false, 0, 0, fun _ => 0, fun _ => 0, hs1, fun _ => 0)) → va_S A s.heap H locs → W p l e (headSpec w_M_init ({ frames := 3, cells := 5, slots := 136, locals := 71 })).room s m ([.ref h0].toArray) below meth c H locs 5 136 (MQ below (va_Qv (fun (_ : Nat × Nat × Nat × Nat × Nat × ClassId × ClassId × (Nat → Int64)) => True) (fun (z : Nat × Nat × Nat × Nat × Nat × ClassId × ClassId × (Nat → Int64)) => z_at (dC, dI) classes [(z.2.2.2.2.2.1, .int), (z.2.2.2.2.2.2.1, .long)] A (Mw h0 z.1 z.2.1 z.2.2.1 z.2.2.2.1 z.2.2.2.2.1 z.2.2.2.2.2.1 z.2.2.2.2.2.2.1 (iniM z.2.2.2.2.2.2.2))) A) ([.ref h0].toArray) s 5 136 A) (F0 m 54 ls []) := by
    intro j
    induction j with
    | zero =>
      intro k hs1 ls H locs hk hl hP hD hS
      refine lv_iload_n hx hb d_M_init_54 rfl (lv_at hl 1 rfl) ?_
      refine lv_bipush (v := nI 8) hx hb d_M_init_55 (by decide) ?_
      refine lv_icmp_ge (tgt := 73) hx hb d_M_init_57 (by decide) (fun _ => ?_) (fun h9 => absurd ((nI_leI (by omega) (by omega)).mpr (by omega)) h9)
      refine lv_iconst (v := nI 0) hx hb d_M_init_73 (by decide) ?_
      refine lv_istore_n hx hb d_M_init_74 rfl hl (by decide) rfl (fun ls hl => ?_)
      have hl : lv_has ls 2 [(1, .int (nI 0)), (0, .ref h0)] := hl
      exact loop2 hs1 16 0 _ ls _ _ rfl (lv_sub hl [1, 0] rfl) hP hD hS rfl
    | succ j ih =>
      intro k hs1 ls H locs hk hl hP hD hS
      refine lv_iload_n hx hb d_M_init_54 rfl (lv_at hl 1 rfl) ?_
      refine lv_bipush (v := nI 8) hx hb d_M_init_55 (by decide) ?_
      refine lv_icmp_ge (tgt := 73) hx hb d_M_init_57 (by decide) (fun h9 => absurd h9 (fun q => absurd ((nI_leI (by omega) (by omega)).mp q) (by omega))) (fun _ => ?_)
      refine lv_aload_n hx hb d_M_init_60 rfl (lv_at hl 0 rfl) ?_
      refine va_get (D := (dC, dI)) (ci := 1) (v := .ref qh) (C := R_M) (T := F_M) (N := 15) hx hb hts lay_M hown hK hP 0 rfl rfl 13 (by decide) (hts _ m_283) (fun _ h9 => h9) rfl d_M_init_61 ?_
      refine lv_iload_n hx hb d_M_init_64 rfl (lv_at hl 1 rfl) ?_
      refine lv_lconst (v := 0) hx hb d_M_init_65 (by decide) ?_
      refine z_last hx hb hK hP hD hS 4 1 rfl rfl (by omega) (by decide) d_M_init_66 (fun H locs hP hD hS => ?_)
      have hP : va_P (dC, dI) classes (Mw h0 qd qs qv qh qn cI cJ ((fun _ => 0), 0, 1, 0, 0, false, -1, 0, false, 0, 0, (fun _ => 0), (fun _ => 0), vp_updL hs1 k (0 : Int64), (fun _ => 0))) H := hP
      have hD : va_D A (Mw h0 qd qs qv qh qn cI cJ ((fun _ => 0), 0, 1, 0, 0, false, -1, 0, false, 0, 0, (fun _ => 0), (fun _ => 0), vp_updL hs1 k (0 : Int64), (fun _ => 0))) := hD
      refine lv_iinc (k := 1) hx hb d_M_init_67 hl rfl (z_inc _ 1) (by decide) rfl (fun ls hl => ?_)
      have hl : lv_has ls 2 [(1, .int (nI (k + 1))), (0, .ref h0)] := hl
      refine lv_goto (tgt := 54) hx hb d_M_init_70 (by decide) ?_
      exact ih (k + 1) _ ls _ _ (by omega) (lv_sub hl [1, 0] rfl) hP hD hS
  refine lv_iconst (v := (0 : Int32)) hx hb d_M_init_52 (by decide) ?_
  refine lv_istore_n hx hb d_M_init_53 rfl hl (by decide) rfl (fun ls hl => ?_)
  have hl : lv_has ls 2 [(1, .int (0 : Int32)), (0, .ref h0)] := hl
  exact loop1 8 0 _ ls _ _ rfl (lv_sub hl [1, 0] rfl) hP hD hS
