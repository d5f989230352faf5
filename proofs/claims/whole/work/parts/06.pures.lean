set_option maxHeartbeats 4000000 in
set_option maxRecDepth 100000 in
theorem c_digest (l : Launch) (a b : Int32) : Met l y_X_digest w_X_digest ({ frames := 0, cells := 0, slots := 0, locals := 0 }) (fun v _ => v = [.int a, .int b].toArray) (vp_Si (fun r => r = dg a b)) 0 0 (fun _ => False) := by
  refine Met.ofW (cc := b_X_digest) (maxL := 3) (ret := (some .int)) (by decide) rfl ?_
  intro p e s m args below meth c s₁ B hml hv
  obtain rfl := hv
  have hx := B.exec
  have hb := B.bytes
  have hr := B.returns
  have hts := fun (w : Cond) (h : w ∈ lw_U) => atoms_spec (ws := w_X_digest) B.pre w (List.mem_cons_of_mem _ h)
  have hown : s.vm.findClass R_X = some m.cls := findClass_of_methodNamed B.named
  have hlocks := B.notSynchronized
  have hl := lv_entry ([.int a, .int b]) (n := 3) (Nat.le_of_ble_eq_true rfl)
  rw [lg_entry_eq]
  generalize (lg_sl ([.int a, .int b]) ++ List.replicate (3 - (lg_sl ([.int a, .int b])).length) Slot.unset).toArray = ls at hl ⊢
  have hl : lv_has ls 3 [(0, .int a), (1, .int b)] := hl
  refine lv_iload_n hx hb d_X_digest_0 rfl (lv_at hl 0 rfl) ?_
  refine lv_ldc (v := 668265263) hx hb hown (hts _ m_50) d_X_digest_1 ?_
  refine lv_iadd hx hb d_X_digest_3 ?_
  refine lv_iload_n hx hb d_X_digest_4 rfl (lv_at hl 1 rfl) ?_
  refine lv_bipush (v := (9 : Int32)) hx hb d_X_digest_5 (by decide) ?_
  refine lv_ishl hx hb d_X_digest_7 ?_
  refine lv_iload_n hx hb d_X_digest_8 rfl (lv_at hl 1 rfl) ?_
  refine lv_bipush (v := (23 : Int32)) hx hb d_X_digest_9 (by decide) ?_
  refine lv_iushr hx hb d_X_digest_11 rfl ?_
  refine lv_ior hx hb d_X_digest_12 ?_
  refine lv_ixor hx hb d_X_digest_13 ?_
  refine lv_ldc (v := -1640531527) hx hb hown (hts _ m_51) d_X_digest_14 ?_
  refine lv_imul hx hb d_X_digest_16 ?_
  refine lv_istore_n hx hb d_X_digest_17 rfl hl (by decide) rfl (fun ls hl => ?_)
  have hl : lv_has ls 3 [(2, .int (((a + (668265263 : Int32)) ^^^ ((b <<< ((9 : Int32) &&& 31)) ||| ((b.toUInt32 >>> ((23 : Int32).toUInt32 &&& Int32.toUInt32 31)).toInt32))) * (-1640531527 : Int32))), (0, .int a), (1, .int b)] := hl
  refine lv_iload_n hx hb d_X_digest_18 rfl (lv_at hl 0 rfl) ?_
  refine lv_iload_n hx hb d_X_digest_19 rfl (lv_at hl 0 rfl) ?_
  refine lv_bipush (v := (15 : Int32)) hx hb d_X_digest_20 (by decide) ?_
  refine lv_iushr hx hb d_X_digest_22 rfl ?_
  refine lv_ixor hx hb d_X_digest_23 ?_
  exact W.iret hx hb hr (fun t ht hW => ⟨_, rfl, (by rw [dg_eq]; rfl), ht⟩) (fun q h => by cases h) d_X_digest_24
set_option maxHeartbeats 4000000 in
set_option maxRecDepth 100000 in
theorem c_encipher (l : Launch) (w0 p0 g0 : Int32) : Met l y_X_encipher w_X_encipher ({ frames := 1, cells := 0, slots := 0, locals := 22 }) (fun v _ => v = [.int w0, .int p0, .int g0].toArray) (vp_Si (fun r => r = enc w0 p0 g0)) 0 0 (fun _ => False) := by
  refine Met.ofW (cc := b_X_encipher) (maxL := 3) (ret := (some .int)) (by decide) rfl ?_
  intro p e s m args below meth c s₁ B hml hv
  obtain rfl := hv
  have hx := B.exec
  have hb := B.bytes
  have hr := B.returns
  have hts := fun (w : Cond) (h : w ∈ lw_U) => atoms_spec (ws := w_X_encipher) B.pre w (List.mem_cons_of_mem _ h)
  have hown : s.vm.findClass R_X = some m.cls := findClass_of_methodNamed B.named
  have hlocks := B.notSynchronized
  have hl := lv_entry ([.int w0, .int p0, .int g0]) (n := 3) (Nat.le_of_ble_eq_true rfl)
  rw [lg_entry_eq]
  generalize (lg_sl ([.int w0, .int p0, .int g0]) ++ List.replicate (3 - (lg_sl ([.int w0, .int p0, .int g0])).length) Slot.unset).toArray = ls at hl ⊢
  have hl : lv_has ls 3 [(0, .int w0), (1, .int p0), (2, .int g0)] := hl
  refine lv_iload_n hx hb d_X_encipher_0 rfl (lv_at hl 0 rfl) ?_
  refine lv_ldc (v := 19088743) hx hb hown (hts _ m_46) d_X_encipher_1 ?_
  refine lv_iload_n hx hb d_X_encipher_3 rfl (lv_at hl 2 rfl) ?_
  refine vp_callSi (W.runS (As := [.int (19088743 : Int32), .int g0]) (rest := [.int w0]) ⟨hx, hb, hml, hown, hts⟩ (c_digest l (19088743 : Int32) g0) (cwS 2 hts g_X_100 rfl rfl rfl (by decide +kernel) ⟨(Nat.le_of_ble_eq_true rfl), (Nat.le_of_ble_eq_true rfl)⟩) preEq rfl rfl hl.1 rfl (lv_room (Nat.le_of_ble_eq_true rfl)) d_X_encipher_4 ⟨(Nat.le_of_ble_eq_true rfl), (Nat.le_of_ble_eq_true rfl)⟩) (fun r hr0 => ?_)
  subst hr0
  refine lv_iload_n hx hb d_X_encipher_7 rfl (lv_at hl 1 rfl) ?_
  refine vp_callSi (W.runS (As := [.int (dg (19088743 : Int32) g0), .int p0]) (rest := [.int w0]) ⟨hx, hb, hml, hown, hts⟩ (c_digest l (dg (19088743 : Int32) g0) p0) (cwS 2 hts g_X_100 rfl rfl rfl (by decide +kernel) ⟨(Nat.le_of_ble_eq_true rfl), (Nat.le_of_ble_eq_true rfl)⟩) preEq rfl rfl hl.1 rfl (lv_room (Nat.le_of_ble_eq_true rfl)) d_X_encipher_8 ⟨(Nat.le_of_ble_eq_true rfl), (Nat.le_of_ble_eq_true rfl)⟩) (fun r hr0 => ?_)
  subst hr0
  refine lv_ixor hx hb d_X_encipher_11 ?_
  exact W.iret hx hb hr (fun t ht hW => ⟨_, rfl, rfl, ht⟩) (fun q h => by cases h) d_X_encipher_12
set_option maxHeartbeats 4000000 in
set_option maxRecDepth 100000 in
theorem c_upper (l : Launch) (x0 : Int64) : Met l y_X_upper w_X_upper ({ frames := 0, cells := 0, slots := 0, locals := 0 }) (fun v _ => v = [.long x0].toArray) (vp_Si (fun r => r = hiW x0)) 0 0 (fun _ => False) := by
  refine Met.ofW (cc := b_X_upper) (maxL := 2) (ret := (some .int)) (by decide) rfl ?_
  intro p e s m args below meth c s₁ B hml hv
  obtain rfl := hv
  have hx := B.exec
  have hb := B.bytes
  have hr := B.returns
  have hts := fun (w : Cond) (h : w ∈ lw_U) => atoms_spec (ws := w_X_upper) B.pre w (List.mem_cons_of_mem _ h)
  have hown : s.vm.findClass R_X = some m.cls := findClass_of_methodNamed B.named
  have hlocks := B.notSynchronized
  have hl := lv_entry ([.long x0]) (n := 2) (Nat.le_of_ble_eq_true rfl)
  rw [lg_entry_eq]
  generalize (lg_sl ([.long x0]) ++ List.replicate (2 - (lg_sl ([.long x0])).length) Slot.unset).toArray = ls at hl ⊢
  have hl : lv_has ls 2 [(0, .long x0)] := hl
  refine lv_lload_n hx hb d_X_upper_0 rfl (lv_at hl 0 rfl) ?_
  refine lv_bipush (v := (32 : Int32)) hx hb d_X_upper_1 (by decide) ?_
  refine lv_lushr hx hb d_X_upper_3 rfl ?_
  refine lv_l2i hx hb d_X_upper_4 rfl ?_
  exact W.iret hx hb hr (fun t ht hW => ⟨_, rfl, rfl, ht⟩) (fun q h => by cases h) d_X_upper_5
set_option maxHeartbeats 4000000 in
set_option maxRecDepth 100000 in
theorem c_lower (l : Launch) (x0 : Int64) : Met l y_X_lower w_X_lower ({ frames := 0, cells := 0, slots := 0, locals := 0 }) (fun v _ => v = [.long x0].toArray) (vp_Si (fun r => r = loW x0)) 0 0 (fun _ => False) := by
  refine Met.ofW (cc := b_X_lower) (maxL := 2) (ret := (some .int)) (by decide) rfl ?_
  intro p e s m args below meth c s₁ B hml hv
  obtain rfl := hv
  have hx := B.exec
  have hb := B.bytes
  have hr := B.returns
  have hts := fun (w : Cond) (h : w ∈ lw_U) => atoms_spec (ws := w_X_lower) B.pre w (List.mem_cons_of_mem _ h)
  have hown : s.vm.findClass R_X = some m.cls := findClass_of_methodNamed B.named
  have hlocks := B.notSynchronized
  have hl := lv_entry ([.long x0]) (n := 2) (Nat.le_of_ble_eq_true rfl)
  rw [lg_entry_eq]
  generalize (lg_sl ([.long x0]) ++ List.replicate (2 - (lg_sl ([.long x0])).length) Slot.unset).toArray = ls at hl ⊢
  have hl : lv_has ls 2 [(0, .long x0)] := hl
  refine lv_lload_n hx hb d_X_lower_0 rfl (lv_at hl 0 rfl) ?_
  refine lv_l2i hx hb d_X_lower_1 rfl ?_
  exact W.iret hx hb hr (fun t ht hW => ⟨_, rfl, rfl, ht⟩) (fun q h => by cases h) d_X_lower_2
set_option maxHeartbeats 4000000 in
set_option maxRecDepth 100000 in
theorem c_isSector (l : Launch) (x : Int32) : Met l y_X_isSector w_X_isSector ({ frames := 0, cells := 0, slots := 0, locals := 0 }) (fun v _ => v = [.int x].toArray) (vp_Si (fun r => r = isIn 8 x)) 0 0 (fun _ => False) := by
  refine Met.ofW (cc := b_X_isSector) (maxL := 1) (ret := (some .boolean)) (by decide) rfl ?_
  intro p e s m args below meth c s₁ B hml hv
  obtain rfl := hv
  have hx := B.exec
  have hb := B.bytes
  have hr := B.returns
  have hts := fun (w : Cond) (h : w ∈ lw_U) => atoms_spec (ws := w_X_isSector) B.pre w (List.mem_cons_of_mem _ h)
  have hown : s.vm.findClass R_X = some m.cls := findClass_of_methodNamed B.named
  have hlocks := B.notSynchronized
  have hl := lv_entry ([.int x]) (n := 1) (Nat.le_of_ble_eq_true rfl)
  rw [lg_entry_eq]
  generalize (lg_sl ([.int x]) ++ List.replicate (1 - (lg_sl ([.int x])).length) Slot.unset).toArray = ls at hl ⊢
  have hl : lv_has ls 1 [(0, .int x)] := hl
  refine lv_iload_n hx hb d_X_isSector_0 rfl (lv_at hl 0 rfl) ?_
  refine lv_if_lt (tgt := 14) hx hb d_X_isSector_1 (by decide) (fun h1 => ?_) (fun h1 => ?_)
  · refine lv_iconst (v := (0 : Int32)) hx hb d_X_isSector_14 (by decide) ?_
    exact W.zret hx hb hr rfl (fun t ht hW => ⟨_, rfl, (by simp only [isIn]; simp [*]), ht⟩) (fun q h => by cases h) d_X_isSector_15
  · refine lv_iload_n hx hb d_X_isSector_4 rfl (lv_at hl 0 rfl) ?_
    refine lv_bipush (v := (8 : Int32)) hx hb d_X_isSector_5 (by decide) ?_
    refine lv_icmp_ge (tgt := 14) hx hb d_X_isSector_7 (by decide) (fun h2 => ?_) (fun h2 => ?_)
    · refine lv_iconst (v := (0 : Int32)) hx hb d_X_isSector_14 (by decide) ?_
      exact W.zret hx hb hr rfl (fun t ht hW => ⟨_, rfl, (by simp only [isIn]; simp [*]), ht⟩) (fun q h => by cases h) d_X_isSector_15
    · refine lv_iconst (v := (1 : Int32)) hx hb d_X_isSector_10 (by decide) ?_
      refine lv_goto (tgt := 15) hx hb d_X_isSector_11 (by decide) ?_
      exact W.zret hx hb hr rfl (fun t ht hW => ⟨_, rfl, (by simp only [isIn]; simp [*]), ht⟩) (fun q h => by cases h) d_X_isSector_15
set_option maxHeartbeats 4000000 in
set_option maxRecDepth 100000 in
theorem c_isPlace (l : Launch) (x : Int32) : Met l y_X_isPlace w_X_isPlace ({ frames := 0, cells := 0, slots := 0, locals := 0 }) (fun v _ => v = [.int x].toArray) (vp_Si (fun r => r = isIn 102 x)) 0 0 (fun _ => False) := by
  refine Met.ofW (cc := b_X_isPlace) (maxL := 1) (ret := (some .boolean)) (by decide) rfl ?_
  intro p e s m args below meth c s₁ B hml hv
  obtain rfl := hv
  have hx := B.exec
  have hb := B.bytes
  have hr := B.returns
  have hts := fun (w : Cond) (h : w ∈ lw_U) => atoms_spec (ws := w_X_isPlace) B.pre w (List.mem_cons_of_mem _ h)
  have hown : s.vm.findClass R_X = some m.cls := findClass_of_methodNamed B.named
  have hlocks := B.notSynchronized
  have hl := lv_entry ([.int x]) (n := 1) (Nat.le_of_ble_eq_true rfl)
  rw [lg_entry_eq]
  generalize (lg_sl ([.int x]) ++ List.replicate (1 - (lg_sl ([.int x])).length) Slot.unset).toArray = ls at hl ⊢
  have hl : lv_has ls 1 [(0, .int x)] := hl
  refine lv_iload_n hx hb d_X_isPlace_0 rfl (lv_at hl 0 rfl) ?_
  refine lv_if_lt (tgt := 14) hx hb d_X_isPlace_1 (by decide) (fun h1 => ?_) (fun h1 => ?_)
  · refine lv_iconst (v := (0 : Int32)) hx hb d_X_isPlace_14 (by decide) ?_
    exact W.zret hx hb hr rfl (fun t ht hW => ⟨_, rfl, (by simp only [isIn]; simp [*]), ht⟩) (fun q h => by cases h) d_X_isPlace_15
  · refine lv_iload_n hx hb d_X_isPlace_4 rfl (lv_at hl 0 rfl) ?_
    refine lv_bipush (v := (102 : Int32)) hx hb d_X_isPlace_5 (by decide) ?_
    refine lv_icmp_ge (tgt := 14) hx hb d_X_isPlace_7 (by decide) (fun h2 => ?_) (fun h2 => ?_)
    · refine lv_iconst (v := (0 : Int32)) hx hb d_X_isPlace_14 (by decide) ?_
      exact W.zret hx hb hr rfl (fun t ht hW => ⟨_, rfl, (by simp only [isIn]; simp [*]), ht⟩) (fun q h => by cases h) d_X_isPlace_15
    · refine lv_iconst (v := (1 : Int32)) hx hb d_X_isPlace_10 (by decide) ?_
      refine lv_goto (tgt := 15) hx hb d_X_isPlace_11 (by decide) ?_
      exact W.zret hx hb hr rfl (fun t ht hW => ⟨_, rfl, (by simp only [isIn]; simp [*]), ht⟩) (fun q h => by cases h) d_X_isPlace_15
set_option maxHeartbeats 4000000 in
set_option maxRecDepth 100000 in
theorem c_sectorPlace (l : Launch) (h k : Nat) : Met l y_X_sectorPlace w_X_sectorPlace ({ frames := 0, cells := 0, slots := 0, locals := 0 }) (fun v _ => v = [.int (nI h), .int (nI k)].toArray) (vp_Si (fun r => r = nI (51 * h + 2 * k))) 0 0 (fun _ => False) := by
  refine Met.ofW (cc := b_X_sectorPlace) (maxL := 2) (ret := (some .int)) (by decide) rfl ?_
  intro p e s m args below meth c s₁ B hml hv
  obtain rfl := hv
  have hx := B.exec
  have hb := B.bytes
  have hr := B.returns
  have hts := fun (w : Cond) (h : w ∈ lw_U) => atoms_spec (ws := w_X_sectorPlace) B.pre w (List.mem_cons_of_mem _ h)
  have hown : s.vm.findClass R_X = some m.cls := findClass_of_methodNamed B.named
  have hlocks := B.notSynchronized
  have hl := lv_entry ([.int (nI h), .int (nI k)]) (n := 2) (Nat.le_of_ble_eq_true rfl)
  rw [lg_entry_eq]
  generalize (lg_sl ([.int (nI h), .int (nI k)]) ++ List.replicate (2 - (lg_sl ([.int (nI h), .int (nI k)])).length) Slot.unset).toArray = ls at hl ⊢
  have hl : lv_has ls 2 [(0, .int (nI h)), (1, .int (nI k))] := hl
  refine lv_bipush (v := nI 51) hx hb d_X_sectorPlace_0 (by decide) ?_
  refine lv_iload_n hx hb d_X_sectorPlace_2 rfl (lv_at hl 0 rfl) ?_
  refine lv_imul hx hb d_X_sectorPlace_3 ?_
  refine z_top (pk_mul _ _) ?_
  refine lv_iconst (v := nI 2) hx hb d_X_sectorPlace_4 (by decide) ?_
  refine lv_iload_n hx hb d_X_sectorPlace_5 rfl (lv_at hl 1 rfl) ?_
  refine lv_imul hx hb d_X_sectorPlace_6 ?_
  refine z_top (pk_mul _ _) ?_
  refine lv_iadd hx hb d_X_sectorPlace_7 ?_
  refine z_top (nI_add _ _) ?_
  exact W.iret hx hb hr (fun t ht hW => ⟨_, rfl, rfl, ht⟩) (fun q h => by cases h) d_X_sectorPlace_8
set_option maxHeartbeats 4000000 in
set_option maxRecDepth 100000 in
theorem c_nodePlace (l : Launch) (h k : Nat) : Met l y_X_nodePlace w_X_nodePlace ({ frames := 0, cells := 0, slots := 0, locals := 0 }) (fun v _ => v = [.int (nI h), .int (nI k)].toArray) (vp_Si (fun r => r = nI (51 * h + 15 + k))) 0 0 (fun _ => False) := by
  refine Met.ofW (cc := b_X_nodePlace) (maxL := 2) (ret := (some .int)) (by decide) rfl ?_
  intro p e s m args below meth c s₁ B hml hv
  obtain rfl := hv
  have hx := B.exec
  have hb := B.bytes
  have hr := B.returns
  have hts := fun (w : Cond) (h : w ∈ lw_U) => atoms_spec (ws := w_X_nodePlace) B.pre w (List.mem_cons_of_mem _ h)
  have hown : s.vm.findClass R_X = some m.cls := findClass_of_methodNamed B.named
  have hlocks := B.notSynchronized
  have hl := lv_entry ([.int (nI h), .int (nI k)]) (n := 2) (Nat.le_of_ble_eq_true rfl)
  rw [lg_entry_eq]
  generalize (lg_sl ([.int (nI h), .int (nI k)]) ++ List.replicate (2 - (lg_sl ([.int (nI h), .int (nI k)])).length) Slot.unset).toArray = ls at hl ⊢
  have hl : lv_has ls 2 [(0, .int (nI h)), (1, .int (nI k))] := hl
  refine lv_bipush (v := nI 51) hx hb d_X_nodePlace_0 (by decide) ?_
  refine lv_iload_n hx hb d_X_nodePlace_2 rfl (lv_at hl 0 rfl) ?_
  refine lv_imul hx hb d_X_nodePlace_3 ?_
  refine z_top (pk_mul _ _) ?_
  refine lv_bipush (v := nI 16) hx hb d_X_nodePlace_4 (by decide) ?_
  refine lv_iadd hx hb d_X_nodePlace_6 ?_
  refine z_top (nI_add _ _) ?_
  refine lv_iload_n hx hb d_X_nodePlace_7 rfl (lv_at hl 1 rfl) ?_
  refine lv_iadd hx hb d_X_nodePlace_8 ?_
  refine z_top (nI_add _ _) ?_
  refine lv_iconst (v := nI 1) hx hb d_X_nodePlace_9 (by decide) ?_
  refine lv_isub hx hb d_X_nodePlace_10 ?_
  refine z_top (z_np h k) ?_
  exact W.iret hx hb hr (fun t ht hW => ⟨_, rfl, rfl, ht⟩) (fun q h => by cases h) d_X_nodePlace_11
set_option maxHeartbeats 4000000 in
set_option maxRecDepth 100000 in
theorem c_recordPlace (l : Launch) (h k : Nat) : Met l y_X_recordPlace w_X_recordPlace ({ frames := 0, cells := 0, slots := 0, locals := 0 }) (fun v _ => v = [.int (nI h), .int (nI k)].toArray) (vp_Si (fun r => r = nI (51 * h + 31 + 4 * k))) 0 0 (fun _ => False) := by
  refine Met.ofW (cc := b_X_recordPlace) (maxL := 2) (ret := (some .int)) (by decide) rfl ?_
  intro p e s m args below meth c s₁ B hml hv
  obtain rfl := hv
  have hx := B.exec
  have hb := B.bytes
  have hr := B.returns
  have hts := fun (w : Cond) (h : w ∈ lw_U) => atoms_spec (ws := w_X_recordPlace) B.pre w (List.mem_cons_of_mem _ h)
  have hown : s.vm.findClass R_X = some m.cls := findClass_of_methodNamed B.named
  have hlocks := B.notSynchronized
  have hl := lv_entry ([.int (nI h), .int (nI k)]) (n := 2) (Nat.le_of_ble_eq_true rfl)
  rw [lg_entry_eq]
  generalize (lg_sl ([.int (nI h), .int (nI k)]) ++ List.replicate (2 - (lg_sl ([.int (nI h), .int (nI k)])).length) Slot.unset).toArray = ls at hl ⊢
  have hl : lv_has ls 2 [(0, .int (nI h)), (1, .int (nI k))] := hl
  refine lv_bipush (v := nI 51) hx hb d_X_recordPlace_0 (by decide) ?_
  refine lv_iload_n hx hb d_X_recordPlace_2 rfl (lv_at hl 0 rfl) ?_
  refine lv_imul hx hb d_X_recordPlace_3 ?_
  refine z_top (pk_mul _ _) ?_
  refine lv_bipush (v := nI 31) hx hb d_X_recordPlace_4 (by decide) ?_
  refine lv_iadd hx hb d_X_recordPlace_6 ?_
  refine z_top (nI_add _ _) ?_
  refine lv_iconst (v := nI 4) hx hb d_X_recordPlace_7 (by decide) ?_
  refine lv_iload_n hx hb d_X_recordPlace_8 rfl (lv_at hl 1 rfl) ?_
  refine lv_imul hx hb d_X_recordPlace_9 ?_
  refine z_top (pk_mul _ _) ?_
  refine lv_iadd hx hb d_X_recordPlace_10 ?_
  refine z_top (nI_add _ _) ?_
  exact W.iret hx hb hr (fun t ht hW => ⟨_, rfl, rfl, ht⟩) (fun q h => by cases h) d_X_recordPlace_11
set_option maxHeartbeats 4000000 in
set_option maxRecDepth 100000 in
theorem c_markOf (l : Launch) (x : Int32) : Met l y_X_markOf w_X_markOf ({ frames := 0, cells := 0, slots := 0, locals := 0 }) (fun v _ => v = [.int x].toArray) (vp_Si (fun r => r = x ||| 1)) 0 0 (fun _ => False) := by
  refine Met.ofW (cc := b_X_markOf) (maxL := 1) (ret := (some .int)) (by decide) rfl ?_
  intro p e s m args below meth c s₁ B hml hv
  obtain rfl := hv
  have hx := B.exec
  have hb := B.bytes
  have hr := B.returns
  have hts := fun (w : Cond) (h : w ∈ lw_U) => atoms_spec (ws := w_X_markOf) B.pre w (List.mem_cons_of_mem _ h)
  have hown : s.vm.findClass R_X = some m.cls := findClass_of_methodNamed B.named
  have hlocks := B.notSynchronized
  have hl := lv_entry ([.int x]) (n := 1) (Nat.le_of_ble_eq_true rfl)
  rw [lg_entry_eq]
  generalize (lg_sl ([.int x]) ++ List.replicate (1 - (lg_sl ([.int x])).length) Slot.unset).toArray = ls at hl ⊢
  have hl : lv_has ls 1 [(0, .int x)] := hl
  refine lv_iload_n hx hb d_X_markOf_0 rfl (lv_at hl 0 rfl) ?_
  refine lv_iconst (v := (1 : Int32)) hx hb d_X_markOf_1 (by decide) ?_
  refine lv_ior hx hb d_X_markOf_2 ?_
  exact W.iret hx hb hr (fun t ht hW => ⟨_, rfl, rfl, ht⟩) (fun q h => by cases h) d_X_markOf_3
