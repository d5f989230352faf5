set_option maxHeartbeats 4000000 in
set_option maxRecDepth 100000 in
theorem mc_digest (l : Launch) (a b : Int32) : Met l y_M_digest w_M_digest ({ frames := 0, cells := 0, slots := 0, locals := 0 }) (fun v _ => v = [.int a, .int b].toArray) (vp_Si (fun r => r = dg a b)) 0 0 (fun _ => False) := by
  refine Met.ofW (cc := b_M_digest) (maxL := 4) (ret := (some .int)) (by decide) rfl ?_
  intro p e s m args below meth c s₁ B hml hv
  obtain rfl := hv
  have hx := B.exec
  have hb := B.bytes
  have hr := B.returns
  have hts := fun (w : Cond) (h : w ∈ lw_U) => atoms_spec (ws := w_M_digest) B.pre w (List.mem_cons_of_mem _ h)
  have hown : s.vm.findClass R_M = some m.cls := findClass_of_methodNamed B.named
  have hlocks := B.notSynchronized
  have hl := lv_entry ([.int a, .int b]) (n := 4) (Nat.le_of_ble_eq_true rfl)
  rw [lg_entry_eq]
  generalize (lg_sl ([.int a, .int b]) ++ List.replicate (4 - (lg_sl ([.int a, .int b])).length) Slot.unset).toArray = ls at hl ⊢
  have hl : lv_has ls 4 [(0, .int a), (1, .int b)] := hl
  refine lv_iload_n hx hb d_M_digest_0 rfl (lv_at hl 1 rfl) ?_
  refine lv_bipush (v := (9 : Int32)) hx hb d_M_digest_1 (by decide) ?_
  refine lv_ishl hx hb d_M_digest_3 ?_
  refine lv_iload_n hx hb d_M_digest_4 rfl (lv_at hl 1 rfl) ?_
  refine lv_bipush (v := (23 : Int32)) hx hb d_M_digest_5 (by decide) ?_
  refine lv_iushr hx hb d_M_digest_7 rfl ?_
  refine lv_ior hx hb d_M_digest_8 ?_
  refine lv_istore_n hx hb d_M_digest_9 rfl hl (by decide) rfl (fun ls hl => ?_)
  have hl : lv_has ls 4 [(2, .int ((b <<< ((9 : Int32) &&& 31)) ||| ((b.toUInt32 >>> ((23 : Int32).toUInt32 &&& Int32.toUInt32 31)).toInt32))), (0, .int a), (1, .int b)] := hl
  refine lv_iload_n hx hb d_M_digest_10 rfl (lv_at hl 1 rfl) ?_
  refine lv_ldc (v := 668265263) hx hb hown (hts _ m_260) d_M_digest_11 ?_
  refine lv_iadd hx hb d_M_digest_13 ?_
  refine lv_iload_n hx hb d_M_digest_14 rfl (lv_at hl 0 rfl) ?_
  refine lv_ixor hx hb d_M_digest_15 ?_
  refine lv_ldc (v := -1640531527) hx hb hown (hts _ m_261) d_M_digest_16 ?_
  refine lv_imul hx hb d_M_digest_18 ?_
  refine lv_istore_n hx hb d_M_digest_19 rfl hl (by decide) rfl (fun ls hl => ?_)
  have hl : lv_has ls 4 [(3, .int (((a + (668265263 : Int32)) ^^^ ((b <<< ((9 : Int32) &&& 31)) ||| ((b.toUInt32 >>> ((23 : Int32).toUInt32 &&& Int32.toUInt32 31)).toInt32))) * (-1640531527 : Int32))), (2, .int ((b <<< ((9 : Int32) &&& 31)) ||| ((b.toUInt32 >>> ((23 : Int32).toUInt32 &&& Int32.toUInt32 31)).toInt32))), (0, .int a), (1, .int b)] := hl
  refine lv_iload_n hx hb d_M_digest_20 rfl (lv_at hl 0 rfl) ?_
  refine lv_iload_n hx hb d_M_digest_21 rfl (lv_at hl 0 rfl) ?_
  refine lv_bipush (v := (15 : Int32)) hx hb d_M_digest_22 (by decide) ?_
  refine lv_iushr hx hb d_M_digest_24 rfl ?_
  refine lv_ixor hx hb d_M_digest_25 ?_
  exact W.iret hx hb hr (fun t ht hW => ⟨_, rfl, (by rw [dg_eq]; rfl), ht⟩) (fun q h => by cases h) d_M_digest_26
set_option maxHeartbeats 4000000 in
set_option maxRecDepth 100000 in
theorem mc_key (l : Launch) (g0 p0 : Int32) : Met l y_M_key w_M_key ({ frames := 1, cells := 0, slots := 0, locals := 23 }) (fun v _ => v = [.int g0, .int p0].toArray) (vp_Si (fun r => r = dg (dg 19088743 g0) p0)) 0 0 (fun _ => False) := by
  refine Met.ofW (cc := b_M_key) (maxL := 2) (ret := (some .int)) (by decide) rfl ?_
  intro p e s m args below meth c s₁ B hml hv
  obtain rfl := hv
  have hx := B.exec
  have hb := B.bytes
  have hr := B.returns
  have hts := fun (w : Cond) (h : w ∈ lw_U) => atoms_spec (ws := w_M_key) B.pre w (List.mem_cons_of_mem _ h)
  have hown : s.vm.findClass R_M = some m.cls := findClass_of_methodNamed B.named
  have hlocks := B.notSynchronized
  have hl := lv_entry ([.int g0, .int p0]) (n := 2) (Nat.le_of_ble_eq_true rfl)
  rw [lg_entry_eq]
  generalize (lg_sl ([.int g0, .int p0]) ++ List.replicate (2 - (lg_sl ([.int g0, .int p0])).length) Slot.unset).toArray = ls at hl ⊢
  have hl : lv_has ls 2 [(0, .int g0), (1, .int p0)] := hl
  refine lv_ldc (v := 19088743) hx hb hown (hts _ m_256) d_M_key_0 ?_
  refine lv_iload_n hx hb d_M_key_2 rfl (lv_at hl 0 rfl) ?_
  refine vp_callSi (W.runS (As := [.int (19088743 : Int32), .int g0]) (rest := []) ⟨hx, hb, hml, hown, hts⟩ (mc_digest l (19088743 : Int32) g0) (cwS 2 hts g_M_47 rfl rfl rfl (by decide +kernel) ⟨(Nat.le_of_ble_eq_true rfl), (Nat.le_of_ble_eq_true rfl)⟩) preEq rfl rfl hl.1 rfl (lv_room (Nat.le_of_ble_eq_true rfl)) d_M_key_3 ⟨(Nat.le_of_ble_eq_true rfl), (Nat.le_of_ble_eq_true rfl)⟩) (fun r hr0 => ?_)
  subst hr0
  refine lv_iload_n hx hb d_M_key_6 rfl (lv_at hl 1 rfl) ?_
  refine vp_callSi (W.runS (As := [.int (dg (19088743 : Int32) g0), .int p0]) (rest := []) ⟨hx, hb, hml, hown, hts⟩ (mc_digest l (dg (19088743 : Int32) g0) p0) (cwS 2 hts g_M_47 rfl rfl rfl (by decide +kernel) ⟨(Nat.le_of_ble_eq_true rfl), (Nat.le_of_ble_eq_true rfl)⟩) preEq rfl rfl hl.1 rfl (lv_room (Nat.le_of_ble_eq_true rfl)) d_M_key_7 ⟨(Nat.le_of_ble_eq_true rfl), (Nat.le_of_ble_eq_true rfl)⟩) (fun r hr0 => ?_)
  subst hr0
  exact W.iret hx hb hr (fun t ht hW => ⟨_, rfl, rfl, ht⟩) (fun q h => by cases h) d_M_key_10
set_option maxHeartbeats 4000000 in
set_option maxRecDepth 100000 in
theorem mc_joined (l : Launch) (a b : Int32) : Met l y_M_joined w_M_joined ({ frames := 0, cells := 0, slots := 0, locals := 0 }) (fun v _ => v = [.int a, .int b].toArray) (vp_Sl (fun r => r = joinW a b)) 0 0 (fun _ => False) := by
  refine Met.ofW (cc := b_M_joined) (maxL := 2) (ret := (some .long)) (by decide) rfl ?_
  intro p e s m args below meth c s₁ B hml hv
  obtain rfl := hv
  have hx := B.exec
  have hb := B.bytes
  have hr := B.returns
  have hts := fun (w : Cond) (h : w ∈ lw_U) => atoms_spec (ws := w_M_joined) B.pre w (List.mem_cons_of_mem _ h)
  have hown : s.vm.findClass R_M = some m.cls := findClass_of_methodNamed B.named
  have hlocks := B.notSynchronized
  have hl := lv_entry ([.int a, .int b]) (n := 2) (Nat.le_of_ble_eq_true rfl)
  rw [lg_entry_eq]
  generalize (lg_sl ([.int a, .int b]) ++ List.replicate (2 - (lg_sl ([.int a, .int b])).length) Slot.unset).toArray = ls at hl ⊢
  have hl : lv_has ls 2 [(0, .int a), (1, .int b)] := hl
  refine lv_iload_n hx hb d_M_joined_0 rfl (lv_at hl 0 rfl) ?_
  refine lv_i2l hx hb d_M_joined_1 rfl ?_
  refine lv_bipush (v := (32 : Int32)) hx hb d_M_joined_2 (by decide) ?_
  refine lv_lshl hx hb d_M_joined_4 rfl ?_
  refine lv_iload_n hx hb d_M_joined_5 rfl (lv_at hl 1 rfl) ?_
  refine lv_i2l hx hb d_M_joined_6 rfl ?_
  refine lv_ldc2 (v := 4294967295) hx hb hown (hts _ m_351) d_M_joined_7 ?_
  refine lv_land hx hb d_M_joined_10 ?_
  refine lv_lor hx hb d_M_joined_11 ?_
  exact W.lret hx hb hr (fun t ht hW => ⟨_, rfl, rfl, ht⟩) (fun q h => by cases h) d_M_joined_12
set_option maxHeartbeats 4000000 in
set_option maxRecDepth 100000 in
theorem mc_place (l : Launch) (x : Int32) : Met l y_M_place w_M_place ({ frames := 0, cells := 0, slots := 0, locals := 0 }) (fun v _ => v = [.int x].toArray) (vp_Si (fun r => r = isIn 102 x)) 0 0 (fun _ => False) := by
  refine Met.ofW (cc := b_M_place) (maxL := 1) (ret := (some .boolean)) (by decide) rfl ?_
  intro p e s m args below meth c s₁ B hml hv
  obtain rfl := hv
  have hx := B.exec
  have hb := B.bytes
  have hr := B.returns
  have hts := fun (w : Cond) (h : w ∈ lw_U) => atoms_spec (ws := w_M_place) B.pre w (List.mem_cons_of_mem _ h)
  have hown : s.vm.findClass R_M = some m.cls := findClass_of_methodNamed B.named
  have hlocks := B.notSynchronized
  have hl := lv_entry ([.int x]) (n := 1) (Nat.le_of_ble_eq_true rfl)
  rw [lg_entry_eq]
  generalize (lg_sl ([.int x]) ++ List.replicate (1 - (lg_sl ([.int x])).length) Slot.unset).toArray = ls at hl ⊢
  have hl : lv_has ls 1 [(0, .int x)] := hl
  refine lv_iload_n hx hb d_M_place_0 rfl (lv_at hl 0 rfl) ?_
  refine lv_if_lt (tgt := 14) hx hb d_M_place_1 (by decide) (fun h1 => ?_) (fun h1 => ?_)
  · refine lv_iconst (v := (0 : Int32)) hx hb d_M_place_14 (by decide) ?_
    exact W.zret hx hb hr rfl (fun t ht hW => ⟨_, rfl, (by simp only [isIn]; simp [*]), ht⟩) (fun q h => by cases h) d_M_place_15
  · refine lv_iload_n hx hb d_M_place_4 rfl (lv_at hl 0 rfl) ?_
    refine lv_bipush (v := (101 : Int32)) hx hb d_M_place_5 (by decide) ?_
    refine lv_icmp_gt (tgt := 14) hx hb d_M_place_7 (by decide) (fun h2 => ?_) (fun h2 => ?_)
    · have h2 : (102 : Int32) ≤ x := (z_gt (n := 101) (by decide)).mp h2
      refine lv_iconst (v := (0 : Int32)) hx hb d_M_place_14 (by decide) ?_
      exact W.zret hx hb hr rfl (fun t ht hW => ⟨_, rfl, (by simp only [isIn]; simp [*]), ht⟩) (fun q h => by cases h) d_M_place_15
    · have h2 : ¬ (102 : Int32) ≤ x := fun q => h2 ((z_gt (n := 101) (by decide)).mpr q)
      refine lv_iconst (v := (1 : Int32)) hx hb d_M_place_10 (by decide) ?_
      refine lv_goto (tgt := 15) hx hb d_M_place_11 (by decide) ?_
      exact W.zret hx hb hr rfl (fun t ht hW => ⟨_, rfl, (by simp only [isIn]; simp [*]), ht⟩) (fun q h => by cases h) d_M_place_15
