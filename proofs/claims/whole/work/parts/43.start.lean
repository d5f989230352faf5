set_option maxHeartbeats 1000000 in
set_option maxRecDepth 100000 in
theorem whole_start {p : Program} {e : Env} {s : State} {m : MethodId} {below : List Frame} {meth : Method} {c : Code} (l : Launch) {b L : Nat} {xs : Nat → Int32} (hL : L ≤ 2048) (C0 : lw_At p s m meth c b L xs) : W p l e room_1 s m #[Value.ref b] below meth c s.heap [] 0 0 (lw_Z below #[Value.ref b] s) (entryFrame m ([Value.ref b] : List Value).toArray 4) := by
  have C1 := C0
  obtain ⟨hx, hb, hr, hml, hown, hts0, hX, hbl, hlocks, hgv⟩ := C0
  have hts := fun (w : Cond) (h : w ∈ lw_U) => hts0 w (List.mem_filter.mp h).1
  obtain ⟨cx, ix, hkx⟩ := u_known (C := R_X) (T := F_X) (N := 12) hts lay_X (hts _ m_36)
  obtain ⟨cm, im, hkm⟩ := u_known (C := R_M) (T := F_M) (N := 15) hts lay_M (hts _ m_248)
  obtain ⟨dC, hdC⟩ : ∃ d : Nat → ClassId, d 0 = cx ∧ d 1 = cm := ⟨fun k => if k = 0 then cx else cm, rfl, rfl⟩
  obtain ⟨dI, hdI⟩ : ∃ d : Nat → Nat → Nat, d 0 = ix ∧ d 1 = im := ⟨fun k => if k = 0 then ix else im, rfl, rfl⟩
  have hK : va_K (dC, dI) classes [] s := by
    refine ⟨fun k q hq => ?_, fun k q hk => by simp at hk⟩
    rcases k with _ | _ | k
    · cases hq; show u_Kn s R_X F_X 12 (dC 0) (dI 0); rw [hdC.1, hdI.1]; exact hkx
    · cases hq; show u_Kn s R_M F_M 15 (dC 1) (dI 1); rw [hdC.2, hdI.2]; exact hkm
    · cases hq
  have hA : ∀ q : Nat, s.heap.size ≤ q → (fun q => s.heap.size ≤ q) q := fun q h => h
  have hS : va_S (fun q => s.heap.size ≤ q) s.heap s.heap [] := va_S.rf
  have hP : va_P (dC, dI) classes [] s.heap := fun k q h => by simp at h
  have hD : va_D (fun q => s.heap.size ≤ q) [] := ⟨fun i j p q h => by simp at h, fun k q h => by simp at h⟩
  have hl := lv_entry ([.ref b]) (n := 4) (Nat.le_of_ble_eq_true rfl)
  rw [lg_entry_eq]
  generalize (lg_sl ([.ref b]) ++ List.replicate (4 - (lg_sl ([.ref b])).length) Slot.unset).toArray = ls at hl ⊢
  have hl : lv_has ls 4 [(0, .ref b)] := hl
  refine va_new (ci := 0) (fs := [.null, .int 0, .int 0, .int 0, .int 0, .int 0, .int 0, .int 0, .int 0, .null, .null, .int 0]) (C := R_X) (T := F_X) (N := 12) hx hb hts lay_X t_X t_X_ok hown (hts _ m_35) (hts _ m_36) (hts _ m_33) hK hP hD hS hA rfl (fun j hj => by rcases (show j = 0 ∨ j = 1 ∨ j = 2 ∨ j = 3 ∨ j = 4 ∨ j = 5 ∨ j = 6 ∨ j = 7 ∨ j = 8 ∨ j = 9 ∨ j = 10 ∨ j = 11 by omega) with rfl | rfl | rfl | rfl | rfl | rfl | rfl | rfl | rfl | rfl | rfl | rfl <;> rfl) (Nat.le_of_ble_eq_true rfl) (Nat.le_of_ble_eq_true rfl) d_law_0 (fun h0 H hP hD hS => ?_)
  have hP : va_P (dC, dI) classes ([(h0, .inr (0, [.null, .int 0, .int 0, .int 0, .int 0, .int 0, .int 0, .int 0, .int 0, .null, .null, .int 0]))]) H := hP
  have hD : va_D (fun q => s.heap.size ≤ q) ([(h0, .inr (0, [.null, .int 0, .int 0, .int 0, .int 0, .int 0, .int 0, .int 0, .int 0, .null, .null, .int 0]))]) := hD
  refine W.widen (k := 1) (n := 12) (by omega) (by omega) ?_
  refine lv_dup hx hb d_law_3 rfl ?_
  have hPc := hP.sub (ws' := [(h0, .inr (0, [.null, .int 0, .int 0, .int 0, .int 0, .int 0, .int 0, .int 0, .int 0, .null, .null, .int 0]))]) [0] rfl
  have hDc := hD.sub (ws' := [(h0, .inr (0, [.null, .int 0, .int 0, .int 0, .int 0, .int 0, .int 0, .int 0, .int 0, .null, .null, .int 0]))]) [0] (by decide) rfl
  have hKc := hK.sub (tys' := []) [] rfl
  have hFc := va_free (wc := [(h0, .inr (0, [.null, .int 0, .int 0, .int 0, .int 0, .int 0, .int 0, .int 0, .int 0, .null, .null, .int 0]))]) hD hS hA [0] rfl
  refine va_callv (va_runI (As := []) (rest := [.ref h0]) ⟨hx, hb, hml, hown, hts⟩ (c_init l dC dI h0 H.size) (cwI 0 hts g_law_9 rfl rfl rfl (hts _ m_33) (hts _ m_37) (hts _ m_38) rfl (by decide +kernel) ⟨(Nat.le_of_ble_eq_true rfl), (Nat.le_of_ble_eq_true rfl)⟩) (z_preS (As := [.ref h0]) hPc hKc hDc) rfl rfl hl.1 rfl (lv_room (Nat.le_of_ble_eq_true rfl)) d_law_4 ⟨(Nat.le_of_ble_eq_true rfl), (Nat.le_of_ble_eq_true rfl)⟩) hS (fun q _ h => hFc q h) hFc (fun u t H1 locs ht hvm h5 hB hz1 hk1 hS => ?_)
  obtain ⟨qd, qs, qv, cI, cJ⟩ := u
  obtain ⟨hP1, hK1, hD1⟩ := hB
  rw [ht] at hP1
  have hK1 := va_K.moved hvm.symm hK1
  have hK1 : va_K (dC, dI) classes [(cI, .int), (cJ, .long)] s := hK1
  obtain ⟨hP, hD⟩ := va_join (wr := []) (w1 := Xw h0 qd qs qv cI cJ iniX) hP hD [0] [] rfl rfl (by decide) (by decide) hk1 hFc hP1 hD1
  have hK := (hK.sub (tys' := []) [] rfl).app hK1
  generalize H1 = H at hP hS ⊢
  have hP : va_P (dC, dI) classes (Xw h0 qd qs qv cI cJ iniX) H := hP
  have hD : va_D (fun q => s.heap.size ≤ q) (Xw h0 qd qs qv cI cJ iniX) := hD
  have hK : va_K (dC, dI) classes [(cI, .int), (cJ, .long)] s := hK
  refine W.widen (k := 4) (n := 124) (by omega) (by omega) ?_
  refine lv_astore_n hx hb d_law_7 rfl hl (by decide) rfl (fun ls hl => ?_)
  have hl : lv_has ls 4 [(1, .ref h0), (0, .ref b)] := hl
  refine va_new (ci := 1) (fs := [.null, .int 0, .int 0, .int 0, .int 0, .int 0, .int 0, .int 0, .int 0, .int 0, .int 0, .null, .null, .null, .null]) (C := R_M) (T := F_M) (N := 15) hx hb hts lay_M t_M t_M_ok hown (hts _ m_247) (hts _ m_248) (hts _ m_34) hK hP hD hS hA rfl (fun j hj => by rcases (show j = 0 ∨ j = 1 ∨ j = 2 ∨ j = 3 ∨ j = 4 ∨ j = 5 ∨ j = 6 ∨ j = 7 ∨ j = 8 ∨ j = 9 ∨ j = 10 ∨ j = 11 ∨ j = 12 ∨ j = 13 ∨ j = 14 by omega) with rfl | rfl | rfl | rfl | rfl | rfl | rfl | rfl | rfl | rfl | rfl | rfl | rfl | rfl | rfl <;> rfl) (Nat.le_of_ble_eq_true rfl) (Nat.le_of_ble_eq_true rfl) d_law_8 (fun h1 H hP hD hS => ?_)
  have hP : va_P (dC, dI) classes (Xw h0 qd qs qv cI cJ iniX ++ [(h1, .inr (1, [.null, .int 0, .int 0, .int 0, .int 0, .int 0, .int 0, .int 0, .int 0, .int 0, .int 0, .null, .null, .null, .null]))]) H := hP
  have hD : va_D (fun q => s.heap.size ≤ q) (Xw h0 qd qs qv cI cJ iniX ++ [(h1, .inr (1, [.null, .int 0, .int 0, .int 0, .int 0, .int 0, .int 0, .int 0, .int 0, .int 0, .int 0, .null, .null, .null, .null]))]) := hD
  refine W.widen (k := 5) (n := 139) (by omega) (by omega) ?_
  refine lv_dup hx hb d_law_11 rfl ?_
  have hPc := hP.sub (ws' := [(h1, .inr (1, [.null, .int 0, .int 0, .int 0, .int 0, .int 0, .int 0, .int 0, .int 0, .int 0, .int 0, .null, .null, .null, .null]))]) [4] rfl
  have hDc := hD.sub (ws' := [(h1, .inr (1, [.null, .int 0, .int 0, .int 0, .int 0, .int 0, .int 0, .int 0, .int 0, .int 0, .int 0, .null, .null, .null, .null]))]) [4] (by decide) rfl
  have hKc := hK.sub (tys' := []) [] rfl
  have hFc := va_free (wc := [(h1, .inr (1, [.null, .int 0, .int 0, .int 0, .int 0, .int 0, .int 0, .int 0, .int 0, .int 0, .int 0, .null, .null, .null, .null]))]) hD hS hA [4] rfl
  refine va_callv (va_runI (As := []) (rest := [.ref h1]) ⟨hx, hb, hml, hown, hts⟩ (mc_init l dC dI h1 H.size) (cwI 0 hts g_law_12 rfl rfl rfl (hts _ m_34) (hts _ m_249) (hts _ m_250) rfl (by decide +kernel) ⟨(Nat.le_of_ble_eq_true rfl), (Nat.le_of_ble_eq_true rfl)⟩) (z_preS (As := [.ref h1]) hPc hKc hDc) rfl rfl hl.1 rfl (lv_room (Nat.le_of_ble_eq_true rfl)) d_law_12 ⟨(Nat.le_of_ble_eq_true rfl), (Nat.le_of_ble_eq_true rfl)⟩) hS (fun q _ h => hFc q h) hFc (fun u t H1 locs ht hvm h5 hB hz1 hk1 hS => ?_)
  obtain ⟨md, ms, mv, mh, mn, cI2, cJ2, hs⟩ := u
  obtain ⟨hP1, hK1, hD1⟩ := hB
  rw [ht] at hP1
  have hK1 := va_K.moved hvm.symm hK1
  have hK1 : va_K (dC, dI) classes [(cI2, .int), (cJ2, .long)] s := hK1
  obtain ⟨hP, hD⟩ := va_join (wr := Xw h0 qd qs qv cI cJ iniX) (w1 := Mw h1 md ms mv mh mn cI2 cJ2 (iniM hs)) hP hD [4] [0, 1, 2, 3] rfl rfl (by decide) (by decide) hk1 hFc hP1 hD1
  have hK := (hK.sub (tys' := [(cI, .int), (cJ, .long)]) [0, 1] rfl).app hK1
  generalize H1 = H at hP hS ⊢
  have hP : va_P (dC, dI) classes (Xw h0 qd qs qv cI cJ iniX ++ Mw h1 md ms mv mh mn cI2 cJ2 (iniM hs)) H := hP
  have hD : va_D (fun q => s.heap.size ≤ q) (Xw h0 qd qs qv cI cJ iniX ++ Mw h1 md ms mv mh mn cI2 cJ2 (iniM hs)) := hD
  have hK : va_K (dC, dI) classes [(cI, .int), (cJ, .long), (cI2, .int), (cJ2, .long)] s := hK
  refine W.widen (k := 10) (n := 275) (by omega) (by omega) ?_
  refine lv_astore_n hx hb d_law_15 rfl hl (by decide) rfl (fun ls hl => ?_)
  have hl : lv_has ls 4 [(2, .ref h1), (1, .ref h0), (0, .ref b)] := hl
  refine lv_iconst (v := nI 0) hx hb d_law_16 (by decide) ?_
  refine lv_istore_n hx hb d_law_17 rfl hl (by decide) rfl (fun ls hl => ?_)
  exact lw_loop C1 hL hK 513 0 1 _ _ ls _ _ (by omega) (by omega) (by omega) (rl_init hs) (lv_sub hl [3, 2, 1, 0] rfl) hP hD hS
