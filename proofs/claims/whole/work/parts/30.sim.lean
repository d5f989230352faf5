/-! Call by call: the answers are the same, and the states stay side by side. n: the generation is at most n. -/
def RelP (hf : Nat) (gn : Int32) (pw : Bool) (ln : Nat) (lq : Nat → Int32) (vq : Nat → Int64) (ch lk : Int32) (lq2 : Nat → Int32) (vq2 : Nat → Int64) (n : Nat) : Prop :=
  hf < 2 ∧ ln ≤ 5 ∧ (∃ g, g ≤ n ∧ gn = nI g) ∧ (pw = true → lk = ch) ∧ (∀ i, i < ln → lq2 i = lq i ∧ vq2 i = vq i ∧ ¬ lg_cmp (vq i) 0 < 0)
def Rl (u1 : XS) (u2 : MS) (n : Nat) : Prop :=
  ∃ (dk : Nat → Int32) (hf : Nat) (gn rt ct sl sm : Int32) (pw : Bool) (ln : Nat) (lq : Nat → Int32) (vq : Nat → Int64) (ch : Int32) (cu : Bool) (lk : Int32) (lq2 : Nat → Int32) (vq2 hs : Nat → Int64) (nd : Nat → Int32),
    u1 = (dk, hf, gn, rt, ct, sl, sm, pw, ln, lq, vq, ch) ∧ u2 = (dk, hf, gn, rt, ct, pw, sl, sm, cu, ln, lk, lq2, vq2, hs, nd) ∧ RelP hf gn pw ln lq vq ch lk lq2 vq2 n
section ZS
variable {dk : Nat → Int32} {hf : Nat} {gn rt ct sl sm : Int32} {pw : Bool} {ln : Nat} {lq : Nat → Int32} {vq : Nat → Int64} {ch : Int32} {cu : Bool} {lk : Int32} {lq2 : Nat → Int32} {vq2 hs : Nat → Int64} {nd : Nat → Int32} {n : Nat} {r r0 r1 r2 : Int32} {u1 : XS} {u2 : MS}
theorem Rl_mk (h : RelP hf gn pw ln lq vq ch lk lq2 vq2 n) : Rl (dk, hf, gn, rt, ct, sl, sm, pw, ln, lq, vq, ch) (dk, hf, gn, rt, ct, pw, sl, sm, cu, ln, lk, lq2, vq2, hs, nd) n :=
  ⟨_, _, _, _, _, _, _, _, _, _, _, _, _, _, _, _, _, _, rfl, rfl, h⟩
theorem RelP_up (h : RelP hf gn pw ln lq vq ch lk lq2 vq2 n) : RelP hf gn pw ln lq vq ch lk lq2 vq2 (n + 1) := by
  obtain ⟨a, b, ⟨g, hg, e⟩, c, d⟩ := h
  exact ⟨a, b, ⟨g, by omega, e⟩, c, d⟩
theorem RelP_off {lq' lq2' : Nat → Int32} {vq' vq2' : Nat → Int64} {ch' lk' : Int32} (h : RelP hf gn pw ln lq vq ch lk lq2 vq2 n) : RelP hf gn false 0 lq' vq' ch' lk' lq2' vq2' (n + 1) := by
  obtain ⟨a, b, ⟨g, hg, e⟩, c, d⟩ := h
  exact ⟨a, by omega, ⟨g, by omega, e⟩, fun q => absurd q (by decide), fun i hi => absurd hi (by omega)⟩
theorem rl_mount (h : RelP hf gn pw ln lq vq ch lk lq2 vq2 n)
    (hx : ∃ (n1 : Nat) (lq1 : Nat → Int32) (vq1 : Nat → Int64) (ch1 : Int32), tj dk hf gn 5 0 lq vq (dg (dg 19088743 rt) gn) = (n1, lq1, vq1, ch1) ∧ n1 ≤ 5 ∧ ((ct ≤ nI n1 ∧ r1 = nI n1 ∧ u1 = (dk, hf, gn, rt, ct, sl, sm, true, n1, lq1, vq1, ch1)) ∨ (¬ ct ≤ nI n1 ∧ r1 = -3 ∧ u1 = (dk, hf, gn, rt, ct, sl, sm, false, 0, lq1, vq1, 0))))
    (hm : ∃ (n1 : Nat), gct dk hf gn (dg (dg 19088743 rt) gn) 5 0 = n1 ∧ n1 ≤ 5 ∧ ((ct ≤ nI n1 ∧ r2 = nI n1 ∧ ∃ (lq1 : Nat → Int32) (vq1 : Nat → Int64), (∀ i, i < n1 → lq1 i = enc (dk (51 * hf + 31 + 4 * i)) (nI (51 * hf + 31 + 4 * i)) gn ∧ vq1 i = vat dk gn (51 * hf + 31 + 4 * i + 1)) ∧ u2 = (dk, hf, gn, rt, ct, true, sl, sm, cu, n1, chM dk hf n1 0 (dg (dg 19088743 rt) gn), lq1, vq1, hs, nd)) ∨ (¬ ct ≤ nI n1 ∧ r2 = -3 ∧ u2 = (dk, hf, gn, rt, ct, false, sl, sm, cu, 0, lk, lq2, vq2, hs, nd)))) :
    r1 = r2 ∧ Rl u1 u2 (n + 1) := by
  obtain ⟨n1, lq1, vq1, ch1, e1, b1, c1⟩ := hx
  obtain ⟨m1, e2, b2, c2⟩ := hm
  obtain ⟨a1, a2, _, a4⟩ := tj_g dk hf gn (dg (dg 19088743 rt) gn) n1 lq1 vq1 ch1 5 0 lq vq e1
  have em : m1 = n1 := e2.symm.trans a1
  subst em
  rcases c1 with ⟨p1, rfl, rfl⟩ | ⟨p1, rfl, rfl⟩
  · rcases c2 with ⟨p2, rfl, lq3, vq3, p3, rfl⟩ | ⟨p2, rfl, rfl⟩
    · obtain ⟨x1, x2, ⟨g, hg, e⟩, x3, x4⟩ := h
      refine ⟨rfl, Rl_mk ⟨x1, b1, ⟨g, by omega, e⟩, fun _ => a2.symm, fun i hi => ?_⟩⟩
      have q := a4 i (by omega) hi
      exact ⟨(p3 i hi).1.trans q.1.symm, (p3 i hi).2.trans q.2.1.symm, by rw [q.2.1]; exact q.2.2⟩
    · exact absurd p1 p2
  · rcases c2 with ⟨p2, rfl, lq3, vq3, p3, rfl⟩ | ⟨p2, rfl, rfl⟩
    · exact absurd p2 p1
    · exact ⟨rfl, Rl_mk (RelP_off h)⟩
theorem rl_arm {x0 : Int32} (h : RelP hf gn pw ln lq vq ch lk lq2 vq2 n)
    (hx : (0 ≤ x0 ∧ r1 = 1 ∧ u1 = (dk, hf, gn, rt, ct, x0, sm, pw, ln, lq, vq, ch)) ∨ (¬ 0 ≤ x0 ∧ r1 = 0 ∧ u1 = (dk, hf, gn, rt, ct, sl, sm, pw, ln, lq, vq, ch)))
    (hm : (0 ≤ x0 ∧ r2 = 1 ∧ u2 = (dk, hf, gn, rt, ct, pw, x0, sm, cu, ln, lk, lq2, vq2, hs, nd)) ∨ (¬ 0 ≤ x0 ∧ r2 = 0 ∧ u2 = (dk, hf, gn, rt, ct, pw, sl, sm, cu, ln, lk, lq2, vq2, hs, nd))) :
    r1 = r2 ∧ Rl u1 u2 (n + 1) := by
  rcases hx with ⟨p1, rfl, rfl⟩ | ⟨p1, rfl, rfl⟩
  · rcases hm with ⟨p2, rfl, rfl⟩ | ⟨p2, rfl, rfl⟩
    · exact ⟨rfl, Rl_mk (RelP_up h)⟩
    · exact absurd p1 p2
  · rcases hm with ⟨p2, rfl, rfl⟩ | ⟨p2, rfl, rfl⟩
    · exact absurd p2 p1
    · exact ⟨rfl, Rl_mk (RelP_up h)⟩
theorem rl_sync (h : RelP hf gn pw ln lq vq ch lk lq2 vq2 n)
    (hx : (pw = false ∧ r1 = -1 ∧ u1 = (dk, hf, gn, rt, ct, sl, sm, pw, ln, lq, vq, ch)) ∨ (pw = true ∧ sl = 0 ∧ r1 = -4 ∧ u1 = (dk, hf, gn, rt, ct, -1, sm, false, 0, lq, vq, 0)) ∨ (pw = true ∧ ¬ sl = 0 ∧ r1 = nI ln ∧ u1 = (dk, hf, gn, rt, nI ln, dec1 sl, sm + 1, pw, ln, lq, vq, ch)))
    (hm : (pw = false ∧ r2 = -1 ∧ u2 = (dk, hf, gn, rt, ct, pw, sl, sm, cu, ln, lk, lq2, vq2, hs, nd)) ∨ (pw = true ∧ ∃ (d1 : Nat → Int32) (sl1 sm1 : Int32), (st1 (true, (dk, sl, sm)) = (true, (d1, sl1, sm1)) ∧ r2 = nI ln ∧ u2 = (d1, hf, gn, rt, nI ln, true, sl1, sm1, false, ln, lk, lq2, vq2, hs, nd)) ∨ (st1 (true, (dk, sl, sm)) = (false, (d1, sl1, sm1)) ∧ r2 = -4 ∧ u2 = (d1, hf, gn, rt, ct, false, sl1, sm1, true, 0, lk, lq2, vq2, hs, nd)))) :
    r1 = r2 ∧ Rl u1 u2 (n + 1) := by
  rcases hx with ⟨p1, rfl, rfl⟩ | ⟨p1, p2, rfl, rfl⟩ | ⟨p1, p2, rfl, rfl⟩
  · subst p1
    rcases hm with ⟨_, rfl, rfl⟩ | ⟨q1, _⟩
    · exact ⟨rfl, Rl_mk (RelP_up h)⟩
    · exact absurd q1 (by decide)
  · subst p1
    rcases hm with ⟨q1, _⟩ | ⟨_, d1, sl1, sm1, ⟨e, rfl, rfl⟩ | ⟨e, rfl, rfl⟩⟩
    · exact absurd q1 (by decide)
    · rw [st1_0 p2] at e; exact absurd (congrArg Prod.fst e) (by simp)
    · rw [st1_0 p2] at e
      cases e
      exact ⟨rfl, Rl_mk (RelP_off h)⟩
  · subst p1
    rcases hm with ⟨q1, _⟩ | ⟨_, d1, sl1, sm1, ⟨e, rfl, rfl⟩ | ⟨e, rfl, rfl⟩⟩
    · exact absurd q1 (by decide)
    · rw [st1_1 p2] at e
      cases e
      exact ⟨rfl, Rl_mk (RelP_up h)⟩
    · rw [st1_1 p2] at e; exact absurd (congrArg Prod.fst e) (by simp)
theorem rl_alter {x0 y0 : Int32} (h : RelP hf gn pw ln lq vq ch lk lq2 vq2 n)
    (hx : (isIn 102 x0 = 0 ∧ r1 = 0 ∧ u1 = (dk, hf, gn, rt, ct, sl, sm, pw, ln, lq, vq, ch)) ∨ (¬ isIn 102 x0 = 0 ∧ r1 = 1 ∧ u1 = (upd dk x0.toNatClampNeg (dk x0.toNatClampNeg ^^^ y0), hf, gn, rt, ct, sl, sm, pw, ln, lq, vq, ch)))
    (hm : (isIn 102 x0 = 0 ∧ r2 = 0 ∧ u2 = (dk, hf, gn, rt, ct, pw, sl, sm, cu, ln, lk, lq2, vq2, hs, nd)) ∨ (¬ isIn 102 x0 = 0 ∧ r2 = 1 ∧ u2 = (upd dk x0.toNatClampNeg (dk x0.toNatClampNeg ^^^ y0), hf, gn, rt, ct, pw, sl, sm, cu, ln, lk, lq2, vq2, hs, nd))) :
    r1 = r2 ∧ Rl u1 u2 (n + 1) := by
  rcases hx with ⟨p1, rfl, rfl⟩ | ⟨p1, rfl, rfl⟩
  · rcases hm with ⟨p2, rfl, rfl⟩ | ⟨p2, rfl, rfl⟩
    · exact ⟨rfl, Rl_mk (RelP_up h)⟩
    · exact absurd p1 p2
  · rcases hm with ⟨p2, rfl, rfl⟩ | ⟨p2, rfl, rfl⟩
    · exact absurd p2 p1
    · exact ⟨rfl, Rl_mk (RelP_up h)⟩
theorem rl_sg (h : RelP hf gn pw ln lq vq ch lk lq2 vq2 n) (d : Nat → Int32) (rt : Int32) (k : Nat) : lg_cmp (vof d hf gn rt ln lq vq k) 0 < 0 ↔ lg_cmp (vofM d hf gn rt ln lq2 vq2 k) 0 < 0 :=
  sg_iff (vv d hf gn rt ln lq lq2 vq vq2 k h.2.2.2.2)
theorem rl_read {x0 : Int32} {r1 r2 : Int64} (h : RelP hf gn pw ln lq vq ch lk lq2 vq2 n)
    (hx : r1 = (if pw = true then (if isIn 8 x0 = 0 then -2 else vof dk hf gn rt ln lq vq x0.toNatClampNeg) else -1))
    (hm : r2 = (if pw = true then (if isIn 8 x0 = 0 then -2 else (if lg_cmp (vofM dk hf gn rt ln lq2 vq2 x0.toNatClampNeg) 0 < 0 then -3 else vofM dk hf gn rt ln lq2 vq2 x0.toNatClampNeg)) else -1)) : r1 = r2 := by
  subst hx; subst hm
  by_cases h1 : pw = true
  · rw [if_pos h1, if_pos h1]
    by_cases h2 : isIn 8 x0 = 0
    · rw [if_pos h2, if_pos h2]
    · rw [if_neg h2, if_neg h2]
      rcases vv dk hf gn rt ln lq lq2 vq vq2 x0.toNatClampNeg h.2.2.2.2 with ⟨a, b, c⟩ | ⟨a, b⟩
      · rw [if_pos b, c]
      · rw [b, if_neg a]
  · rw [if_neg h1, if_neg h1]
theorem rl_sound (h : RelP hf gn pw ln lq vq ch lk lq2 vq2 n)
    (hx : r1 = (if pw = true then sndF (vof dk hf gn rt ln lq vq) 8 0 0 else -1)) (hm : r2 = (if pw = true then sndM (vofM dk hf gn rt ln lq2 vq2) 8 0 0 else -1)) : r1 = r2 := by
  have e : sndF (vof dk hf gn rt ln lq vq) 8 0 (nI 0) = sndM (vofM dk hf gn rt ln lq2 vq2) 8 0 (nI 0) := snd_eq _ _ (fun k _ => rl_sg h dk rt k) 8 0 0 rfl (by decide)
  rw [hx, hm]
  have e2 : sndF (vof dk hf gn rt ln lq vq) 8 0 0 = sndM (vofM dk hf gn rt ln lq2 vq2) 8 0 0 := e
  rw [e2]
theorem st1_d {q : Bool × M3} {d1 : Nat → Int32} {sl1 sm1 : Int32} (h : st1 q = (true, (d1, sl1, sm1))) : q.1 = true ∧ q.2.1 = d1 := by
  obtain ⟨_ | _, d0, sl0, sm0⟩ := q
  · exact absurd (congrArg Prod.fst h) (by simp [st1])
  · by_cases h0 : sl0 = 0
    · rw [st1_0 h0] at h; exact absurd (congrArg Prod.fst h) (by simp)
    · rw [st1_1 h0] at h; cases h; exact ⟨rfl, rfl⟩
theorem mq_e (f : Nat → Int64) (o : Nat) (g : Int32) (q : Bool × M3) (nd : Nat → Int32) : snF o g 15 (mQ2 f o g q) = mQ4 f o g q nd ∧ ((mQ4 f o g q nd).1 = true → ∀ i, 1 ≤ i → i ≤ 15 → (mQ4 f o g q nd).2.1 (51 * o + 15 + i) = mND f o g q nd i) := by
  have e := snF_e (d2 := (mQ2 f o g q).2.1) (nd := mND f o g q nd) (h := o) (g := g) (by unfold mND; exact nds_ok _ _ _ _) 15 (mQ2 f o g q) (by omega) (fun _ => ⟨fun i _ => rfl, fun i h1 h2 => by omega⟩)
  have e1 : snF o g 15 (mQ2 f o g q) = mQ4 f o g q nd := by unfold mQ4; exact e.1
  rw [e1] at e
  exact ⟨e1, e.2⟩
theorem rl_mv (h : RelP hf gn true ln lq vq ch lk lq2 vq2 n) (hx : mvF (dk, hf, gn, rt, ct, sl, sm, true, ln, lq, vq, ch) = (r1, u1)) (hm : chgP dk hf gn rt ct true sl sm ln lk lq2 vq2 hs nd r0 u2) :
    (((r0 = -3 ∧ r1 = -3) ∨ (r0 = -4 ∧ r1 = -4)) ∧ Rl u1 u2 (n + 1)) ∨
    (r0 = 0 ∧ r1 = gn + 1 ∧ ∃ (d1 : Nat → Int32) (rt1 sl1 sm1 ch1 : Int32) (hs1 : Nat → Int64) (nd1 : Nat → Int32), u1 = (d1, 1 - hf, gn + 1, rt1, 0, sl1, sm1, true, 0, lq, vq, ch1) ∧ u2 = (d1, 1 - hf, gn + 1, rt1, 0, true, sl1, sm1, false, 0, ch1, lq2, vq2, hs1, nd1)) := by
  have hsg : ∀ k, k < 8 → (lg_cmp (vof dk hf gn rt ln lq vq k) 0 < 0 ↔ lg_cmp (vofM dk hf gn rt ln lq2 vq2 k) 0 < 0) := fun k _ => rl_sg h dk rt k
  unfold mvF at hx
  simp only at hx
  rcases hm with ⟨ha, rfl, hs1, rfl⟩ | ⟨ha, hs1, nd1, d1, sl1, sm1, hn, hm⟩
  · have hne : ¬ sndF (vof dk hf gn rt ln lq vq) 8 0 0 = 255 := fun q => by rw [(all_iff _ _ hsg).mp q] at ha; cases ha
    rw [if_neg hne] at hx
    cases hx
    exact Or.inl ⟨Or.inl ⟨rfl, rfl⟩, Rl_mk (RelP_up h)⟩
  · have h255 := (all_iff _ _ hsg).mpr ha
    rw [if_pos h255] at hx
    have hall := ((alB_iff _ 8 0 true).mp ha).2
    have hnn : ∀ k, k < 8 → vofM dk hf gn rt ln lq2 vq2 k = vof dk hf gn rt ln lq vq k := fun k hk => by
      rcases vv dk hf gn rt ln lq lq2 vq vq2 k h.2.2.2.2 with ⟨a, b, c⟩ | ⟨a, b⟩
      · exact absurd b (hall k (by omega) (by omega))
      · exact b
    have e2 : ssF (fun d k => vof d hf gn rt ln lq vq k) (1 - hf) (gn + 1) 8 0 (clM (1 - hf) 5 0 (true, (dk, sl, sm))) = mQ2 (vofM dk hf gn rt ln lq2 vq2) (1 - hf) (gn + 1) (true, (dk, sl, sm)) :=
      ssF_e (h := hf) rfl h.1 (d0 := dk) (gn + 1) (fun d k ha hk => (vof_c ha gn rt ln lq vq hk).trans (hnn k hk).symm) 8 0 _ rfl (Ag_cl rfl h.1 5 0 _ rfl (fun _ i _ _ => rfl))
    obtain ⟨e3a, e3b⟩ := mq_e (vofM dk hf gn rt ln lq2 vq2) (1 - hf) (gn + 1) (true, (dk, sl, sm)) nd
    have e4 : cpC (true, (dk, sl, sm)) (fun d k => vof d hf gn rt ln lq vq k) (1 - hf) (gn + 1) = mQ4 (vofM dk hf gn rt ln lq2 vq2) (1 - hf) (gn + 1) (true, (dk, sl, sm)) nd := by
      unfold cpC; rw [e2]; exact e3a
    rw [e4] at hx
    rcases hm with ⟨e, rfl, rfl⟩ | ⟨e, rfl, lk1, rfl⟩
    · rw [e] at hx
      simp only at hx
      obtain ⟨ht, hd⟩ := st1_d e
      have hr : d1 (51 * (1 - hf) + 15 + 1) = nd1 1 := by
        rw [hn, ← hd]
        exact e3b ht 1 (by omega) (by omega)
      rw [hr] at hx
      obtain ⟨rfl, rfl⟩ := Prod.mk.inj hx
      exact Or.inr ⟨rfl, rfl, _, _, _, _, _, _, _, rfl, rfl⟩
    · rw [e] at hx
      simp only at hx
      cases hx
      exact Or.inl ⟨Or.inr ⟨rfl, rfl⟩, Rl_mk (RelP_off h)⟩
theorem rl_check (h : RelP hf gn pw ln lq vq ch lk lq2 vq2 n) (hn : n < 1000000)
    (hx : (pw = false ∧ r1 = -1 ∧ u1 = (dk, hf, gn, rt, ct, sl, sm, pw, ln, lq, vq, ch)) ∨ (pw = true ∧ mvF (dk, hf, gn, rt, ct, sl, sm, pw, ln, lq, vq, ch) = (r1, u1)))
    (hm : (pw = false ∧ r2 = -1 ∧ u2 = (dk, hf, gn, rt, ct, pw, sl, sm, cu, ln, lk, lq2, vq2, hs, nd)) ∨ (pw = true ∧ ∃ r0 : Int32, chgP dk hf gn rt ct true sl sm ln lk lq2 vq2 hs nd r0 u2 ∧ ((r0 = 0 ∧ r2 = gn + 1) ∨ (¬ r0 = 0 ∧ r2 = r0)))) :
    r1 = r2 ∧ Rl u1 u2 (n + 1) := by
  rcases hx with ⟨p1, rfl, rfl⟩ | ⟨p1, hx⟩
  · subst p1
    rcases hm with ⟨_, rfl, rfl⟩ | ⟨q1, _⟩
    · exact ⟨rfl, Rl_mk (RelP_up h)⟩
    · exact absurd q1 (by decide)
  · subst p1
    rcases hm with ⟨q1, _⟩ | ⟨_, r0, hc, hr⟩
    · exact absurd q1 (by decide)
    · rcases rl_mv h hx hc with ⟨hrr, hl⟩ | ⟨rfl, rfl, d1, rt1, sl1, sm1, ch1, hs1, nd1, rfl, rfl⟩
      · refine ⟨?_, hl⟩
        rcases hr with ⟨e, _⟩ | ⟨_, e⟩
        · subst e
          rcases hrr with ⟨a, _⟩ | ⟨a, _⟩ <;> exact absurd a (by decide)
        · subst e
          rcases hrr with ⟨a, b⟩ | ⟨a, b⟩ <;> rw [a, b]
      · rcases hr with ⟨_, e⟩ | ⟨e, _⟩
        · obtain ⟨x1, x2, ⟨g, hg, eg⟩, x3, x4⟩ := h
          exact ⟨e.symm, Rl_mk ⟨by omega, by omega, ⟨g + 1, by omega, by rw [eg, nI_succ]⟩, fun _ => rfl, fun i hi => absurd hi (by omega)⟩⟩
        · exact absurd rfl e
theorem rl_sr {x : Int32} {v : Int64} (h : RelP hf gn true ln lq vq ch lk lq2 vq2 n) (h5 : ln < 5) (hv : ¬ lg_cmp v 0 < 0) (hx : srF (dk, hf, gn, rt, ct, sl, sm, true, ln, lq, vq, ch) x v = (r1, u1)) (hm : srP dk hf gn rt ct true sl sm ln lk lq2 vq2 hs nd x v r2 u2) :
    r1 = r2 ∧ Rl u1 u2 (n + 1) := by
  have hlk : lk = ch := h.2.2.2.1 rfl
  subst hlk
  obtain ⟨e, ek⟩ := sr_e (true, (dk, sl, sm)) (51 * hf + 31 + 4 * ln) x v gn lk
  unfold srF at hx
  simp only at hx
  rw [e] at hx
  rw [e] at ek
  obtain ⟨d1, sl1, sm1, ⟨em, rfl, rfl⟩ | ⟨em, rfl, rfl⟩⟩ := hm
  · rw [em] at hx ek
    simp only at hx
    have ek := ek rfl
    rw [ek] at hx
    cases hx
    obtain ⟨x1, x2, ⟨g, hg, eg⟩, x3, x4⟩ := h
    refine ⟨rfl, Rl_mk ⟨x1, by omega, ⟨g, by omega, eg⟩, fun _ => rfl, fun i hi => ?_⟩⟩
    by_cases ei : i = ln
    · subst ei
      rw [pk_us, pk_us, pk_uLs, pk_uLs]
      exact ⟨rfl, rfl, hv⟩
    · rw [pk_un ei, pk_un ei, pk_uLn ei, pk_uLn ei]
      exact x4 i (by omega)
  · rw [em] at hx
    simp only at hx
    cases hx
    exact ⟨rfl, Rl_mk (RelP_off h)⟩
theorem rl_write {x0 : Int32} {v0 : Int64} (h : RelP hf gn pw ln lq vq ch lk lq2 vq2 n) (hn : n < 1000000)
    (hx : (r1, u1) = wrF (dk, hf, gn, rt, ct, sl, sm, pw, ln, lq, vq, ch) x0 v0)
    (hm : (pw = false ∧ r2 = -1 ∧ u2 = (dk, hf, gn, rt, ct, pw, sl, sm, cu, ln, lk, lq2, vq2, hs, nd)) ∨ (pw = true ∧ (isIn 8 x0 = 0 ∨ lg_cmp v0 0 < 0) ∧ r2 = -2 ∧ u2 = (dk, hf, gn, rt, ct, pw, sl, sm, cu, ln, lk, lq2, vq2, hs, nd)) ∨ (pw = true ∧ ¬ isIn 8 x0 = 0 ∧ ¬ lg_cmp v0 0 < 0 ∧ ((¬ ln = 5 ∧ srP dk hf gn rt ct true sl sm ln lk lq2 vq2 hs nd x0 v0 r2 u2) ∨ (ln = 5 ∧ ∃ (r0 : Int32) (u0 : MS), chgP dk hf gn rt ct true sl sm ln lk lq2 vq2 hs nd r0 u0 ∧ ((¬ r0 = 0 ∧ r2 = r0 ∧ u2 = u0) ∨ (r0 = 0 ∧ srQ u0 x0 v0 r2 u2)))))) :
    r1 = r2 ∧ Rl u1 u2 (n + 2) := by
  have up : ∀ {a : XS} {b : MS}, Rl a b (n + 1) → Rl a b (n + 2) := fun q => by
    obtain ⟨a1, a2, a3, a4, a5, a6, a7, a8, a9, a10, a11, a12, a13, a14, a15, a16, a17, a18, rfl, rfl, hq⟩ := q
    exact Rl_mk (RelP_up hq)
  unfold wrF at hx
  simp only at hx
  rcases hm with ⟨p1, rfl, rfl⟩ | ⟨p1, p2, rfl, rfl⟩ | ⟨p1, p2, p3, hm⟩
  · subst p1
    rw [if_neg (by decide)] at hx
    cases hx
    exact ⟨rfl, up (Rl_mk (RelP_up h))⟩
  · subst p1
    rw [if_pos rfl] at hx
    by_cases h8 : isIn 8 x0 = 0
    · rw [if_pos h8] at hx
      cases hx
      exact ⟨rfl, up (Rl_mk (RelP_up h))⟩
    · rw [if_neg h8] at hx
      rcases p2 with p2 | p2
      · exact absurd p2 h8
      · rw [if_neg (fun q => z_nn2 p2 q)] at hx
        cases hx
        exact ⟨rfl, up (Rl_mk (RelP_up h))⟩
  · subst p1
    rw [if_pos rfl, if_neg p2, if_pos (z_nn p3)] at hx
    rcases hm with ⟨h5, hm⟩ | ⟨h5, r0, u0, hc, hm⟩
    · have hl5 : ln < 5 := by have := h.2.1; omega
      rw [if_pos hl5] at hx
      obtain ⟨a, b⟩ := rl_sr h hl5 p3 hx.symm hm
      exact ⟨a, up b⟩
    · rw [if_neg (by omega)] at hx
      generalize hmv : mvF (dk, hf, gn, rt, ct, sl, sm, true, ln, lq, vq, ch) = z at hx
      obtain ⟨r3, u3⟩ := z
      simp only at hx
      rcases rl_mv h hmv hc with ⟨hrr, hl⟩ | ⟨rfl, rfl, d1, rt1, sl1, sm1, ch1, hs1, nd1, rfl, rfl⟩
      · have hneg : ¬ 0 ≤ r3 := by rcases hrr with ⟨_, b⟩ | ⟨_, b⟩ <;> rw [b] <;> decide
        rw [if_neg hneg] at hx
        cases hx
        rcases hm with ⟨_, rfl, rfl⟩ | ⟨e, _⟩
        · refine ⟨?_, up hl⟩
          rcases hrr with ⟨a, b⟩ | ⟨a, b⟩ <;> rw [a, b]
        · subst e
          rcases hrr with ⟨a, _⟩ | ⟨a, _⟩ <;> exact absurd a (by decide)
      · rcases hm with ⟨e, _⟩ | ⟨_, hm⟩
        · exact absurd rfl e
        · obtain ⟨x1, x2, ⟨g, hg, eg⟩, x3, x4⟩ := h
          have hpos : 0 ≤ gn + 1 := by rw [eg, ← nI_succ]; exact nI_pos' (by omega)
          rw [if_pos hpos] at hx
          have h2 : RelP (1 - hf) (gn + 1) true 0 lq vq ch1 ch1 lq2 vq2 (n + 1) := ⟨by omega, by omega, ⟨g + 1, by omega, by rw [eg, nI_succ]⟩, fun _ => rfl, fun i hi => absurd hi (by omega)⟩
          exact rl_sr h2 (by omega) p3 hx.symm hm
end ZS
/-- the new objects -/
theorem in1_e : ∀ (j k : Nat) (d : Nat → Int32), ini1 j k d = inM1 j k d := by
  intro j
  induction j with
  | zero => intro k d; rfl
  | succ j ih =>
    intro k d
    unfold ini1 inM1
    rw [ih, show enc 0 (nI k) 1 = dg (dg 19088743 1) (nI k) from Int32.zero_xor]
def dsn (nd : Nat → Int32) (h : Nat) : Nat → (Nat → Int32) → (Nat → Int32)
  | 0, d => d
  | k + 1, d => dsn nd h k (upd d (51 * h + 15 + (k + 1)) (nd (k + 1)))
theorem in2_e {d2 nd : Nat → Int32} (hn : Nds d2 0 1 nd) : ∀ (k : Nat) (d : Nat → Int32), k ≤ 15 → (∀ i, i < 16 → d (51 * 0 + i) = d2 (51 * 0 + i)) → (∀ i, k < i → i ≤ 15 → d (51 * 0 + 15 + i) = nd i) → ini2 k d = dsn nd 0 k d := by
  intro k
  induction k with
  | zero => intro d _ _ _; rfl
  | succ k ih =>
    intro d hk h1 h2
    unfold ini2 dsn
    rw [due_nd hn (by omega) hk h1 h2]
    refine ih _ (by omega) (fun i hi => ?_) (fun i h3 h4 => ?_)
    · rw [pk_un (by omega)]; exact h1 i hi
    · by_cases e : i = k + 1
      · subst e; rw [pk_us]
      · rw [pk_un (by omega)]; exact h2 i (by omega) h4
theorem dsn_v (nd : Nat → Int32) : ∀ (k : Nat) (d : Nat → Int32) (i : Nat), dsn nd 0 k d i = if 15 < i ∧ i ≤ 15 + k then nd (i - 15) else d i := by
  intro k
  induction k with
  | zero => intro d i; rw [if_neg (by omega)]; rfl
  | succ k ih =>
    intro d i
    unfold dsn
    rw [ih]
    by_cases e : i = 15 + (k + 1)
    · subst e
      rw [if_neg (by omega), if_pos (by omega), show 51 * 0 + 15 + (k + 1) = 15 + (k + 1) by omega, pk_us, show 15 + (k + 1) - 15 = k + 1 by omega]
    · rw [pk_un (by omega)]
      by_cases c : 15 < i ∧ i ≤ 15 + k
      · rw [if_pos c, if_pos (by omega)]
      · rw [if_neg c, if_neg (by omega)]
theorem im2_v (nd : Nat → Int32) : ∀ (j k : Nat) (d : Nat → Int32) (i : Nat), inM2 nd j k d i = if 15 + k ≤ i ∧ i < 15 + k + j then nd (i - 15) else d i := by
  intro j
  induction j with
  | zero => intro k d i; rw [if_neg (by omega)]; rfl
  | succ j ih =>
    intro k d i
    unfold inM2
    rw [ih]
    by_cases e : i = 15 + k
    · subst e
      rw [if_neg (by omega), if_pos (by omega), pk_us, show 15 + k - 15 = k by omega]
    · rw [pk_un (by omega)]
      by_cases c : 15 + (k + 1) ≤ i ∧ i < 15 + (k + 1) + j
      · rw [if_pos c, if_pos (by omega)]
      · rw [if_neg c, if_neg (by omega)]
theorem ini_nds : Nds (inM1 16 0 (fun _ => 0)) 0 1 iniN := nds_ok _ _ _ _
theorem iniD_e : iniD = iniMD := by
  unfold iniD iniMD
  rw [in1_e, in2_e ini_nds 15 _ (by omega) (fun _ _ => rfl) (fun i h1 h2 => by omega)]
  funext i
  rw [dsn_v, im2_v]
  by_cases c : 15 < i ∧ i ≤ 15 + 15
  · rw [if_pos c, if_pos (by omega)]
  · rw [if_neg c, if_neg (by omega)]
theorem iniR_e : iniD (51 * 0 + 15 + 1) = iniN 1 := by
  rw [iniD_e]
  unfold iniMD
  rw [im2_v, if_pos (by omega)]
theorem rl_init (hs : Nat → Int64) : Rl iniX (iniM hs) 1 := by
  unfold iniX iniM
  rw [iniR_e, iniD_e]
  exact Rl_mk ⟨by omega, by omega, ⟨1, by omega, rfl⟩, fun q => absurd q (by decide), fun i hi => absurd hi (by omega)⟩
