/-! The reference's pure words: its state is a tuple
(disk, half, generation, root, count, power, armed, steps, cut, listed, link, sectorOf, valueOf, has, node). -/
noncomputable def ndA (d : Nat → Int32) (h : Nat) (g : Int32) : Nat → Nat → (Nat → Int32) → (Nat → Int32)
  | 0, _, n => n
  | j + 1, k, n => ndA d h g j (k + 1) (upd n (8 + k) (dg (dg (8 * g + nI k) (d (51 * h + 2 * k))) (d (51 * h + 2 * k + 1))))
noncomputable def ndB : Nat → (Nat → Int32) → (Nat → Int32)
  | 0, n => n
  | k + 1, n => ndB k (upd n (k + 1) (dg (n (2 * (k + 1))) (n (2 * (k + 1) + 1))))
noncomputable def chM (d : Nat → Int32) (h : Nat) : Nat → Nat → Int32 → Int32
  | 0, _, x => x
  | j + 1, k, x => chM d h j (k + 1) (chn x d (51 * h + 31 + 4 * k))
theorem chM_1 (d : Nat → Int32) (h j k : Nat) (x : Int32) : chM d h (j + 1) k x = chM d h j (k + 1) (chn x d (51 * h + 31 + 4 * k)) := by rw [chM]
theorem chM_0 (d : Nat → Int32) (h k : Nat) (x : Int32) : chM d h 0 k x = x := by rw [chM]
theorem chM_g (d : Nat → Int32) (h : Nat) : ∀ (n k : Nat) (x : Int32), chM d h (n + 1) k x = chn (chM d h n k x) d (51 * h + 31 + 4 * (k + n)) := by
  intro n
  induction n with
  | zero => intro k x; rw [chM_1, chM_0, chM_0]; rfl
  | succ n ih =>
    intro k x
    rw [chM_1, ih (k + 1), chM_1 d h n k, show k + 1 + n = k + (n + 1) by omega]
theorem chM_s (d : Nat → Int32) (h n : Nat) (x : Int32) : chM d h (n + 1) 0 x = chn (chM d h n 0 x) d (51 * h + 31 + 4 * n) := by
  rw [chM_g, Nat.zero_add]
theorem isIn_no {N x : Int32} (h1 : ¬ x < 0) (h2 : ¬ N ≤ x) : ¬ isIn N x = 0 := by
  unfold isIn; rw [if_neg h1, if_neg h2]; decide
theorem isIn_lo {N x : Int32} (h1 : x < 0) : isIn N x = 0 := by
  unfold isIn; rw [if_pos h1]
theorem isIn_hi {N x : Int32} (h2 : N ≤ x) : isIn N x = 0 := by
  unfold isIn; by_cases h1 : x < 0
  · rw [if_pos h1]
  · rw [if_neg h1, if_pos h2]
theorem z_gt {x : Int32} {n : Nat} (hn : n + 1 < 2 ^ 31) : nI n < x ↔ nI (n + 1) ≤ x := by
  rw [Int32.lt_iff_toInt_lt, Int32.le_iff_toInt_le, nI_toInt (by omega), nI_toInt hn]; omega
/-- how many records are good -/
noncomputable def gct (d : Nat → Int32) (h : Nat) (g x : Int32) : Nat → Nat → Nat
  | 0, k => k
  | j + 1, k => if jgood d h g (chM d h k 0 x) k then gct d h g x j (k + 1) else k
theorem due_leaf (d : Nat → Int32) (h s : Nat) (g : Int32) : due d h (8 + s) g = dg (dg (8 * g + nI s) (d (51 * h + 2 * s))) (d (51 * h + 2 * s + 1)) := by
  unfold due; rw [if_pos (by omega), show 8 + s - 8 = s by omega]
theorem z_x1 : ∀ k, k < 16 → (k % 2 = 0 → k ^^^ 1 = k + 1) ∧ (¬ k % 2 = 0 → k ^^^ 1 = k - 1) := by decide
/-- what a sector has but for the list; -1: nothing -/
noncomputable def vlkM (d : Nat → Int32) (h : Nat) (g rt : Int32) (s : Nat) : Int64 :=
  if rabove d h g s = rt then (if enc (d (51 * h + 2 * s)) (nI (51 * h + 2 * s)) g < 0 then -1 else vat d g (51 * h + 2 * s)) else -1
noncomputable def vofM (d : Nat → Int32) (h : Nat) (g rt : Int32) (n : Nat) (ls : Nat → Int32) (lv : Nat → Int64) (s : Nat) : Int64 :=
  match lkp ls lv (nI s) n with
  | some v => v
  | none => vlkM d h g rt s
noncomputable def sndM (f : Nat → Int64) : Nat → Nat → Int32 → Int32
  | 0, _, acc => acc
  | j + 1, k, acc => sndM f j (k + 1) (if lg_cmp (f k) 0 < 0 then acc else acc ||| ((1 : Int32) <<< (nI k &&& 31)))
/-- all sectors have something -/
noncomputable def alB (f : Nat → Int64) : Nat → Nat → Bool → Bool
  | 0, _, b => b
  | j + 1, k, b => alB f j (k + 1) (b && !decide (lg_cmp (f k) 0 < 0))
theorem z_hi (v : Int64) : (v >>> ((32 : Int32).toInt64 &&& 63)).toInt32 = hiW v := by
  apply Int32.toBitVec_inj.mp
  have e1 : (((32 : Int32).toInt64 &&& 63).toBitVec.smod 64).toNat = 32 := by decide
  have e2 : (UInt64.mod ((32 : Int32).toInt64.toUInt64 &&& Int64.toUInt64 63) 64).toBitVec.toNat = 32 := by decide
  show BitVec.signExtend 32 (v.toBitVec.sshiftRight (((32 : Int32).toInt64 &&& 63).toBitVec.smod 64).toNat) = BitVec.signExtend 32 (v.toBitVec >>> (UInt64.mod ((32 : Int32).toInt64.toUInt64 &&& Int64.toUInt64 63) 64).toBitVec.toNat)
  rw [e1, e2]
  apply BitVec.eq_of_getLsbD_eq
  intro i hi
  have h64 : ¬ 64 ≤ i := by omega
  rw [BitVec.getLsbD_signExtend, BitVec.getLsbD_signExtend, if_pos (by omega), if_pos (by omega), BitVec.getLsbD_sshiftRight, BitVec.getLsbD_ushiftRight, if_pos (by omega)]
  simp [hi, h64]
abbrev MS : Type := (Nat → Int32) × Nat × Int32 × Int32 × Int32 × Bool × Int32 × Int32 × Bool × Nat × Int32 × (Nat → Int32) × (Nat → Int64) × (Nat → Int64) × (Nat → Int32)
/-- the state in a chain of steps: q says whether it still runs, and (disk, armed, steps) -/
abbrev mS (q : Bool × M3) (hf : Nat) (gn rt ct : Int32) (pw : Bool) (ln : Nat) (lk : Int32) (lq : Nat → Int32) (vq hs : Nat → Int64) (nd : Nat → Int32) : MS :=
  (q.2.1, hf, gn, rt, ct, (q.1 && pw), q.2.2.1, q.2.2.2, (!q.1), cond q.1 ln 0, lk, lq, vq, hs, nd)
abbrev Mw (h0 qd qs qv qh qn : Nat) (cI cJ : ClassId) (u : MS) : va_W :=
  match u with
  | (dk, hf, gn, rt, ct, pw, sl, sm, cu, ln, lk, lq, vq, hs, nd) =>
    [(h0, .inr (1, [.ref qd, .int (nI hf), .int gn, .int rt, .int ct, .int (bI pw), .int sl, .int sm, .int (bI cu), .int (nI ln), .int lk, .ref qs, .ref qv, .ref qh, .ref qn])),
     (qd, .inl (cI, (102, .inl dk))), (qs, .inl (cI, (5, .inl lq))), (qv, .inl (cJ, (5, .inr (.inl vq)))), (qh, .inl (cJ, (8, .inr (.inl hs)))), (qn, .inl (cI, (16, .inl nd)))]
theorem wr1_t {q : Bool × M3} {d : Nat → Int32} {sl sm : Int32} {p : Nat} {w : Int32} (h : st1 q = (true, (d, sl, sm))) : wr1 q p w = (true, (upd d p w, sl, sm)) := by
  obtain ⟨_ | _, d0, sl0, sm0⟩ := q
  · exact absurd (congrArg Prod.fst h) (by simp [st1])
  · by_cases h0 : sl0 = 0
    · rw [st1_0 h0] at h; exact absurd (congrArg Prod.fst h) (by simp)
    · rw [st1_1 h0] at h; rw [wr1_1 h0]; cases h; rfl
theorem wr1_n {q : Bool × M3} {r : M3} {p : Nat} {w : Int32} (h : st1 q = (false, r)) : wr1 q p w = (false, r) := by
  obtain ⟨_ | _, d0, sl0, sm0⟩ := q
  · exact h
  · by_cases h0 : sl0 = 0
    · rw [st1_0 h0] at h; rw [wr1_0 h0]; exact h
    · rw [st1_1 h0] at h; exact absurd (congrArg Prod.fst h) (by simp)
/-- the nodes, from the last to the first -/
noncomputable def msn (nd : Nat → Int32) (h : Nat) : Nat → Bool × M3 → Bool × M3
  | 0, q => q
  | k + 1, q => msn nd h k (wr1 q (51 * h + 15 + (k + 1)) (nd (k + 1)))
noncomputable def mQ2 (f : Nat → Int64) (o : Nat) (g : Int32) (q : Bool × M3) : Bool × M3 := ssF (fun _ k => f k) o g 8 0 (clM o 5 0 q)
noncomputable def mND (f : Nat → Int64) (o : Nat) (g : Int32) (q : Bool × M3) (nd : Nat → Int32) : Nat → Int32 := ndB 7 (ndA (mQ2 f o g q).2.1 o g 8 0 nd)
noncomputable def mQ4 (f : Nat → Int64) (o : Nat) (g : Int32) (q : Bool × M3) (nd : Nat → Int32) : Bool × M3 := msn (mND f o g q nd) o 15 (mQ2 f o g q)
/-- change() from a state with cut = false -/
noncomputable def chgP (dk : Nat → Int32) (hf : Nat) (gn rt ct : Int32) (pw : Bool) (sl sm : Int32) (ln : Nat) (lk : Int32) (lq : Nat → Int32) (vq hs : Nat → Int64) (nd : Nat → Int32) (r : Int32) (u : MS) : Prop :=
  (alB (vofM dk hf gn rt ln lq vq) 8 0 true = false ∧ r = -3 ∧ ∃ hs1 : Nat → Int64, u = (dk, hf, gn, rt, ct, pw, sl, sm, false, ln, lk, lq, vq, hs1, nd)) ∨
  (alB (vofM dk hf gn rt ln lq vq) 8 0 true = true ∧ ∃ (hs1 : Nat → Int64) (nd1 d1 : Nat → Int32) (sl1 sm1 : Int32), nd1 = mND (vofM dk hf gn rt ln lq vq) (1 - hf) (gn + 1) (true, (dk, sl, sm)) nd ∧
    ((st1 (mQ4 (vofM dk hf gn rt ln lq vq) (1 - hf) (gn + 1) (true, (dk, sl, sm)) nd) = (true, (d1, sl1, sm1)) ∧ r = 0 ∧ u = (d1, 1 - hf, gn + 1, nd1 1, 0, pw, sl1, sm1, false, 0, dg (dg 19088743 (nd1 1)) (gn + 1), lq, vq, hs1, nd1)) ∨
     (st1 (mQ4 (vofM dk hf gn rt ln lq vq) (1 - hf) (gn + 1) (true, (dk, sl, sm)) nd) = (false, (d1, sl1, sm1)) ∧ r = -4 ∧ ∃ lk1 : Int32, u = (d1, hf, gn, rt, ct, false, sl1, sm1, true, 0, lk1, lq, vq, hs1, nd1))))
/-- a record's four steps -/
noncomputable def srM (q : Bool × M3) (p : Nat) (x : Int32) (v : Int64) (g lk : Int32) : Bool × M3 :=
  wr1 (wr1 (wr1 (wr1 q p (enc x (nI p) g)) (p + 1) (enc (hiW v) (nI (p + 1)) g)) (p + 2) (enc (loW v) (nI (p + 2)) g)) (p + 3) (dg (dg (dg lk (enc x (nI p) g)) (enc (hiW v) (nI (p + 1)) g)) (enc (loW v) (nI (p + 2)) g) ||| 1)
noncomputable def srP (dk : Nat → Int32) (hf : Nat) (gn rt ct : Int32) (pw : Bool) (sl sm : Int32) (ln : Nat) (lk : Int32) (lq : Nat → Int32) (vq hs : Nat → Int64) (nd : Nat → Int32) (x : Int32) (v : Int64) (r : Int32) (u : MS) : Prop :=
  ∃ (d1 : Nat → Int32) (sl1 sm1 : Int32),
    (srM (true, (dk, sl, sm)) (51 * hf + 31 + 4 * ln) x v gn lk = (true, (d1, sl1, sm1)) ∧ r = nI (ln + 1) ∧ u = (d1, hf, gn, rt, ct, pw, sl1, sm1, false, ln + 1, dg (dg (dg lk (enc x (nI (51 * hf + 31 + 4 * ln)) gn)) (enc (hiW v) (nI (51 * hf + 31 + 4 * ln + 1)) gn)) (enc (loW v) (nI (51 * hf + 31 + 4 * ln + 2)) gn), upd lq ln x, vp_updL vq ln v, hs, nd)) ∨
    (srM (true, (dk, sl, sm)) (51 * hf + 31 + 4 * ln) x v gn lk = (false, (d1, sl1, sm1)) ∧ r = -4 ∧ u = (d1, hf, gn, rt, ct, false, sl1, sm1, true, 0, lk, lq, vq, hs, nd))
noncomputable def srQ (u0 : MS) (x : Int32) (v : Int64) (r : Int32) (u : MS) : Prop :=
  match u0 with
  | (dk, hf, gn, rt, ct, pw, sl, sm, _, ln, lk, lq, vq, hs, nd) => srP dk hf gn rt ct pw sl sm ln lk lq vq hs nd x v r u
theorem z_le7 {x : Int32} (h : x ≤ 7) : ¬ (8 : Int32) ≤ x := fun q => by
  rw [Int32.le_iff_toInt_le] at h q
  have e7 : (7 : Int32).toInt = 7 := by decide
  have e8 : (8 : Int32).toInt = 8 := by decide
  omega
theorem z_gt7 {x : Int32} (h : ¬ (7 : Int32) < x) : ¬ (8 : Int32) ≤ x := fun q => h ((z_gt (n := 7) (by decide)).mpr q)
theorem z_pt2 {f : Nat → Int32} {lq : Nat → Int32} {k : Nat} {vq u : Nat → Int64} (h : ∀ i, i < k → lq i = f i ∧ vq i = u i) : ∀ i, i < k + 1 → upd lq k (f k) i = f i ∧ vp_updL vq k (u k) i = u i := by
  intro i hi
  by_cases e : i = k
  · subst e; exact ⟨pk_us, pk_uLs⟩
  · rw [pk_un e, pk_uLn e]; exact h i (by omega)
theorem z_hh {f hs : Nat → Int64} {k : Nat} (h : ∀ i, i < k → hs i = f i) : ∀ i, i < k + 1 → vp_updL hs k (f k) i = f i := by
  intro i hi
  by_cases e : i = k
  · subst e; exact pk_uLs
  · rw [pk_uLn e]; exact h i (by omega)
/-- the reference's new object -/
noncomputable def inM1 : Nat → Nat → (Nat → Int32) → (Nat → Int32)
  | 0, _, d => d
  | j + 1, k, d => inM1 j (k + 1) (upd d k (dg (dg 19088743 1) (nI k)))
noncomputable def inM2 (nd : Nat → Int32) : Nat → Nat → (Nat → Int32) → (Nat → Int32)
  | 0, _, d => d
  | j + 1, k, d => inM2 nd j (k + 1) (upd d (15 + k) (nd k))
noncomputable def iniN : Nat → Int32 := ndB 7 (ndA (inM1 16 0 (fun _ => 0)) 0 1 8 0 (fun _ => 0))
noncomputable def iniMD : Nat → Int32 := inM2 iniN 15 1 (inM1 16 0 (fun _ => 0))
noncomputable def iniM (hs : Nat → Int64) : MS := (iniMD, 0, 1, iniN 1, 0, false, -1, 0, false, 0, 0, fun _ => 0, fun _ => 0, hs, iniN)
