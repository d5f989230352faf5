/-! The class's pure words: the state is a tuple
(disk, half, generation, root, count, stepsLeft, stepsMade, on, listSize, listSectors, listValues, chain). -/
def dg0 (a b : Int32) : Int32 :=
  (((a + 668265263) ^^^ ((b <<< ((9 : Int32) &&& 31)) ||| (b.toUInt32 >>> ((23 : Int32).toUInt32 &&& Int32.toUInt32 31)).toInt32)) * (-1640531527)) ^^^
  ((((a + 668265263) ^^^ ((b <<< ((9 : Int32) &&& 31)) ||| (b.toUInt32 >>> ((23 : Int32).toUInt32 &&& Int32.toUInt32 31)).toInt32)) * (-1640531527)).toUInt32 >>> ((15 : Int32).toUInt32 &&& Int32.toUInt32 31)).toInt32
/-- the digest, closed: its formula is looked at in dg_eq alone -/
theorem dg_ex : ∃ f : Int32 → Int32 → Int32, f = dg0 := ⟨dg0, rfl⟩
noncomputable def dg : Int32 → Int32 → Int32 := Classical.choose dg_ex
theorem dg_eq : dg = dg0 := Classical.choose_spec dg_ex
noncomputable def enc (w p g : Int32) : Int32 := w ^^^ dg (dg 19088743 g) p
noncomputable def hiW (v : Int64) : Int32 := (v.toUInt64 >>> ((32 : Int32).toInt64.toUInt64 &&& Int64.toUInt64 63)).toInt64.toInt32
noncomputable def loW (v : Int64) : Int32 := v.toInt32
noncomputable def joinW (a b : Int32) : Int64 := (a.toInt64 <<< ((32 : Int32).toInt64 &&& 63)) ||| (b.toInt64 &&& 4294967295)
def bI (b : Bool) : Int32 := cond b 1 0
/-- isSector, isPlace -/
def isIn (N x : Int32) : Int32 := if x < 0 then 0 else if N ≤ x then 0 else 1
noncomputable def due (d : Nat → Int32) (h k : Nat) (g : Int32) : Int32 :=
  if 8 ≤ k then dg (dg (8 * g + nI (k - 8)) (d (51 * h + 2 * (k - 8)))) (d (51 * h + 2 * (k - 8) + 1))
  else dg (d (51 * h + 15 + 2 * k)) (d (51 * h + 15 + (2 * k + 1)))
noncomputable def vat (d : Nat → Int32) (g : Int32) (p : Nat) : Int64 := joinW (enc (d p) (nI p) g) (enc (d (p + 1)) (nI (p + 1)) g)
noncomputable def rup (d : Nat → Int32) (h : Nat) : Nat → Nat → Int32 → Int32
  | 0, _, x => x
  | f + 1, k, x => if k ≤ 1 then x else rup d h f (k / 2) (if k % 2 = 0 then dg x (d (51 * h + 15 + (k ^^^ 1))) else dg (d (51 * h + 15 + (k ^^^ 1))) x)
noncomputable def rabove (d : Nat → Int32) (h : Nat) (g : Int32) (s : Nat) : Int32 := rup d h 16 (8 + s) (due d h (8 + s) g)
noncomputable def lkp (ls : Nat → Int32) (lv : Nat → Int64) (s : Int32) : Nat → Option Int64
  | 0 => none
  | i + 1 => if ls i = s then some (lv i) else lkp ls lv s i
noncomputable def vlook (d : Nat → Int32) (h : Nat) (g rt : Int32) (s : Nat) : Int64 :=
  if rabove d h g s = rt then (if 0 ≤ lg_cmp (vat d g (51 * h + 2 * s)) 0 then vat d g (51 * h + 2 * s) else -3) else -3
noncomputable def vof (d : Nat → Int32) (h : Nat) (g rt : Int32) (n : Nat) (ls : Nat → Int32) (lv : Nat → Int64) (s : Nat) : Int64 :=
  match lkp ls lv (nI s) n with
  | some v => v
  | none => vlook d h g rt s
/-- the sum of the sound sectors from k on -/
noncomputable def sndF (f : Nat → Int64) : Nat → Nat → Int32 → Int32
  | 0, _, acc => acc
  | j + 1, k, acc => sndF f j (k + 1) (if lg_cmp (f k) 0 < 0 then acc else acc + ((1 : Int32) <<< (nI k &&& 31)))
/-- the chain behind the record at p -/
noncomputable def chn (ch : Int32) (d : Nat → Int32) (p : Nat) : Int32 := dg (dg (dg ch (d p)) (d (p + 1))) (d (p + 2))
/-- the journal: record k is good behind the chain ch -/
abbrev jgood (d : Nat → Int32) (h : Nat) (g ch : Int32) (k : Nat) : Prop :=
  d (51 * h + 31 + 4 * k + 3) = (chn ch d (51 * h + 31 + 4 * k) ||| 1) ∧ ¬ isIn 8 (enc (d (51 * h + 31 + 4 * k)) (nI (51 * h + 31 + 4 * k)) g) = 0 ∧ 0 ≤ lg_cmp (vat d g (51 * h + 31 + 4 * k + 1)) 0
noncomputable def tj (d : Nat → Int32) (h : Nat) (g : Int32) : Nat → Nat → (Nat → Int32) → (Nat → Int64) → Int32 → Nat × (Nat → Int32) × (Nat → Int64) × Int32
  | 0, k, lq, vq, ch => (k, lq, vq, ch)
  | j + 1, k, lq, vq, ch => if jgood d h g ch k then tj d h g j (k + 1) (upd lq k (enc (d (51 * h + 31 + 4 * k)) (nI (51 * h + 31 + 4 * k)) g)) (vp_updL vq k (vat d g (51 * h + 31 + 4 * k + 1))) (chn ch d (51 * h + 31 + 4 * k)) else (k, lq, vq, ch)
theorem tj_le (d : Nat → Int32) (h : Nat) (g : Int32) : ∀ (j k : Nat) (lq : Nat → Int32) (vq : Nat → Int64) (ch : Int32), (tj d h g j k lq vq ch).1 ≤ k + j := by
  intro j
  induction j with
  | zero => intro k lq vq ch; simp [tj]
  | succ j ih =>
    intro k lq vq ch
    unfold tj
    split
    · have := ih (k + 1) (upd lq k (enc (d (51 * h + 31 + 4 * k)) (nI (51 * h + 31 + 4 * k)) g)) (vp_updL vq k (vat d g (51 * h + 31 + 4 * k + 1))) (chn ch d (51 * h + 31 + 4 * k))
      omega
    · simp
/-- steps: what they change is (disk, stepsLeft, stepsMade); false: cut, and nothing further happens -/
abbrev M3 : Type := (Nat → Int32) × Int32 × Int32
noncomputable def dec1 (sl : Int32) : Int32 := if 0 < sl then sl - 1 else sl
/-- one step that leaves the disk -/
noncomputable def st1 (q : Bool × M3) : Bool × M3 :=
  match q with
  | (false, r) => (false, r)
  | (true, (d, sl, sm)) => if sl = 0 then (false, (d, -1, sm)) else (true, (d, dec1 sl, sm + 1))
/-- one step that writes a word -/
noncomputable def wr1 (q : Bool × M3) (p : Nat) (w : Int32) : Bool × M3 :=
  match q with
  | (false, r) => (false, r)
  | (true, (d, sl, sm)) => if sl = 0 then (false, (d, -1, sm)) else (true, (upd d p w, dec1 sl, sm + 1))
noncomputable def wv1 (q : Bool × M3) (p : Nat) (v : Int64) (g : Int32) : Bool × M3 := wr1 (wr1 q p (enc (hiW v) (nI p) g)) (p + 1) (enc (loW v) (nI (p + 1)) g)
noncomputable def clM (h : Nat) : Nat → Nat → Bool × M3 → Bool × M3
  | 0, _, q => q
  | j + 1, k, q => clM h j (k + 1) (wr1 q (51 * h + 31 + 4 * k + 3) 0)
noncomputable def ssF (f : (Nat → Int32) → Nat → Int64) (h : Nat) (g : Int32) : Nat → Nat → Bool × M3 → Bool × M3
  | 0, _, q => q
  | j + 1, k, q => ssF f h g j (k + 1) (wv1 q (51 * h + 2 * k) (f q.2.1 k) g)
noncomputable def snF (h : Nat) (g : Int32) : Nat → Bool × M3 → Bool × M3
  | 0, q => q
  | k + 1, q => snF h g k (wr1 q (51 * h + 15 + (k + 1)) (due q.2.1 h (k + 1) g))
theorem wr1_f (r : M3) (p : Nat) (w : Int32) : wr1 (false, r) p w = (false, r) := rfl
theorem wv1_f (r : M3) (p : Nat) (v : Int64) (g : Int32) : wv1 (false, r) p v g = (false, r) := rfl
theorem clM_f (h : Nat) (r : M3) : ∀ (j k : Nat), clM h j k (false, r) = (false, r) := by
  intro j
  induction j with
  | zero => intro k; rfl
  | succ j ih => intro k; exact ih (k + 1)
theorem ssF_f (f : (Nat → Int32) → Nat → Int64) (h : Nat) (g : Int32) (r : M3) : ∀ (j k : Nat), ssF f h g j k (false, r) = (false, r) := by
  intro j
  induction j with
  | zero => intro k; rfl
  | succ j ih => intro k; exact ih (k + 1)
theorem snF_f (h : Nat) (g : Int32) (r : M3) : ∀ (k : Nat), snF h g k (false, r) = (false, r) := by
  intro k
  induction k with
  | zero => rfl
  | succ k ih => exact ih
theorem wr1_0 {d : Nat → Int32} {sl sm : Int32} {p : Nat} {w : Int32} (h : sl = 0) : wr1 (true, (d, sl, sm)) p w = (false, (d, -1, sm)) := by
  show (if sl = 0 then (false, (d, (-1 : Int32), sm)) else (true, (upd d p w, dec1 sl, sm + 1))) = _
  rw [if_pos h]
theorem wr1_1 {d : Nat → Int32} {sl sm : Int32} {p : Nat} {w : Int32} (h : ¬ sl = 0) : wr1 (true, (d, sl, sm)) p w = (true, (upd d p w, dec1 sl, sm + 1)) := by
  show (if sl = 0 then (false, (d, (-1 : Int32), sm)) else (true, (upd d p w, dec1 sl, sm + 1))) = _
  rw [if_neg h]
/-- the object's state -/
abbrev XS : Type := (Nat → Int32) × Nat × Int32 × Int32 × Int32 × Int32 × Int32 × Bool × Nat × (Nat → Int32) × (Nat → Int64) × Int32
/-- what a method of steps answers (1 or 0), and the state behind it; cut: the power is off, the list is forgotten -/
noncomputable def sPost (q : Bool × M3) (hf : Nat) (gn rt ct : Int32) (pw : Bool) (ln : Nat) (lq : Nat → Int32) (vq : Nat → Int64) (ch : Int32) (r : Int32) (u : XS) : Prop :=
  ∃ (d1 : Nat → Int32) (sl1 sm1 : Int32), (q = (true, (d1, sl1, sm1)) ∧ r = 1 ∧ u = (d1, hf, gn, rt, ct, sl1, sm1, pw, ln, lq, vq, ch)) ∨ (q = (false, (d1, sl1, sm1)) ∧ r = 0 ∧ u = (d1, hf, gn, rt, ct, sl1, sm1, false, 0, lq, vq, 0))
/-- the class's world: the object, the disk, the list's two arrays -/
abbrev Xw (h0 qd qs qv : Nat) (cI cJ : ClassId) (u : XS) : va_W :=
  match u with
  | (dk, hf, gn, rt, ct, sl, sm, pw, ln, lq, vq, ch) =>
    [(h0, .inr (0, [.ref qd, .int (nI hf), .int gn, .int rt, .int ct, .int sl, .int sm, .int (bI pw), .int (nI ln), .ref qs, .ref qv, .int ch])),
     (qd, .inl (cI, (102, .inl dk))), (qs, .inl (cI, (5, .inl lq))), (qv, .inl (cJ, (5, .inr (.inl vq))))]
theorem z_np (h k : Nat) : nI (51 * h + 16 + k) - nI 1 = nI (51 * h + 15 + k) := by
  rw [pk_sub (by omega), show 51 * h + 16 + k - 1 = 51 * h + 15 + k by omega]
theorem z_dm (i : Nat) : nI i + Int32.ofInt (-1) = nI i - 1 := by
  rw [Int32.sub_eq_add_neg]; rfl
/-- a record's four steps, with the mark that is due behind the first three -/
noncomputable def srC (q : Bool × M3) (p : Nat) (e0 : Int32) (v : Int64) (g ch : Int32) : Bool × M3 :=
  wr1 (wv1 (wr1 q p e0) (p + 1) v g) (p + 3) (chn ch (wv1 (wr1 q p e0) (p + 1) v g).2.1 p ||| 1)
/-- the steps of a checkpoint but for the last -/
noncomputable def cpC (q : Bool × M3) (f : (Nat → Int32) → Nat → Int64) (h : Nat) (g : Int32) : Bool × M3 := snF h g 15 (ssF f h g 8 0 (clM h 5 0 q))
/-- a checkpoint -/
noncomputable def mvF (u : XS) : Int32 × XS :=
  match u with
  | (dk, hf, gn, rt, ct, sl, sm, pw, ln, lq, vq, ch) =>
    if sndF (vof dk hf gn rt ln lq vq) 8 0 0 = 255 then
      match st1 (cpC (true, (dk, sl, sm)) (fun d k => vof d hf gn rt ln lq vq k) (1 - hf) (gn + 1)) with
      | (true, (d1, sl1, sm1)) => (gn + 1, (d1, 1 - hf, gn + 1, d1 (51 * (1 - hf) + 15 + 1), 0, sl1, sm1, pw, 0, lq, vq, dg (dg 19088743 (d1 (51 * (1 - hf) + 15 + 1))) (gn + 1)))
      | (false, (d1, sl1, sm1)) => (-4, (d1, hf, gn, rt, ct, sl1, sm1, false, 0, lq, vq, 0))
    else (-3, u)
/-- a record behind the list -/
noncomputable def srF (u : XS) (x : Int32) (v : Int64) : Int32 × XS :=
  match u with
  | (dk, hf, gn, rt, ct, sl, sm, pw, ln, lq, vq, ch) =>
    match srC (true, (dk, sl, sm)) (51 * hf + 31 + 4 * ln) (enc x (nI (51 * hf + 31 + 4 * ln)) gn) v gn ch with
    | (true, (d1, sl1, sm1)) => (nI (ln + 1), (d1, hf, gn, rt, ct, sl1, sm1, pw, ln + 1, upd lq ln x, vp_updL vq ln v, chn ch (wv1 (wr1 (true, (dk, sl, sm)) (51 * hf + 31 + 4 * ln) (enc x (nI (51 * hf + 31 + 4 * ln)) gn)) (51 * hf + 31 + 4 * ln + 1) v gn).2.1 (51 * hf + 31 + 4 * ln)))
    | (false, (d1, sl1, sm1)) => (-4, (d1, hf, gn, rt, ct, sl1, sm1, false, 0, lq, vq, 0))
noncomputable def wrF (u : XS) (x : Int32) (v : Int64) : Int32 × XS :=
  if u.2.2.2.2.2.2.2.1 = true then
    if isIn 8 x = 0 then (-2, u)
    else if 0 ≤ lg_cmp v 0 then
      if u.2.2.2.2.2.2.2.2.1 < 5 then srF u x v
      else if 0 ≤ (mvF u).1 then srF (mvF u).2 x v else mvF u
    else (-2, u)
  else (-1, u)
theorem isIn_of {N x : Int32} {n : Nat} (h : ¬ isIn N x = 0) (hN : N = nI n) (hn : n < 2 ^ 31) : ∃ j : Nat, j < n ∧ x = nI j := by
  unfold isIn at h
  by_cases h1 : x < 0
  · exact absurd (if_pos h1) h
  · rw [if_neg h1] at h
    by_cases h2 : N ≤ x
    · exact absurd (if_pos h2) h
    · subst hN
      rcases pk_ix x hn with h3 | h3 | h3
      · exact absurd h3 h1
      · exact absurd h3 h2
      · exact h3
theorem z_out4 {x : Int32} (h0 : ¬ x = 0) (h1 : ¬ x = 1) (h2 : ¬ x = 2) (h3 : ¬ x = 3) : x.toInt < 0 ∨ 3 < x.toInt := by
  have g0 := lv_neT (a := 0) h0 (by decide)
  have g1 := lv_neT (a := 1) h1 (by decide)
  have g2 := lv_neT (a := 2) h2 (by decide)
  have g3 := lv_neT (a := 3) h3 (by decide)
  omega
/-- the disk of a new object -/
noncomputable def ini1 : Nat → Nat → (Nat → Int32) → (Nat → Int32)
  | 0, _, d => d
  | j + 1, k, d => ini1 j (k + 1) (upd d k (enc 0 (nI k) 1))
noncomputable def ini2 : Nat → (Nat → Int32) → (Nat → Int32)
  | 0, d => d
  | k + 1, d => ini2 k (upd d (51 * 0 + 15 + (k + 1)) (due d 0 (k + 1) 1))
noncomputable def iniD : Nat → Int32 := ini2 15 (ini1 16 0 (fun _ => 0))
noncomputable def iniX : XS := (iniD, 0, 1, iniD (51 * 0 + 15 + 1), 0, -1, 0, false, 0, fun _ => 0, fun _ => 0, 0)
theorem z_nn {x : Int32} (h : ¬ x < 0) : 0 ≤ x := by
  rw [Int32.le_iff_toInt_le]; rw [Int32.lt_iff_toInt_lt] at h; omega
theorem z_nn2 {x : Int32} (h : x < 0) (q : 0 ≤ x) : False := by
  rw [Int32.le_iff_toInt_le] at q; rw [Int32.lt_iff_toInt_lt] at h; omega
theorem z_nn3 {x : Int32} (h : ¬ 0 ≤ x) : x < 0 := by
  rw [Int32.lt_iff_toInt_lt]; rw [Int32.le_iff_toInt_le] at h; omega
theorem z_nn4 {x : Int32} (h : 0 ≤ x) : ¬ x < 0 := fun q => z_nn2 q h
theorem z_le0 {x : Int32} (h : x ≤ 0) : ¬ 0 < x := by
  rw [Int32.lt_iff_toInt_lt]; rw [Int32.le_iff_toInt_le] at h; omega
theorem z_nle0 {x : Int32} (h : ¬ x ≤ 0) : 0 < x := by
  rw [Int32.lt_iff_toInt_lt]; rw [Int32.le_iff_toInt_le] at h; omega
theorem st1_0 {d : Nat → Int32} {sl sm : Int32} (h : sl = 0) : st1 (true, (d, sl, sm)) = (false, (d, -1, sm)) := by
  show (if sl = 0 then (false, (d, (-1 : Int32), sm)) else (true, (d, dec1 sl, sm + 1))) = _
  rw [if_pos h]
theorem st1_1 {d : Nat → Int32} {sl sm : Int32} (h : ¬ sl = 0) : st1 (true, (d, sl, sm)) = (true, (d, dec1 sl, sm + 1)) := by
  show (if sl = 0 then (false, (d, (-1 : Int32), sm)) else (true, (d, dec1 sl, sm + 1))) = _
  rw [if_neg h]
theorem mvF_no {dk : Nat → Int32} {hf : Nat} {gn rt ct sl sm : Int32} {pw : Bool} {ln : Nat} {lq : Nat → Int32} {vq : Nat → Int64} {ch : Int32} (h : ¬ sndF (vof dk hf gn rt ln lq vq) 8 0 0 = 255) : mvF (dk, hf, gn, rt, ct, sl, sm, pw, ln, lq, vq, ch) = (-3, (dk, hf, gn, rt, ct, sl, sm, pw, ln, lq, vq, ch)) := if_neg h
theorem mvF_ok {dk : Nat → Int32} {hf : Nat} {gn rt ct sl sm : Int32} {pw : Bool} {ln : Nat} {lq : Nat → Int32} {vq : Nat → Int64} {ch : Int32} (h : sndF (vof dk hf gn rt ln lq vq) 8 0 0 = 255) {d1 : Nat → Int32} {sl1 sm1 : Int32} (hc : st1 (cpC (true, (dk, sl, sm)) (fun d k => vof d hf gn rt ln lq vq k) (1 - hf) (gn + 1)) = (true, (d1, sl1, sm1))) : mvF (dk, hf, gn, rt, ct, sl, sm, pw, ln, lq, vq, ch) = (gn + 1, (d1, 1 - hf, gn + 1, d1 (51 * (1 - hf) + 15 + 1), 0, sl1, sm1, pw, 0, lq, vq, dg (dg 19088743 (d1 (51 * (1 - hf) + 15 + 1))) (gn + 1))) := by
  refine (if_pos h).trans ?_
  rw [hc]
theorem mvF_cut {dk : Nat → Int32} {hf : Nat} {gn rt ct sl sm : Int32} {pw : Bool} {ln : Nat} {lq : Nat → Int32} {vq : Nat → Int64} {ch : Int32} (h : sndF (vof dk hf gn rt ln lq vq) 8 0 0 = 255) {d1 : Nat → Int32} {sl1 sm1 : Int32} (hc : st1 (cpC (true, (dk, sl, sm)) (fun d k => vof d hf gn rt ln lq vq k) (1 - hf) (gn + 1)) = (false, (d1, sl1, sm1))) : mvF (dk, hf, gn, rt, ct, sl, sm, pw, ln, lq, vq, ch) = (-4, (d1, hf, gn, rt, ct, sl1, sm1, false, 0, lq, vq, 0)) := by
  refine (if_pos h).trans ?_
  rw [hc]
