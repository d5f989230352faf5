/-! The two states side by side: pure rows. -/
theorem z_sg64 (x : Int64) : x < 0 ↔ x.toBitVec.getLsbD 63 = true := by
  have h1 : x.toBitVec.msb = decide (x.toBitVec.toInt < 0) := BitVec.msb_eq_toInt
  have h2 : x.toBitVec.msb = x.toBitVec.getLsbD 63 := BitVec.msb_eq_getLsbD_last x.toBitVec
  rw [← h2, h1, Int64.lt_iff_toInt_lt]
  constructor
  · intro h; exact decide_eq_true h
  · intro h; exact of_decide_eq_true h
theorem z_sg32 (x : Int32) : x < 0 ↔ x.toBitVec.getLsbD 31 = true := by
  have h1 : x.toBitVec.msb = decide (x.toBitVec.toInt < 0) := BitVec.msb_eq_toInt
  have h2 : x.toBitVec.msb = x.toBitVec.getLsbD 31 := BitVec.msb_eq_getLsbD_last x.toBitVec
  rw [← h2, h1, Int32.lt_iff_toInt_lt]
  constructor
  · intro h; exact decide_eq_true h
  · intro h; exact of_decide_eq_true h
theorem z_join (a b : Int32) : joinW a b < 0 ↔ a < 0 := by
  rw [z_sg64, z_sg32]
  have e : (joinW a b).toBitVec.getLsbD 63 = a.toBitVec.getLsbD 31 := by
    show ((a.toBitVec.signExtend 64 <<< (((32 : Int32).toInt64 &&& 63).toBitVec.smod 64)) ||| (b.toBitVec.signExtend 64 &&& (4294967295 : Int64).toBitVec)).getLsbD 63 = _
    rw [show (((32 : Int32).toInt64 &&& 63).toBitVec.smod 64) = 32#64 by decide, BitVec.getLsbD_or, BitVec.getLsbD_and, show (4294967295 : Int64).toBitVec.getLsbD 63 = false by decide, Bool.and_false, Bool.or_false]
    show (a.toBitVec.signExtend 64 <<< (32#64).toNat).getLsbD 63 = _
    rw [show (32#64).toNat = 32 by decide, BitVec.getLsbD_shiftLeft, BitVec.getLsbD_signExtend]
    simp
  rw [e]
theorem lkp_c {ls ls2 : Nat → Int32} {lv lv2 : Nat → Int64} (s : Int32) : ∀ n, (∀ i, i < n → ls2 i = ls i ∧ lv2 i = lv i) → lkp ls2 lv2 s n = lkp ls lv s n := by
  intro n
  induction n with
  | zero => intro _; rfl
  | succ n ih =>
    intro h
    unfold lkp
    rw [(h n (by omega)).1, (h n (by omega)).2, ih (fun i hi => h i (by omega))]
theorem lkp_m {ls : Nat → Int32} {lv : Nat → Int64} {s : Int32} {v : Int64} : ∀ n, lkp ls lv s n = some v → ∃ i, i < n ∧ v = lv i := by
  intro n
  induction n with
  | zero => intro h; exact absurd h (by simp [lkp])
  | succ n ih =>
    intro h
    unfold lkp at h
    split at h
    · exact ⟨n, by omega, (Option.some.inj h).symm⟩
    · obtain ⟨i, hi, e⟩ := ih h
      exact ⟨i, by omega, e⟩
theorem vv (d : Nat → Int32) (h : Nat) (g rt : Int32) (n : Nat) (lq lq2 : Nat → Int32) (vq vq2 : Nat → Int64) (s : Nat) (hl : ∀ i, i < n → lq2 i = lq i ∧ vq2 i = vq i ∧ ¬ lg_cmp (vq i) 0 < 0) :
    (lg_cmp (vof d h g rt n lq vq s) 0 < 0 ∧ lg_cmp (vofM d h g rt n lq2 vq2 s) 0 < 0 ∧ vof d h g rt n lq vq s = -3) ∨ (¬ lg_cmp (vof d h g rt n lq vq s) 0 < 0 ∧ vofM d h g rt n lq2 vq2 s = vof d h g rt n lq vq s) := by
  unfold vof vofM
  rw [lkp_c (nI s) n (fun i hi => ⟨(hl i hi).1, (hl i hi).2.1⟩)]
  cases hk : lkp lq vq (nI s) n with
  | some v =>
    obtain ⟨i, hi, e⟩ := lkp_m n hk
    subst e
    exact Or.inr ⟨(hl i hi).2.2, rfl⟩
  | none =>
    show (lg_cmp (vlook d h g rt s) 0 < 0 ∧ lg_cmp (vlkM d h g rt s) 0 < 0 ∧ vlook d h g rt s = -3) ∨ (¬ lg_cmp (vlook d h g rt s) 0 < 0 ∧ vlkM d h g rt s = vlook d h g rt s)
    by_cases h1 : rabove d h g s = rt
    · by_cases h2 : enc (d (51 * h + 2 * s)) (nI (51 * h + 2 * s)) g < 0
      · have h3 : lg_cmp (vat d g (51 * h + 2 * s)) 0 < 0 := by rw [lg_cmp_lt]; exact (z_join _ _).mpr h2
        have e1 : vlook d h g rt s = -3 := by unfold vlook; rw [if_pos h1, if_neg (fun q => z_nn2 h3 q)]
        have e2 : vlkM d h g rt s = -1 := by unfold vlkM; rw [if_pos h1, if_pos h2]
        rw [e1, e2]
        exact Or.inl ⟨by decide, by decide, rfl⟩
      · have h3 : ¬ lg_cmp (vat d g (51 * h + 2 * s)) 0 < 0 := by rw [lg_cmp_lt]; exact fun q => h2 ((z_join _ _).mp q)
        have e1 : vlook d h g rt s = vat d g (51 * h + 2 * s) := by unfold vlook; rw [if_pos h1, if_pos (z_nn h3)]
        have e2 : vlkM d h g rt s = vat d g (51 * h + 2 * s) := by unfold vlkM; rw [if_pos h1, if_neg h2]
        rw [e1, e2]
        exact Or.inr ⟨h3, rfl⟩
    · have e1 : vlook d h g rt s = -3 := by unfold vlook; rw [if_neg h1]
      have e2 : vlkM d h g rt s = -1 := by unfold vlkM; rw [if_neg h1]
      rw [e1, e2]
      exact Or.inl ⟨by decide, by decide, rfl⟩
theorem sg_iff {a b : Int64} (h : (lg_cmp a 0 < 0 ∧ lg_cmp b 0 < 0 ∧ a = -3) ∨ (¬ lg_cmp a 0 < 0 ∧ b = a)) : lg_cmp a 0 < 0 ↔ lg_cmp b 0 < 0 := by
  rcases h with h | h
  · exact ⟨fun _ => h.2.1, fun _ => h.1⟩
  · rw [h.2]
theorem snd_sh : ∀ k, k < 8 → (1 : Int32) <<< (nI k &&& 31) = nI (2 ^ k) := by decide
theorem snd_or : ∀ k, k < 8 → ∀ a, a < 2 ^ k → nI a ||| nI (2 ^ k) = nI (a + 2 ^ k) := by decide +kernel
theorem snd_eq (f g : Nat → Int64) (h : ∀ k, k < 8 → (lg_cmp (f k) 0 < 0 ↔ lg_cmp (g k) 0 < 0)) : ∀ j k a, k + j = 8 → a < 2 ^ k → sndF f j k (nI a) = sndM g j k (nI a) := by
  intro j
  induction j with
  | zero => intro k a _ _; rfl
  | succ j ih =>
    intro k a hk ha
    have hp : 2 ^ (k + 1) = 2 ^ k * 2 := Nat.pow_succ ..
    unfold sndF sndM
    by_cases h1 : lg_cmp (f k) 0 < 0
    · rw [if_pos h1, if_pos ((h k (by omega)).mp h1)]
      exact ih (k + 1) a (by omega) (by omega)
    · rw [if_neg h1, if_neg (fun q => h1 ((h k (by omega)).mpr q)), snd_sh k (by omega), snd_or k (by omega) a ha, nI_add]
      exact ih (k + 1) (a + 2 ^ k) (by omega) (by omega)
theorem snd_255 (f : Nat → Int64) : ∀ j k a, k + j = 8 → a < 2 ^ k → (sndF f j k (nI a) = 255 ↔ (a = 2 ^ k - 1 ∧ ∀ i, k ≤ i → i < 8 → ¬ lg_cmp (f i) 0 < 0)) := by
  intro j
  induction j with
  | zero =>
    intro k a hk ha
    have h8 : k = 8 := by omega
    subst h8
    have e : sndF f 0 8 (nI a) = nI a := rfl
    rw [e]
    constructor
    · intro q
      have := (nI_eq (a := a) (b := 255) (by omega) (by decide)).mp q
      exact ⟨by omega, fun i h1 h2 => by omega⟩
    · intro q
      have : a = 255 := by omega
      subst this; rfl
  | succ j ih =>
    intro k a hk ha
    have hp : 2 ^ (k + 1) = 2 ^ k * 2 := Nat.pow_succ ..
    have hp0 : 0 < 2 ^ k := Nat.two_pow_pos k
    unfold sndF
    by_cases h1 : lg_cmp (f k) 0 < 0
    · rw [if_pos h1, ih (k + 1) a (by omega) (by omega)]
      constructor
      · intro q; omega
      · intro q; exact absurd h1 (q.2 k (by omega) (by omega))
    · rw [if_neg h1, snd_sh k (by omega), nI_add, ih (k + 1) (a + 2 ^ k) (by omega) (by omega)]
      constructor
      · intro q
        refine ⟨by omega, fun i h2 h3 => ?_⟩
        by_cases e : i = k
        · subst e; exact h1
        · exact q.2 i (by omega) h3
      · intro q
        exact ⟨by omega, fun i h2 h3 => q.2 i (by omega) h3⟩
theorem alB_iff (g : Nat → Int64) : ∀ j k b, (alB g j k b = true ↔ (b = true ∧ ∀ i, k ≤ i → i < k + j → ¬ lg_cmp (g i) 0 < 0)) := by
  intro j
  induction j with
  | zero => intro k b; exact ⟨fun q => ⟨q, fun i h1 h2 => by omega⟩, fun q => q.1⟩
  | succ j ih =>
    intro k b
    unfold alB
    rw [ih (k + 1)]
    constructor
    · intro q
      have q1 : b = true ∧ ¬ lg_cmp (g k) 0 < 0 := by simpa using q.1
      refine ⟨q1.1, fun i h2 h3 => ?_⟩
      by_cases e : i = k
      · subst e; exact q1.2
      · exact q.2 i (by omega) (by omega)
    · intro q
      refine ⟨by simp [q.1, q.2 k (by omega) (by omega)], fun i h2 h3 => q.2 i (by omega) (by omega)⟩
theorem all_iff (f g : Nat → Int64) (h : ∀ k, k < 8 → (lg_cmp (f k) 0 < 0 ↔ lg_cmp (g k) 0 < 0)) : sndF f 8 0 0 = 255 ↔ alB g 8 0 true = true := by
  rw [alB_iff]
  have e := snd_255 f 8 0 0 rfl (by decide)
  have e0 : sndF f 8 0 (nI 0) = sndF f 8 0 0 := rfl
  rw [← e0, e]
  constructor
  · intro q; exact ⟨rfl, fun i h1 h2 q2 => q.2 i h1 (by omega) ((h i (by omega)).mpr q2)⟩
  · intro q; exact ⟨rfl, fun i h1 h2 q2 => q.2 i h1 (by omega) ((h i h2).mp q2)⟩
/-- the journal -/
theorem tj_g (d : Nat → Int32) (h : Nat) (g x0 : Int32) (n1 : Nat) (lq1 : Nat → Int32) (vq1 : Nat → Int64) (ch1 : Int32) : ∀ (j k : Nat) (lq : Nat → Int32) (vq : Nat → Int64), tj d h g j k lq vq (chM d h k 0 x0) = (n1, lq1, vq1, ch1) →
    gct d h g x0 j k = n1 ∧ ch1 = chM d h n1 0 x0 ∧ (∀ i, i < k → lq1 i = lq i ∧ vq1 i = vq i) ∧
    (∀ i, k ≤ i → i < n1 → lq1 i = enc (d (51 * h + 31 + 4 * i)) (nI (51 * h + 31 + 4 * i)) g ∧ vq1 i = vat d g (51 * h + 31 + 4 * i + 1) ∧ ¬ lg_cmp (vat d g (51 * h + 31 + 4 * i + 1)) 0 < 0) := by
  intro j
  induction j with
  | zero =>
    intro k lq vq e
    unfold tj at e
    cases e
    exact ⟨rfl, rfl, fun i _ => ⟨rfl, rfl⟩, fun i h1 h2 => absurd h2 (by omega)⟩
  | succ j ih =>
    intro k lq vq e
    unfold tj at e
    unfold gct
    by_cases hg : jgood d h g (chM d h k 0 x0) k
    · rw [if_pos hg] at e
      rw [if_pos hg]
      rw [← chM_s] at e
      obtain ⟨a1, a2, a3, a4⟩ := ih (k + 1) _ _ e
      refine ⟨a1, a2, fun i hi => ?_, fun i h1 h2 => ?_⟩
      · have q := a3 i (by omega)
        rw [pk_un (by omega), pk_uLn (by omega)] at q
        exact q
      · by_cases ei : i = k
        · subst ei
          have q := a3 i (by omega)
          rw [pk_us, pk_uLs] at q
          exact ⟨q.1, q.2, z_nn4 hg.2.2⟩
        · exact a4 i (by omega) h2
    · rw [if_neg hg] at e
      rw [if_neg hg]
      cases e
      exact ⟨rfl, rfl, fun i _ => ⟨rfl, rfl⟩, fun i h1 h2 => absurd h2 (by omega)⟩
/-- what a sector has, on two disks that agree on its half -/
abbrev Agr (h : Nat) (d d0 : Nat → Int32) : Prop := ∀ i, 51 * h ≤ i → i < 51 * h + 51 → d i = d0 i
theorem rup_c {h : Nat} {d d0 : Nat → Int32} (ha : Agr h d d0) : ∀ (f k : Nat) (x : Int32), k < 16 → rup d h f k x = rup d0 h f k x := by
  intro f
  induction f with
  | zero => intro k x _; rfl
  | succ f ih =>
    intro k x hk
    have hx1 : k ^^^ 1 < 16 := Nat.xor_lt_two_pow (n := 4) hk (by decide)
    unfold rup
    rw [ha (51 * h + 15 + (k ^^^ 1)) (by omega) (by omega), ih (k / 2) _ (by omega)]
theorem vof_c {h : Nat} {d d0 : Nat → Int32} (ha : Agr h d d0) (g rt : Int32) (n : Nat) (lq : Nat → Int32) (vq : Nat → Int64) {s : Nat} (hs : s < 8) : vof d h g rt n lq vq s = vof d0 h g rt n lq vq s := by
  have e1 : rabove d h g s = rabove d0 h g s := by
    unfold rabove
    rw [rup_c ha _ _ _ (by omega), due_leaf, due_leaf, ha (51 * h + 2 * s) (by omega) (by omega), ha (51 * h + 2 * s + 1) (by omega) (by omega)]
  have e2 : vat d g (51 * h + 2 * s) = vat d0 g (51 * h + 2 * s) := by
    unfold vat
    rw [ha (51 * h + 2 * s) (by omega) (by omega), ha (51 * h + 2 * s + 1) (by omega) (by omega)]
  unfold vof vlook
  rw [e1, e2]
theorem wr1_d {q : Bool × M3} {p : Nat} {w : Int32} (h : (wr1 q p w).1 = true) : q.1 = true ∧ (wr1 q p w).2.1 = upd q.2.1 p w := by
  obtain ⟨_ | _, d0, sl0, sm0⟩ := q
  · exact absurd h (by simp [wr1])
  · by_cases h0 : sl0 = 0
    · rw [wr1_0 h0] at h; exact absurd h (by simp)
    · rw [wr1_1 h0]; exact ⟨rfl, rfl⟩
theorem Ag_wr {h : Nat} {d0 : Nat → Int32} {q : Bool × M3} (hq : q.1 = true → Agr h q.2.1 d0) {p : Nat} (hp : p < 51 * h ∨ 51 * h + 51 ≤ p) (w : Int32) : (wr1 q p w).1 = true → Agr h (wr1 q p w).2.1 d0 := by
  intro ht i h1 h2
  obtain ⟨a, b⟩ := wr1_d ht
  rw [b, pk_un (by omega)]
  exact hq a i h1 h2
theorem Ag_cl {h o : Nat} (ho : o = 1 - h) (hh : h < 2) {d0 : Nat → Int32} : ∀ (j k : Nat) (q : Bool × M3), k + j = 5 → (q.1 = true → Agr h q.2.1 d0) → ((clM o j k q).1 = true → Agr h (clM o j k q).2.1 d0) := by
  intro j
  induction j with
  | zero => intro k q _ hq; exact hq
  | succ j ih =>
    intro k q hk hq
    exact ih (k + 1) _ (by omega) (Ag_wr (p := 51 * o + 31 + 4 * k + 3) hq (by rcases (show h = 0 ∨ h = 1 by omega) with e | e <;> subst e <;> omega) 0)
theorem Ag_wv {h : Nat} {d0 : Nat → Int32} {q : Bool × M3} (hq : q.1 = true → Agr h q.2.1 d0) {p : Nat} (hp : p + 1 < 51 * h ∨ 51 * h + 51 ≤ p) (v : Int64) (g : Int32) : (wv1 q p v g).1 = true → Agr h (wv1 q p v g).2.1 d0 := by
  unfold wv1
  exact Ag_wr (Ag_wr hq (by omega) _) (by omega) _
theorem ssF_e {h o : Nat} (ho : o = 1 - h) (hh : h < 2) {d0 : Nat → Int32} {f : (Nat → Int32) → Nat → Int64} {f' : Nat → Int64} (g : Int32) (hf : ∀ d k, Agr h d d0 → k < 8 → f d k = f' k) : ∀ (j k : Nat) (q : Bool × M3), k + j = 8 → (q.1 = true → Agr h q.2.1 d0) → ssF f o g j k q = ssF (fun _ k => f' k) o g j k q := by
  intro j
  induction j with
  | zero => intro k q _ _; rfl
  | succ j ih =>
    intro k q hk hq
    unfold ssF
    have e : wv1 q (51 * o + 2 * k) (f q.2.1 k) g = wv1 q (51 * o + 2 * k) (f' k) g := by
      obtain ⟨_ | _, d, sl, sm⟩ := q
      · rw [wv1_f, wv1_f]
      · rw [hf d k (hq rfl) (by omega)]
    rw [e]
    exact ih (k + 1) _ (by omega) (Ag_wv (p := 51 * o + 2 * k) hq (by rcases (show h = 0 ∨ h = 1 by omega) with e | e <;> subst e <;> omega) _ _)
/-- the nodes of a half by its sectors' words -/
abbrev Nds (d : Nat → Int32) (h : Nat) (g : Int32) (nd : Nat → Int32) : Prop :=
  (∀ s, s < 8 → nd (8 + s) = dg (dg (8 * g + nI s) (d (51 * h + 2 * s))) (d (51 * h + 2 * s + 1))) ∧ (∀ i, 1 ≤ i → i ≤ 7 → nd i = dg (nd (2 * i)) (nd (2 * i + 1)))
theorem ndA_v (d : Nat → Int32) (h : Nat) (g : Int32) : ∀ (j k : Nat) (n : Nat → Int32), k + j = 8 → (∀ s, s < k → n (8 + s) = dg (dg (8 * g + nI s) (d (51 * h + 2 * s))) (d (51 * h + 2 * s + 1))) → ∀ s, s < 8 → ndA d h g j k n (8 + s) = dg (dg (8 * g + nI s) (d (51 * h + 2 * s))) (d (51 * h + 2 * s + 1)) := by
  intro j
  induction j with
  | zero => intro k n hk hn s hs; exact hn s (by omega)
  | succ j ih =>
    intro k n hk hn
    refine ih (k + 1) _ (by omega) (fun s hs => ?_)
    by_cases e : s = k
    · subst e; rw [pk_us]
    · rw [pk_un (by omega)]; exact hn s (by omega)
theorem ndB_hi : ∀ (k : Nat) (n : Nat → Int32) (i : Nat), k < i → ndB k n i = n i := by
  intro k
  induction k with
  | zero => intro n i _; rfl
  | succ k ih =>
    intro n i hi
    unfold ndB
    rw [ih _ i (by omega), pk_un (by omega)]
theorem ndB_v : ∀ (k : Nat) (n : Nat → Int32) (i : Nat), 1 ≤ i → i ≤ k → ndB k n i = dg (ndB k n (2 * i)) (ndB k n (2 * i + 1)) := by
  intro k
  induction k with
  | zero => intro n i h1 h2; omega
  | succ k ih =>
    intro n i h1 h2
    unfold ndB
    by_cases e : i = k + 1
    · subst e
      rw [ndB_hi k _ (k + 1) (by omega), ndB_hi k _ (2 * (k + 1)) (by omega), ndB_hi k _ (2 * (k + 1) + 1) (by omega), pk_us, pk_un (by omega), pk_un (by omega)]
    · exact ih _ i h1 (by omega)
theorem nds_ok (d : Nat → Int32) (h : Nat) (g : Int32) (n : Nat → Int32) : Nds d h g (ndB 7 (ndA d h g 8 0 n)) := by
  refine ⟨fun s hs => ?_, fun i h1 h2 => ndB_v 7 _ i h1 h2⟩
  rw [ndB_hi 7 _ (8 + s) (by omega)]
  exact ndA_v d h g 8 0 n rfl (fun s hs => by omega) s hs
theorem due_nd {d d2 nd : Nat → Int32} {h : Nat} {g : Int32} (hn : Nds d2 h g nd) {k : Nat} (h1 : 1 ≤ k) (h2 : k ≤ 15) (hs : ∀ i, i < 16 → d (51 * h + i) = d2 (51 * h + i)) (hk : ∀ i, k < i → i ≤ 15 → d (51 * h + 15 + i) = nd i) : due d h k g = nd k := by
  by_cases h8 : 8 ≤ k
  · obtain ⟨s, rfl⟩ : ∃ s, k = 8 + s := ⟨k - 8, by omega⟩
    rw [due_leaf, hs (2 * s) (by omega), show 51 * h + 2 * s + 1 = 51 * h + (2 * s + 1) by omega, hs (2 * s + 1) (by omega), hn.1 s (by omega)]
    rfl
  · unfold due
    rw [if_neg h8, hk (2 * k) (by omega) (by omega), hk (2 * k + 1) (by omega) (by omega), ← hn.2 k h1 (by omega)]
theorem snF_e {d2 nd : Nat → Int32} {h : Nat} {g : Int32} (hn : Nds d2 h g nd) : ∀ (k : Nat) (q : Bool × M3), k ≤ 15 → (q.1 = true → (∀ i, i < 16 → q.2.1 (51 * h + i) = d2 (51 * h + i)) ∧ (∀ i, k < i → i ≤ 15 → q.2.1 (51 * h + 15 + i) = nd i)) →
    snF h g k q = msn nd h k q ∧ ((snF h g k q).1 = true → ∀ i, 1 ≤ i → i ≤ 15 → (snF h g k q).2.1 (51 * h + 15 + i) = nd i) := by
  intro k
  induction k with
  | zero => intro q _ hq; exact ⟨rfl, fun ht i h1 h2 => (hq ht).2 i (by omega) h2⟩
  | succ k ih =>
    intro q hk hq
    unfold snF msn
    have e : wr1 q (51 * h + 15 + (k + 1)) (due q.2.1 h (k + 1) g) = wr1 q (51 * h + 15 + (k + 1)) (nd (k + 1)) := by
      obtain ⟨_ | _, d, sl, sm⟩ := q
      · rw [wr1_f, wr1_f]
      · have hq' := hq rfl
        rw [due_nd hn (by omega) hk hq'.1 hq'.2]
    rw [e]
    refine ih _ (by omega) (fun ht => ?_)
    obtain ⟨a, b⟩ := wr1_d ht
    have hq' := hq a
    rw [b]
    refine ⟨fun i hi => ?_, fun i h1 h2 => ?_⟩
    · rw [pk_un (by omega)]; exact hq'.1 i hi
    · by_cases ei : i = k + 1
      · subst ei; rw [pk_us]
      · rw [pk_un (by omega)]; exact hq'.2 i (by omega) h2
/-- a record -/
theorem sr_e (q : Bool × M3) (p : Nat) (x : Int32) (v : Int64) (g ch : Int32) : srC q p (enc x (nI p) g) v g ch = srM q p x v g ch ∧
    ((srC q p (enc x (nI p) g) v g ch).1 = true → chn ch (wv1 (wr1 q p (enc x (nI p) g)) (p + 1) v g).2.1 p = dg (dg (dg ch (enc x (nI p) g)) (enc (hiW v) (nI (p + 1)) g)) (enc (loW v) (nI (p + 2)) g)) := by
  have key : (wv1 (wr1 q p (enc x (nI p) g)) (p + 1) v g).1 = true → chn ch (wv1 (wr1 q p (enc x (nI p) g)) (p + 1) v g).2.1 p = dg (dg (dg ch (enc x (nI p) g)) (enc (hiW v) (nI (p + 1)) g)) (enc (loW v) (nI (p + 2)) g) := by
    intro ht
    unfold wv1 at ht ⊢
    obtain ⟨a1, b1⟩ := wr1_d ht
    obtain ⟨a2, b2⟩ := wr1_d a1
    obtain ⟨a3, b3⟩ := wr1_d a2
    unfold chn
    rw [b1, b2, b3]
    rw [pk_un (k := p + 1 + 1) (j := p) (by omega), pk_un (k := p + 1) (j := p) (by omega), pk_us, pk_un (k := p + 1 + 1) (j := p + 1) (by omega), pk_us, show p + 2 = p + 1 + 1 by omega, pk_us]
  refine ⟨?_, fun ht => key (wr1_d ht).1⟩
  unfold srC srM
  generalize hQ : wv1 (wr1 q p (enc x (nI p) g)) (p + 1) v g = Q at key ⊢
  have hQ2 : wr1 (wr1 (wr1 q p (enc x (nI p) g)) (p + 1) (enc (hiW v) (nI (p + 1)) g)) (p + 2) (enc (loW v) (nI (p + 2)) g) = Q := hQ
  rw [hQ2]
  obtain ⟨_ | _, d, sl, sm⟩ := Q
  · rw [wr1_f, wr1_f]
  · rw [key rfl]
