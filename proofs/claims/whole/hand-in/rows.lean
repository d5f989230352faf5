section
-- ===== PART A: goes FIRST, ahead of the names: the tables' words, and 'selects' of the private methods out of them =====
/-- a private method of a class that the tables say can be made, by its rows of tables_1 -/
def lw_okq (q : MethodName × Nat) : Prop := (q.1.cls ≠ "java/lang/invoke/MethodHandle" ∧ q.1.cls ≠ "java/lang/invoke/VarHandle") ∧ Cond.instantiable q.1.cls q.2 ∈ tables_1 ∧ Cond.privateMethod q.1 ∈ tables_1 ∧ Cond.instanceMethod q.1 ∈ tables_1
theorem lw_p0 : lw_okq (⟨"SealedSectors", "dueNode", "(III)I"⟩, 12) := ⟨⟨by decide +kernel, by decide +kernel⟩, List.mem_of_getElem? (i := 4) (by decide +kernel), List.mem_of_getElem? (i := 24) (by decide +kernel), List.mem_of_getElem? (i := 25) (by decide +kernel)⟩
theorem lw_p1 : lw_okq (⟨"SealedSectors", "takeJournal", "()V"⟩, 12) := ⟨⟨by decide +kernel, by decide +kernel⟩, List.mem_of_getElem? (i := 4) (by decide +kernel), List.mem_of_getElem? (i := 74) (by decide +kernel), List.mem_of_getElem? (i := 75) (by decide +kernel)⟩
theorem lw_p2 : lw_okq (⟨"SealedSectors", "beginList", "()V"⟩, 12) := ⟨⟨by decide +kernel, by decide +kernel⟩, List.mem_of_getElem? (i := 4) (by decide +kernel), List.mem_of_getElem? (i := 78) (by decide +kernel), List.mem_of_getElem? (i := 79) (by decide +kernel)⟩
theorem lw_p3 : lw_okq (⟨"SealedSectors", "chainBehind", "(I)I"⟩, 12) := ⟨⟨by decide +kernel, by decide +kernel⟩, List.mem_of_getElem? (i := 4) (by decide +kernel), List.mem_of_getElem? (i := 85) (by decide +kernel), List.mem_of_getElem? (i := 86) (by decide +kernel)⟩
theorem lw_p4 : lw_okq (⟨"SealedSectors", "valueAt", "(I)J"⟩, 12) := ⟨⟨by decide +kernel, by decide +kernel⟩, List.mem_of_getElem? (i := 4) (by decide +kernel), List.mem_of_getElem? (i := 89) (by decide +kernel), List.mem_of_getElem? (i := 90) (by decide +kernel)⟩
theorem lw_p5 : lw_okq (⟨"SealedSectors", "addToList", "(IJ)V"⟩, 12) := ⟨⟨by decide +kernel, by decide +kernel⟩, List.mem_of_getElem? (i := 4) (by decide +kernel), List.mem_of_getElem? (i := 100) (by decide +kernel), List.mem_of_getElem? (i := 101) (by decide +kernel)⟩
theorem lw_p6 : lw_okq (⟨"SealedSectors", "forget", "()V"⟩, 12) := ⟨⟨by decide +kernel, by decide +kernel⟩, List.mem_of_getElem? (i := 4) (by decide +kernel), List.mem_of_getElem? (i := 104) (by decide +kernel), List.mem_of_getElem? (i := 105) (by decide +kernel)⟩
theorem lw_p7 : lw_okq (⟨"SealedSectors", "moveToOtherHalf", "()I"⟩, 12) := ⟨⟨by decide +kernel, by decide +kernel⟩, List.mem_of_getElem? (i := 4) (by decide +kernel), List.mem_of_getElem? (i := 120) (by decide +kernel), List.mem_of_getElem? (i := 121) (by decide +kernel)⟩
theorem lw_p8 : lw_okq (⟨"SealedSectors", "soundSectors", "()I"⟩, 12) := ⟨⟨by decide +kernel, by decide +kernel⟩, List.mem_of_getElem? (i := 4) (by decide +kernel), List.mem_of_getElem? (i := 124) (by decide +kernel), List.mem_of_getElem? (i := 125) (by decide +kernel)⟩
theorem lw_p9 : lw_okq (⟨"SealedSectors", "valueOf", "(I)J"⟩, 12) := ⟨⟨by decide +kernel, by decide +kernel⟩, List.mem_of_getElem? (i := 4) (by decide +kernel), List.mem_of_getElem? (i := 128) (by decide +kernel), List.mem_of_getElem? (i := 129) (by decide +kernel)⟩
theorem lw_p10 : lw_okq (⟨"SealedSectors", "rootAbove", "(I)I"⟩, 12) := ⟨⟨by decide +kernel, by decide +kernel⟩, List.mem_of_getElem? (i := 4) (by decide +kernel), List.mem_of_getElem? (i := 132) (by decide +kernel), List.mem_of_getElem? (i := 133) (by decide +kernel)⟩
theorem lw_p11 : lw_okq (⟨"SealedSectors", "clearMarks", "(I)Z"⟩, 12) := ⟨⟨by decide +kernel, by decide +kernel⟩, List.mem_of_getElem? (i := 4) (by decide +kernel), List.mem_of_getElem? (i := 137) (by decide +kernel), List.mem_of_getElem? (i := 138) (by decide +kernel)⟩
theorem lw_p12 : lw_okq (⟨"SealedSectors", "storeWord", "(II)Z"⟩, 12) := ⟨⟨by decide +kernel, by decide +kernel⟩, List.mem_of_getElem? (i := 4) (by decide +kernel), List.mem_of_getElem? (i := 141) (by decide +kernel), List.mem_of_getElem? (i := 142) (by decide +kernel)⟩
theorem lw_p13 : lw_okq (⟨"SealedSectors", "stepHappens", "()Z"⟩, 12) := ⟨⟨by decide +kernel, by decide +kernel⟩, List.mem_of_getElem? (i := 4) (by decide +kernel), List.mem_of_getElem? (i := 145) (by decide +kernel), List.mem_of_getElem? (i := 146) (by decide +kernel)⟩
theorem lw_p14 : lw_okq (⟨"SealedSectors", "storeSectors", "(II)Z"⟩, 12) := ⟨⟨by decide +kernel, by decide +kernel⟩, List.mem_of_getElem? (i := 4) (by decide +kernel), List.mem_of_getElem? (i := 149) (by decide +kernel), List.mem_of_getElem? (i := 150) (by decide +kernel)⟩
theorem lw_p15 : lw_okq (⟨"SealedSectors", "storeValue", "(IJI)Z"⟩, 12) := ⟨⟨by decide +kernel, by decide +kernel⟩, List.mem_of_getElem? (i := 4) (by decide +kernel), List.mem_of_getElem? (i := 153) (by decide +kernel), List.mem_of_getElem? (i := 154) (by decide +kernel)⟩
def lw_privs_1 : List (MethodName × Nat) := [(⟨"SealedSectors", "dueNode", "(III)I"⟩, 12), (⟨"SealedSectors", "takeJournal", "()V"⟩, 12), (⟨"SealedSectors", "beginList", "()V"⟩, 12), (⟨"SealedSectors", "chainBehind", "(I)I"⟩, 12), (⟨"SealedSectors", "valueAt", "(I)J"⟩, 12), (⟨"SealedSectors", "addToList", "(IJ)V"⟩, 12), (⟨"SealedSectors", "forget", "()V"⟩, 12), (⟨"SealedSectors", "moveToOtherHalf", "()I"⟩, 12), (⟨"SealedSectors", "soundSectors", "()I"⟩, 12), (⟨"SealedSectors", "valueOf", "(I)J"⟩, 12), (⟨"SealedSectors", "rootAbove", "(I)I"⟩, 12), (⟨"SealedSectors", "clearMarks", "(I)Z"⟩, 12), (⟨"SealedSectors", "storeWord", "(II)Z"⟩, 12), (⟨"SealedSectors", "stepHappens", "()Z"⟩, 12), (⟨"SealedSectors", "storeSectors", "(II)Z"⟩, 12), (⟨"SealedSectors", "storeValue", "(IJI)Z"⟩, 12)]
theorem lw_r1 : ∀ q ∈ lw_privs_1, lw_okq q := List.forall_mem_cons.mpr ⟨lw_p0, List.forall_mem_cons.mpr ⟨lw_p1, List.forall_mem_cons.mpr ⟨lw_p2, List.forall_mem_cons.mpr ⟨lw_p3, List.forall_mem_cons.mpr ⟨lw_p4, List.forall_mem_cons.mpr ⟨lw_p5, List.forall_mem_cons.mpr ⟨lw_p6, List.forall_mem_cons.mpr ⟨lw_p7, List.forall_mem_cons.mpr ⟨lw_p8, List.forall_mem_cons.mpr ⟨lw_p9, List.forall_mem_cons.mpr ⟨lw_p10, List.forall_mem_cons.mpr ⟨lw_p11, List.forall_mem_cons.mpr ⟨lw_p12, List.forall_mem_cons.mpr ⟨lw_p13, List.forall_mem_cons.mpr ⟨lw_p14, List.forall_mem_cons.mpr ⟨lw_p15, fun _ h => absurd h List.not_mem_nil⟩⟩⟩⟩⟩⟩⟩⟩⟩⟩⟩⟩⟩⟩⟩⟩
theorem lw_p16 : lw_okq (⟨"SealedSectors", "storeNodes", "(II)Z"⟩, 12) := ⟨⟨by decide +kernel, by decide +kernel⟩, List.mem_of_getElem? (i := 4) (by decide +kernel), List.mem_of_getElem? (i := 163) (by decide +kernel), List.mem_of_getElem? (i := 164) (by decide +kernel)⟩
theorem lw_p17 : lw_okq (⟨"SealedSectors", "changeSeal", "(IIII)Z"⟩, 12) := ⟨⟨by decide +kernel, by decide +kernel⟩, List.mem_of_getElem? (i := 4) (by decide +kernel), List.mem_of_getElem? (i := 167) (by decide +kernel), List.mem_of_getElem? (i := 168) (by decide +kernel)⟩
theorem lw_p18 : lw_okq (⟨"SealedSectors", "storeRecord", "(IJ)Z"⟩, 12) := ⟨⟨by decide +kernel, by decide +kernel⟩, List.mem_of_getElem? (i := 4) (by decide +kernel), List.mem_of_getElem? (i := 171) (by decide +kernel), List.mem_of_getElem? (i := 172) (by decide +kernel)⟩
theorem lw_p19 : lw_okq (⟨"SealedSectorsModel", "nodes", "(II)V"⟩, 15) := ⟨⟨by decide +kernel, by decide +kernel⟩, List.mem_of_getElem? (i := 216) (by decide +kernel), List.mem_of_getElem? (i := 231) (by decide +kernel), List.mem_of_getElem? (i := 232) (by decide +kernel)⟩
theorem lw_p20 : lw_okq (⟨"SealedSectorsModel", "leaf", "(IIII)I"⟩, 15) := ⟨⟨by decide +kernel, by decide +kernel⟩, List.mem_of_getElem? (i := 216) (by decide +kernel), List.mem_of_getElem? (i := 235) (by decide +kernel), List.mem_of_getElem? (i := 236) (by decide +kernel)⟩
theorem lw_p21 : lw_okq (⟨"SealedSectorsModel", "due", "(I)Z"⟩, 15) := ⟨⟨by decide +kernel, by decide +kernel⟩, List.mem_of_getElem? (i := 216) (by decide +kernel), List.mem_of_getElem? (i := 297) (by decide +kernel), List.mem_of_getElem? (i := 298) (by decide +kernel)⟩
theorem lw_p22 : lw_okq (⟨"SealedSectorsModel", "entryAt", "(I)I"⟩, 15) := ⟨⟨by decide +kernel, by decide +kernel⟩, List.mem_of_getElem? (i := 216) (by decide +kernel), List.mem_of_getElem? (i := 301) (by decide +kernel), List.mem_of_getElem? (i := 302) (by decide +kernel)⟩
theorem lw_p23 : lw_okq (⟨"SealedSectorsModel", "clear", "(II)I"⟩, 15) := ⟨⟨by decide +kernel, by decide +kernel⟩, List.mem_of_getElem? (i := 216) (by decide +kernel), List.mem_of_getElem? (i := 305) (by decide +kernel), List.mem_of_getElem? (i := 306) (by decide +kernel)⟩
theorem lw_p24 : lw_okq (⟨"SealedSectorsModel", "chain", "(I)I"⟩, 15) := ⟨⟨by decide +kernel, by decide +kernel⟩, List.mem_of_getElem? (i := 216) (by decide +kernel), List.mem_of_getElem? (i := 309) (by decide +kernel), List.mem_of_getElem? (i := 310) (by decide +kernel)⟩
theorem lw_p25 : lw_okq (⟨"SealedSectorsModel", "recorded", "(I)J"⟩, 15) := ⟨⟨by decide +kernel, by decide +kernel⟩, List.mem_of_getElem? (i := 216) (by decide +kernel), List.mem_of_getElem? (i := 313) (by decide +kernel), List.mem_of_getElem? (i := 314) (by decide +kernel)⟩
theorem lw_p26 : lw_okq (⟨"SealedSectorsModel", "value", "(I)J"⟩, 15) := ⟨⟨by decide +kernel, by decide +kernel⟩, List.mem_of_getElem? (i := 216) (by decide +kernel), List.mem_of_getElem? (i := 327) (by decide +kernel), List.mem_of_getElem? (i := 328) (by decide +kernel)⟩
theorem lw_p27 : lw_okq (⟨"SealedSectorsModel", "looked", "(I)J"⟩, 15) := ⟨⟨by decide +kernel, by decide +kernel⟩, List.mem_of_getElem? (i := 216) (by decide +kernel), List.mem_of_getElem? (i := 331) (by decide +kernel), List.mem_of_getElem? (i := 332) (by decide +kernel)⟩
theorem lw_p28 : lw_okq (⟨"SealedSectorsModel", "change", "()I"⟩, 15) := ⟨⟨by decide +kernel, by decide +kernel⟩, List.mem_of_getElem? (i := 216) (by decide +kernel), List.mem_of_getElem? (i := 344) (by decide +kernel), List.mem_of_getElem? (i := 345) (by decide +kernel)⟩
theorem lw_p29 : lw_okq (⟨"SealedSectorsModel", "put", "(II)V"⟩, 15) := ⟨⟨by decide +kernel, by decide +kernel⟩, List.mem_of_getElem? (i := 216) (by decide +kernel), List.mem_of_getElem? (i := 348) (by decide +kernel), List.mem_of_getElem? (i := 349) (by decide +kernel)⟩
theorem lw_p30 : lw_okq (⟨"SealedSectorsModel", "step", "()Z"⟩, 15) := ⟨⟨by decide +kernel, by decide +kernel⟩, List.mem_of_getElem? (i := 216) (by decide +kernel), List.mem_of_getElem? (i := 352) (by decide +kernel), List.mem_of_getElem? (i := 353) (by decide +kernel)⟩
theorem lw_p31 : lw_okq (⟨"SealedSectorsModel", "changeSeal", "(IIII)V"⟩, 15) := ⟨⟨by decide +kernel, by decide +kernel⟩, List.mem_of_getElem? (i := 216) (by decide +kernel), List.mem_of_getElem? (i := 356) (by decide +kernel), List.mem_of_getElem? (i := 357) (by decide +kernel)⟩
def lw_privs_2 : List (MethodName × Nat) := [(⟨"SealedSectors", "storeNodes", "(II)Z"⟩, 12), (⟨"SealedSectors", "changeSeal", "(IIII)Z"⟩, 12), (⟨"SealedSectors", "storeRecord", "(IJ)Z"⟩, 12), (⟨"SealedSectorsModel", "nodes", "(II)V"⟩, 15), (⟨"SealedSectorsModel", "leaf", "(IIII)I"⟩, 15), (⟨"SealedSectorsModel", "due", "(I)Z"⟩, 15), (⟨"SealedSectorsModel", "entryAt", "(I)I"⟩, 15), (⟨"SealedSectorsModel", "clear", "(II)I"⟩, 15), (⟨"SealedSectorsModel", "chain", "(I)I"⟩, 15), (⟨"SealedSectorsModel", "recorded", "(I)J"⟩, 15), (⟨"SealedSectorsModel", "value", "(I)J"⟩, 15), (⟨"SealedSectorsModel", "looked", "(I)J"⟩, 15), (⟨"SealedSectorsModel", "change", "()I"⟩, 15), (⟨"SealedSectorsModel", "put", "(II)V"⟩, 15), (⟨"SealedSectorsModel", "step", "()Z"⟩, 15), (⟨"SealedSectorsModel", "changeSeal", "(IIII)V"⟩, 15)]
theorem lw_r2 : ∀ q ∈ lw_privs_2, lw_okq q := List.forall_mem_cons.mpr ⟨lw_p16, List.forall_mem_cons.mpr ⟨lw_p17, List.forall_mem_cons.mpr ⟨lw_p18, List.forall_mem_cons.mpr ⟨lw_p19, List.forall_mem_cons.mpr ⟨lw_p20, List.forall_mem_cons.mpr ⟨lw_p21, List.forall_mem_cons.mpr ⟨lw_p22, List.forall_mem_cons.mpr ⟨lw_p23, List.forall_mem_cons.mpr ⟨lw_p24, List.forall_mem_cons.mpr ⟨lw_p25, List.forall_mem_cons.mpr ⟨lw_p26, List.forall_mem_cons.mpr ⟨lw_p27, List.forall_mem_cons.mpr ⟨lw_p28, List.forall_mem_cons.mpr ⟨lw_p29, List.forall_mem_cons.mpr ⟨lw_p30, List.forall_mem_cons.mpr ⟨lw_p31, fun _ h => absurd h List.not_mem_nil⟩⟩⟩⟩⟩⟩⟩⟩⟩⟩⟩⟩⟩⟩⟩⟩
def lw_privs : List (MethodName × Nat) := lw_privs_1 ++ (lw_privs_2)
def lw_tbl : List Cond := k2_sels lw_privs ++ tables_1
theorem lw_privs_ok : ∀ q ∈ lw_privs, lw_okq q := by
  show ∀ q ∈ lw_privs_1 ++ (lw_privs_2), lw_okq q
  exact List.forall_mem_append.mpr ⟨lw_r1, lw_r2⟩

/-! THE CLAIM OUT OF ONE WALK OF THE LAW'S BODY. Your part is whole_start (and what it stands on); all else here is the same for every law, but numbers. -/
def R_law : String := "SealedSectorsLaw"
def lw_P (b : Addr) (xs : List Int32) (args : Array Value) (s : State) : Prop := args = #[.ref b] ∧ s.IntsAt b xs ∧ xs.length ≤ 2048 ∧ (Jvm.Cond.and given_1 narrow_1).before args s = true
def lw_Q (_ : Array Value) (s : State) (o : Outcome) (t : State) : Prop := o = .returned (some (.int 1)) ∧ Framed s o t [] 10 275
def lw_Z (below : List Frame) (a : Array Value) (s : State) : State → Prop := fun t => ∃ o, t.status = .running ∧ Ended t below o ∧ lw_Q a s o t
/-- the law's own end, with 1 on the stack, nothing written that was there before, its room as the claim has it -/
theorem lw_ret {p : Program} {l : Launch} {e : Env} {s : State} {m : MethodId} {below : List Frame} {meth : Method} {c : Code} {b : Nat} (hx : p.tables.exec = Jvm.exec) (hb : c.code = code) (hr : meth.sig.returnType = ret) (hlocks : meth.locks = false) {pc : Nat} {H : Heap} {ls : Array Slot} (hdg : decode code pc = .ok (.ireturn, 1)) : W p l e room_1 s m #[Value.ref b] below meth c H [] 10 275 (lw_Z below #[Value.ref b] s) (F0 m pc ls [.int 1]) := by
  intro T hT X
  obtain ⟨fs, hret, hrun, hended, hW, hframe⟩ := X.leave (v := some (.int 1)) (hlocks := hlocks) (fun h => by rw [hr] at h; cases h)
  have hmeth' : T.vm.method? m = some meth := X.method'
  refine ⟨T.setFrames fs, ?_, .returned (some (.int 1)), hrun, hended, rfl, ⟨_, rfl⟩, hW, hframe⟩
  jvm_step X.here [X.here.top, hx, hb, hdg, hmeth', hr, ret, narrow_b1]
  (try refine ⟨rfl, ?_⟩); (try refine ⟨rfl, ?_⟩)
  first | (intro acts; rw [hret _ acts rfl rfl rfl]) | rw [hret _ _ rfl rfl rfl]
  exact Steps.refl _
/-- what holds at the law's entry: the machine, the code, the tables' words (any of lw_tbl by 'hts w (by decide +kernel)'), the script of L ints xs at the cell b, what the Statement gives of the start (any of its parts by flat_of_before) -/
def lw_At (p : Program) (s : State) (m : MethodId) (meth : Method) (c : Code) (b L : Nat) (xs : Nat → Int32) : Prop :=
  p.tables.exec = Jvm.exec ∧ c.code = code ∧ meth.sig.returnType = ret ∧ c.maxLocals = 4 ∧ s.vm.findClass R_law = some m.cls ∧ (∀ w ∈ lw_tbl, w.before #[Value.ref b] s = true) ∧ va_X b L xs s s.heap ∧ b < s.heap.size ∧ meth.locks = false ∧ (Jvm.Cond.and given_1 narrow_1).before #[Value.ref b] s = true
end
section
/-- the words of lw_tbl that a contract may ask for -/
def lw_U : List Cond := lw_tbl.filter goodWord
def R_X : String := "SealedSectors"
def F_X : u_T := fun k => match k with
  | 0 => ("SealedSectors", "disk", "[I", true)
  | 1 => ("SealedSectors", "half", "I", false)
  | 2 => ("SealedSectors", "generation", "I", false)
  | 3 => ("SealedSectors", "root", "I", false)
  | 4 => ("SealedSectors", "count", "I", false)
  | 5 => ("SealedSectors", "stepsLeft", "I", false)
  | 6 => ("SealedSectors", "stepsMade", "I", false)
  | 7 => ("SealedSectors", "on", "Z", false)
  | 8 => ("SealedSectors", "listSize", "I", false)
  | 9 => ("SealedSectors", "listSectors", "[I", true)
  | 10 => ("SealedSectors", "listValues", "[J", true)
  | _ => ("SealedSectors", "chain", "I", false)
def t_X : Nat → FieldType := fun k => match k with
  | 0 => .array .int
  | 1 => .int
  | 2 => .int
  | 3 => .int
  | 4 => .int
  | 5 => .int
  | 6 => .int
  | 7 => .boolean
  | 8 => .int
  | 9 => .array .int
  | 10 => .array .long
  | _ => .int
theorem n_X : ∀ a, a < 12 → ∀ b, b < 12 → a ≠ b → (F_X a).2.1 ≠ (F_X b).2.1 := by decide +kernel
theorem t_X_ok : ∀ k, k < 12 → parseFieldDescriptor (F_X k).2.2.1 = some (t_X k) := by decide +kernel
def R_M : String := "SealedSectorsModel"
def F_M : u_T := fun k => match k with
  | 0 => ("SealedSectorsModel", "disk", "[I", true)
  | 1 => ("SealedSectorsModel", "half", "I", false)
  | 2 => ("SealedSectorsModel", "generation", "I", false)
  | 3 => ("SealedSectorsModel", "root", "I", false)
  | 4 => ("SealedSectorsModel", "count", "I", false)
  | 5 => ("SealedSectorsModel", "power", "Z", false)
  | 6 => ("SealedSectorsModel", "armed", "I", false)
  | 7 => ("SealedSectorsModel", "steps", "I", false)
  | 8 => ("SealedSectorsModel", "cut", "Z", false)
  | 9 => ("SealedSectorsModel", "listed", "I", false)
  | 10 => ("SealedSectorsModel", "link", "I", false)
  | 11 => ("SealedSectorsModel", "sectorOf", "[I", true)
  | 12 => ("SealedSectorsModel", "valueOf", "[J", true)
  | 13 => ("SealedSectorsModel", "has", "[J", true)
  | _ => ("SealedSectorsModel", "node", "[I", true)
def t_M : Nat → FieldType := fun k => match k with
  | 0 => .array .int
  | 1 => .int
  | 2 => .int
  | 3 => .int
  | 4 => .int
  | 5 => .boolean
  | 6 => .int
  | 7 => .int
  | 8 => .boolean
  | 9 => .int
  | 10 => .int
  | 11 => .array .int
  | 12 => .array .long
  | 13 => .array .long
  | _ => .array .int
theorem n_M : ∀ a, a < 15 → ∀ b, b < 15 → a ≠ b → (F_M a).2.1 ≠ (F_M b).2.1 := by decide +kernel
theorem t_M_ok : ∀ k, k < 15 → parseFieldDescriptor (F_M k).2.2.1 = some (t_M k) := by decide +kernel
abbrev b_X_init : ByteArray := prog_1_method_1_code
def y_X_init : MethodName := ⟨R_X, "<init>", "()V"⟩
abbrev w_X_init : List Cond := .code y_X_init b_X_init 2 none :: lw_U
abbrev b_X_encipher : ByteArray := prog_1_method_16_code
def y_X_encipher : MethodName := ⟨R_X, "encipher", "(III)I"⟩
abbrev w_X_encipher : List Cond := .code y_X_encipher b_X_encipher 3 (some .int) :: lw_U
abbrev b_X_digest : ByteArray := prog_1_method_15_code
def y_X_digest : MethodName := ⟨R_X, "digest", "(II)I"⟩
abbrev w_X_digest : List Cond := .code y_X_digest b_X_digest 3 (some .int) :: lw_U
abbrev b_X_nodePlace : ByteArray := prog_1_method_22_code
def y_X_nodePlace : MethodName := ⟨R_X, "nodePlace", "(II)I"⟩
abbrev w_X_nodePlace : List Cond := .code y_X_nodePlace b_X_nodePlace 2 (some .int) :: lw_U
abbrev b_X_dueNode : ByteArray := prog_1_method_24_code
def y_X_dueNode : MethodName := ⟨R_X, "dueNode", "(III)I"⟩
abbrev w_X_dueNode : List Cond := .code y_X_dueNode b_X_dueNode 6 (some .int) :: lw_U
abbrev b_X_sectorPlace : ByteArray := prog_1_method_21_code
def y_X_sectorPlace : MethodName := ⟨R_X, "sectorPlace", "(II)I"⟩
abbrev w_X_sectorPlace : List Cond := .code y_X_sectorPlace b_X_sectorPlace 2 (some .int) :: lw_U
abbrev b_X_mount : ByteArray := prog_1_method_2_code
def y_X_mount : MethodName := ⟨R_X, "mount", "()I"⟩
abbrev w_X_mount : List Cond := .code y_X_mount b_X_mount 1 (some .int) :: lw_U
abbrev b_X_takeJournal : ByteArray := prog_1_method_34_code
def y_X_takeJournal : MethodName := ⟨R_X, "takeJournal", "()V"⟩
abbrev w_X_takeJournal : List Cond := .code y_X_takeJournal b_X_takeJournal 7 none :: lw_U
abbrev b_X_beginList : ByteArray := prog_1_method_31_code
def y_X_beginList : MethodName := ⟨R_X, "beginList", "()V"⟩
abbrev w_X_beginList : List Cond := .code y_X_beginList b_X_beginList 1 none :: lw_U
abbrev b_X_recordPlace : ByteArray := prog_1_method_23_code
def y_X_recordPlace : MethodName := ⟨R_X, "recordPlace", "(II)I"⟩
abbrev w_X_recordPlace : List Cond := .code y_X_recordPlace b_X_recordPlace 2 (some .int) :: lw_U
abbrev b_X_chainBehind : ByteArray := prog_1_method_32_code
def y_X_chainBehind : MethodName := ⟨R_X, "chainBehind", "(I)I"⟩
abbrev w_X_chainBehind : List Cond := .code y_X_chainBehind b_X_chainBehind 2 (some .int) :: lw_U
abbrev b_X_valueAt : ByteArray := prog_1_method_25_code
def y_X_valueAt : MethodName := ⟨R_X, "valueAt", "(I)J"⟩
abbrev w_X_valueAt : List Cond := .code y_X_valueAt b_X_valueAt 6 (some .long) :: lw_U
abbrev b_X_markOf : ByteArray := prog_1_method_33_code
def y_X_markOf : MethodName := ⟨R_X, "markOf", "(I)I"⟩
abbrev w_X_markOf : List Cond := .code y_X_markOf b_X_markOf 1 (some .int) :: lw_U
abbrev b_X_isSector : ByteArray := prog_1_method_19_code
def y_X_isSector : MethodName := ⟨R_X, "isSector", "(I)Z"⟩
abbrev w_X_isSector : List Cond := .code y_X_isSector b_X_isSector 1 (some .boolean) :: lw_U
abbrev b_X_addToList : ByteArray := prog_1_method_30_code
def y_X_addToList : MethodName := ⟨R_X, "addToList", "(IJ)V"⟩
abbrev w_X_addToList : List Cond := .code y_X_addToList b_X_addToList 4 none :: lw_U
abbrev b_X_forget : ByteArray := prog_1_method_29_code
def y_X_forget : MethodName := ⟨R_X, "forget", "()V"⟩
abbrev w_X_forget : List Cond := .code y_X_forget b_X_forget 1 none :: lw_U
abbrev b_X_arm : ByteArray := prog_1_method_3_code
def y_X_arm : MethodName := ⟨R_X, "arm", "(I)Z"⟩
abbrev w_X_arm : List Cond := .code y_X_arm b_X_arm 2 (some .boolean) :: lw_U
abbrev b_X_isOn : ByteArray := prog_1_method_4_code
def y_X_isOn : MethodName := ⟨R_X, "isOn", "()Z"⟩
abbrev w_X_isOn : List Cond := .code y_X_isOn b_X_isOn 1 (some .boolean) :: lw_U
abbrev b_X_write : ByteArray := prog_1_method_5_code
def y_X_write : MethodName := ⟨R_X, "write", "(IJ)I"⟩
abbrev w_X_write : List Cond := .code y_X_write b_X_write 5 (some .int) :: lw_U
abbrev b_X_moveToOtherHalf : ByteArray := prog_1_method_43_code
def y_X_moveToOtherHalf : MethodName := ⟨R_X, "moveToOtherHalf", "()I"⟩
abbrev w_X_moveToOtherHalf : List Cond := .code y_X_moveToOtherHalf b_X_moveToOtherHalf 3 (some .int) :: lw_U
abbrev b_X_soundSectors : ByteArray := prog_1_method_28_code
def y_X_soundSectors : MethodName := ⟨R_X, "soundSectors", "()I"⟩
abbrev w_X_soundSectors : List Cond := .code y_X_soundSectors b_X_soundSectors 3 (some .int) :: lw_U
abbrev b_X_valueOf : ByteArray := prog_1_method_27_code
def y_X_valueOf : MethodName := ⟨R_X, "valueOf", "(I)J"⟩
abbrev w_X_valueOf : List Cond := .code y_X_valueOf b_X_valueOf 4 (some .long) :: lw_U
abbrev b_X_rootAbove : ByteArray := prog_1_method_26_code
def y_X_rootAbove : MethodName := ⟨R_X, "rootAbove", "(I)I"⟩
abbrev w_X_rootAbove : List Cond := .code y_X_rootAbove b_X_rootAbove 5 (some .int) :: lw_U
abbrev b_X_clearMarks : ByteArray := prog_1_method_40_code
def y_X_clearMarks : MethodName := ⟨R_X, "clearMarks", "(I)Z"⟩
abbrev w_X_clearMarks : List Cond := .code y_X_clearMarks b_X_clearMarks 3 (some .boolean) :: lw_U
abbrev b_X_storeWord : ByteArray := prog_1_method_36_code
def y_X_storeWord : MethodName := ⟨R_X, "storeWord", "(II)Z"⟩
abbrev w_X_storeWord : List Cond := .code y_X_storeWord b_X_storeWord 3 (some .boolean) :: lw_U
abbrev b_X_stepHappens : ByteArray := prog_1_method_35_code
def y_X_stepHappens : MethodName := ⟨R_X, "stepHappens", "()Z"⟩
abbrev w_X_stepHappens : List Cond := .code y_X_stepHappens b_X_stepHappens 1 (some .boolean) :: lw_U
abbrev b_X_storeSectors : ByteArray := prog_1_method_41_code
def y_X_storeSectors : MethodName := ⟨R_X, "storeSectors", "(II)Z"⟩
abbrev w_X_storeSectors : List Cond := .code y_X_storeSectors b_X_storeSectors 4 (some .boolean) :: lw_U
abbrev b_X_storeValue : ByteArray := prog_1_method_37_code
def y_X_storeValue : MethodName := ⟨R_X, "storeValue", "(IJI)Z"⟩
abbrev w_X_storeValue : List Cond := .code y_X_storeValue b_X_storeValue 5 (some .boolean) :: lw_U
abbrev b_X_upper : ByteArray := prog_1_method_17_code
def y_X_upper : MethodName := ⟨R_X, "upper", "(J)I"⟩
abbrev w_X_upper : List Cond := .code y_X_upper b_X_upper 2 (some .int) :: lw_U
abbrev b_X_lower : ByteArray := prog_1_method_18_code
def y_X_lower : MethodName := ⟨R_X, "lower", "(J)I"⟩
abbrev w_X_lower : List Cond := .code y_X_lower b_X_lower 2 (some .int) :: lw_U
abbrev b_X_storeNodes : ByteArray := prog_1_method_42_code
def y_X_storeNodes : MethodName := ⟨R_X, "storeNodes", "(II)Z"⟩
abbrev w_X_storeNodes : List Cond := .code y_X_storeNodes b_X_storeNodes 4 (some .boolean) :: lw_U
abbrev b_X_changeSeal : ByteArray := prog_1_method_38_code
def y_X_changeSeal : MethodName := ⟨R_X, "changeSeal", "(IIII)Z"⟩
abbrev w_X_changeSeal : List Cond := .code y_X_changeSeal b_X_changeSeal 5 (some .boolean) :: lw_U
abbrev b_X_storeRecord : ByteArray := prog_1_method_39_code
def y_X_storeRecord : MethodName := ⟨R_X, "storeRecord", "(IJ)Z"⟩
abbrev w_X_storeRecord : List Cond := .code y_X_storeRecord b_X_storeRecord 6 (some .boolean) :: lw_U
abbrev b_X_read : ByteArray := prog_1_method_6_code
def y_X_read : MethodName := ⟨R_X, "read", "(I)J"⟩
abbrev w_X_read : List Cond := .code y_X_read b_X_read 2 (some .long) :: lw_U
abbrev b_X_sync : ByteArray := prog_1_method_7_code
def y_X_sync : MethodName := ⟨R_X, "sync", "()I"⟩
abbrev w_X_sync : List Cond := .code y_X_sync b_X_sync 1 (some .int) :: lw_U
abbrev b_X_checkpoint : ByteArray := prog_1_method_8_code
def y_X_checkpoint : MethodName := ⟨R_X, "checkpoint", "()I"⟩
abbrev w_X_checkpoint : List Cond := .code y_X_checkpoint b_X_checkpoint 1 (some .int) :: lw_U
abbrev b_X_alter : ByteArray := prog_1_method_9_code
def y_X_alter : MethodName := ⟨R_X, "alter", "(II)Z"⟩
abbrev w_X_alter : List Cond := .code y_X_alter b_X_alter 3 (some .boolean) :: lw_U
abbrev b_X_isPlace : ByteArray := prog_1_method_20_code
def y_X_isPlace : MethodName := ⟨R_X, "isPlace", "(I)Z"⟩
abbrev w_X_isPlace : List Cond := .code y_X_isPlace b_X_isPlace 1 (some .boolean) :: lw_U
abbrev b_X_peek : ByteArray := prog_1_method_10_code
def y_X_peek : MethodName := ⟨R_X, "peek", "(I)I"⟩
abbrev w_X_peek : List Cond := .code y_X_peek b_X_peek 2 (some .int) :: lw_U
abbrev b_X_seal : ByteArray := prog_1_method_11_code
def y_X_seal : MethodName := ⟨R_X, "seal", "(I)I"⟩
abbrev w_X_seal : List Cond := .code y_X_seal b_X_seal 2 (some .int) :: lw_U
abbrev b_X_writes : ByteArray := prog_1_method_12_code
def y_X_writes : MethodName := ⟨R_X, "writes", "()I"⟩
abbrev w_X_writes : List Cond := .code y_X_writes b_X_writes 1 (some .int) :: lw_U
abbrev b_X_sound : ByteArray := prog_1_method_13_code
def y_X_sound : MethodName := ⟨R_X, "sound", "()I"⟩
abbrev w_X_sound : List Cond := .code y_X_sound b_X_sound 1 (some .int) :: lw_U
abbrev b_X_steps : ByteArray := prog_1_method_14_code
def y_X_steps : MethodName := ⟨R_X, "steps", "()I"⟩
abbrev w_X_steps : List Cond := .code y_X_steps b_X_steps 1 (some .int) :: lw_U
abbrev b_M_init : ByteArray := prog_3_method_1_code
def y_M_init : MethodName := ⟨R_M, "<init>", "()V"⟩
abbrev w_M_init : List Cond := .code y_M_init b_M_init 2 none :: lw_U
abbrev b_M_key : ByteArray := prog_3_method_3_code
def y_M_key : MethodName := ⟨R_M, "key", "(II)I"⟩
abbrev w_M_key : List Cond := .code y_M_key b_M_key 2 (some .int) :: lw_U
abbrev b_M_digest : ByteArray := prog_3_method_2_code
def y_M_digest : MethodName := ⟨R_M, "digest", "(II)I"⟩
abbrev w_M_digest : List Cond := .code y_M_digest b_M_digest 4 (some .int) :: lw_U
abbrev b_M_nodes : ByteArray := prog_3_method_7_code
def y_M_nodes : MethodName := ⟨R_M, "nodes", "(II)V"⟩
abbrev w_M_nodes : List Cond := .code y_M_nodes b_M_nodes 4 none :: lw_U
abbrev b_M_leaf : ByteArray := prog_3_method_6_code
def y_M_leaf : MethodName := ⟨R_M, "leaf", "(IIII)I"⟩
abbrev w_M_leaf : List Cond := .code y_M_leaf b_M_leaf 6 (some .int) :: lw_U
abbrev b_M_arm : ByteArray := prog_3_method_11_code
def y_M_arm : MethodName := ⟨R_M, "arm", "(I)Z"⟩
abbrev w_M_arm : List Cond := .code y_M_arm b_M_arm 2 (some .boolean) :: lw_U
abbrev b_M_isOn : ByteArray := prog_3_method_12_code
def y_M_isOn : MethodName := ⟨R_M, "isOn", "()Z"⟩
abbrev w_M_isOn : List Cond := .code y_M_isOn b_M_isOn 1 (some .boolean) :: lw_U
abbrev b_M_mount : ByteArray := prog_3_method_17_code
def y_M_mount : MethodName := ⟨R_M, "mount", "()I"⟩
abbrev w_M_mount : List Cond := .code y_M_mount b_M_mount 3 (some .int) :: lw_U
abbrev b_M_due : ByteArray := prog_3_method_16_code
def y_M_due : MethodName := ⟨R_M, "due", "(I)Z"⟩
abbrev w_M_due : List Cond := .code y_M_due b_M_due 3 (some .boolean) :: lw_U
abbrev b_M_entryAt : ByteArray := prog_3_method_13_code
def y_M_entryAt : MethodName := ⟨R_M, "entryAt", "(I)I"⟩
abbrev w_M_entryAt : List Cond := .code y_M_entryAt b_M_entryAt 2 (some .int) :: lw_U
abbrev b_M_clear : ByteArray := prog_3_method_4_code
def y_M_clear : MethodName := ⟨R_M, "clear", "(II)I"⟩
abbrev w_M_clear : List Cond := .code y_M_clear b_M_clear 3 (some .int) :: lw_U
abbrev b_M_chain : ByteArray := prog_3_method_14_code
def y_M_chain : MethodName := ⟨R_M, "chain", "(I)I"⟩
abbrev w_M_chain : List Cond := .code y_M_chain b_M_chain 5 (some .int) :: lw_U
abbrev b_M_recorded : ByteArray := prog_3_method_15_code
def y_M_recorded : MethodName := ⟨R_M, "recorded", "(I)J"⟩
abbrev w_M_recorded : List Cond := .code y_M_recorded b_M_recorded 5 (some .long) :: lw_U
abbrev b_M_joined : ByteArray := prog_3_method_5_code
def y_M_joined : MethodName := ⟨R_M, "joined", "(II)J"⟩
abbrev w_M_joined : List Cond := .code y_M_joined b_M_joined 2 (some .long) :: lw_U
abbrev b_M_read : ByteArray := prog_3_method_20_code
def y_M_read : MethodName := ⟨R_M, "read", "(I)J"⟩
abbrev w_M_read : List Cond := .code y_M_read b_M_read 4 (some .long) :: lw_U
abbrev b_M_value : ByteArray := prog_3_method_19_code
def y_M_value : MethodName := ⟨R_M, "value", "(I)J"⟩
abbrev w_M_value : List Cond := .code y_M_value b_M_value 3 (some .long) :: lw_U
abbrev b_M_looked : ByteArray := prog_3_method_18_code
def y_M_looked : MethodName := ⟨R_M, "looked", "(I)J"⟩
abbrev w_M_looked : List Cond := .code y_M_looked b_M_looked 6 (some .long) :: lw_U
abbrev b_M_sound : ByteArray := prog_3_method_21_code
def y_M_sound : MethodName := ⟨R_M, "sound", "()I"⟩
abbrev w_M_sound : List Cond := .code y_M_sound b_M_sound 3 (some .int) :: lw_U
abbrev b_M_checkpoint : ByteArray := prog_3_method_23_code
def y_M_checkpoint : MethodName := ⟨R_M, "checkpoint", "()I"⟩
abbrev w_M_checkpoint : List Cond := .code y_M_checkpoint b_M_checkpoint 2 (some .int) :: lw_U
abbrev b_M_change : ByteArray := prog_3_method_22_code
def y_M_change : MethodName := ⟨R_M, "change", "()I"⟩
abbrev w_M_change : List Cond := .code y_M_change b_M_change 6 (some .int) :: lw_U
abbrev b_M_put : ByteArray := prog_3_method_9_code
def y_M_put : MethodName := ⟨R_M, "put", "(II)V"⟩
abbrev w_M_put : List Cond := .code y_M_put b_M_put 3 none :: lw_U
abbrev b_M_step : ByteArray := prog_3_method_8_code
def y_M_step : MethodName := ⟨R_M, "step", "()Z"⟩
abbrev w_M_step : List Cond := .code y_M_step b_M_step 1 (some .boolean) :: lw_U
abbrev b_M_changeSeal : ByteArray := prog_3_method_10_code
def y_M_changeSeal : MethodName := ⟨R_M, "changeSeal", "(IIII)V"⟩
abbrev w_M_changeSeal : List Cond := .code y_M_changeSeal b_M_changeSeal 5 none :: lw_U
abbrev b_M_write : ByteArray := prog_3_method_24_code
def y_M_write : MethodName := ⟨R_M, "write", "(IJ)I"⟩
abbrev w_M_write : List Cond := .code y_M_write b_M_write 11 (some .int) :: lw_U
abbrev b_M_sync : ByteArray := prog_3_method_25_code
def y_M_sync : MethodName := ⟨R_M, "sync", "()I"⟩
abbrev w_M_sync : List Cond := .code y_M_sync b_M_sync 2 (some .int) :: lw_U
abbrev b_M_alter : ByteArray := prog_3_method_27_code
def y_M_alter : MethodName := ⟨R_M, "alter", "(II)Z"⟩
abbrev w_M_alter : List Cond := .code y_M_alter b_M_alter 3 (some .boolean) :: lw_U
abbrev b_M_place : ByteArray := prog_3_method_26_code
def y_M_place : MethodName := ⟨R_M, "place", "(I)Z"⟩
abbrev w_M_place : List Cond := .code y_M_place b_M_place 1 (some .boolean) :: lw_U
abbrev b_M_peek : ByteArray := prog_3_method_28_code
def y_M_peek : MethodName := ⟨R_M, "peek", "(I)I"⟩
abbrev w_M_peek : List Cond := .code y_M_peek b_M_peek 2 (some .int) :: lw_U
abbrev b_M_seal : ByteArray := prog_3_method_29_code
def y_M_seal : MethodName := ⟨R_M, "seal", "(I)I"⟩
abbrev w_M_seal : List Cond := .code y_M_seal b_M_seal 2 (some .int) :: lw_U
abbrev b_M_writes : ByteArray := prog_3_method_30_code
def y_M_writes : MethodName := ⟨R_M, "writes", "()I"⟩
abbrev w_M_writes : List Cond := .code y_M_writes b_M_writes 1 (some .int) :: lw_U
abbrev b_M_steps : ByteArray := prog_3_method_31_code
def y_M_steps : MethodName := ⟨R_M, "steps", "()I"⟩
abbrev w_M_steps : List Cond := .code y_M_steps b_M_steps 1 (some .int) :: lw_U
abbrev classes : List vw_C := [(R_X, F_X, 12), (R_M, F_M, 15)]
theorem tbl_good : GoodIn lw_U lw_U := fun w h => ⟨h, good_of_word (List.mem_filter.mp h).2⟩
theorem m_0 : Cond.selects R_X y_X_dueNode y_X_dueNode ∈ lw_U := List.mem_filter.mpr ⟨List.mem_of_getElem? (i := 0) rfl, rfl⟩
theorem m_1 : Cond.selects R_X y_X_takeJournal y_X_takeJournal ∈ lw_U := List.mem_filter.mpr ⟨List.mem_of_getElem? (i := 1) rfl, rfl⟩
theorem m_2 : Cond.selects R_X y_X_beginList y_X_beginList ∈ lw_U := List.mem_filter.mpr ⟨List.mem_of_getElem? (i := 2) rfl, rfl⟩
theorem m_3 : Cond.selects R_X y_X_chainBehind y_X_chainBehind ∈ lw_U := List.mem_filter.mpr ⟨List.mem_of_getElem? (i := 3) rfl, rfl⟩
theorem m_4 : Cond.selects R_X y_X_valueAt y_X_valueAt ∈ lw_U := List.mem_filter.mpr ⟨List.mem_of_getElem? (i := 4) rfl, rfl⟩
theorem m_5 : Cond.selects R_X y_X_addToList y_X_addToList ∈ lw_U := List.mem_filter.mpr ⟨List.mem_of_getElem? (i := 5) rfl, rfl⟩
theorem m_6 : Cond.selects R_X y_X_forget y_X_forget ∈ lw_U := List.mem_filter.mpr ⟨List.mem_of_getElem? (i := 6) rfl, rfl⟩
theorem m_7 : Cond.selects R_X y_X_moveToOtherHalf y_X_moveToOtherHalf ∈ lw_U := List.mem_filter.mpr ⟨List.mem_of_getElem? (i := 7) rfl, rfl⟩
theorem m_8 : Cond.selects R_X y_X_soundSectors y_X_soundSectors ∈ lw_U := List.mem_filter.mpr ⟨List.mem_of_getElem? (i := 8) rfl, rfl⟩
theorem m_9 : Cond.selects R_X y_X_valueOf y_X_valueOf ∈ lw_U := List.mem_filter.mpr ⟨List.mem_of_getElem? (i := 9) rfl, rfl⟩
theorem m_10 : Cond.selects R_X y_X_rootAbove y_X_rootAbove ∈ lw_U := List.mem_filter.mpr ⟨List.mem_of_getElem? (i := 10) rfl, rfl⟩
theorem m_11 : Cond.selects R_X y_X_clearMarks y_X_clearMarks ∈ lw_U := List.mem_filter.mpr ⟨List.mem_of_getElem? (i := 11) rfl, rfl⟩
theorem m_12 : Cond.selects R_X y_X_storeWord y_X_storeWord ∈ lw_U := List.mem_filter.mpr ⟨List.mem_of_getElem? (i := 12) rfl, rfl⟩
theorem m_13 : Cond.selects R_X y_X_stepHappens y_X_stepHappens ∈ lw_U := List.mem_filter.mpr ⟨List.mem_of_getElem? (i := 13) rfl, rfl⟩
theorem m_14 : Cond.selects R_X y_X_storeSectors y_X_storeSectors ∈ lw_U := List.mem_filter.mpr ⟨List.mem_of_getElem? (i := 14) rfl, rfl⟩
theorem m_15 : Cond.selects R_X y_X_storeValue y_X_storeValue ∈ lw_U := List.mem_filter.mpr ⟨List.mem_of_getElem? (i := 15) rfl, rfl⟩
theorem m_16 : Cond.selects R_X y_X_storeNodes y_X_storeNodes ∈ lw_U := List.mem_filter.mpr ⟨List.mem_of_getElem? (i := 16) rfl, rfl⟩
theorem m_17 : Cond.selects R_X y_X_changeSeal y_X_changeSeal ∈ lw_U := List.mem_filter.mpr ⟨List.mem_of_getElem? (i := 17) rfl, rfl⟩
theorem m_18 : Cond.selects R_X y_X_storeRecord y_X_storeRecord ∈ lw_U := List.mem_filter.mpr ⟨List.mem_of_getElem? (i := 18) rfl, rfl⟩
theorem m_19 : Cond.selects R_M y_M_nodes y_M_nodes ∈ lw_U := List.mem_filter.mpr ⟨List.mem_of_getElem? (i := 19) rfl, rfl⟩
theorem m_20 : Cond.selects R_M y_M_leaf y_M_leaf ∈ lw_U := List.mem_filter.mpr ⟨List.mem_of_getElem? (i := 20) rfl, rfl⟩
theorem m_21 : Cond.selects R_M y_M_due y_M_due ∈ lw_U := List.mem_filter.mpr ⟨List.mem_of_getElem? (i := 21) rfl, rfl⟩
theorem m_22 : Cond.selects R_M y_M_entryAt y_M_entryAt ∈ lw_U := List.mem_filter.mpr ⟨List.mem_of_getElem? (i := 22) rfl, rfl⟩
theorem m_23 : Cond.selects R_M y_M_clear y_M_clear ∈ lw_U := List.mem_filter.mpr ⟨List.mem_of_getElem? (i := 23) rfl, rfl⟩
theorem m_24 : Cond.selects R_M y_M_chain y_M_chain ∈ lw_U := List.mem_filter.mpr ⟨List.mem_of_getElem? (i := 24) rfl, rfl⟩
theorem m_25 : Cond.selects R_M y_M_recorded y_M_recorded ∈ lw_U := List.mem_filter.mpr ⟨List.mem_of_getElem? (i := 25) rfl, rfl⟩
theorem m_26 : Cond.selects R_M y_M_value y_M_value ∈ lw_U := List.mem_filter.mpr ⟨List.mem_of_getElem? (i := 26) rfl, rfl⟩
theorem m_27 : Cond.selects R_M y_M_looked y_M_looked ∈ lw_U := List.mem_filter.mpr ⟨List.mem_of_getElem? (i := 27) rfl, rfl⟩
theorem m_28 : Cond.selects R_M y_M_change y_M_change ∈ lw_U := List.mem_filter.mpr ⟨List.mem_of_getElem? (i := 28) rfl, rfl⟩
theorem m_29 : Cond.selects R_M y_M_put y_M_put ∈ lw_U := List.mem_filter.mpr ⟨List.mem_of_getElem? (i := 29) rfl, rfl⟩
theorem m_30 : Cond.selects R_M y_M_step y_M_step ∈ lw_U := List.mem_filter.mpr ⟨List.mem_of_getElem? (i := 30) rfl, rfl⟩
theorem m_31 : Cond.selects R_M y_M_changeSeal y_M_changeSeal ∈ lw_U := List.mem_filter.mpr ⟨List.mem_of_getElem? (i := 31) rfl, rfl⟩
theorem m_32 : Cond.initialized R_law ∈ lw_U := List.mem_filter.mpr ⟨List.mem_of_getElem? (i := 32) rfl, rfl⟩
theorem m_33 : Cond.initialized R_X ∈ lw_U := List.mem_filter.mpr ⟨List.mem_of_getElem? (i := 33) rfl, rfl⟩
theorem m_34 : Cond.initialized R_M ∈ lw_U := List.mem_filter.mpr ⟨List.mem_of_getElem? (i := 34) rfl, rfl⟩
theorem m_35 : Cond.classLink R_law 7 R_X ∈ lw_U := List.mem_filter.mpr ⟨List.mem_of_getElem? (i := 35) rfl, rfl⟩
theorem m_36 : Cond.instantiable R_X 12 ∈ lw_U := List.mem_filter.mpr ⟨List.mem_of_getElem? (i := 36) rfl, rfl⟩
theorem m_37 : Cond.methodLink R_law 9 y_X_init ∈ lw_U := List.mem_filter.mpr ⟨List.mem_of_getElem? (i := 37) rfl, rfl⟩
theorem m_38 : Cond.instanceMethod y_X_init ∈ lw_U := List.mem_filter.mpr ⟨List.mem_of_getElem? (i := 38) rfl, rfl⟩
theorem m_39 : Cond.code y_X_init b_X_init 2 none ∈ lw_U := List.mem_filter.mpr ⟨List.mem_of_getElem? (i := 39) rfl, rfl⟩
theorem m_40 : Cond.methodLink R_X 3 objectInit ∈ lw_U := List.mem_filter.mpr ⟨List.mem_of_getElem? (i := 40) rfl, rfl⟩
theorem m_41 : Cond.instanceMethod objectInit ∈ lw_U := List.mem_filter.mpr ⟨List.mem_of_getElem? (i := 41) rfl, rfl⟩
theorem m_42 : Cond.code objectInit ⟨#[0xb1]⟩ 1 none ∈ lw_U := List.mem_filter.mpr ⟨List.mem_of_getElem? (i := 42) rfl, rfl⟩
theorem m_43 : Cond.methodLink R_X 27 y_X_encipher ∈ lw_U := List.mem_filter.mpr ⟨List.mem_of_getElem? (i := 43) rfl, rfl⟩
theorem m_44 : Cond.static y_X_encipher ∈ lw_U := List.mem_filter.mpr ⟨List.mem_of_getElem? (i := 44) rfl, rfl⟩
theorem m_45 : Cond.code y_X_encipher b_X_encipher 3 (some .int) ∈ lw_U := List.mem_filter.mpr ⟨List.mem_of_getElem? (i := 45) rfl, rfl⟩
theorem m_46 : Cond.constant R_X 99 (19088743) ∈ lw_U := List.mem_filter.mpr ⟨List.mem_of_getElem? (i := 46) rfl, rfl⟩
theorem m_47 : Cond.methodLink R_X 100 y_X_digest ∈ lw_U := List.mem_filter.mpr ⟨List.mem_of_getElem? (i := 47) rfl, rfl⟩
theorem m_48 : Cond.static y_X_digest ∈ lw_U := List.mem_filter.mpr ⟨List.mem_of_getElem? (i := 48) rfl, rfl⟩
theorem m_49 : Cond.code y_X_digest b_X_digest 3 (some .int) ∈ lw_U := List.mem_filter.mpr ⟨List.mem_of_getElem? (i := 49) rfl, rfl⟩
theorem m_50 : Cond.constant R_X 97 (668265263) ∈ lw_U := List.mem_filter.mpr ⟨List.mem_of_getElem? (i := 50) rfl, rfl⟩
theorem m_51 : Cond.constant R_X 98 (-1640531527) ∈ lw_U := List.mem_filter.mpr ⟨List.mem_of_getElem? (i := 51) rfl, rfl⟩
theorem m_52 : Cond.methodLink R_X 31 y_X_nodePlace ∈ lw_U := List.mem_filter.mpr ⟨List.mem_of_getElem? (i := 52) rfl, rfl⟩
theorem m_53 : Cond.static y_X_nodePlace ∈ lw_U := List.mem_filter.mpr ⟨List.mem_of_getElem? (i := 53) rfl, rfl⟩
theorem m_54 : Cond.code y_X_nodePlace b_X_nodePlace 2 (some .int) ∈ lw_U := List.mem_filter.mpr ⟨List.mem_of_getElem? (i := 54) rfl, rfl⟩
theorem m_55 : Cond.methodLink R_X 35 y_X_dueNode ∈ lw_U := List.mem_filter.mpr ⟨List.mem_of_getElem? (i := 55) rfl, rfl⟩
theorem m_57 : Cond.instanceMethod y_X_dueNode ∈ lw_U := List.mem_filter.mpr ⟨List.mem_of_getElem? (i := 57) rfl, rfl⟩
theorem m_58 : Cond.code y_X_dueNode b_X_dueNode 6 (some .int) ∈ lw_U := List.mem_filter.mpr ⟨List.mem_of_getElem? (i := 58) rfl, rfl⟩
theorem m_59 : Cond.methodLink R_X 103 y_X_sectorPlace ∈ lw_U := List.mem_filter.mpr ⟨List.mem_of_getElem? (i := 59) rfl, rfl⟩
theorem m_60 : Cond.static y_X_sectorPlace ∈ lw_U := List.mem_filter.mpr ⟨List.mem_of_getElem? (i := 60) rfl, rfl⟩
theorem m_61 : Cond.code y_X_sectorPlace b_X_sectorPlace 2 (some .int) ∈ lw_U := List.mem_filter.mpr ⟨List.mem_of_getElem? (i := 61) rfl, rfl⟩
theorem m_62 : Cond.fieldLink R_X 9 "SealedSectors" "disk" "[I" ∈ lw_U := List.mem_filter.mpr ⟨List.mem_of_getElem? (i := 62) rfl, rfl⟩
theorem m_63 : Cond.fieldLink R_X 81 "SealedSectors" "half" "I" ∈ lw_U := List.mem_filter.mpr ⟨List.mem_of_getElem? (i := 63) rfl, rfl⟩
theorem m_64 : Cond.fieldLink R_X 24 "SealedSectors" "generation" "I" ∈ lw_U := List.mem_filter.mpr ⟨List.mem_of_getElem? (i := 64) rfl, rfl⟩
theorem m_65 : Cond.fieldLink R_X 38 "SealedSectors" "root" "I" ∈ lw_U := List.mem_filter.mpr ⟨List.mem_of_getElem? (i := 65) rfl, rfl⟩
theorem m_66 : Cond.fieldLink R_X 47 "SealedSectors" "count" "I" ∈ lw_U := List.mem_filter.mpr ⟨List.mem_of_getElem? (i := 66) rfl, rfl⟩
theorem m_67 : Cond.fieldLink R_X 20 "SealedSectors" "stepsLeft" "I" ∈ lw_U := List.mem_filter.mpr ⟨List.mem_of_getElem? (i := 67) rfl, rfl⟩
theorem m_68 : Cond.fieldLink R_X 94 "SealedSectors" "stepsMade" "I" ∈ lw_U := List.mem_filter.mpr ⟨List.mem_of_getElem? (i := 68) rfl, rfl⟩
theorem m_69 : Cond.fieldLink R_X 53 "SealedSectors" "on" "Z" ∈ lw_U := List.mem_filter.mpr ⟨List.mem_of_getElem? (i := 69) rfl, rfl⟩
theorem m_70 : Cond.fieldLink R_X 44 "SealedSectors" "listSize" "I" ∈ lw_U := List.mem_filter.mpr ⟨List.mem_of_getElem? (i := 70) rfl, rfl⟩
theorem m_71 : Cond.fieldLink R_X 13 "SealedSectors" "listSectors" "[I" ∈ lw_U := List.mem_filter.mpr ⟨List.mem_of_getElem? (i := 71) rfl, rfl⟩
theorem m_72 : Cond.fieldLink R_X 16 "SealedSectors" "listValues" "[J" ∈ lw_U := List.mem_filter.mpr ⟨List.mem_of_getElem? (i := 72) rfl, rfl⟩
theorem m_73 : Cond.fieldLink R_X 117 "SealedSectors" "chain" "I" ∈ lw_U := List.mem_filter.mpr ⟨List.mem_of_getElem? (i := 73) rfl, rfl⟩
theorem m_99 : Cond.arrayClass .int ∈ lw_U := List.mem_filter.mpr ⟨List.mem_of_getElem? (i := 99) rfl, rfl⟩
theorem m_100 : Cond.arrayClass .long ∈ lw_U := List.mem_filter.mpr ⟨List.mem_of_getElem? (i := 100) rfl, rfl⟩
theorem m_101 : Cond.methodLink R_law 13 y_X_mount ∈ lw_U := List.mem_filter.mpr ⟨List.mem_of_getElem? (i := 101) rfl, rfl⟩
theorem m_102 : Cond.instanceMethod y_X_mount ∈ lw_U := List.mem_filter.mpr ⟨List.mem_of_getElem? (i := 102) rfl, rfl⟩
theorem m_103 : Cond.selects R_X y_X_mount y_X_mount ∈ lw_U := List.mem_filter.mpr ⟨List.mem_of_getElem? (i := 103) rfl, rfl⟩
theorem m_104 : Cond.code y_X_mount b_X_mount 1 (some .int) ∈ lw_U := List.mem_filter.mpr ⟨List.mem_of_getElem? (i := 104) rfl, rfl⟩
theorem m_105 : Cond.methodLink R_X 41 y_X_takeJournal ∈ lw_U := List.mem_filter.mpr ⟨List.mem_of_getElem? (i := 105) rfl, rfl⟩
theorem m_107 : Cond.instanceMethod y_X_takeJournal ∈ lw_U := List.mem_filter.mpr ⟨List.mem_of_getElem? (i := 107) rfl, rfl⟩
theorem m_108 : Cond.code y_X_takeJournal b_X_takeJournal 7 none ∈ lw_U := List.mem_filter.mpr ⟨List.mem_of_getElem? (i := 108) rfl, rfl⟩
theorem m_109 : Cond.methodLink R_X 120 y_X_beginList ∈ lw_U := List.mem_filter.mpr ⟨List.mem_of_getElem? (i := 109) rfl, rfl⟩
theorem m_111 : Cond.instanceMethod y_X_beginList ∈ lw_U := List.mem_filter.mpr ⟨List.mem_of_getElem? (i := 111) rfl, rfl⟩
theorem m_112 : Cond.code y_X_beginList b_X_beginList 1 none ∈ lw_U := List.mem_filter.mpr ⟨List.mem_of_getElem? (i := 112) rfl, rfl⟩
theorem m_113 : Cond.methodLink R_X 123 y_X_recordPlace ∈ lw_U := List.mem_filter.mpr ⟨List.mem_of_getElem? (i := 113) rfl, rfl⟩
theorem m_114 : Cond.static y_X_recordPlace ∈ lw_U := List.mem_filter.mpr ⟨List.mem_of_getElem? (i := 114) rfl, rfl⟩
theorem m_115 : Cond.code y_X_recordPlace b_X_recordPlace 2 (some .int) ∈ lw_U := List.mem_filter.mpr ⟨List.mem_of_getElem? (i := 115) rfl, rfl⟩
theorem m_116 : Cond.methodLink R_X 126 y_X_chainBehind ∈ lw_U := List.mem_filter.mpr ⟨List.mem_of_getElem? (i := 116) rfl, rfl⟩
theorem m_118 : Cond.instanceMethod y_X_chainBehind ∈ lw_U := List.mem_filter.mpr ⟨List.mem_of_getElem? (i := 118) rfl, rfl⟩
theorem m_119 : Cond.code y_X_chainBehind b_X_chainBehind 2 (some .int) ∈ lw_U := List.mem_filter.mpr ⟨List.mem_of_getElem? (i := 119) rfl, rfl⟩
theorem m_120 : Cond.methodLink R_X 114 y_X_valueAt ∈ lw_U := List.mem_filter.mpr ⟨List.mem_of_getElem? (i := 120) rfl, rfl⟩
theorem m_122 : Cond.instanceMethod y_X_valueAt ∈ lw_U := List.mem_filter.mpr ⟨List.mem_of_getElem? (i := 122) rfl, rfl⟩
theorem m_123 : Cond.code y_X_valueAt b_X_valueAt 6 (some .long) ∈ lw_U := List.mem_filter.mpr ⟨List.mem_of_getElem? (i := 123) rfl, rfl⟩
theorem m_124 : Cond.constantLong R_X 106 (4294967295) ∈ lw_U := List.mem_filter.mpr ⟨List.mem_of_getElem? (i := 124) rfl, rfl⟩
theorem m_125 : Cond.methodLink R_X 129 y_X_markOf ∈ lw_U := List.mem_filter.mpr ⟨List.mem_of_getElem? (i := 125) rfl, rfl⟩
theorem m_126 : Cond.static y_X_markOf ∈ lw_U := List.mem_filter.mpr ⟨List.mem_of_getElem? (i := 126) rfl, rfl⟩
theorem m_127 : Cond.code y_X_markOf b_X_markOf 1 (some .int) ∈ lw_U := List.mem_filter.mpr ⟨List.mem_of_getElem? (i := 127) rfl, rfl⟩
theorem m_128 : Cond.methodLink R_X 57 y_X_isSector ∈ lw_U := List.mem_filter.mpr ⟨List.mem_of_getElem? (i := 128) rfl, rfl⟩
theorem m_129 : Cond.static y_X_isSector ∈ lw_U := List.mem_filter.mpr ⟨List.mem_of_getElem? (i := 129) rfl, rfl⟩
theorem m_130 : Cond.code y_X_isSector b_X_isSector 1 (some .boolean) ∈ lw_U := List.mem_filter.mpr ⟨List.mem_of_getElem? (i := 130) rfl, rfl⟩
theorem m_131 : Cond.methodLink R_X 69 y_X_addToList ∈ lw_U := List.mem_filter.mpr ⟨List.mem_of_getElem? (i := 131) rfl, rfl⟩
theorem m_133 : Cond.instanceMethod y_X_addToList ∈ lw_U := List.mem_filter.mpr ⟨List.mem_of_getElem? (i := 133) rfl, rfl⟩
theorem m_134 : Cond.code y_X_addToList b_X_addToList 4 none ∈ lw_U := List.mem_filter.mpr ⟨List.mem_of_getElem? (i := 134) rfl, rfl⟩
theorem m_135 : Cond.methodLink R_X 50 y_X_forget ∈ lw_U := List.mem_filter.mpr ⟨List.mem_of_getElem? (i := 135) rfl, rfl⟩
theorem m_137 : Cond.instanceMethod y_X_forget ∈ lw_U := List.mem_filter.mpr ⟨List.mem_of_getElem? (i := 137) rfl, rfl⟩
theorem m_138 : Cond.code y_X_forget b_X_forget 1 none ∈ lw_U := List.mem_filter.mpr ⟨List.mem_of_getElem? (i := 138) rfl, rfl⟩
theorem m_139 : Cond.methodLink R_law 18 y_X_arm ∈ lw_U := List.mem_filter.mpr ⟨List.mem_of_getElem? (i := 139) rfl, rfl⟩
theorem m_140 : Cond.instanceMethod y_X_arm ∈ lw_U := List.mem_filter.mpr ⟨List.mem_of_getElem? (i := 140) rfl, rfl⟩
theorem m_141 : Cond.selects R_X y_X_arm y_X_arm ∈ lw_U := List.mem_filter.mpr ⟨List.mem_of_getElem? (i := 141) rfl, rfl⟩
theorem m_142 : Cond.code y_X_arm b_X_arm 2 (some .boolean) ∈ lw_U := List.mem_filter.mpr ⟨List.mem_of_getElem? (i := 142) rfl, rfl⟩
theorem m_143 : Cond.methodLink R_law 23 y_X_isOn ∈ lw_U := List.mem_filter.mpr ⟨List.mem_of_getElem? (i := 143) rfl, rfl⟩
theorem m_144 : Cond.instanceMethod y_X_isOn ∈ lw_U := List.mem_filter.mpr ⟨List.mem_of_getElem? (i := 144) rfl, rfl⟩
theorem m_145 : Cond.selects R_X y_X_isOn y_X_isOn ∈ lw_U := List.mem_filter.mpr ⟨List.mem_of_getElem? (i := 145) rfl, rfl⟩
theorem m_146 : Cond.code y_X_isOn b_X_isOn 1 (some .boolean) ∈ lw_U := List.mem_filter.mpr ⟨List.mem_of_getElem? (i := 146) rfl, rfl⟩
theorem m_147 : Cond.methodLink R_law 30 y_X_write ∈ lw_U := List.mem_filter.mpr ⟨List.mem_of_getElem? (i := 147) rfl, rfl⟩
theorem m_148 : Cond.instanceMethod y_X_write ∈ lw_U := List.mem_filter.mpr ⟨List.mem_of_getElem? (i := 148) rfl, rfl⟩
theorem m_149 : Cond.selects R_X y_X_write y_X_write ∈ lw_U := List.mem_filter.mpr ⟨List.mem_of_getElem? (i := 149) rfl, rfl⟩
theorem m_150 : Cond.code y_X_write b_X_write 5 (some .int) ∈ lw_U := List.mem_filter.mpr ⟨List.mem_of_getElem? (i := 150) rfl, rfl⟩
theorem m_151 : Cond.methodLink R_X 61 y_X_moveToOtherHalf ∈ lw_U := List.mem_filter.mpr ⟨List.mem_of_getElem? (i := 151) rfl, rfl⟩
theorem m_153 : Cond.instanceMethod y_X_moveToOtherHalf ∈ lw_U := List.mem_filter.mpr ⟨List.mem_of_getElem? (i := 153) rfl, rfl⟩
theorem m_154 : Cond.code y_X_moveToOtherHalf b_X_moveToOtherHalf 3 (some .int) ∈ lw_U := List.mem_filter.mpr ⟨List.mem_of_getElem? (i := 154) rfl, rfl⟩
theorem m_155 : Cond.methodLink R_X 91 y_X_soundSectors ∈ lw_U := List.mem_filter.mpr ⟨List.mem_of_getElem? (i := 155) rfl, rfl⟩
theorem m_157 : Cond.instanceMethod y_X_soundSectors ∈ lw_U := List.mem_filter.mpr ⟨List.mem_of_getElem? (i := 157) rfl, rfl⟩
theorem m_158 : Cond.code y_X_soundSectors b_X_soundSectors 3 (some .int) ∈ lw_U := List.mem_filter.mpr ⟨List.mem_of_getElem? (i := 158) rfl, rfl⟩
theorem m_159 : Cond.methodLink R_X 77 y_X_valueOf ∈ lw_U := List.mem_filter.mpr ⟨List.mem_of_getElem? (i := 159) rfl, rfl⟩
theorem m_161 : Cond.instanceMethod y_X_valueOf ∈ lw_U := List.mem_filter.mpr ⟨List.mem_of_getElem? (i := 161) rfl, rfl⟩
theorem m_162 : Cond.code y_X_valueOf b_X_valueOf 4 (some .long) ∈ lw_U := List.mem_filter.mpr ⟨List.mem_of_getElem? (i := 162) rfl, rfl⟩
theorem m_163 : Cond.methodLink R_X 108 y_X_rootAbove ∈ lw_U := List.mem_filter.mpr ⟨List.mem_of_getElem? (i := 163) rfl, rfl⟩
theorem m_165 : Cond.instanceMethod y_X_rootAbove ∈ lw_U := List.mem_filter.mpr ⟨List.mem_of_getElem? (i := 165) rfl, rfl⟩
theorem m_166 : Cond.code y_X_rootAbove b_X_rootAbove 5 (some .int) ∈ lw_U := List.mem_filter.mpr ⟨List.mem_of_getElem? (i := 166) rfl, rfl⟩
theorem m_167 : Cond.constantLong R_X 112 (-3) ∈ lw_U := List.mem_filter.mpr ⟨List.mem_of_getElem? (i := 167) rfl, rfl⟩
theorem m_168 : Cond.methodLink R_X 151 y_X_clearMarks ∈ lw_U := List.mem_filter.mpr ⟨List.mem_of_getElem? (i := 168) rfl, rfl⟩
theorem m_170 : Cond.instanceMethod y_X_clearMarks ∈ lw_U := List.mem_filter.mpr ⟨List.mem_of_getElem? (i := 170) rfl, rfl⟩
theorem m_171 : Cond.code y_X_clearMarks b_X_clearMarks 3 (some .boolean) ∈ lw_U := List.mem_filter.mpr ⟨List.mem_of_getElem? (i := 171) rfl, rfl⟩
theorem m_172 : Cond.methodLink R_X 140 y_X_storeWord ∈ lw_U := List.mem_filter.mpr ⟨List.mem_of_getElem? (i := 172) rfl, rfl⟩
theorem m_174 : Cond.instanceMethod y_X_storeWord ∈ lw_U := List.mem_filter.mpr ⟨List.mem_of_getElem? (i := 174) rfl, rfl⟩
theorem m_175 : Cond.code y_X_storeWord b_X_storeWord 3 (some .boolean) ∈ lw_U := List.mem_filter.mpr ⟨List.mem_of_getElem? (i := 175) rfl, rfl⟩
theorem m_176 : Cond.methodLink R_X 132 y_X_stepHappens ∈ lw_U := List.mem_filter.mpr ⟨List.mem_of_getElem? (i := 176) rfl, rfl⟩
theorem m_178 : Cond.instanceMethod y_X_stepHappens ∈ lw_U := List.mem_filter.mpr ⟨List.mem_of_getElem? (i := 178) rfl, rfl⟩
theorem m_179 : Cond.code y_X_stepHappens b_X_stepHappens 1 (some .boolean) ∈ lw_U := List.mem_filter.mpr ⟨List.mem_of_getElem? (i := 179) rfl, rfl⟩
theorem m_180 : Cond.methodLink R_X 154 y_X_storeSectors ∈ lw_U := List.mem_filter.mpr ⟨List.mem_of_getElem? (i := 180) rfl, rfl⟩
theorem m_182 : Cond.instanceMethod y_X_storeSectors ∈ lw_U := List.mem_filter.mpr ⟨List.mem_of_getElem? (i := 182) rfl, rfl⟩
theorem m_183 : Cond.code y_X_storeSectors b_X_storeSectors 4 (some .boolean) ∈ lw_U := List.mem_filter.mpr ⟨List.mem_of_getElem? (i := 183) rfl, rfl⟩
theorem m_184 : Cond.methodLink R_X 147 y_X_storeValue ∈ lw_U := List.mem_filter.mpr ⟨List.mem_of_getElem? (i := 184) rfl, rfl⟩
theorem m_186 : Cond.instanceMethod y_X_storeValue ∈ lw_U := List.mem_filter.mpr ⟨List.mem_of_getElem? (i := 186) rfl, rfl⟩
theorem m_187 : Cond.code y_X_storeValue b_X_storeValue 5 (some .boolean) ∈ lw_U := List.mem_filter.mpr ⟨List.mem_of_getElem? (i := 187) rfl, rfl⟩
theorem m_188 : Cond.methodLink R_X 136 y_X_upper ∈ lw_U := List.mem_filter.mpr ⟨List.mem_of_getElem? (i := 188) rfl, rfl⟩
theorem m_189 : Cond.static y_X_upper ∈ lw_U := List.mem_filter.mpr ⟨List.mem_of_getElem? (i := 189) rfl, rfl⟩
theorem m_190 : Cond.code y_X_upper b_X_upper 2 (some .int) ∈ lw_U := List.mem_filter.mpr ⟨List.mem_of_getElem? (i := 190) rfl, rfl⟩
theorem m_191 : Cond.methodLink R_X 144 y_X_lower ∈ lw_U := List.mem_filter.mpr ⟨List.mem_of_getElem? (i := 191) rfl, rfl⟩
theorem m_192 : Cond.static y_X_lower ∈ lw_U := List.mem_filter.mpr ⟨List.mem_of_getElem? (i := 192) rfl, rfl⟩
theorem m_193 : Cond.code y_X_lower b_X_lower 2 (some .int) ∈ lw_U := List.mem_filter.mpr ⟨List.mem_of_getElem? (i := 193) rfl, rfl⟩
theorem m_194 : Cond.methodLink R_X 157 y_X_storeNodes ∈ lw_U := List.mem_filter.mpr ⟨List.mem_of_getElem? (i := 194) rfl, rfl⟩
theorem m_196 : Cond.instanceMethod y_X_storeNodes ∈ lw_U := List.mem_filter.mpr ⟨List.mem_of_getElem? (i := 196) rfl, rfl⟩
theorem m_197 : Cond.code y_X_storeNodes b_X_storeNodes 4 (some .boolean) ∈ lw_U := List.mem_filter.mpr ⟨List.mem_of_getElem? (i := 197) rfl, rfl⟩
theorem m_198 : Cond.methodLink R_X 84 y_X_changeSeal ∈ lw_U := List.mem_filter.mpr ⟨List.mem_of_getElem? (i := 198) rfl, rfl⟩
theorem m_200 : Cond.instanceMethod y_X_changeSeal ∈ lw_U := List.mem_filter.mpr ⟨List.mem_of_getElem? (i := 200) rfl, rfl⟩
theorem m_201 : Cond.code y_X_changeSeal b_X_changeSeal 5 (some .boolean) ∈ lw_U := List.mem_filter.mpr ⟨List.mem_of_getElem? (i := 201) rfl, rfl⟩
theorem m_202 : Cond.methodLink R_X 65 y_X_storeRecord ∈ lw_U := List.mem_filter.mpr ⟨List.mem_of_getElem? (i := 202) rfl, rfl⟩
theorem m_204 : Cond.instanceMethod y_X_storeRecord ∈ lw_U := List.mem_filter.mpr ⟨List.mem_of_getElem? (i := 204) rfl, rfl⟩
theorem m_205 : Cond.code y_X_storeRecord b_X_storeRecord 6 (some .boolean) ∈ lw_U := List.mem_filter.mpr ⟨List.mem_of_getElem? (i := 205) rfl, rfl⟩
theorem m_206 : Cond.methodLink R_law 35 y_X_read ∈ lw_U := List.mem_filter.mpr ⟨List.mem_of_getElem? (i := 206) rfl, rfl⟩
theorem m_207 : Cond.instanceMethod y_X_read ∈ lw_U := List.mem_filter.mpr ⟨List.mem_of_getElem? (i := 207) rfl, rfl⟩
theorem m_208 : Cond.selects R_X y_X_read y_X_read ∈ lw_U := List.mem_filter.mpr ⟨List.mem_of_getElem? (i := 208) rfl, rfl⟩
theorem m_209 : Cond.code y_X_read b_X_read 2 (some .long) ∈ lw_U := List.mem_filter.mpr ⟨List.mem_of_getElem? (i := 209) rfl, rfl⟩
theorem m_210 : Cond.constantLong R_X 73 (-1) ∈ lw_U := List.mem_filter.mpr ⟨List.mem_of_getElem? (i := 210) rfl, rfl⟩
theorem m_211 : Cond.constantLong R_X 75 (-2) ∈ lw_U := List.mem_filter.mpr ⟨List.mem_of_getElem? (i := 211) rfl, rfl⟩
theorem m_212 : Cond.methodLink R_law 40 y_X_sync ∈ lw_U := List.mem_filter.mpr ⟨List.mem_of_getElem? (i := 212) rfl, rfl⟩
theorem m_213 : Cond.instanceMethod y_X_sync ∈ lw_U := List.mem_filter.mpr ⟨List.mem_of_getElem? (i := 213) rfl, rfl⟩
theorem m_214 : Cond.selects R_X y_X_sync y_X_sync ∈ lw_U := List.mem_filter.mpr ⟨List.mem_of_getElem? (i := 214) rfl, rfl⟩
theorem m_215 : Cond.code y_X_sync b_X_sync 1 (some .int) ∈ lw_U := List.mem_filter.mpr ⟨List.mem_of_getElem? (i := 215) rfl, rfl⟩
theorem m_216 : Cond.methodLink R_law 44 y_X_checkpoint ∈ lw_U := List.mem_filter.mpr ⟨List.mem_of_getElem? (i := 216) rfl, rfl⟩
theorem m_217 : Cond.instanceMethod y_X_checkpoint ∈ lw_U := List.mem_filter.mpr ⟨List.mem_of_getElem? (i := 217) rfl, rfl⟩
theorem m_218 : Cond.selects R_X y_X_checkpoint y_X_checkpoint ∈ lw_U := List.mem_filter.mpr ⟨List.mem_of_getElem? (i := 218) rfl, rfl⟩
theorem m_219 : Cond.code y_X_checkpoint b_X_checkpoint 1 (some .int) ∈ lw_U := List.mem_filter.mpr ⟨List.mem_of_getElem? (i := 219) rfl, rfl⟩
theorem m_220 : Cond.methodLink R_law 48 y_X_alter ∈ lw_U := List.mem_filter.mpr ⟨List.mem_of_getElem? (i := 220) rfl, rfl⟩
theorem m_221 : Cond.instanceMethod y_X_alter ∈ lw_U := List.mem_filter.mpr ⟨List.mem_of_getElem? (i := 221) rfl, rfl⟩
theorem m_222 : Cond.selects R_X y_X_alter y_X_alter ∈ lw_U := List.mem_filter.mpr ⟨List.mem_of_getElem? (i := 222) rfl, rfl⟩
theorem m_223 : Cond.code y_X_alter b_X_alter 3 (some .boolean) ∈ lw_U := List.mem_filter.mpr ⟨List.mem_of_getElem? (i := 223) rfl, rfl⟩
theorem m_224 : Cond.methodLink R_X 88 y_X_isPlace ∈ lw_U := List.mem_filter.mpr ⟨List.mem_of_getElem? (i := 224) rfl, rfl⟩
theorem m_225 : Cond.static y_X_isPlace ∈ lw_U := List.mem_filter.mpr ⟨List.mem_of_getElem? (i := 225) rfl, rfl⟩
theorem m_226 : Cond.code y_X_isPlace b_X_isPlace 1 (some .boolean) ∈ lw_U := List.mem_filter.mpr ⟨List.mem_of_getElem? (i := 226) rfl, rfl⟩
theorem m_227 : Cond.methodLink R_law 53 y_X_peek ∈ lw_U := List.mem_filter.mpr ⟨List.mem_of_getElem? (i := 227) rfl, rfl⟩
theorem m_228 : Cond.instanceMethod y_X_peek ∈ lw_U := List.mem_filter.mpr ⟨List.mem_of_getElem? (i := 228) rfl, rfl⟩
theorem m_229 : Cond.selects R_X y_X_peek y_X_peek ∈ lw_U := List.mem_filter.mpr ⟨List.mem_of_getElem? (i := 229) rfl, rfl⟩
theorem m_230 : Cond.code y_X_peek b_X_peek 2 (some .int) ∈ lw_U := List.mem_filter.mpr ⟨List.mem_of_getElem? (i := 230) rfl, rfl⟩
theorem m_231 : Cond.methodLink R_law 58 y_X_seal ∈ lw_U := List.mem_filter.mpr ⟨List.mem_of_getElem? (i := 231) rfl, rfl⟩
theorem m_232 : Cond.instanceMethod y_X_seal ∈ lw_U := List.mem_filter.mpr ⟨List.mem_of_getElem? (i := 232) rfl, rfl⟩
theorem m_233 : Cond.selects R_X y_X_seal y_X_seal ∈ lw_U := List.mem_filter.mpr ⟨List.mem_of_getElem? (i := 233) rfl, rfl⟩
theorem m_234 : Cond.code y_X_seal b_X_seal 2 (some .int) ∈ lw_U := List.mem_filter.mpr ⟨List.mem_of_getElem? (i := 234) rfl, rfl⟩
theorem m_235 : Cond.methodLink R_law 62 y_X_writes ∈ lw_U := List.mem_filter.mpr ⟨List.mem_of_getElem? (i := 235) rfl, rfl⟩
theorem m_236 : Cond.instanceMethod y_X_writes ∈ lw_U := List.mem_filter.mpr ⟨List.mem_of_getElem? (i := 236) rfl, rfl⟩
theorem m_237 : Cond.selects R_X y_X_writes y_X_writes ∈ lw_U := List.mem_filter.mpr ⟨List.mem_of_getElem? (i := 237) rfl, rfl⟩
theorem m_238 : Cond.code y_X_writes b_X_writes 1 (some .int) ∈ lw_U := List.mem_filter.mpr ⟨List.mem_of_getElem? (i := 238) rfl, rfl⟩
theorem m_239 : Cond.methodLink R_law 66 y_X_sound ∈ lw_U := List.mem_filter.mpr ⟨List.mem_of_getElem? (i := 239) rfl, rfl⟩
theorem m_240 : Cond.instanceMethod y_X_sound ∈ lw_U := List.mem_filter.mpr ⟨List.mem_of_getElem? (i := 240) rfl, rfl⟩
theorem m_241 : Cond.selects R_X y_X_sound y_X_sound ∈ lw_U := List.mem_filter.mpr ⟨List.mem_of_getElem? (i := 241) rfl, rfl⟩
theorem m_242 : Cond.code y_X_sound b_X_sound 1 (some .int) ∈ lw_U := List.mem_filter.mpr ⟨List.mem_of_getElem? (i := 242) rfl, rfl⟩
theorem m_243 : Cond.methodLink R_law 70 y_X_steps ∈ lw_U := List.mem_filter.mpr ⟨List.mem_of_getElem? (i := 243) rfl, rfl⟩
theorem m_244 : Cond.instanceMethod y_X_steps ∈ lw_U := List.mem_filter.mpr ⟨List.mem_of_getElem? (i := 244) rfl, rfl⟩
theorem m_245 : Cond.selects R_X y_X_steps y_X_steps ∈ lw_U := List.mem_filter.mpr ⟨List.mem_of_getElem? (i := 245) rfl, rfl⟩
theorem m_246 : Cond.code y_X_steps b_X_steps 1 (some .int) ∈ lw_U := List.mem_filter.mpr ⟨List.mem_of_getElem? (i := 246) rfl, rfl⟩
theorem m_247 : Cond.classLink R_law 10 R_M ∈ lw_U := List.mem_filter.mpr ⟨List.mem_of_getElem? (i := 247) rfl, rfl⟩
theorem m_248 : Cond.instantiable R_M 15 ∈ lw_U := List.mem_filter.mpr ⟨List.mem_of_getElem? (i := 248) rfl, rfl⟩
theorem m_249 : Cond.methodLink R_law 12 y_M_init ∈ lw_U := List.mem_filter.mpr ⟨List.mem_of_getElem? (i := 249) rfl, rfl⟩
theorem m_250 : Cond.instanceMethod y_M_init ∈ lw_U := List.mem_filter.mpr ⟨List.mem_of_getElem? (i := 250) rfl, rfl⟩
theorem m_251 : Cond.code y_M_init b_M_init 2 none ∈ lw_U := List.mem_filter.mpr ⟨List.mem_of_getElem? (i := 251) rfl, rfl⟩
theorem m_252 : Cond.methodLink R_M 1 objectInit ∈ lw_U := List.mem_filter.mpr ⟨List.mem_of_getElem? (i := 252) rfl, rfl⟩
theorem m_253 : Cond.methodLink R_M 33 y_M_key ∈ lw_U := List.mem_filter.mpr ⟨List.mem_of_getElem? (i := 253) rfl, rfl⟩
theorem m_254 : Cond.static y_M_key ∈ lw_U := List.mem_filter.mpr ⟨List.mem_of_getElem? (i := 254) rfl, rfl⟩
theorem m_255 : Cond.code y_M_key b_M_key 2 (some .int) ∈ lw_U := List.mem_filter.mpr ⟨List.mem_of_getElem? (i := 255) rfl, rfl⟩
theorem m_256 : Cond.constant R_M 46 (19088743) ∈ lw_U := List.mem_filter.mpr ⟨List.mem_of_getElem? (i := 256) rfl, rfl⟩
theorem m_257 : Cond.methodLink R_M 47 y_M_digest ∈ lw_U := List.mem_filter.mpr ⟨List.mem_of_getElem? (i := 257) rfl, rfl⟩
theorem m_258 : Cond.static y_M_digest ∈ lw_U := List.mem_filter.mpr ⟨List.mem_of_getElem? (i := 258) rfl, rfl⟩
theorem m_259 : Cond.code y_M_digest b_M_digest 4 (some .int) ∈ lw_U := List.mem_filter.mpr ⟨List.mem_of_getElem? (i := 259) rfl, rfl⟩
theorem m_260 : Cond.constant R_M 44 (668265263) ∈ lw_U := List.mem_filter.mpr ⟨List.mem_of_getElem? (i := 260) rfl, rfl⟩
theorem m_261 : Cond.constant R_M 45 (-1640531527) ∈ lw_U := List.mem_filter.mpr ⟨List.mem_of_getElem? (i := 261) rfl, rfl⟩
theorem m_262 : Cond.methodLink R_M 37 y_M_nodes ∈ lw_U := List.mem_filter.mpr ⟨List.mem_of_getElem? (i := 262) rfl, rfl⟩
theorem m_264 : Cond.instanceMethod y_M_nodes ∈ lw_U := List.mem_filter.mpr ⟨List.mem_of_getElem? (i := 264) rfl, rfl⟩
theorem m_265 : Cond.code y_M_nodes b_M_nodes 4 none ∈ lw_U := List.mem_filter.mpr ⟨List.mem_of_getElem? (i := 265) rfl, rfl⟩
theorem m_266 : Cond.methodLink R_M 52 y_M_leaf ∈ lw_U := List.mem_filter.mpr ⟨List.mem_of_getElem? (i := 266) rfl, rfl⟩
theorem m_268 : Cond.instanceMethod y_M_leaf ∈ lw_U := List.mem_filter.mpr ⟨List.mem_of_getElem? (i := 268) rfl, rfl⟩
theorem m_269 : Cond.code y_M_leaf b_M_leaf 6 (some .int) ∈ lw_U := List.mem_filter.mpr ⟨List.mem_of_getElem? (i := 269) rfl, rfl⟩
theorem m_270 : Cond.fieldLink R_M 7 "SealedSectorsModel" "disk" "[I" ∈ lw_U := List.mem_filter.mpr ⟨List.mem_of_getElem? (i := 270) rfl, rfl⟩
theorem m_271 : Cond.fieldLink R_M 73 "SealedSectorsModel" "half" "I" ∈ lw_U := List.mem_filter.mpr ⟨List.mem_of_getElem? (i := 271) rfl, rfl⟩
theorem m_272 : Cond.fieldLink R_M 13 "SealedSectorsModel" "generation" "I" ∈ lw_U := List.mem_filter.mpr ⟨List.mem_of_getElem? (i := 272) rfl, rfl⟩
theorem m_273 : Cond.fieldLink R_M 41 "SealedSectorsModel" "root" "I" ∈ lw_U := List.mem_filter.mpr ⟨List.mem_of_getElem? (i := 273) rfl, rfl⟩
theorem m_274 : Cond.fieldLink R_M 76 "SealedSectorsModel" "count" "I" ∈ lw_U := List.mem_filter.mpr ⟨List.mem_of_getElem? (i := 274) rfl, rfl⟩
theorem m_275 : Cond.fieldLink R_M 60 "SealedSectorsModel" "power" "Z" ∈ lw_U := List.mem_filter.mpr ⟨List.mem_of_getElem? (i := 275) rfl, rfl⟩
theorem m_276 : Cond.fieldLink R_M 17 "SealedSectorsModel" "armed" "I" ∈ lw_U := List.mem_filter.mpr ⟨List.mem_of_getElem? (i := 276) rfl, rfl⟩
theorem m_277 : Cond.fieldLink R_M 66 "SealedSectorsModel" "steps" "I" ∈ lw_U := List.mem_filter.mpr ⟨List.mem_of_getElem? (i := 277) rfl, rfl⟩
theorem m_278 : Cond.fieldLink R_M 56 "SealedSectorsModel" "cut" "Z" ∈ lw_U := List.mem_filter.mpr ⟨List.mem_of_getElem? (i := 278) rfl, rfl⟩
theorem m_279 : Cond.fieldLink R_M 63 "SealedSectorsModel" "listed" "I" ∈ lw_U := List.mem_filter.mpr ⟨List.mem_of_getElem? (i := 279) rfl, rfl⟩
theorem m_280 : Cond.fieldLink R_M 101 "SealedSectorsModel" "link" "I" ∈ lw_U := List.mem_filter.mpr ⟨List.mem_of_getElem? (i := 280) rfl, rfl⟩
theorem m_281 : Cond.fieldLink R_M 20 "SealedSectorsModel" "sectorOf" "[I" ∈ lw_U := List.mem_filter.mpr ⟨List.mem_of_getElem? (i := 281) rfl, rfl⟩
theorem m_282 : Cond.fieldLink R_M 23 "SealedSectorsModel" "valueOf" "[J" ∈ lw_U := List.mem_filter.mpr ⟨List.mem_of_getElem? (i := 282) rfl, rfl⟩
theorem m_283 : Cond.fieldLink R_M 27 "SealedSectorsModel" "has" "[J" ∈ lw_U := List.mem_filter.mpr ⟨List.mem_of_getElem? (i := 283) rfl, rfl⟩
theorem m_284 : Cond.fieldLink R_M 30 "SealedSectorsModel" "node" "[I" ∈ lw_U := List.mem_filter.mpr ⟨List.mem_of_getElem? (i := 284) rfl, rfl⟩
theorem m_316 : Cond.methodLink R_law 22 y_M_arm ∈ lw_U := List.mem_filter.mpr ⟨List.mem_of_getElem? (i := 316) rfl, rfl⟩
theorem m_317 : Cond.instanceMethod y_M_arm ∈ lw_U := List.mem_filter.mpr ⟨List.mem_of_getElem? (i := 317) rfl, rfl⟩
theorem m_318 : Cond.selects R_M y_M_arm y_M_arm ∈ lw_U := List.mem_filter.mpr ⟨List.mem_of_getElem? (i := 318) rfl, rfl⟩
theorem m_319 : Cond.code y_M_arm b_M_arm 2 (some .boolean) ∈ lw_U := List.mem_filter.mpr ⟨List.mem_of_getElem? (i := 319) rfl, rfl⟩
theorem m_320 : Cond.methodLink R_law 27 y_M_isOn ∈ lw_U := List.mem_filter.mpr ⟨List.mem_of_getElem? (i := 320) rfl, rfl⟩
theorem m_321 : Cond.instanceMethod y_M_isOn ∈ lw_U := List.mem_filter.mpr ⟨List.mem_of_getElem? (i := 321) rfl, rfl⟩
theorem m_322 : Cond.selects R_M y_M_isOn y_M_isOn ∈ lw_U := List.mem_filter.mpr ⟨List.mem_of_getElem? (i := 322) rfl, rfl⟩
theorem m_323 : Cond.code y_M_isOn b_M_isOn 1 (some .boolean) ∈ lw_U := List.mem_filter.mpr ⟨List.mem_of_getElem? (i := 323) rfl, rfl⟩
theorem m_324 : Cond.methodLink R_law 17 y_M_mount ∈ lw_U := List.mem_filter.mpr ⟨List.mem_of_getElem? (i := 324) rfl, rfl⟩
theorem m_325 : Cond.instanceMethod y_M_mount ∈ lw_U := List.mem_filter.mpr ⟨List.mem_of_getElem? (i := 325) rfl, rfl⟩
theorem m_326 : Cond.selects R_M y_M_mount y_M_mount ∈ lw_U := List.mem_filter.mpr ⟨List.mem_of_getElem? (i := 326) rfl, rfl⟩
theorem m_327 : Cond.code y_M_mount b_M_mount 3 (some .int) ∈ lw_U := List.mem_filter.mpr ⟨List.mem_of_getElem? (i := 327) rfl, rfl⟩
theorem m_328 : Cond.methodLink R_M 97 y_M_due ∈ lw_U := List.mem_filter.mpr ⟨List.mem_of_getElem? (i := 328) rfl, rfl⟩
theorem m_330 : Cond.instanceMethod y_M_due ∈ lw_U := List.mem_filter.mpr ⟨List.mem_of_getElem? (i := 330) rfl, rfl⟩
theorem m_331 : Cond.code y_M_due b_M_due 3 (some .boolean) ∈ lw_U := List.mem_filter.mpr ⟨List.mem_of_getElem? (i := 331) rfl, rfl⟩
theorem m_332 : Cond.methodLink R_M 79 y_M_entryAt ∈ lw_U := List.mem_filter.mpr ⟨List.mem_of_getElem? (i := 332) rfl, rfl⟩
theorem m_334 : Cond.instanceMethod y_M_entryAt ∈ lw_U := List.mem_filter.mpr ⟨List.mem_of_getElem? (i := 334) rfl, rfl⟩
theorem m_335 : Cond.code y_M_entryAt b_M_entryAt 2 (some .int) ∈ lw_U := List.mem_filter.mpr ⟨List.mem_of_getElem? (i := 335) rfl, rfl⟩
theorem m_336 : Cond.methodLink R_M 83 y_M_clear ∈ lw_U := List.mem_filter.mpr ⟨List.mem_of_getElem? (i := 336) rfl, rfl⟩
theorem m_338 : Cond.instanceMethod y_M_clear ∈ lw_U := List.mem_filter.mpr ⟨List.mem_of_getElem? (i := 338) rfl, rfl⟩
theorem m_339 : Cond.code y_M_clear b_M_clear 3 (some .int) ∈ lw_U := List.mem_filter.mpr ⟨List.mem_of_getElem? (i := 339) rfl, rfl⟩
theorem m_340 : Cond.methodLink R_M 90 y_M_chain ∈ lw_U := List.mem_filter.mpr ⟨List.mem_of_getElem? (i := 340) rfl, rfl⟩
theorem m_342 : Cond.instanceMethod y_M_chain ∈ lw_U := List.mem_filter.mpr ⟨List.mem_of_getElem? (i := 342) rfl, rfl⟩
theorem m_343 : Cond.code y_M_chain b_M_chain 5 (some .int) ∈ lw_U := List.mem_filter.mpr ⟨List.mem_of_getElem? (i := 343) rfl, rfl⟩
theorem m_344 : Cond.methodLink R_M 93 y_M_recorded ∈ lw_U := List.mem_filter.mpr ⟨List.mem_of_getElem? (i := 344) rfl, rfl⟩
theorem m_346 : Cond.instanceMethod y_M_recorded ∈ lw_U := List.mem_filter.mpr ⟨List.mem_of_getElem? (i := 346) rfl, rfl⟩
theorem m_347 : Cond.code y_M_recorded b_M_recorded 5 (some .long) ∈ lw_U := List.mem_filter.mpr ⟨List.mem_of_getElem? (i := 347) rfl, rfl⟩
theorem m_348 : Cond.methodLink R_M 86 y_M_joined ∈ lw_U := List.mem_filter.mpr ⟨List.mem_of_getElem? (i := 348) rfl, rfl⟩
theorem m_349 : Cond.static y_M_joined ∈ lw_U := List.mem_filter.mpr ⟨List.mem_of_getElem? (i := 349) rfl, rfl⟩
theorem m_350 : Cond.code y_M_joined b_M_joined 2 (some .long) ∈ lw_U := List.mem_filter.mpr ⟨List.mem_of_getElem? (i := 350) rfl, rfl⟩
theorem m_351 : Cond.constantLong R_M 50 (4294967295) ∈ lw_U := List.mem_filter.mpr ⟨List.mem_of_getElem? (i := 351) rfl, rfl⟩
theorem m_352 : Cond.methodLink R_law 39 y_M_read ∈ lw_U := List.mem_filter.mpr ⟨List.mem_of_getElem? (i := 352) rfl, rfl⟩
theorem m_353 : Cond.instanceMethod y_M_read ∈ lw_U := List.mem_filter.mpr ⟨List.mem_of_getElem? (i := 353) rfl, rfl⟩
theorem m_354 : Cond.selects R_M y_M_read y_M_read ∈ lw_U := List.mem_filter.mpr ⟨List.mem_of_getElem? (i := 354) rfl, rfl⟩
theorem m_355 : Cond.code y_M_read b_M_read 4 (some .long) ∈ lw_U := List.mem_filter.mpr ⟨List.mem_of_getElem? (i := 355) rfl, rfl⟩
theorem m_356 : Cond.constantLong R_M 104 (-1) ∈ lw_U := List.mem_filter.mpr ⟨List.mem_of_getElem? (i := 356) rfl, rfl⟩
theorem m_357 : Cond.constantLong R_M 109 (-2) ∈ lw_U := List.mem_filter.mpr ⟨List.mem_of_getElem? (i := 357) rfl, rfl⟩
theorem m_358 : Cond.methodLink R_M 111 y_M_value ∈ lw_U := List.mem_filter.mpr ⟨List.mem_of_getElem? (i := 358) rfl, rfl⟩
theorem m_360 : Cond.instanceMethod y_M_value ∈ lw_U := List.mem_filter.mpr ⟨List.mem_of_getElem? (i := 360) rfl, rfl⟩
theorem m_361 : Cond.code y_M_value b_M_value 3 (some .long) ∈ lw_U := List.mem_filter.mpr ⟨List.mem_of_getElem? (i := 361) rfl, rfl⟩
theorem m_362 : Cond.methodLink R_M 106 y_M_looked ∈ lw_U := List.mem_filter.mpr ⟨List.mem_of_getElem? (i := 362) rfl, rfl⟩
theorem m_364 : Cond.instanceMethod y_M_looked ∈ lw_U := List.mem_filter.mpr ⟨List.mem_of_getElem? (i := 364) rfl, rfl⟩
theorem m_365 : Cond.code y_M_looked b_M_looked 6 (some .long) ∈ lw_U := List.mem_filter.mpr ⟨List.mem_of_getElem? (i := 365) rfl, rfl⟩
theorem m_366 : Cond.constantLong R_M 114 (-3) ∈ lw_U := List.mem_filter.mpr ⟨List.mem_of_getElem? (i := 366) rfl, rfl⟩
theorem m_367 : Cond.methodLink R_law 69 y_M_sound ∈ lw_U := List.mem_filter.mpr ⟨List.mem_of_getElem? (i := 367) rfl, rfl⟩
theorem m_368 : Cond.instanceMethod y_M_sound ∈ lw_U := List.mem_filter.mpr ⟨List.mem_of_getElem? (i := 368) rfl, rfl⟩
theorem m_369 : Cond.selects R_M y_M_sound y_M_sound ∈ lw_U := List.mem_filter.mpr ⟨List.mem_of_getElem? (i := 369) rfl, rfl⟩
theorem m_370 : Cond.code y_M_sound b_M_sound 3 (some .int) ∈ lw_U := List.mem_filter.mpr ⟨List.mem_of_getElem? (i := 370) rfl, rfl⟩
theorem m_371 : Cond.methodLink R_law 47 y_M_checkpoint ∈ lw_U := List.mem_filter.mpr ⟨List.mem_of_getElem? (i := 371) rfl, rfl⟩
theorem m_372 : Cond.instanceMethod y_M_checkpoint ∈ lw_U := List.mem_filter.mpr ⟨List.mem_of_getElem? (i := 372) rfl, rfl⟩
theorem m_373 : Cond.selects R_M y_M_checkpoint y_M_checkpoint ∈ lw_U := List.mem_filter.mpr ⟨List.mem_of_getElem? (i := 373) rfl, rfl⟩
theorem m_374 : Cond.code y_M_checkpoint b_M_checkpoint 2 (some .int) ∈ lw_U := List.mem_filter.mpr ⟨List.mem_of_getElem? (i := 374) rfl, rfl⟩
theorem m_375 : Cond.methodLink R_M 123 y_M_change ∈ lw_U := List.mem_filter.mpr ⟨List.mem_of_getElem? (i := 375) rfl, rfl⟩
theorem m_377 : Cond.instanceMethod y_M_change ∈ lw_U := List.mem_filter.mpr ⟨List.mem_of_getElem? (i := 377) rfl, rfl⟩
theorem m_378 : Cond.code y_M_change b_M_change 6 (some .int) ∈ lw_U := List.mem_filter.mpr ⟨List.mem_of_getElem? (i := 378) rfl, rfl⟩
theorem m_379 : Cond.methodLink R_M 116 y_M_put ∈ lw_U := List.mem_filter.mpr ⟨List.mem_of_getElem? (i := 379) rfl, rfl⟩
theorem m_381 : Cond.instanceMethod y_M_put ∈ lw_U := List.mem_filter.mpr ⟨List.mem_of_getElem? (i := 381) rfl, rfl⟩
theorem m_382 : Cond.code y_M_put b_M_put 3 none ∈ lw_U := List.mem_filter.mpr ⟨List.mem_of_getElem? (i := 382) rfl, rfl⟩
theorem m_383 : Cond.methodLink R_M 69 y_M_step ∈ lw_U := List.mem_filter.mpr ⟨List.mem_of_getElem? (i := 383) rfl, rfl⟩
theorem m_385 : Cond.instanceMethod y_M_step ∈ lw_U := List.mem_filter.mpr ⟨List.mem_of_getElem? (i := 385) rfl, rfl⟩
theorem m_386 : Cond.code y_M_step b_M_step 1 (some .boolean) ∈ lw_U := List.mem_filter.mpr ⟨List.mem_of_getElem? (i := 386) rfl, rfl⟩
theorem m_387 : Cond.methodLink R_M 119 y_M_changeSeal ∈ lw_U := List.mem_filter.mpr ⟨List.mem_of_getElem? (i := 387) rfl, rfl⟩
theorem m_389 : Cond.instanceMethod y_M_changeSeal ∈ lw_U := List.mem_filter.mpr ⟨List.mem_of_getElem? (i := 389) rfl, rfl⟩
theorem m_390 : Cond.code y_M_changeSeal b_M_changeSeal 5 none ∈ lw_U := List.mem_filter.mpr ⟨List.mem_of_getElem? (i := 390) rfl, rfl⟩
theorem m_391 : Cond.methodLink R_law 34 y_M_write ∈ lw_U := List.mem_filter.mpr ⟨List.mem_of_getElem? (i := 391) rfl, rfl⟩
theorem m_392 : Cond.instanceMethod y_M_write ∈ lw_U := List.mem_filter.mpr ⟨List.mem_of_getElem? (i := 392) rfl, rfl⟩
theorem m_393 : Cond.selects R_M y_M_write y_M_write ∈ lw_U := List.mem_filter.mpr ⟨List.mem_of_getElem? (i := 393) rfl, rfl⟩
theorem m_394 : Cond.code y_M_write b_M_write 11 (some .int) ∈ lw_U := List.mem_filter.mpr ⟨List.mem_of_getElem? (i := 394) rfl, rfl⟩
theorem m_395 : Cond.methodLink R_law 43 y_M_sync ∈ lw_U := List.mem_filter.mpr ⟨List.mem_of_getElem? (i := 395) rfl, rfl⟩
theorem m_396 : Cond.instanceMethod y_M_sync ∈ lw_U := List.mem_filter.mpr ⟨List.mem_of_getElem? (i := 396) rfl, rfl⟩
theorem m_397 : Cond.selects R_M y_M_sync y_M_sync ∈ lw_U := List.mem_filter.mpr ⟨List.mem_of_getElem? (i := 397) rfl, rfl⟩
theorem m_398 : Cond.code y_M_sync b_M_sync 2 (some .int) ∈ lw_U := List.mem_filter.mpr ⟨List.mem_of_getElem? (i := 398) rfl, rfl⟩
theorem m_399 : Cond.methodLink R_law 52 y_M_alter ∈ lw_U := List.mem_filter.mpr ⟨List.mem_of_getElem? (i := 399) rfl, rfl⟩
theorem m_400 : Cond.instanceMethod y_M_alter ∈ lw_U := List.mem_filter.mpr ⟨List.mem_of_getElem? (i := 400) rfl, rfl⟩
theorem m_401 : Cond.selects R_M y_M_alter y_M_alter ∈ lw_U := List.mem_filter.mpr ⟨List.mem_of_getElem? (i := 401) rfl, rfl⟩
theorem m_402 : Cond.code y_M_alter b_M_alter 3 (some .boolean) ∈ lw_U := List.mem_filter.mpr ⟨List.mem_of_getElem? (i := 402) rfl, rfl⟩
theorem m_403 : Cond.methodLink R_M 127 y_M_place ∈ lw_U := List.mem_filter.mpr ⟨List.mem_of_getElem? (i := 403) rfl, rfl⟩
theorem m_404 : Cond.static y_M_place ∈ lw_U := List.mem_filter.mpr ⟨List.mem_of_getElem? (i := 404) rfl, rfl⟩
theorem m_405 : Cond.code y_M_place b_M_place 1 (some .boolean) ∈ lw_U := List.mem_filter.mpr ⟨List.mem_of_getElem? (i := 405) rfl, rfl⟩
theorem m_406 : Cond.methodLink R_law 57 y_M_peek ∈ lw_U := List.mem_filter.mpr ⟨List.mem_of_getElem? (i := 406) rfl, rfl⟩
theorem m_407 : Cond.instanceMethod y_M_peek ∈ lw_U := List.mem_filter.mpr ⟨List.mem_of_getElem? (i := 407) rfl, rfl⟩
theorem m_408 : Cond.selects R_M y_M_peek y_M_peek ∈ lw_U := List.mem_filter.mpr ⟨List.mem_of_getElem? (i := 408) rfl, rfl⟩
theorem m_409 : Cond.code y_M_peek b_M_peek 2 (some .int) ∈ lw_U := List.mem_filter.mpr ⟨List.mem_of_getElem? (i := 409) rfl, rfl⟩
theorem m_410 : Cond.methodLink R_law 61 y_M_seal ∈ lw_U := List.mem_filter.mpr ⟨List.mem_of_getElem? (i := 410) rfl, rfl⟩
theorem m_411 : Cond.instanceMethod y_M_seal ∈ lw_U := List.mem_filter.mpr ⟨List.mem_of_getElem? (i := 411) rfl, rfl⟩
theorem m_412 : Cond.selects R_M y_M_seal y_M_seal ∈ lw_U := List.mem_filter.mpr ⟨List.mem_of_getElem? (i := 412) rfl, rfl⟩
theorem m_413 : Cond.code y_M_seal b_M_seal 2 (some .int) ∈ lw_U := List.mem_filter.mpr ⟨List.mem_of_getElem? (i := 413) rfl, rfl⟩
theorem m_414 : Cond.methodLink R_law 65 y_M_writes ∈ lw_U := List.mem_filter.mpr ⟨List.mem_of_getElem? (i := 414) rfl, rfl⟩
theorem m_415 : Cond.instanceMethod y_M_writes ∈ lw_U := List.mem_filter.mpr ⟨List.mem_of_getElem? (i := 415) rfl, rfl⟩
theorem m_416 : Cond.selects R_M y_M_writes y_M_writes ∈ lw_U := List.mem_filter.mpr ⟨List.mem_of_getElem? (i := 416) rfl, rfl⟩
theorem m_417 : Cond.code y_M_writes b_M_writes 1 (some .int) ∈ lw_U := List.mem_filter.mpr ⟨List.mem_of_getElem? (i := 417) rfl, rfl⟩
theorem m_418 : Cond.methodLink R_law 73 y_M_steps ∈ lw_U := List.mem_filter.mpr ⟨List.mem_of_getElem? (i := 418) rfl, rfl⟩
theorem m_419 : Cond.instanceMethod y_M_steps ∈ lw_U := List.mem_filter.mpr ⟨List.mem_of_getElem? (i := 419) rfl, rfl⟩
theorem m_420 : Cond.selects R_M y_M_steps y_M_steps ∈ lw_U := List.mem_filter.mpr ⟨List.mem_of_getElem? (i := 420) rfl, rfl⟩
theorem m_421 : Cond.code y_M_steps b_M_steps 1 (some .int) ∈ lw_U := List.mem_filter.mpr ⟨List.mem_of_getElem? (i := 421) rfl, rfl⟩
theorem m_422 : Cond.constantLong R_law 28 (4294967295) ∈ lw_U := List.mem_filter.mpr ⟨List.mem_of_getElem? (i := 422) rfl, rfl⟩
theorem lay_X : ∀ w ∈ u_ws R_X F_X 12, w ∈ lw_U := fun w h => (goodIn_of (u_ws R_X F_X 12) (by decide +kernel) w h).1
theorem lay_M : ∀ w ∈ u_ws R_M F_M 15, w ∈ lw_U := fun w h => (goodIn_of (u_ws R_M F_M 15) (by decide +kernel) w h).1
theorem z_gV {own C : String} {idx : Nat} {y : MethodName} {c1 : Cond} (h1 : Cond.methodLink own idx y ∈ lw_U) (h2 : Cond.instanceMethod y ∈ lw_U) (h3 : Cond.selects C y y ∈ lw_U) (h4 : Cond.initialized C ∈ lw_U) (hc : c1 ∈ lw_U) : GoodIn lw_U (wsV own idx C y (c1 :: lw_U)) := by
  intro w hw
  refine tbl_good w ?_
  rcases List.mem_append.mp hw with hw | hw
  · simp only [List.mem_cons, List.not_mem_nil, or_false] at hw
    rcases hw with rfl | rfl | rfl | rfl <;> assumption
  · rcases List.mem_cons.mp hw with rfl | hw <;> assumption
theorem z_gS {own : String} {idx : Nat} {y : MethodName} {c1 : Cond} (h1 : Cond.methodLink own idx y ∈ lw_U) (h2 : Cond.static y ∈ lw_U) (h3 : Cond.initialized own ∈ lw_U) (hc : c1 ∈ lw_U) : GoodIn lw_U (wsS own idx y (c1 :: lw_U)) := by
  intro w hw
  refine tbl_good w ?_
  rcases List.mem_append.mp hw with hw | hw
  · simp only [List.mem_cons, List.not_mem_nil, or_false] at hw
    rcases hw with rfl | rfl | rfl <;> assumption
  · rcases List.mem_cons.mp hw with rfl | hw <;> assumption
theorem z_gI {c1 : Cond} (hc : c1 ∈ lw_U) : GoodIn lw_U (c1 :: lw_U) := by
  intro w hw
  refine tbl_good w ?_
  rcases List.mem_cons.mp hw with rfl | hw <;> assumption
theorem g_law_9 : GoodIn lw_U w_X_init := z_gI m_39
theorem g_X_27 : GoodIn lw_U (wsS R_X 27 y_X_encipher w_X_encipher) := z_gS m_43 m_44 m_33 m_45
theorem g_X_100 : GoodIn lw_U (wsS R_X 100 y_X_digest w_X_digest) := z_gS m_47 m_48 m_33 m_49
theorem g_X_31 : GoodIn lw_U (wsS R_X 31 y_X_nodePlace w_X_nodePlace) := z_gS m_52 m_53 m_33 m_54
theorem g_X_35 : GoodIn lw_U (wsV R_X 35 R_X y_X_dueNode w_X_dueNode) := z_gV m_55 m_57 m_0 m_33 m_58
theorem g_X_103 : GoodIn lw_U (wsS R_X 103 y_X_sectorPlace w_X_sectorPlace) := z_gS m_59 m_60 m_33 m_61
theorem g_law_13 : GoodIn lw_U (wsV R_law 13 R_X y_X_mount w_X_mount) := z_gV m_101 m_102 m_103 m_33 m_104
theorem g_X_41 : GoodIn lw_U (wsV R_X 41 R_X y_X_takeJournal w_X_takeJournal) := z_gV m_105 m_107 m_1 m_33 m_108
theorem g_X_120 : GoodIn lw_U (wsV R_X 120 R_X y_X_beginList w_X_beginList) := z_gV m_109 m_111 m_2 m_33 m_112
theorem g_X_123 : GoodIn lw_U (wsS R_X 123 y_X_recordPlace w_X_recordPlace) := z_gS m_113 m_114 m_33 m_115
theorem g_X_126 : GoodIn lw_U (wsV R_X 126 R_X y_X_chainBehind w_X_chainBehind) := z_gV m_116 m_118 m_3 m_33 m_119
theorem g_X_114 : GoodIn lw_U (wsV R_X 114 R_X y_X_valueAt w_X_valueAt) := z_gV m_120 m_122 m_4 m_33 m_123
theorem g_X_129 : GoodIn lw_U (wsS R_X 129 y_X_markOf w_X_markOf) := z_gS m_125 m_126 m_33 m_127
theorem g_X_57 : GoodIn lw_U (wsS R_X 57 y_X_isSector w_X_isSector) := z_gS m_128 m_129 m_33 m_130
theorem g_X_69 : GoodIn lw_U (wsV R_X 69 R_X y_X_addToList w_X_addToList) := z_gV m_131 m_133 m_5 m_33 m_134
theorem g_X_50 : GoodIn lw_U (wsV R_X 50 R_X y_X_forget w_X_forget) := z_gV m_135 m_137 m_6 m_33 m_138
theorem g_law_18 : GoodIn lw_U (wsV R_law 18 R_X y_X_arm w_X_arm) := z_gV m_139 m_140 m_141 m_33 m_142
theorem g_law_23 : GoodIn lw_U (wsV R_law 23 R_X y_X_isOn w_X_isOn) := z_gV m_143 m_144 m_145 m_33 m_146
theorem g_law_30 : GoodIn lw_U (wsV R_law 30 R_X y_X_write w_X_write) := z_gV m_147 m_148 m_149 m_33 m_150
theorem g_X_61 : GoodIn lw_U (wsV R_X 61 R_X y_X_moveToOtherHalf w_X_moveToOtherHalf) := z_gV m_151 m_153 m_7 m_33 m_154
theorem g_X_91 : GoodIn lw_U (wsV R_X 91 R_X y_X_soundSectors w_X_soundSectors) := z_gV m_155 m_157 m_8 m_33 m_158
theorem g_X_77 : GoodIn lw_U (wsV R_X 77 R_X y_X_valueOf w_X_valueOf) := z_gV m_159 m_161 m_9 m_33 m_162
theorem g_X_108 : GoodIn lw_U (wsV R_X 108 R_X y_X_rootAbove w_X_rootAbove) := z_gV m_163 m_165 m_10 m_33 m_166
theorem g_X_151 : GoodIn lw_U (wsV R_X 151 R_X y_X_clearMarks w_X_clearMarks) := z_gV m_168 m_170 m_11 m_33 m_171
theorem g_X_140 : GoodIn lw_U (wsV R_X 140 R_X y_X_storeWord w_X_storeWord) := z_gV m_172 m_174 m_12 m_33 m_175
theorem g_X_132 : GoodIn lw_U (wsV R_X 132 R_X y_X_stepHappens w_X_stepHappens) := z_gV m_176 m_178 m_13 m_33 m_179
theorem g_X_154 : GoodIn lw_U (wsV R_X 154 R_X y_X_storeSectors w_X_storeSectors) := z_gV m_180 m_182 m_14 m_33 m_183
theorem g_X_147 : GoodIn lw_U (wsV R_X 147 R_X y_X_storeValue w_X_storeValue) := z_gV m_184 m_186 m_15 m_33 m_187
theorem g_X_136 : GoodIn lw_U (wsS R_X 136 y_X_upper w_X_upper) := z_gS m_188 m_189 m_33 m_190
theorem g_X_144 : GoodIn lw_U (wsS R_X 144 y_X_lower w_X_lower) := z_gS m_191 m_192 m_33 m_193
theorem g_X_157 : GoodIn lw_U (wsV R_X 157 R_X y_X_storeNodes w_X_storeNodes) := z_gV m_194 m_196 m_16 m_33 m_197
theorem g_X_84 : GoodIn lw_U (wsV R_X 84 R_X y_X_changeSeal w_X_changeSeal) := z_gV m_198 m_200 m_17 m_33 m_201
theorem g_X_65 : GoodIn lw_U (wsV R_X 65 R_X y_X_storeRecord w_X_storeRecord) := z_gV m_202 m_204 m_18 m_33 m_205
theorem g_law_35 : GoodIn lw_U (wsV R_law 35 R_X y_X_read w_X_read) := z_gV m_206 m_207 m_208 m_33 m_209
theorem g_law_40 : GoodIn lw_U (wsV R_law 40 R_X y_X_sync w_X_sync) := z_gV m_212 m_213 m_214 m_33 m_215
theorem g_law_44 : GoodIn lw_U (wsV R_law 44 R_X y_X_checkpoint w_X_checkpoint) := z_gV m_216 m_217 m_218 m_33 m_219
theorem g_law_48 : GoodIn lw_U (wsV R_law 48 R_X y_X_alter w_X_alter) := z_gV m_220 m_221 m_222 m_33 m_223
theorem g_X_88 : GoodIn lw_U (wsS R_X 88 y_X_isPlace w_X_isPlace) := z_gS m_224 m_225 m_33 m_226
theorem g_law_53 : GoodIn lw_U (wsV R_law 53 R_X y_X_peek w_X_peek) := z_gV m_227 m_228 m_229 m_33 m_230
theorem g_law_58 : GoodIn lw_U (wsV R_law 58 R_X y_X_seal w_X_seal) := z_gV m_231 m_232 m_233 m_33 m_234
theorem g_law_62 : GoodIn lw_U (wsV R_law 62 R_X y_X_writes w_X_writes) := z_gV m_235 m_236 m_237 m_33 m_238
theorem g_law_66 : GoodIn lw_U (wsV R_law 66 R_X y_X_sound w_X_sound) := z_gV m_239 m_240 m_241 m_33 m_242
theorem g_law_70 : GoodIn lw_U (wsV R_law 70 R_X y_X_steps w_X_steps) := z_gV m_243 m_244 m_245 m_33 m_246
theorem g_law_12 : GoodIn lw_U w_M_init := z_gI m_251
theorem g_M_33 : GoodIn lw_U (wsS R_M 33 y_M_key w_M_key) := z_gS m_253 m_254 m_34 m_255
theorem g_M_47 : GoodIn lw_U (wsS R_M 47 y_M_digest w_M_digest) := z_gS m_257 m_258 m_34 m_259
theorem g_M_37 : GoodIn lw_U (wsV R_M 37 R_M y_M_nodes w_M_nodes) := z_gV m_262 m_264 m_19 m_34 m_265
theorem g_M_52 : GoodIn lw_U (wsV R_M 52 R_M y_M_leaf w_M_leaf) := z_gV m_266 m_268 m_20 m_34 m_269
theorem g_law_22 : GoodIn lw_U (wsV R_law 22 R_M y_M_arm w_M_arm) := z_gV m_316 m_317 m_318 m_34 m_319
theorem g_law_27 : GoodIn lw_U (wsV R_law 27 R_M y_M_isOn w_M_isOn) := z_gV m_320 m_321 m_322 m_34 m_323
theorem g_law_17 : GoodIn lw_U (wsV R_law 17 R_M y_M_mount w_M_mount) := z_gV m_324 m_325 m_326 m_34 m_327
theorem g_M_97 : GoodIn lw_U (wsV R_M 97 R_M y_M_due w_M_due) := z_gV m_328 m_330 m_21 m_34 m_331
theorem g_M_79 : GoodIn lw_U (wsV R_M 79 R_M y_M_entryAt w_M_entryAt) := z_gV m_332 m_334 m_22 m_34 m_335
theorem g_M_83 : GoodIn lw_U (wsV R_M 83 R_M y_M_clear w_M_clear) := z_gV m_336 m_338 m_23 m_34 m_339
theorem g_M_90 : GoodIn lw_U (wsV R_M 90 R_M y_M_chain w_M_chain) := z_gV m_340 m_342 m_24 m_34 m_343
theorem g_M_93 : GoodIn lw_U (wsV R_M 93 R_M y_M_recorded w_M_recorded) := z_gV m_344 m_346 m_25 m_34 m_347
theorem g_M_86 : GoodIn lw_U (wsS R_M 86 y_M_joined w_M_joined) := z_gS m_348 m_349 m_34 m_350
theorem g_law_39 : GoodIn lw_U (wsV R_law 39 R_M y_M_read w_M_read) := z_gV m_352 m_353 m_354 m_34 m_355
theorem g_M_111 : GoodIn lw_U (wsV R_M 111 R_M y_M_value w_M_value) := z_gV m_358 m_360 m_26 m_34 m_361
theorem g_M_106 : GoodIn lw_U (wsV R_M 106 R_M y_M_looked w_M_looked) := z_gV m_362 m_364 m_27 m_34 m_365
theorem g_law_69 : GoodIn lw_U (wsV R_law 69 R_M y_M_sound w_M_sound) := z_gV m_367 m_368 m_369 m_34 m_370
theorem g_law_47 : GoodIn lw_U (wsV R_law 47 R_M y_M_checkpoint w_M_checkpoint) := z_gV m_371 m_372 m_373 m_34 m_374
theorem g_M_123 : GoodIn lw_U (wsV R_M 123 R_M y_M_change w_M_change) := z_gV m_375 m_377 m_28 m_34 m_378
theorem g_M_116 : GoodIn lw_U (wsV R_M 116 R_M y_M_put w_M_put) := z_gV m_379 m_381 m_29 m_34 m_382
theorem g_M_69 : GoodIn lw_U (wsV R_M 69 R_M y_M_step w_M_step) := z_gV m_383 m_385 m_30 m_34 m_386
theorem g_M_119 : GoodIn lw_U (wsV R_M 119 R_M y_M_changeSeal w_M_changeSeal) := z_gV m_387 m_389 m_31 m_34 m_390
theorem g_law_34 : GoodIn lw_U (wsV R_law 34 R_M y_M_write w_M_write) := z_gV m_391 m_392 m_393 m_34 m_394
theorem g_law_43 : GoodIn lw_U (wsV R_law 43 R_M y_M_sync w_M_sync) := z_gV m_395 m_396 m_397 m_34 m_398
theorem g_law_52 : GoodIn lw_U (wsV R_law 52 R_M y_M_alter w_M_alter) := z_gV m_399 m_400 m_401 m_34 m_402
theorem g_M_127 : GoodIn lw_U (wsS R_M 127 y_M_place w_M_place) := z_gS m_403 m_404 m_34 m_405
theorem g_law_57 : GoodIn lw_U (wsV R_law 57 R_M y_M_peek w_M_peek) := z_gV m_406 m_407 m_408 m_34 m_409
theorem g_law_61 : GoodIn lw_U (wsV R_law 61 R_M y_M_seal w_M_seal) := z_gV m_410 m_411 m_412 m_34 m_413
theorem g_law_65 : GoodIn lw_U (wsV R_law 65 R_M y_M_writes w_M_writes) := z_gV m_414 m_415 m_416 m_34 m_417
theorem g_law_73 : GoodIn lw_U (wsV R_law 73 R_M y_M_steps w_M_steps) := z_gV m_418 m_419 m_420 m_34 m_421
end
section
theorem d_X_init_0 : decode b_X_init 0 = .ok (.aload_n 0, 1) := by decide +kernel
theorem d_X_init_1 : decode b_X_init 1 = .ok (.invokespecial 3, 3) := by decide +kernel
theorem d_X_init_4 : decode b_X_init 4 = .ok (.aload_n 0, 1) := by decide +kernel
theorem d_X_init_5 : decode b_X_init 5 = .ok (.bipush 102, 2) := by decide +kernel
theorem d_X_init_7 : decode b_X_init 7 = .ok (.newarray .int, 2) := by decide +kernel
theorem d_X_init_9 : decode b_X_init 9 = .ok (.putfield 9, 3) := by decide +kernel
theorem d_X_init_12 : decode b_X_init 12 = .ok (.aload_n 0, 1) := by decide +kernel
theorem d_X_init_13 : decode b_X_init 13 = .ok (.iconst 5, 1) := by decide +kernel
theorem d_X_init_14 : decode b_X_init 14 = .ok (.newarray .int, 2) := by decide +kernel
theorem d_X_init_16 : decode b_X_init 16 = .ok (.putfield 13, 3) := by decide +kernel
theorem d_X_init_19 : decode b_X_init 19 = .ok (.aload_n 0, 1) := by decide +kernel
theorem d_X_init_20 : decode b_X_init 20 = .ok (.iconst 5, 1) := by decide +kernel
theorem d_X_init_21 : decode b_X_init 21 = .ok (.newarray .long, 2) := by decide +kernel
theorem d_X_init_23 : decode b_X_init 23 = .ok (.putfield 16, 3) := by decide +kernel
theorem d_X_init_26 : decode b_X_init 26 = .ok (.aload_n 0, 1) := by decide +kernel
theorem d_X_init_27 : decode b_X_init 27 = .ok (.iconst (-1), 1) := by decide +kernel
theorem d_X_init_28 : decode b_X_init 28 = .ok (.putfield 20, 3) := by decide +kernel
theorem d_X_init_31 : decode b_X_init 31 = .ok (.aload_n 0, 1) := by decide +kernel
theorem d_X_init_32 : decode b_X_init 32 = .ok (.iconst 1, 1) := by decide +kernel
theorem d_X_init_33 : decode b_X_init 33 = .ok (.putfield 24, 3) := by decide +kernel
theorem d_X_init_36 : decode b_X_init 36 = .ok (.iconst 0, 1) := by decide +kernel
theorem d_X_init_37 : decode b_X_init 37 = .ok (.istore_n 1, 1) := by decide +kernel
theorem d_X_init_38 : decode b_X_init 38 = .ok (.iload_n 1, 1) := by decide +kernel
theorem d_X_init_39 : decode b_X_init 39 = .ok (.bipush 16, 2) := by decide +kernel
theorem d_X_init_41 : decode b_X_init 41 = .ok (.if_icmp .ge 24, 3) := by decide +kernel
theorem d_X_init_44 : decode b_X_init 44 = .ok (.aload_n 0, 1) := by decide +kernel
theorem d_X_init_45 : decode b_X_init 45 = .ok (.getfield 9, 3) := by decide +kernel
theorem d_X_init_48 : decode b_X_init 48 = .ok (.iload_n 1, 1) := by decide +kernel
theorem d_X_init_49 : decode b_X_init 49 = .ok (.iconst 0, 1) := by decide +kernel
theorem d_X_init_50 : decode b_X_init 50 = .ok (.iload_n 1, 1) := by decide +kernel
theorem d_X_init_51 : decode b_X_init 51 = .ok (.aload_n 0, 1) := by decide +kernel
theorem d_X_init_52 : decode b_X_init 52 = .ok (.getfield 24, 3) := by decide +kernel
theorem d_X_init_55 : decode b_X_init 55 = .ok (.invokestatic 27, 3) := by decide +kernel
theorem d_X_init_58 : decode b_X_init 58 = .ok (.iastore, 1) := by decide +kernel
theorem d_X_init_59 : decode b_X_init 59 = .ok (.iinc 1 1, 3) := by decide +kernel
theorem d_X_init_62 : decode b_X_init 62 = .ok (.goto (-24), 3) := by decide +kernel
theorem d_X_init_65 : decode b_X_init 65 = .ok (.bipush 15, 2) := by decide +kernel
theorem d_X_init_67 : decode b_X_init 67 = .ok (.istore_n 1, 1) := by decide +kernel
theorem d_X_init_68 : decode b_X_init 68 = .ok (.iload_n 1, 1) := by decide +kernel
theorem d_X_init_69 : decode b_X_init 69 = .ok (.iconst 1, 1) := by decide +kernel
theorem d_X_init_70 : decode b_X_init 70 = .ok (.if_icmp .lt 29, 3) := by decide +kernel
theorem d_X_init_73 : decode b_X_init 73 = .ok (.aload_n 0, 1) := by decide +kernel
theorem d_X_init_74 : decode b_X_init 74 = .ok (.getfield 9, 3) := by decide +kernel
theorem d_X_init_77 : decode b_X_init 77 = .ok (.iconst 0, 1) := by decide +kernel
theorem d_X_init_78 : decode b_X_init 78 = .ok (.iload_n 1, 1) := by decide +kernel
theorem d_X_init_79 : decode b_X_init 79 = .ok (.invokestatic 31, 3) := by decide +kernel
theorem d_X_init_82 : decode b_X_init 82 = .ok (.aload_n 0, 1) := by decide +kernel
theorem d_X_init_83 : decode b_X_init 83 = .ok (.iconst 0, 1) := by decide +kernel
theorem d_X_init_84 : decode b_X_init 84 = .ok (.iload_n 1, 1) := by decide +kernel
theorem d_X_init_85 : decode b_X_init 85 = .ok (.aload_n 0, 1) := by decide +kernel
theorem d_X_init_86 : decode b_X_init 86 = .ok (.getfield 24, 3) := by decide +kernel
theorem d_X_init_89 : decode b_X_init 89 = .ok (.invokevirtual 35, 3) := by decide +kernel
theorem d_X_init_92 : decode b_X_init 92 = .ok (.iastore, 1) := by decide +kernel
theorem d_X_init_93 : decode b_X_init 93 = .ok (.iinc 1 (-1), 3) := by decide +kernel
theorem d_X_init_96 : decode b_X_init 96 = .ok (.goto (-28), 3) := by decide +kernel
theorem d_X_init_99 : decode b_X_init 99 = .ok (.aload_n 0, 1) := by decide +kernel
theorem d_X_init_100 : decode b_X_init 100 = .ok (.aload_n 0, 1) := by decide +kernel
theorem d_X_init_101 : decode b_X_init 101 = .ok (.getfield 9, 3) := by decide +kernel
theorem d_X_init_104 : decode b_X_init 104 = .ok (.iconst 0, 1) := by decide +kernel
theorem d_X_init_105 : decode b_X_init 105 = .ok (.iconst 1, 1) := by decide +kernel
theorem d_X_init_106 : decode b_X_init 106 = .ok (.invokestatic 31, 3) := by decide +kernel
theorem d_X_init_109 : decode b_X_init 109 = .ok (.iaload, 1) := by decide +kernel
theorem d_X_init_110 : decode b_X_init 110 = .ok (.putfield 38, 3) := by decide +kernel
theorem d_X_init_113 : decode b_X_init 113 = .ok (.return_, 1) := by decide +kernel
theorem d_X_mount_0 : decode b_X_mount 0 = .ok (.aload_n 0, 1) := by decide +kernel
theorem d_X_mount_1 : decode b_X_mount 1 = .ok (.invokevirtual 41, 3) := by decide +kernel
theorem d_X_mount_4 : decode b_X_mount 4 = .ok (.aload_n 0, 1) := by decide +kernel
theorem d_X_mount_5 : decode b_X_mount 5 = .ok (.getfield 44, 3) := by decide +kernel
theorem d_X_mount_8 : decode b_X_mount 8 = .ok (.aload_n 0, 1) := by decide +kernel
theorem d_X_mount_9 : decode b_X_mount 9 = .ok (.getfield 47, 3) := by decide +kernel
theorem d_X_mount_12 : decode b_X_mount 12 = .ok (.if_icmp .ge 10, 3) := by decide +kernel
theorem d_X_mount_15 : decode b_X_mount 15 = .ok (.aload_n 0, 1) := by decide +kernel
theorem d_X_mount_16 : decode b_X_mount 16 = .ok (.invokevirtual 50, 3) := by decide +kernel
theorem d_X_mount_19 : decode b_X_mount 19 = .ok (.bipush (-3), 2) := by decide +kernel
theorem d_X_mount_21 : decode b_X_mount 21 = .ok (.ireturn, 1) := by decide +kernel
theorem d_X_mount_22 : decode b_X_mount 22 = .ok (.aload_n 0, 1) := by decide +kernel
theorem d_X_mount_23 : decode b_X_mount 23 = .ok (.iconst 1, 1) := by decide +kernel
theorem d_X_mount_24 : decode b_X_mount 24 = .ok (.putfield 53, 3) := by decide +kernel
theorem d_X_mount_27 : decode b_X_mount 27 = .ok (.aload_n 0, 1) := by decide +kernel
theorem d_X_mount_28 : decode b_X_mount 28 = .ok (.getfield 44, 3) := by decide +kernel
theorem d_X_mount_31 : decode b_X_mount 31 = .ok (.ireturn, 1) := by decide +kernel
theorem d_X_arm_0 : decode b_X_arm 0 = .ok (.iload_n 1, 1) := by decide +kernel
theorem d_X_arm_1 : decode b_X_arm 1 = .ok (.ifCond .ge 5, 3) := by decide +kernel
theorem d_X_arm_4 : decode b_X_arm 4 = .ok (.iconst 0, 1) := by decide +kernel
theorem d_X_arm_5 : decode b_X_arm 5 = .ok (.ireturn, 1) := by decide +kernel
theorem d_X_arm_6 : decode b_X_arm 6 = .ok (.aload_n 0, 1) := by decide +kernel
theorem d_X_arm_7 : decode b_X_arm 7 = .ok (.iload_n 1, 1) := by decide +kernel
theorem d_X_arm_8 : decode b_X_arm 8 = .ok (.putfield 20, 3) := by decide +kernel
theorem d_X_arm_11 : decode b_X_arm 11 = .ok (.iconst 1, 1) := by decide +kernel
theorem d_X_arm_12 : decode b_X_arm 12 = .ok (.ireturn, 1) := by decide +kernel
theorem d_X_isOn_0 : decode b_X_isOn 0 = .ok (.aload_n 0, 1) := by decide +kernel
theorem d_X_isOn_1 : decode b_X_isOn 1 = .ok (.getfield 53, 3) := by decide +kernel
theorem d_X_isOn_4 : decode b_X_isOn 4 = .ok (.ireturn, 1) := by decide +kernel
theorem d_X_write_0 : decode b_X_write 0 = .ok (.aload_n 0, 1) := by decide +kernel
theorem d_X_write_1 : decode b_X_write 1 = .ok (.getfield 53, 3) := by decide +kernel
theorem d_X_write_4 : decode b_X_write 4 = .ok (.ifCond .ne 5, 3) := by decide +kernel
theorem d_X_write_7 : decode b_X_write 7 = .ok (.iconst (-1), 1) := by decide +kernel
theorem d_X_write_8 : decode b_X_write 8 = .ok (.ireturn, 1) := by decide +kernel
theorem d_X_write_9 : decode b_X_write 9 = .ok (.iload_n 1, 1) := by decide +kernel
theorem d_X_write_10 : decode b_X_write 10 = .ok (.invokestatic 57, 3) := by decide +kernel
theorem d_X_write_13 : decode b_X_write 13 = .ok (.ifCond .eq 9, 3) := by decide +kernel
theorem d_X_write_16 : decode b_X_write 16 = .ok (.lload_n 2, 1) := by decide +kernel
theorem d_X_write_17 : decode b_X_write 17 = .ok (.lconst 0, 1) := by decide +kernel
theorem d_X_write_18 : decode b_X_write 18 = .ok (.lcmp, 1) := by decide +kernel
theorem d_X_write_19 : decode b_X_write 19 = .ok (.ifCond .ge 6, 3) := by decide +kernel
theorem d_X_write_22 : decode b_X_write 22 = .ok (.bipush (-2), 2) := by decide +kernel
theorem d_X_write_24 : decode b_X_write 24 = .ok (.ireturn, 1) := by decide +kernel
theorem d_X_write_25 : decode b_X_write 25 = .ok (.aload_n 0, 1) := by decide +kernel
theorem d_X_write_26 : decode b_X_write 26 = .ok (.getfield 44, 3) := by decide +kernel
theorem d_X_write_29 : decode b_X_write 29 = .ok (.iconst 5, 1) := by decide +kernel
theorem d_X_write_30 : decode b_X_write 30 = .ok (.if_icmp .lt 17, 3) := by decide +kernel
theorem d_X_write_33 : decode b_X_write 33 = .ok (.aload_n 0, 1) := by decide +kernel
theorem d_X_write_34 : decode b_X_write 34 = .ok (.invokevirtual 61, 3) := by decide +kernel
theorem d_X_write_37 : decode b_X_write 37 = .ok (.istore 4, 2) := by decide +kernel
theorem d_X_write_39 : decode b_X_write 39 = .ok (.iload 4, 2) := by decide +kernel
theorem d_X_write_41 : decode b_X_write 41 = .ok (.ifCond .ge 6, 3) := by decide +kernel
theorem d_X_write_44 : decode b_X_write 44 = .ok (.iload 4, 2) := by decide +kernel
theorem d_X_write_46 : decode b_X_write 46 = .ok (.ireturn, 1) := by decide +kernel
theorem d_X_write_47 : decode b_X_write 47 = .ok (.aload_n 0, 1) := by decide +kernel
theorem d_X_write_48 : decode b_X_write 48 = .ok (.iload_n 1, 1) := by decide +kernel
theorem d_X_write_49 : decode b_X_write 49 = .ok (.lload_n 2, 1) := by decide +kernel
theorem d_X_write_50 : decode b_X_write 50 = .ok (.invokevirtual 65, 3) := by decide +kernel
theorem d_X_write_53 : decode b_X_write 53 = .ok (.ifCond .ne 6, 3) := by decide +kernel
theorem d_X_write_56 : decode b_X_write 56 = .ok (.bipush (-4), 2) := by decide +kernel
theorem d_X_write_58 : decode b_X_write 58 = .ok (.ireturn, 1) := by decide +kernel
theorem d_X_write_59 : decode b_X_write 59 = .ok (.aload_n 0, 1) := by decide +kernel
theorem d_X_write_60 : decode b_X_write 60 = .ok (.iload_n 1, 1) := by decide +kernel
theorem d_X_write_61 : decode b_X_write 61 = .ok (.lload_n 2, 1) := by decide +kernel
theorem d_X_write_62 : decode b_X_write 62 = .ok (.invokevirtual 69, 3) := by decide +kernel
theorem d_X_write_65 : decode b_X_write 65 = .ok (.aload_n 0, 1) := by decide +kernel
theorem d_X_write_66 : decode b_X_write 66 = .ok (.getfield 44, 3) := by decide +kernel
theorem d_X_write_69 : decode b_X_write 69 = .ok (.ireturn, 1) := by decide +kernel
theorem d_X_read_0 : decode b_X_read 0 = .ok (.aload_n 0, 1) := by decide +kernel
theorem d_X_read_1 : decode b_X_read 1 = .ok (.getfield 53, 3) := by decide +kernel
theorem d_X_read_4 : decode b_X_read 4 = .ok (.ifCond .ne 7, 3) := by decide +kernel
theorem d_X_read_7 : decode b_X_read 7 = .ok (.ldc2_w 73, 3) := by decide +kernel
theorem d_X_read_10 : decode b_X_read 10 = .ok (.lreturn, 1) := by decide +kernel
theorem d_X_read_11 : decode b_X_read 11 = .ok (.iload_n 1, 1) := by decide +kernel
theorem d_X_read_12 : decode b_X_read 12 = .ok (.invokestatic 57, 3) := by decide +kernel
theorem d_X_read_15 : decode b_X_read 15 = .ok (.ifCond .ne 7, 3) := by decide +kernel
theorem d_X_read_18 : decode b_X_read 18 = .ok (.ldc2_w 75, 3) := by decide +kernel
theorem d_X_read_21 : decode b_X_read 21 = .ok (.lreturn, 1) := by decide +kernel
theorem d_X_read_22 : decode b_X_read 22 = .ok (.aload_n 0, 1) := by decide +kernel
theorem d_X_read_23 : decode b_X_read 23 = .ok (.iload_n 1, 1) := by decide +kernel
theorem d_X_read_24 : decode b_X_read 24 = .ok (.invokevirtual 77, 3) := by decide +kernel
theorem d_X_read_27 : decode b_X_read 27 = .ok (.lreturn, 1) := by decide +kernel
theorem d_X_sync_0 : decode b_X_sync 0 = .ok (.aload_n 0, 1) := by decide +kernel
theorem d_X_sync_1 : decode b_X_sync 1 = .ok (.getfield 53, 3) := by decide +kernel
theorem d_X_sync_4 : decode b_X_sync 4 = .ok (.ifCond .ne 5, 3) := by decide +kernel
theorem d_X_sync_7 : decode b_X_sync 7 = .ok (.iconst (-1), 1) := by decide +kernel
theorem d_X_sync_8 : decode b_X_sync 8 = .ok (.ireturn, 1) := by decide +kernel
theorem d_X_sync_9 : decode b_X_sync 9 = .ok (.aload_n 0, 1) := by decide +kernel
theorem d_X_sync_10 : decode b_X_sync 10 = .ok (.aload_n 0, 1) := by decide +kernel
theorem d_X_sync_11 : decode b_X_sync 11 = .ok (.getfield 81, 3) := by decide +kernel
theorem d_X_sync_14 : decode b_X_sync 14 = .ok (.aload_n 0, 1) := by decide +kernel
theorem d_X_sync_15 : decode b_X_sync 15 = .ok (.getfield 24, 3) := by decide +kernel
theorem d_X_sync_18 : decode b_X_sync 18 = .ok (.aload_n 0, 1) := by decide +kernel
theorem d_X_sync_19 : decode b_X_sync 19 = .ok (.getfield 38, 3) := by decide +kernel
theorem d_X_sync_22 : decode b_X_sync 22 = .ok (.aload_n 0, 1) := by decide +kernel
theorem d_X_sync_23 : decode b_X_sync 23 = .ok (.getfield 44, 3) := by decide +kernel
theorem d_X_sync_26 : decode b_X_sync 26 = .ok (.invokevirtual 84, 3) := by decide +kernel
theorem d_X_sync_29 : decode b_X_sync 29 = .ok (.ifCond .ne 6, 3) := by decide +kernel
theorem d_X_sync_32 : decode b_X_sync 32 = .ok (.bipush (-4), 2) := by decide +kernel
theorem d_X_sync_34 : decode b_X_sync 34 = .ok (.ireturn, 1) := by decide +kernel
theorem d_X_sync_35 : decode b_X_sync 35 = .ok (.aload_n 0, 1) := by decide +kernel
theorem d_X_sync_36 : decode b_X_sync 36 = .ok (.getfield 44, 3) := by decide +kernel
theorem d_X_sync_39 : decode b_X_sync 39 = .ok (.ireturn, 1) := by decide +kernel
theorem d_X_checkpoint_0 : decode b_X_checkpoint 0 = .ok (.aload_n 0, 1) := by decide +kernel
theorem d_X_checkpoint_1 : decode b_X_checkpoint 1 = .ok (.getfield 53, 3) := by decide +kernel
theorem d_X_checkpoint_4 : decode b_X_checkpoint 4 = .ok (.ifCond .ne 5, 3) := by decide +kernel
theorem d_X_checkpoint_7 : decode b_X_checkpoint 7 = .ok (.iconst (-1), 1) := by decide +kernel
theorem d_X_checkpoint_8 : decode b_X_checkpoint 8 = .ok (.ireturn, 1) := by decide +kernel
theorem d_X_checkpoint_9 : decode b_X_checkpoint 9 = .ok (.aload_n 0, 1) := by decide +kernel
theorem d_X_checkpoint_10 : decode b_X_checkpoint 10 = .ok (.invokevirtual 61, 3) := by decide +kernel
theorem d_X_checkpoint_13 : decode b_X_checkpoint 13 = .ok (.ireturn, 1) := by decide +kernel
theorem d_X_alter_0 : decode b_X_alter 0 = .ok (.iload_n 1, 1) := by decide +kernel
theorem d_X_alter_1 : decode b_X_alter 1 = .ok (.invokestatic 88, 3) := by decide +kernel
theorem d_X_alter_4 : decode b_X_alter 4 = .ok (.ifCond .ne 5, 3) := by decide +kernel
theorem d_X_alter_7 : decode b_X_alter 7 = .ok (.iconst 0, 1) := by decide +kernel
theorem d_X_alter_8 : decode b_X_alter 8 = .ok (.ireturn, 1) := by decide +kernel
theorem d_X_alter_9 : decode b_X_alter 9 = .ok (.aload_n 0, 1) := by decide +kernel
theorem d_X_alter_10 : decode b_X_alter 10 = .ok (.getfield 9, 3) := by decide +kernel
theorem d_X_alter_13 : decode b_X_alter 13 = .ok (.iload_n 1, 1) := by decide +kernel
theorem d_X_alter_14 : decode b_X_alter 14 = .ok (.dup2, 1) := by decide +kernel
theorem d_X_alter_15 : decode b_X_alter 15 = .ok (.iaload, 1) := by decide +kernel
theorem d_X_alter_16 : decode b_X_alter 16 = .ok (.iload_n 2, 1) := by decide +kernel
theorem d_X_alter_17 : decode b_X_alter 17 = .ok (.ixor, 1) := by decide +kernel
theorem d_X_alter_18 : decode b_X_alter 18 = .ok (.iastore, 1) := by decide +kernel
theorem d_X_alter_19 : decode b_X_alter 19 = .ok (.iconst 1, 1) := by decide +kernel
theorem d_X_alter_20 : decode b_X_alter 20 = .ok (.ireturn, 1) := by decide +kernel
theorem d_X_peek_0 : decode b_X_peek 0 = .ok (.iload_n 1, 1) := by decide +kernel
theorem d_X_peek_1 : decode b_X_peek 1 = .ok (.invokestatic 88, 3) := by decide +kernel
theorem d_X_peek_4 : decode b_X_peek 4 = .ok (.ifCond .eq 12, 3) := by decide +kernel
theorem d_X_peek_7 : decode b_X_peek 7 = .ok (.aload_n 0, 1) := by decide +kernel
theorem d_X_peek_8 : decode b_X_peek 8 = .ok (.getfield 9, 3) := by decide +kernel
theorem d_X_peek_11 : decode b_X_peek 11 = .ok (.iload_n 1, 1) := by decide +kernel
theorem d_X_peek_12 : decode b_X_peek 12 = .ok (.iaload, 1) := by decide +kernel
theorem d_X_peek_13 : decode b_X_peek 13 = .ok (.goto 4, 3) := by decide +kernel
theorem d_X_peek_16 : decode b_X_peek 16 = .ok (.iconst 0, 1) := by decide +kernel
theorem d_X_peek_17 : decode b_X_peek 17 = .ok (.ireturn, 1) := by decide +kernel
theorem d_X_seal_0 : decode b_X_seal 0 = .ok (.iload_n 1, 1) := by decide +kernel
theorem d_X_seal_1 : decode b_X_seal 1 = .ok (.tableswitch 51 0 3 #[31, 36, 41, 46], 31) := by decide +kernel
theorem d_X_seal_32 : decode b_X_seal 32 = .ok (.aload_n 0, 1) := by decide +kernel
theorem d_X_seal_33 : decode b_X_seal 33 = .ok (.getfield 81, 3) := by decide +kernel
theorem d_X_seal_36 : decode b_X_seal 36 = .ok (.ireturn, 1) := by decide +kernel
theorem d_X_seal_37 : decode b_X_seal 37 = .ok (.aload_n 0, 1) := by decide +kernel
theorem d_X_seal_38 : decode b_X_seal 38 = .ok (.getfield 24, 3) := by decide +kernel
theorem d_X_seal_41 : decode b_X_seal 41 = .ok (.ireturn, 1) := by decide +kernel
theorem d_X_seal_42 : decode b_X_seal 42 = .ok (.aload_n 0, 1) := by decide +kernel
theorem d_X_seal_43 : decode b_X_seal 43 = .ok (.getfield 38, 3) := by decide +kernel
theorem d_X_seal_46 : decode b_X_seal 46 = .ok (.ireturn, 1) := by decide +kernel
theorem d_X_seal_47 : decode b_X_seal 47 = .ok (.aload_n 0, 1) := by decide +kernel
theorem d_X_seal_48 : decode b_X_seal 48 = .ok (.getfield 47, 3) := by decide +kernel
theorem d_X_seal_51 : decode b_X_seal 51 = .ok (.ireturn, 1) := by decide +kernel
theorem d_X_seal_52 : decode b_X_seal 52 = .ok (.iconst 0, 1) := by decide +kernel
theorem d_X_seal_53 : decode b_X_seal 53 = .ok (.ireturn, 1) := by decide +kernel
theorem d_X_writes_0 : decode b_X_writes 0 = .ok (.aload_n 0, 1) := by decide +kernel
theorem d_X_writes_1 : decode b_X_writes 1 = .ok (.getfield 53, 3) := by decide +kernel
theorem d_X_writes_4 : decode b_X_writes 4 = .ok (.ifCond .eq 10, 3) := by decide +kernel
theorem d_X_writes_7 : decode b_X_writes 7 = .ok (.aload_n 0, 1) := by decide +kernel
theorem d_X_writes_8 : decode b_X_writes 8 = .ok (.getfield 44, 3) := by decide +kernel
theorem d_X_writes_11 : decode b_X_writes 11 = .ok (.goto 4, 3) := by decide +kernel
theorem d_X_writes_14 : decode b_X_writes 14 = .ok (.iconst (-1), 1) := by decide +kernel
theorem d_X_writes_15 : decode b_X_writes 15 = .ok (.ireturn, 1) := by decide +kernel
theorem d_X_sound_0 : decode b_X_sound 0 = .ok (.aload_n 0, 1) := by decide +kernel
theorem d_X_sound_1 : decode b_X_sound 1 = .ok (.getfield 53, 3) := by decide +kernel
theorem d_X_sound_4 : decode b_X_sound 4 = .ok (.ifCond .eq 10, 3) := by decide +kernel
theorem d_X_sound_7 : decode b_X_sound 7 = .ok (.aload_n 0, 1) := by decide +kernel
theorem d_X_sound_8 : decode b_X_sound 8 = .ok (.invokevirtual 91, 3) := by decide +kernel
theorem d_X_sound_11 : decode b_X_sound 11 = .ok (.goto 4, 3) := by decide +kernel
theorem d_X_sound_14 : decode b_X_sound 14 = .ok (.iconst (-1), 1) := by decide +kernel
theorem d_X_sound_15 : decode b_X_sound 15 = .ok (.ireturn, 1) := by decide +kernel
theorem d_X_steps_0 : decode b_X_steps 0 = .ok (.aload_n 0, 1) := by decide +kernel
theorem d_X_steps_1 : decode b_X_steps 1 = .ok (.getfield 94, 3) := by decide +kernel
theorem d_X_steps_4 : decode b_X_steps 4 = .ok (.ireturn, 1) := by decide +kernel
theorem d_X_digest_0 : decode b_X_digest 0 = .ok (.iload_n 0, 1) := by decide +kernel
theorem d_X_digest_1 : decode b_X_digest 1 = .ok (.ldc 97, 2) := by decide +kernel
theorem d_X_digest_3 : decode b_X_digest 3 = .ok (.iadd, 1) := by decide +kernel
theorem d_X_digest_4 : decode b_X_digest 4 = .ok (.iload_n 1, 1) := by decide +kernel
theorem d_X_digest_5 : decode b_X_digest 5 = .ok (.bipush 9, 2) := by decide +kernel
theorem d_X_digest_7 : decode b_X_digest 7 = .ok (.ishl, 1) := by decide +kernel
theorem d_X_digest_8 : decode b_X_digest 8 = .ok (.iload_n 1, 1) := by decide +kernel
theorem d_X_digest_9 : decode b_X_digest 9 = .ok (.bipush 23, 2) := by decide +kernel
theorem d_X_digest_11 : decode b_X_digest 11 = .ok (.iushr, 1) := by decide +kernel
theorem d_X_digest_12 : decode b_X_digest 12 = .ok (.ior, 1) := by decide +kernel
theorem d_X_digest_13 : decode b_X_digest 13 = .ok (.ixor, 1) := by decide +kernel
theorem d_X_digest_14 : decode b_X_digest 14 = .ok (.ldc 98, 2) := by decide +kernel
theorem d_X_digest_16 : decode b_X_digest 16 = .ok (.imul, 1) := by decide +kernel
theorem d_X_digest_17 : decode b_X_digest 17 = .ok (.istore_n 2, 1) := by decide +kernel
theorem d_X_digest_18 : decode b_X_digest 18 = .ok (.iload_n 2, 1) := by decide +kernel
theorem d_X_digest_19 : decode b_X_digest 19 = .ok (.iload_n 2, 1) := by decide +kernel
theorem d_X_digest_20 : decode b_X_digest 20 = .ok (.bipush 15, 2) := by decide +kernel
theorem d_X_digest_22 : decode b_X_digest 22 = .ok (.iushr, 1) := by decide +kernel
theorem d_X_digest_23 : decode b_X_digest 23 = .ok (.ixor, 1) := by decide +kernel
theorem d_X_digest_24 : decode b_X_digest 24 = .ok (.ireturn, 1) := by decide +kernel
theorem d_X_encipher_0 : decode b_X_encipher 0 = .ok (.iload_n 0, 1) := by decide +kernel
theorem d_X_encipher_1 : decode b_X_encipher 1 = .ok (.ldc 99, 2) := by decide +kernel
theorem d_X_encipher_3 : decode b_X_encipher 3 = .ok (.iload_n 2, 1) := by decide +kernel
theorem d_X_encipher_4 : decode b_X_encipher 4 = .ok (.invokestatic 100, 3) := by decide +kernel
theorem d_X_encipher_7 : decode b_X_encipher 7 = .ok (.iload_n 1, 1) := by decide +kernel
theorem d_X_encipher_8 : decode b_X_encipher 8 = .ok (.invokestatic 100, 3) := by decide +kernel
theorem d_X_encipher_11 : decode b_X_encipher 11 = .ok (.ixor, 1) := by decide +kernel
theorem d_X_encipher_12 : decode b_X_encipher 12 = .ok (.ireturn, 1) := by decide +kernel
theorem d_X_upper_0 : decode b_X_upper 0 = .ok (.lload_n 0, 1) := by decide +kernel
theorem d_X_upper_1 : decode b_X_upper 1 = .ok (.bipush 32, 2) := by decide +kernel
theorem d_X_upper_3 : decode b_X_upper 3 = .ok (.lushr, 1) := by decide +kernel
theorem d_X_upper_4 : decode b_X_upper 4 = .ok (.l2i, 1) := by decide +kernel
theorem d_X_upper_5 : decode b_X_upper 5 = .ok (.ireturn, 1) := by decide +kernel
theorem d_X_lower_0 : decode b_X_lower 0 = .ok (.lload_n 0, 1) := by decide +kernel
theorem d_X_lower_1 : decode b_X_lower 1 = .ok (.l2i, 1) := by decide +kernel
theorem d_X_lower_2 : decode b_X_lower 2 = .ok (.ireturn, 1) := by decide +kernel
theorem d_X_isSector_0 : decode b_X_isSector 0 = .ok (.iload_n 0, 1) := by decide +kernel
theorem d_X_isSector_1 : decode b_X_isSector 1 = .ok (.ifCond .lt 13, 3) := by decide +kernel
theorem d_X_isSector_4 : decode b_X_isSector 4 = .ok (.iload_n 0, 1) := by decide +kernel
theorem d_X_isSector_5 : decode b_X_isSector 5 = .ok (.bipush 8, 2) := by decide +kernel
theorem d_X_isSector_7 : decode b_X_isSector 7 = .ok (.if_icmp .ge 7, 3) := by decide +kernel
theorem d_X_isSector_10 : decode b_X_isSector 10 = .ok (.iconst 1, 1) := by decide +kernel
theorem d_X_isSector_11 : decode b_X_isSector 11 = .ok (.goto 4, 3) := by decide +kernel
theorem d_X_isSector_14 : decode b_X_isSector 14 = .ok (.iconst 0, 1) := by decide +kernel
theorem d_X_isSector_15 : decode b_X_isSector 15 = .ok (.ireturn, 1) := by decide +kernel
theorem d_X_isPlace_0 : decode b_X_isPlace 0 = .ok (.iload_n 0, 1) := by decide +kernel
theorem d_X_isPlace_1 : decode b_X_isPlace 1 = .ok (.ifCond .lt 13, 3) := by decide +kernel
theorem d_X_isPlace_4 : decode b_X_isPlace 4 = .ok (.iload_n 0, 1) := by decide +kernel
theorem d_X_isPlace_5 : decode b_X_isPlace 5 = .ok (.bipush 102, 2) := by decide +kernel
theorem d_X_isPlace_7 : decode b_X_isPlace 7 = .ok (.if_icmp .ge 7, 3) := by decide +kernel
theorem d_X_isPlace_10 : decode b_X_isPlace 10 = .ok (.iconst 1, 1) := by decide +kernel
theorem d_X_isPlace_11 : decode b_X_isPlace 11 = .ok (.goto 4, 3) := by decide +kernel
theorem d_X_isPlace_14 : decode b_X_isPlace 14 = .ok (.iconst 0, 1) := by decide +kernel
theorem d_X_isPlace_15 : decode b_X_isPlace 15 = .ok (.ireturn, 1) := by decide +kernel
theorem d_X_sectorPlace_0 : decode b_X_sectorPlace 0 = .ok (.bipush 51, 2) := by decide +kernel
theorem d_X_sectorPlace_2 : decode b_X_sectorPlace 2 = .ok (.iload_n 0, 1) := by decide +kernel
theorem d_X_sectorPlace_3 : decode b_X_sectorPlace 3 = .ok (.imul, 1) := by decide +kernel
theorem d_X_sectorPlace_4 : decode b_X_sectorPlace 4 = .ok (.iconst 2, 1) := by decide +kernel
theorem d_X_sectorPlace_5 : decode b_X_sectorPlace 5 = .ok (.iload_n 1, 1) := by decide +kernel
theorem d_X_sectorPlace_6 : decode b_X_sectorPlace 6 = .ok (.imul, 1) := by decide +kernel
theorem d_X_sectorPlace_7 : decode b_X_sectorPlace 7 = .ok (.iadd, 1) := by decide +kernel
theorem d_X_sectorPlace_8 : decode b_X_sectorPlace 8 = .ok (.ireturn, 1) := by decide +kernel
theorem d_X_nodePlace_0 : decode b_X_nodePlace 0 = .ok (.bipush 51, 2) := by decide +kernel
theorem d_X_nodePlace_2 : decode b_X_nodePlace 2 = .ok (.iload_n 0, 1) := by decide +kernel
theorem d_X_nodePlace_3 : decode b_X_nodePlace 3 = .ok (.imul, 1) := by decide +kernel
theorem d_X_nodePlace_4 : decode b_X_nodePlace 4 = .ok (.bipush 16, 2) := by decide +kernel
theorem d_X_nodePlace_6 : decode b_X_nodePlace 6 = .ok (.iadd, 1) := by decide +kernel
theorem d_X_nodePlace_7 : decode b_X_nodePlace 7 = .ok (.iload_n 1, 1) := by decide +kernel
theorem d_X_nodePlace_8 : decode b_X_nodePlace 8 = .ok (.iadd, 1) := by decide +kernel
theorem d_X_nodePlace_9 : decode b_X_nodePlace 9 = .ok (.iconst 1, 1) := by decide +kernel
theorem d_X_nodePlace_10 : decode b_X_nodePlace 10 = .ok (.isub, 1) := by decide +kernel
theorem d_X_nodePlace_11 : decode b_X_nodePlace 11 = .ok (.ireturn, 1) := by decide +kernel
theorem d_X_recordPlace_0 : decode b_X_recordPlace 0 = .ok (.bipush 51, 2) := by decide +kernel
theorem d_X_recordPlace_2 : decode b_X_recordPlace 2 = .ok (.iload_n 0, 1) := by decide +kernel
theorem d_X_recordPlace_3 : decode b_X_recordPlace 3 = .ok (.imul, 1) := by decide +kernel
theorem d_X_recordPlace_4 : decode b_X_recordPlace 4 = .ok (.bipush 31, 2) := by decide +kernel
theorem d_X_recordPlace_6 : decode b_X_recordPlace 6 = .ok (.iadd, 1) := by decide +kernel
theorem d_X_recordPlace_7 : decode b_X_recordPlace 7 = .ok (.iconst 4, 1) := by decide +kernel
theorem d_X_recordPlace_8 : decode b_X_recordPlace 8 = .ok (.iload_n 1, 1) := by decide +kernel
theorem d_X_recordPlace_9 : decode b_X_recordPlace 9 = .ok (.imul, 1) := by decide +kernel
theorem d_X_recordPlace_10 : decode b_X_recordPlace 10 = .ok (.iadd, 1) := by decide +kernel
theorem d_X_recordPlace_11 : decode b_X_recordPlace 11 = .ok (.ireturn, 1) := by decide +kernel
theorem d_X_dueNode_0 : decode b_X_dueNode 0 = .ok (.iload_n 2, 1) := by decide +kernel
theorem d_X_dueNode_1 : decode b_X_dueNode 1 = .ok (.bipush 8, 2) := by decide +kernel
theorem d_X_dueNode_3 : decode b_X_dueNode 3 = .ok (.if_icmp .lt 47, 3) := by decide +kernel
theorem d_X_dueNode_6 : decode b_X_dueNode 6 = .ok (.iload_n 2, 1) := by decide +kernel
theorem d_X_dueNode_7 : decode b_X_dueNode 7 = .ok (.bipush 8, 2) := by decide +kernel
theorem d_X_dueNode_9 : decode b_X_dueNode 9 = .ok (.isub, 1) := by decide +kernel
theorem d_X_dueNode_10 : decode b_X_dueNode 10 = .ok (.istore 4, 2) := by decide +kernel
theorem d_X_dueNode_12 : decode b_X_dueNode 12 = .ok (.iload_n 1, 1) := by decide +kernel
theorem d_X_dueNode_13 : decode b_X_dueNode 13 = .ok (.iload 4, 2) := by decide +kernel
theorem d_X_dueNode_15 : decode b_X_dueNode 15 = .ok (.invokestatic 103, 3) := by decide +kernel
theorem d_X_dueNode_18 : decode b_X_dueNode 18 = .ok (.istore 5, 2) := by decide +kernel
theorem d_X_dueNode_20 : decode b_X_dueNode 20 = .ok (.bipush 8, 2) := by decide +kernel
theorem d_X_dueNode_22 : decode b_X_dueNode 22 = .ok (.iload_n 3, 1) := by decide +kernel
theorem d_X_dueNode_23 : decode b_X_dueNode 23 = .ok (.imul, 1) := by decide +kernel
theorem d_X_dueNode_24 : decode b_X_dueNode 24 = .ok (.iload 4, 2) := by decide +kernel
theorem d_X_dueNode_26 : decode b_X_dueNode 26 = .ok (.iadd, 1) := by decide +kernel
theorem d_X_dueNode_27 : decode b_X_dueNode 27 = .ok (.aload_n 0, 1) := by decide +kernel
theorem d_X_dueNode_28 : decode b_X_dueNode 28 = .ok (.getfield 9, 3) := by decide +kernel
theorem d_X_dueNode_31 : decode b_X_dueNode 31 = .ok (.iload 5, 2) := by decide +kernel
theorem d_X_dueNode_33 : decode b_X_dueNode 33 = .ok (.iaload, 1) := by decide +kernel
theorem d_X_dueNode_34 : decode b_X_dueNode 34 = .ok (.invokestatic 100, 3) := by decide +kernel
theorem d_X_dueNode_37 : decode b_X_dueNode 37 = .ok (.aload_n 0, 1) := by decide +kernel
theorem d_X_dueNode_38 : decode b_X_dueNode 38 = .ok (.getfield 9, 3) := by decide +kernel
theorem d_X_dueNode_41 : decode b_X_dueNode 41 = .ok (.iload 5, 2) := by decide +kernel
theorem d_X_dueNode_43 : decode b_X_dueNode 43 = .ok (.iconst 1, 1) := by decide +kernel
theorem d_X_dueNode_44 : decode b_X_dueNode 44 = .ok (.iadd, 1) := by decide +kernel
theorem d_X_dueNode_45 : decode b_X_dueNode 45 = .ok (.iaload, 1) := by decide +kernel
theorem d_X_dueNode_46 : decode b_X_dueNode 46 = .ok (.invokestatic 100, 3) := by decide +kernel
theorem d_X_dueNode_49 : decode b_X_dueNode 49 = .ok (.ireturn, 1) := by decide +kernel
theorem d_X_dueNode_50 : decode b_X_dueNode 50 = .ok (.aload_n 0, 1) := by decide +kernel
theorem d_X_dueNode_51 : decode b_X_dueNode 51 = .ok (.getfield 9, 3) := by decide +kernel
theorem d_X_dueNode_54 : decode b_X_dueNode 54 = .ok (.iload_n 1, 1) := by decide +kernel
theorem d_X_dueNode_55 : decode b_X_dueNode 55 = .ok (.iconst 2, 1) := by decide +kernel
theorem d_X_dueNode_56 : decode b_X_dueNode 56 = .ok (.iload_n 2, 1) := by decide +kernel
theorem d_X_dueNode_57 : decode b_X_dueNode 57 = .ok (.imul, 1) := by decide +kernel
theorem d_X_dueNode_58 : decode b_X_dueNode 58 = .ok (.invokestatic 31, 3) := by decide +kernel
theorem d_X_dueNode_61 : decode b_X_dueNode 61 = .ok (.iaload, 1) := by decide +kernel
theorem d_X_dueNode_62 : decode b_X_dueNode 62 = .ok (.aload_n 0, 1) := by decide +kernel
theorem d_X_dueNode_63 : decode b_X_dueNode 63 = .ok (.getfield 9, 3) := by decide +kernel
theorem d_X_dueNode_66 : decode b_X_dueNode 66 = .ok (.iload_n 1, 1) := by decide +kernel
theorem d_X_dueNode_67 : decode b_X_dueNode 67 = .ok (.iconst 2, 1) := by decide +kernel
theorem d_X_dueNode_68 : decode b_X_dueNode 68 = .ok (.iload_n 2, 1) := by decide +kernel
theorem d_X_dueNode_69 : decode b_X_dueNode 69 = .ok (.imul, 1) := by decide +kernel
theorem d_X_dueNode_70 : decode b_X_dueNode 70 = .ok (.iconst 1, 1) := by decide +kernel
theorem d_X_dueNode_71 : decode b_X_dueNode 71 = .ok (.iadd, 1) := by decide +kernel
theorem d_X_dueNode_72 : decode b_X_dueNode 72 = .ok (.invokestatic 31, 3) := by decide +kernel
theorem d_X_dueNode_75 : decode b_X_dueNode 75 = .ok (.iaload, 1) := by decide +kernel
theorem d_X_dueNode_76 : decode b_X_dueNode 76 = .ok (.invokestatic 100, 3) := by decide +kernel
theorem d_X_dueNode_79 : decode b_X_dueNode 79 = .ok (.ireturn, 1) := by decide +kernel
theorem d_X_valueAt_0 : decode b_X_valueAt 0 = .ok (.aload_n 0, 1) := by decide +kernel
theorem d_X_valueAt_1 : decode b_X_valueAt 1 = .ok (.getfield 9, 3) := by decide +kernel
theorem d_X_valueAt_4 : decode b_X_valueAt 4 = .ok (.iload_n 1, 1) := by decide +kernel
theorem d_X_valueAt_5 : decode b_X_valueAt 5 = .ok (.iaload, 1) := by decide +kernel
theorem d_X_valueAt_6 : decode b_X_valueAt 6 = .ok (.iload_n 1, 1) := by decide +kernel
theorem d_X_valueAt_7 : decode b_X_valueAt 7 = .ok (.aload_n 0, 1) := by decide +kernel
theorem d_X_valueAt_8 : decode b_X_valueAt 8 = .ok (.getfield 24, 3) := by decide +kernel
theorem d_X_valueAt_11 : decode b_X_valueAt 11 = .ok (.invokestatic 27, 3) := by decide +kernel
theorem d_X_valueAt_14 : decode b_X_valueAt 14 = .ok (.i2l, 1) := by decide +kernel
theorem d_X_valueAt_15 : decode b_X_valueAt 15 = .ok (.lstore_n 2, 1) := by decide +kernel
theorem d_X_valueAt_16 : decode b_X_valueAt 16 = .ok (.aload_n 0, 1) := by decide +kernel
theorem d_X_valueAt_17 : decode b_X_valueAt 17 = .ok (.getfield 9, 3) := by decide +kernel
theorem d_X_valueAt_20 : decode b_X_valueAt 20 = .ok (.iload_n 1, 1) := by decide +kernel
theorem d_X_valueAt_21 : decode b_X_valueAt 21 = .ok (.iconst 1, 1) := by decide +kernel
theorem d_X_valueAt_22 : decode b_X_valueAt 22 = .ok (.iadd, 1) := by decide +kernel
theorem d_X_valueAt_23 : decode b_X_valueAt 23 = .ok (.iaload, 1) := by decide +kernel
theorem d_X_valueAt_24 : decode b_X_valueAt 24 = .ok (.iload_n 1, 1) := by decide +kernel
theorem d_X_valueAt_25 : decode b_X_valueAt 25 = .ok (.iconst 1, 1) := by decide +kernel
theorem d_X_valueAt_26 : decode b_X_valueAt 26 = .ok (.iadd, 1) := by decide +kernel
theorem d_X_valueAt_27 : decode b_X_valueAt 27 = .ok (.aload_n 0, 1) := by decide +kernel
theorem d_X_valueAt_28 : decode b_X_valueAt 28 = .ok (.getfield 24, 3) := by decide +kernel
theorem d_X_valueAt_31 : decode b_X_valueAt 31 = .ok (.invokestatic 27, 3) := by decide +kernel
theorem d_X_valueAt_34 : decode b_X_valueAt 34 = .ok (.i2l, 1) := by decide +kernel
theorem d_X_valueAt_35 : decode b_X_valueAt 35 = .ok (.lstore 4, 2) := by decide +kernel
theorem d_X_valueAt_37 : decode b_X_valueAt 37 = .ok (.lload_n 2, 1) := by decide +kernel
theorem d_X_valueAt_38 : decode b_X_valueAt 38 = .ok (.bipush 32, 2) := by decide +kernel
theorem d_X_valueAt_40 : decode b_X_valueAt 40 = .ok (.lshl, 1) := by decide +kernel
theorem d_X_valueAt_41 : decode b_X_valueAt 41 = .ok (.lload 4, 2) := by decide +kernel
theorem d_X_valueAt_43 : decode b_X_valueAt 43 = .ok (.ldc2_w 106, 3) := by decide +kernel
theorem d_X_valueAt_46 : decode b_X_valueAt 46 = .ok (.land, 1) := by decide +kernel
theorem d_X_valueAt_47 : decode b_X_valueAt 47 = .ok (.lor, 1) := by decide +kernel
theorem d_X_valueAt_48 : decode b_X_valueAt 48 = .ok (.lreturn, 1) := by decide +kernel
theorem d_X_rootAbove_0 : decode b_X_rootAbove 0 = .ok (.aload_n 0, 1) := by decide +kernel
theorem d_X_rootAbove_1 : decode b_X_rootAbove 1 = .ok (.aload_n 0, 1) := by decide +kernel
theorem d_X_rootAbove_2 : decode b_X_rootAbove 2 = .ok (.getfield 81, 3) := by decide +kernel
theorem d_X_rootAbove_5 : decode b_X_rootAbove 5 = .ok (.bipush 8, 2) := by decide +kernel
theorem d_X_rootAbove_7 : decode b_X_rootAbove 7 = .ok (.iload_n 1, 1) := by decide +kernel
theorem d_X_rootAbove_8 : decode b_X_rootAbove 8 = .ok (.iadd, 1) := by decide +kernel
theorem d_X_rootAbove_9 : decode b_X_rootAbove 9 = .ok (.aload_n 0, 1) := by decide +kernel
theorem d_X_rootAbove_10 : decode b_X_rootAbove 10 = .ok (.getfield 24, 3) := by decide +kernel
theorem d_X_rootAbove_13 : decode b_X_rootAbove 13 = .ok (.invokevirtual 35, 3) := by decide +kernel
theorem d_X_rootAbove_16 : decode b_X_rootAbove 16 = .ok (.istore_n 2, 1) := by decide +kernel
theorem d_X_rootAbove_17 : decode b_X_rootAbove 17 = .ok (.bipush 8, 2) := by decide +kernel
theorem d_X_rootAbove_19 : decode b_X_rootAbove 19 = .ok (.iload_n 1, 1) := by decide +kernel
theorem d_X_rootAbove_20 : decode b_X_rootAbove 20 = .ok (.iadd, 1) := by decide +kernel
theorem d_X_rootAbove_21 : decode b_X_rootAbove 21 = .ok (.istore_n 3, 1) := by decide +kernel
theorem d_X_rootAbove_22 : decode b_X_rootAbove 22 = .ok (.iload_n 3, 1) := by decide +kernel
theorem d_X_rootAbove_23 : decode b_X_rootAbove 23 = .ok (.iconst 1, 1) := by decide +kernel
theorem d_X_rootAbove_24 : decode b_X_rootAbove 24 = .ok (.if_icmp .le 49, 3) := by decide +kernel
theorem d_X_rootAbove_27 : decode b_X_rootAbove 27 = .ok (.aload_n 0, 1) := by decide +kernel
theorem d_X_rootAbove_28 : decode b_X_rootAbove 28 = .ok (.getfield 9, 3) := by decide +kernel
theorem d_X_rootAbove_31 : decode b_X_rootAbove 31 = .ok (.aload_n 0, 1) := by decide +kernel
theorem d_X_rootAbove_32 : decode b_X_rootAbove 32 = .ok (.getfield 81, 3) := by decide +kernel
theorem d_X_rootAbove_35 : decode b_X_rootAbove 35 = .ok (.iload_n 3, 1) := by decide +kernel
theorem d_X_rootAbove_36 : decode b_X_rootAbove 36 = .ok (.iconst 1, 1) := by decide +kernel
theorem d_X_rootAbove_37 : decode b_X_rootAbove 37 = .ok (.ixor, 1) := by decide +kernel
theorem d_X_rootAbove_38 : decode b_X_rootAbove 38 = .ok (.invokestatic 31, 3) := by decide +kernel
theorem d_X_rootAbove_41 : decode b_X_rootAbove 41 = .ok (.iaload, 1) := by decide +kernel
theorem d_X_rootAbove_42 : decode b_X_rootAbove 42 = .ok (.istore 4, 2) := by decide +kernel
theorem d_X_rootAbove_44 : decode b_X_rootAbove 44 = .ok (.iload_n 3, 1) := by decide +kernel
theorem d_X_rootAbove_45 : decode b_X_rootAbove 45 = .ok (.iconst 2, 1) := by decide +kernel
theorem d_X_rootAbove_46 : decode b_X_rootAbove 46 = .ok (.irem, 1) := by decide +kernel
theorem d_X_rootAbove_47 : decode b_X_rootAbove 47 = .ok (.ifCond .ne 12, 3) := by decide +kernel
theorem d_X_rootAbove_50 : decode b_X_rootAbove 50 = .ok (.iload_n 2, 1) := by decide +kernel
theorem d_X_rootAbove_51 : decode b_X_rootAbove 51 = .ok (.iload 4, 2) := by decide +kernel
theorem d_X_rootAbove_53 : decode b_X_rootAbove 53 = .ok (.invokestatic 100, 3) := by decide +kernel
theorem d_X_rootAbove_56 : decode b_X_rootAbove 56 = .ok (.goto 9, 3) := by decide +kernel
theorem d_X_rootAbove_59 : decode b_X_rootAbove 59 = .ok (.iload 4, 2) := by decide +kernel
theorem d_X_rootAbove_61 : decode b_X_rootAbove 61 = .ok (.iload_n 2, 1) := by decide +kernel
theorem d_X_rootAbove_62 : decode b_X_rootAbove 62 = .ok (.invokestatic 100, 3) := by decide +kernel
theorem d_X_rootAbove_65 : decode b_X_rootAbove 65 = .ok (.istore_n 2, 1) := by decide +kernel
theorem d_X_rootAbove_66 : decode b_X_rootAbove 66 = .ok (.iload_n 3, 1) := by decide +kernel
theorem d_X_rootAbove_67 : decode b_X_rootAbove 67 = .ok (.iconst 2, 1) := by decide +kernel
theorem d_X_rootAbove_68 : decode b_X_rootAbove 68 = .ok (.idiv, 1) := by decide +kernel
theorem d_X_rootAbove_69 : decode b_X_rootAbove 69 = .ok (.istore_n 3, 1) := by decide +kernel
theorem d_X_rootAbove_70 : decode b_X_rootAbove 70 = .ok (.goto (-48), 3) := by decide +kernel
theorem d_X_rootAbove_73 : decode b_X_rootAbove 73 = .ok (.iload_n 2, 1) := by decide +kernel
theorem d_X_rootAbove_74 : decode b_X_rootAbove 74 = .ok (.ireturn, 1) := by decide +kernel
theorem d_X_valueOf_0 : decode b_X_valueOf 0 = .ok (.aload_n 0, 1) := by decide +kernel
theorem d_X_valueOf_1 : decode b_X_valueOf 1 = .ok (.getfield 44, 3) := by decide +kernel
theorem d_X_valueOf_4 : decode b_X_valueOf 4 = .ok (.iconst 1, 1) := by decide +kernel
theorem d_X_valueOf_5 : decode b_X_valueOf 5 = .ok (.isub, 1) := by decide +kernel
theorem d_X_valueOf_6 : decode b_X_valueOf 6 = .ok (.istore_n 2, 1) := by decide +kernel
theorem d_X_valueOf_7 : decode b_X_valueOf 7 = .ok (.iload_n 2, 1) := by decide +kernel
theorem d_X_valueOf_8 : decode b_X_valueOf 8 = .ok (.ifCond .lt 26, 3) := by decide +kernel
theorem d_X_valueOf_11 : decode b_X_valueOf 11 = .ok (.aload_n 0, 1) := by decide +kernel
theorem d_X_valueOf_12 : decode b_X_valueOf 12 = .ok (.getfield 13, 3) := by decide +kernel
theorem d_X_valueOf_15 : decode b_X_valueOf 15 = .ok (.iload_n 2, 1) := by decide +kernel
theorem d_X_valueOf_16 : decode b_X_valueOf 16 = .ok (.iaload, 1) := by decide +kernel
theorem d_X_valueOf_17 : decode b_X_valueOf 17 = .ok (.iload_n 1, 1) := by decide +kernel
theorem d_X_valueOf_18 : decode b_X_valueOf 18 = .ok (.if_icmp .ne 10, 3) := by decide +kernel
theorem d_X_valueOf_21 : decode b_X_valueOf 21 = .ok (.aload_n 0, 1) := by decide +kernel
theorem d_X_valueOf_22 : decode b_X_valueOf 22 = .ok (.getfield 16, 3) := by decide +kernel
theorem d_X_valueOf_25 : decode b_X_valueOf 25 = .ok (.iload_n 2, 1) := by decide +kernel
theorem d_X_valueOf_26 : decode b_X_valueOf 26 = .ok (.laload, 1) := by decide +kernel
theorem d_X_valueOf_27 : decode b_X_valueOf 27 = .ok (.lreturn, 1) := by decide +kernel
theorem d_X_valueOf_28 : decode b_X_valueOf 28 = .ok (.iinc 2 (-1), 3) := by decide +kernel
theorem d_X_valueOf_31 : decode b_X_valueOf 31 = .ok (.goto (-24), 3) := by decide +kernel
theorem d_X_valueOf_34 : decode b_X_valueOf 34 = .ok (.aload_n 0, 1) := by decide +kernel
theorem d_X_valueOf_35 : decode b_X_valueOf 35 = .ok (.iload_n 1, 1) := by decide +kernel
theorem d_X_valueOf_36 : decode b_X_valueOf 36 = .ok (.invokevirtual 108, 3) := by decide +kernel
theorem d_X_valueOf_39 : decode b_X_valueOf 39 = .ok (.aload_n 0, 1) := by decide +kernel
theorem d_X_valueOf_40 : decode b_X_valueOf 40 = .ok (.getfield 38, 3) := by decide +kernel
theorem d_X_valueOf_43 : decode b_X_valueOf 43 = .ok (.if_icmp .eq 7, 3) := by decide +kernel
theorem d_X_valueOf_46 : decode b_X_valueOf 46 = .ok (.ldc2_w 112, 3) := by decide +kernel
theorem d_X_valueOf_49 : decode b_X_valueOf 49 = .ok (.lreturn, 1) := by decide +kernel
theorem d_X_valueOf_50 : decode b_X_valueOf 50 = .ok (.aload_n 0, 1) := by decide +kernel
theorem d_X_valueOf_51 : decode b_X_valueOf 51 = .ok (.aload_n 0, 1) := by decide +kernel
theorem d_X_valueOf_52 : decode b_X_valueOf 52 = .ok (.getfield 81, 3) := by decide +kernel
theorem d_X_valueOf_55 : decode b_X_valueOf 55 = .ok (.iload_n 1, 1) := by decide +kernel
theorem d_X_valueOf_56 : decode b_X_valueOf 56 = .ok (.invokestatic 103, 3) := by decide +kernel
theorem d_X_valueOf_59 : decode b_X_valueOf 59 = .ok (.invokevirtual 114, 3) := by decide +kernel
theorem d_X_valueOf_62 : decode b_X_valueOf 62 = .ok (.lstore_n 2, 1) := by decide +kernel
theorem d_X_valueOf_63 : decode b_X_valueOf 63 = .ok (.lload_n 2, 1) := by decide +kernel
theorem d_X_valueOf_64 : decode b_X_valueOf 64 = .ok (.lconst 0, 1) := by decide +kernel
theorem d_X_valueOf_65 : decode b_X_valueOf 65 = .ok (.lcmp, 1) := by decide +kernel
theorem d_X_valueOf_66 : decode b_X_valueOf 66 = .ok (.ifCond .ge 9, 3) := by decide +kernel
theorem d_X_valueOf_69 : decode b_X_valueOf 69 = .ok (.ldc2_w 112, 3) := by decide +kernel
theorem d_X_valueOf_72 : decode b_X_valueOf 72 = .ok (.goto 4, 3) := by decide +kernel
theorem d_X_valueOf_75 : decode b_X_valueOf 75 = .ok (.lload_n 2, 1) := by decide +kernel
theorem d_X_valueOf_76 : decode b_X_valueOf 76 = .ok (.lreturn, 1) := by decide +kernel
theorem d_X_soundSectors_0 : decode b_X_soundSectors 0 = .ok (.iconst 0, 1) := by decide +kernel
theorem d_X_soundSectors_1 : decode b_X_soundSectors 1 = .ok (.istore_n 1, 1) := by decide +kernel
theorem d_X_soundSectors_2 : decode b_X_soundSectors 2 = .ok (.iconst 0, 1) := by decide +kernel
theorem d_X_soundSectors_3 : decode b_X_soundSectors 3 = .ok (.istore_n 2, 1) := by decide +kernel
theorem d_X_soundSectors_4 : decode b_X_soundSectors 4 = .ok (.iload_n 2, 1) := by decide +kernel
theorem d_X_soundSectors_5 : decode b_X_soundSectors 5 = .ok (.bipush 8, 2) := by decide +kernel
theorem d_X_soundSectors_7 : decode b_X_soundSectors 7 = .ok (.if_icmp .ge 25, 3) := by decide +kernel
theorem d_X_soundSectors_10 : decode b_X_soundSectors 10 = .ok (.aload_n 0, 1) := by decide +kernel
theorem d_X_soundSectors_11 : decode b_X_soundSectors 11 = .ok (.iload_n 2, 1) := by decide +kernel
theorem d_X_soundSectors_12 : decode b_X_soundSectors 12 = .ok (.invokevirtual 77, 3) := by decide +kernel
theorem d_X_soundSectors_15 : decode b_X_soundSectors 15 = .ok (.lconst 0, 1) := by decide +kernel
theorem d_X_soundSectors_16 : decode b_X_soundSectors 16 = .ok (.lcmp, 1) := by decide +kernel
theorem d_X_soundSectors_17 : decode b_X_soundSectors 17 = .ok (.ifCond .lt 9, 3) := by decide +kernel
theorem d_X_soundSectors_20 : decode b_X_soundSectors 20 = .ok (.iload_n 1, 1) := by decide +kernel
theorem d_X_soundSectors_21 : decode b_X_soundSectors 21 = .ok (.iconst 1, 1) := by decide +kernel
theorem d_X_soundSectors_22 : decode b_X_soundSectors 22 = .ok (.iload_n 2, 1) := by decide +kernel
theorem d_X_soundSectors_23 : decode b_X_soundSectors 23 = .ok (.ishl, 1) := by decide +kernel
theorem d_X_soundSectors_24 : decode b_X_soundSectors 24 = .ok (.iadd, 1) := by decide +kernel
theorem d_X_soundSectors_25 : decode b_X_soundSectors 25 = .ok (.istore_n 1, 1) := by decide +kernel
theorem d_X_soundSectors_26 : decode b_X_soundSectors 26 = .ok (.iinc 2 1, 3) := by decide +kernel
theorem d_X_soundSectors_29 : decode b_X_soundSectors 29 = .ok (.goto (-25), 3) := by decide +kernel
theorem d_X_soundSectors_32 : decode b_X_soundSectors 32 = .ok (.iload_n 1, 1) := by decide +kernel
theorem d_X_soundSectors_33 : decode b_X_soundSectors 33 = .ok (.ireturn, 1) := by decide +kernel
theorem d_X_forget_0 : decode b_X_forget 0 = .ok (.aload_n 0, 1) := by decide +kernel
theorem d_X_forget_1 : decode b_X_forget 1 = .ok (.iconst 0, 1) := by decide +kernel
theorem d_X_forget_2 : decode b_X_forget 2 = .ok (.putfield 53, 3) := by decide +kernel
theorem d_X_forget_5 : decode b_X_forget 5 = .ok (.aload_n 0, 1) := by decide +kernel
theorem d_X_forget_6 : decode b_X_forget 6 = .ok (.iconst 0, 1) := by decide +kernel
theorem d_X_forget_7 : decode b_X_forget 7 = .ok (.putfield 44, 3) := by decide +kernel
theorem d_X_forget_10 : decode b_X_forget 10 = .ok (.aload_n 0, 1) := by decide +kernel
theorem d_X_forget_11 : decode b_X_forget 11 = .ok (.iconst 0, 1) := by decide +kernel
theorem d_X_forget_12 : decode b_X_forget 12 = .ok (.putfield 117, 3) := by decide +kernel
theorem d_X_forget_15 : decode b_X_forget 15 = .ok (.return_, 1) := by decide +kernel
theorem d_X_addToList_0 : decode b_X_addToList 0 = .ok (.aload_n 0, 1) := by decide +kernel
theorem d_X_addToList_1 : decode b_X_addToList 1 = .ok (.getfield 13, 3) := by decide +kernel
theorem d_X_addToList_4 : decode b_X_addToList 4 = .ok (.aload_n 0, 1) := by decide +kernel
theorem d_X_addToList_5 : decode b_X_addToList 5 = .ok (.getfield 44, 3) := by decide +kernel
theorem d_X_addToList_8 : decode b_X_addToList 8 = .ok (.iload_n 1, 1) := by decide +kernel
theorem d_X_addToList_9 : decode b_X_addToList 9 = .ok (.iastore, 1) := by decide +kernel
theorem d_X_addToList_10 : decode b_X_addToList 10 = .ok (.aload_n 0, 1) := by decide +kernel
theorem d_X_addToList_11 : decode b_X_addToList 11 = .ok (.getfield 16, 3) := by decide +kernel
theorem d_X_addToList_14 : decode b_X_addToList 14 = .ok (.aload_n 0, 1) := by decide +kernel
theorem d_X_addToList_15 : decode b_X_addToList 15 = .ok (.getfield 44, 3) := by decide +kernel
theorem d_X_addToList_18 : decode b_X_addToList 18 = .ok (.lload_n 2, 1) := by decide +kernel
theorem d_X_addToList_19 : decode b_X_addToList 19 = .ok (.lastore, 1) := by decide +kernel
theorem d_X_addToList_20 : decode b_X_addToList 20 = .ok (.aload_n 0, 1) := by decide +kernel
theorem d_X_addToList_21 : decode b_X_addToList 21 = .ok (.dup, 1) := by decide +kernel
theorem d_X_addToList_22 : decode b_X_addToList 22 = .ok (.getfield 44, 3) := by decide +kernel
theorem d_X_addToList_25 : decode b_X_addToList 25 = .ok (.iconst 1, 1) := by decide +kernel
theorem d_X_addToList_26 : decode b_X_addToList 26 = .ok (.iadd, 1) := by decide +kernel
theorem d_X_addToList_27 : decode b_X_addToList 27 = .ok (.putfield 44, 3) := by decide +kernel
theorem d_X_addToList_30 : decode b_X_addToList 30 = .ok (.return_, 1) := by decide +kernel
theorem d_X_beginList_0 : decode b_X_beginList 0 = .ok (.aload_n 0, 1) := by decide +kernel
theorem d_X_beginList_1 : decode b_X_beginList 1 = .ok (.iconst 0, 1) := by decide +kernel
theorem d_X_beginList_2 : decode b_X_beginList 2 = .ok (.putfield 44, 3) := by decide +kernel
theorem d_X_beginList_5 : decode b_X_beginList 5 = .ok (.aload_n 0, 1) := by decide +kernel
theorem d_X_beginList_6 : decode b_X_beginList 6 = .ok (.ldc 99, 2) := by decide +kernel
theorem d_X_beginList_8 : decode b_X_beginList 8 = .ok (.aload_n 0, 1) := by decide +kernel
theorem d_X_beginList_9 : decode b_X_beginList 9 = .ok (.getfield 38, 3) := by decide +kernel
theorem d_X_beginList_12 : decode b_X_beginList 12 = .ok (.invokestatic 100, 3) := by decide +kernel
theorem d_X_beginList_15 : decode b_X_beginList 15 = .ok (.aload_n 0, 1) := by decide +kernel
theorem d_X_beginList_16 : decode b_X_beginList 16 = .ok (.getfield 24, 3) := by decide +kernel
theorem d_X_beginList_19 : decode b_X_beginList 19 = .ok (.invokestatic 100, 3) := by decide +kernel
theorem d_X_beginList_22 : decode b_X_beginList 22 = .ok (.putfield 117, 3) := by decide +kernel
theorem d_X_beginList_25 : decode b_X_beginList 25 = .ok (.return_, 1) := by decide +kernel
theorem d_X_chainBehind_0 : decode b_X_chainBehind 0 = .ok (.aload_n 0, 1) := by decide +kernel
theorem d_X_chainBehind_1 : decode b_X_chainBehind 1 = .ok (.getfield 117, 3) := by decide +kernel
theorem d_X_chainBehind_4 : decode b_X_chainBehind 4 = .ok (.aload_n 0, 1) := by decide +kernel
theorem d_X_chainBehind_5 : decode b_X_chainBehind 5 = .ok (.getfield 9, 3) := by decide +kernel
theorem d_X_chainBehind_8 : decode b_X_chainBehind 8 = .ok (.iload_n 1, 1) := by decide +kernel
theorem d_X_chainBehind_9 : decode b_X_chainBehind 9 = .ok (.iaload, 1) := by decide +kernel
theorem d_X_chainBehind_10 : decode b_X_chainBehind 10 = .ok (.invokestatic 100, 3) := by decide +kernel
theorem d_X_chainBehind_13 : decode b_X_chainBehind 13 = .ok (.aload_n 0, 1) := by decide +kernel
theorem d_X_chainBehind_14 : decode b_X_chainBehind 14 = .ok (.getfield 9, 3) := by decide +kernel
theorem d_X_chainBehind_17 : decode b_X_chainBehind 17 = .ok (.iload_n 1, 1) := by decide +kernel
theorem d_X_chainBehind_18 : decode b_X_chainBehind 18 = .ok (.iconst 1, 1) := by decide +kernel
theorem d_X_chainBehind_19 : decode b_X_chainBehind 19 = .ok (.iadd, 1) := by decide +kernel
theorem d_X_chainBehind_20 : decode b_X_chainBehind 20 = .ok (.iaload, 1) := by decide +kernel
theorem d_X_chainBehind_21 : decode b_X_chainBehind 21 = .ok (.invokestatic 100, 3) := by decide +kernel
theorem d_X_chainBehind_24 : decode b_X_chainBehind 24 = .ok (.aload_n 0, 1) := by decide +kernel
theorem d_X_chainBehind_25 : decode b_X_chainBehind 25 = .ok (.getfield 9, 3) := by decide +kernel
theorem d_X_chainBehind_28 : decode b_X_chainBehind 28 = .ok (.iload_n 1, 1) := by decide +kernel
theorem d_X_chainBehind_29 : decode b_X_chainBehind 29 = .ok (.iconst 2, 1) := by decide +kernel
theorem d_X_chainBehind_30 : decode b_X_chainBehind 30 = .ok (.iadd, 1) := by decide +kernel
theorem d_X_chainBehind_31 : decode b_X_chainBehind 31 = .ok (.iaload, 1) := by decide +kernel
theorem d_X_chainBehind_32 : decode b_X_chainBehind 32 = .ok (.invokestatic 100, 3) := by decide +kernel
theorem d_X_chainBehind_35 : decode b_X_chainBehind 35 = .ok (.ireturn, 1) := by decide +kernel
theorem d_X_markOf_0 : decode b_X_markOf 0 = .ok (.iload_n 0, 1) := by decide +kernel
theorem d_X_markOf_1 : decode b_X_markOf 1 = .ok (.iconst 1, 1) := by decide +kernel
theorem d_X_markOf_2 : decode b_X_markOf 2 = .ok (.ior, 1) := by decide +kernel
theorem d_X_markOf_3 : decode b_X_markOf 3 = .ok (.ireturn, 1) := by decide +kernel
theorem d_X_takeJournal_0 : decode b_X_takeJournal 0 = .ok (.aload_n 0, 1) := by decide +kernel
theorem d_X_takeJournal_1 : decode b_X_takeJournal 1 = .ok (.invokevirtual 120, 3) := by decide +kernel
theorem d_X_takeJournal_4 : decode b_X_takeJournal 4 = .ok (.iconst 0, 1) := by decide +kernel
theorem d_X_takeJournal_5 : decode b_X_takeJournal 5 = .ok (.istore_n 1, 1) := by decide +kernel
theorem d_X_takeJournal_6 : decode b_X_takeJournal 6 = .ok (.iload_n 1, 1) := by decide +kernel
theorem d_X_takeJournal_7 : decode b_X_takeJournal 7 = .ok (.iconst 5, 1) := by decide +kernel
theorem d_X_takeJournal_8 : decode b_X_takeJournal 8 = .ok (.if_icmp .ge 93, 3) := by decide +kernel
theorem d_X_takeJournal_11 : decode b_X_takeJournal 11 = .ok (.aload_n 0, 1) := by decide +kernel
theorem d_X_takeJournal_12 : decode b_X_takeJournal 12 = .ok (.getfield 81, 3) := by decide +kernel
theorem d_X_takeJournal_15 : decode b_X_takeJournal 15 = .ok (.iload_n 1, 1) := by decide +kernel
theorem d_X_takeJournal_16 : decode b_X_takeJournal 16 = .ok (.invokestatic 123, 3) := by decide +kernel
theorem d_X_takeJournal_19 : decode b_X_takeJournal 19 = .ok (.istore_n 2, 1) := by decide +kernel
theorem d_X_takeJournal_20 : decode b_X_takeJournal 20 = .ok (.aload_n 0, 1) := by decide +kernel
theorem d_X_takeJournal_21 : decode b_X_takeJournal 21 = .ok (.iload_n 2, 1) := by decide +kernel
theorem d_X_takeJournal_22 : decode b_X_takeJournal 22 = .ok (.invokevirtual 126, 3) := by decide +kernel
theorem d_X_takeJournal_25 : decode b_X_takeJournal 25 = .ok (.istore_n 3, 1) := by decide +kernel
theorem d_X_takeJournal_26 : decode b_X_takeJournal 26 = .ok (.aload_n 0, 1) := by decide +kernel
theorem d_X_takeJournal_27 : decode b_X_takeJournal 27 = .ok (.getfield 9, 3) := by decide +kernel
theorem d_X_takeJournal_30 : decode b_X_takeJournal 30 = .ok (.iload_n 2, 1) := by decide +kernel
theorem d_X_takeJournal_31 : decode b_X_takeJournal 31 = .ok (.iaload, 1) := by decide +kernel
theorem d_X_takeJournal_32 : decode b_X_takeJournal 32 = .ok (.iload_n 2, 1) := by decide +kernel
theorem d_X_takeJournal_33 : decode b_X_takeJournal 33 = .ok (.aload_n 0, 1) := by decide +kernel
theorem d_X_takeJournal_34 : decode b_X_takeJournal 34 = .ok (.getfield 24, 3) := by decide +kernel
theorem d_X_takeJournal_37 : decode b_X_takeJournal 37 = .ok (.invokestatic 27, 3) := by decide +kernel
theorem d_X_takeJournal_40 : decode b_X_takeJournal 40 = .ok (.istore 4, 2) := by decide +kernel
theorem d_X_takeJournal_42 : decode b_X_takeJournal 42 = .ok (.aload_n 0, 1) := by decide +kernel
theorem d_X_takeJournal_43 : decode b_X_takeJournal 43 = .ok (.iload_n 2, 1) := by decide +kernel
theorem d_X_takeJournal_44 : decode b_X_takeJournal 44 = .ok (.iconst 1, 1) := by decide +kernel
theorem d_X_takeJournal_45 : decode b_X_takeJournal 45 = .ok (.iadd, 1) := by decide +kernel
theorem d_X_takeJournal_46 : decode b_X_takeJournal 46 = .ok (.invokevirtual 114, 3) := by decide +kernel
theorem d_X_takeJournal_49 : decode b_X_takeJournal 49 = .ok (.lstore 5, 2) := by decide +kernel
theorem d_X_takeJournal_51 : decode b_X_takeJournal 51 = .ok (.aload_n 0, 1) := by decide +kernel
theorem d_X_takeJournal_52 : decode b_X_takeJournal 52 = .ok (.getfield 9, 3) := by decide +kernel
theorem d_X_takeJournal_55 : decode b_X_takeJournal 55 = .ok (.iload_n 2, 1) := by decide +kernel
theorem d_X_takeJournal_56 : decode b_X_takeJournal 56 = .ok (.iconst 3, 1) := by decide +kernel
theorem d_X_takeJournal_57 : decode b_X_takeJournal 57 = .ok (.iadd, 1) := by decide +kernel
theorem d_X_takeJournal_58 : decode b_X_takeJournal 58 = .ok (.iaload, 1) := by decide +kernel
theorem d_X_takeJournal_59 : decode b_X_takeJournal 59 = .ok (.iload_n 3, 1) := by decide +kernel
theorem d_X_takeJournal_60 : decode b_X_takeJournal 60 = .ok (.invokestatic 129, 3) := by decide +kernel
theorem d_X_takeJournal_63 : decode b_X_takeJournal 63 = .ok (.if_icmp .ne 18, 3) := by decide +kernel
theorem d_X_takeJournal_66 : decode b_X_takeJournal 66 = .ok (.iload 4, 2) := by decide +kernel
theorem d_X_takeJournal_68 : decode b_X_takeJournal 68 = .ok (.invokestatic 57, 3) := by decide +kernel
theorem d_X_takeJournal_71 : decode b_X_takeJournal 71 = .ok (.ifCond .eq 10, 3) := by decide +kernel
theorem d_X_takeJournal_74 : decode b_X_takeJournal 74 = .ok (.lload 5, 2) := by decide +kernel
theorem d_X_takeJournal_76 : decode b_X_takeJournal 76 = .ok (.lconst 0, 1) := by decide +kernel
theorem d_X_takeJournal_77 : decode b_X_takeJournal 77 = .ok (.lcmp, 1) := by decide +kernel
theorem d_X_takeJournal_78 : decode b_X_takeJournal 78 = .ok (.ifCond .ge 4, 3) := by decide +kernel
theorem d_X_takeJournal_81 : decode b_X_takeJournal 81 = .ok (.return_, 1) := by decide +kernel
theorem d_X_takeJournal_82 : decode b_X_takeJournal 82 = .ok (.aload_n 0, 1) := by decide +kernel
theorem d_X_takeJournal_83 : decode b_X_takeJournal 83 = .ok (.iload_n 3, 1) := by decide +kernel
theorem d_X_takeJournal_84 : decode b_X_takeJournal 84 = .ok (.putfield 117, 3) := by decide +kernel
theorem d_X_takeJournal_87 : decode b_X_takeJournal 87 = .ok (.aload_n 0, 1) := by decide +kernel
theorem d_X_takeJournal_88 : decode b_X_takeJournal 88 = .ok (.iload 4, 2) := by decide +kernel
theorem d_X_takeJournal_90 : decode b_X_takeJournal 90 = .ok (.lload 5, 2) := by decide +kernel
theorem d_X_takeJournal_92 : decode b_X_takeJournal 92 = .ok (.invokevirtual 69, 3) := by decide +kernel
theorem d_X_takeJournal_95 : decode b_X_takeJournal 95 = .ok (.iinc 1 1, 3) := by decide +kernel
theorem d_X_takeJournal_98 : decode b_X_takeJournal 98 = .ok (.goto (-92), 3) := by decide +kernel
theorem d_X_takeJournal_101 : decode b_X_takeJournal 101 = .ok (.return_, 1) := by decide +kernel
theorem d_X_stepHappens_0 : decode b_X_stepHappens 0 = .ok (.aload_n 0, 1) := by decide +kernel
theorem d_X_stepHappens_1 : decode b_X_stepHappens 1 = .ok (.getfield 20, 3) := by decide +kernel
theorem d_X_stepHappens_4 : decode b_X_stepHappens 4 = .ok (.ifCond .ne 14, 3) := by decide +kernel
theorem d_X_stepHappens_7 : decode b_X_stepHappens 7 = .ok (.aload_n 0, 1) := by decide +kernel
theorem d_X_stepHappens_8 : decode b_X_stepHappens 8 = .ok (.iconst (-1), 1) := by decide +kernel
theorem d_X_stepHappens_9 : decode b_X_stepHappens 9 = .ok (.putfield 20, 3) := by decide +kernel
theorem d_X_stepHappens_12 : decode b_X_stepHappens 12 = .ok (.aload_n 0, 1) := by decide +kernel
theorem d_X_stepHappens_13 : decode b_X_stepHappens 13 = .ok (.invokevirtual 50, 3) := by decide +kernel
theorem d_X_stepHappens_16 : decode b_X_stepHappens 16 = .ok (.iconst 0, 1) := by decide +kernel
theorem d_X_stepHappens_17 : decode b_X_stepHappens 17 = .ok (.ireturn, 1) := by decide +kernel
theorem d_X_stepHappens_18 : decode b_X_stepHappens 18 = .ok (.aload_n 0, 1) := by decide +kernel
theorem d_X_stepHappens_19 : decode b_X_stepHappens 19 = .ok (.getfield 20, 3) := by decide +kernel
theorem d_X_stepHappens_22 : decode b_X_stepHappens 22 = .ok (.ifCond .le 13, 3) := by decide +kernel
theorem d_X_stepHappens_25 : decode b_X_stepHappens 25 = .ok (.aload_n 0, 1) := by decide +kernel
theorem d_X_stepHappens_26 : decode b_X_stepHappens 26 = .ok (.dup, 1) := by decide +kernel
theorem d_X_stepHappens_27 : decode b_X_stepHappens 27 = .ok (.getfield 20, 3) := by decide +kernel
theorem d_X_stepHappens_30 : decode b_X_stepHappens 30 = .ok (.iconst 1, 1) := by decide +kernel
theorem d_X_stepHappens_31 : decode b_X_stepHappens 31 = .ok (.isub, 1) := by decide +kernel
theorem d_X_stepHappens_32 : decode b_X_stepHappens 32 = .ok (.putfield 20, 3) := by decide +kernel
theorem d_X_stepHappens_35 : decode b_X_stepHappens 35 = .ok (.aload_n 0, 1) := by decide +kernel
theorem d_X_stepHappens_36 : decode b_X_stepHappens 36 = .ok (.dup, 1) := by decide +kernel
theorem d_X_stepHappens_37 : decode b_X_stepHappens 37 = .ok (.getfield 94, 3) := by decide +kernel
theorem d_X_stepHappens_40 : decode b_X_stepHappens 40 = .ok (.iconst 1, 1) := by decide +kernel
theorem d_X_stepHappens_41 : decode b_X_stepHappens 41 = .ok (.iadd, 1) := by decide +kernel
theorem d_X_stepHappens_42 : decode b_X_stepHappens 42 = .ok (.putfield 94, 3) := by decide +kernel
theorem d_X_stepHappens_45 : decode b_X_stepHappens 45 = .ok (.iconst 1, 1) := by decide +kernel
theorem d_X_stepHappens_46 : decode b_X_stepHappens 46 = .ok (.ireturn, 1) := by decide +kernel
theorem d_X_storeWord_0 : decode b_X_storeWord 0 = .ok (.aload_n 0, 1) := by decide +kernel
theorem d_X_storeWord_1 : decode b_X_storeWord 1 = .ok (.invokevirtual 132, 3) := by decide +kernel
theorem d_X_storeWord_4 : decode b_X_storeWord 4 = .ok (.ifCond .ne 5, 3) := by decide +kernel
theorem d_X_storeWord_7 : decode b_X_storeWord 7 = .ok (.iconst 0, 1) := by decide +kernel
theorem d_X_storeWord_8 : decode b_X_storeWord 8 = .ok (.ireturn, 1) := by decide +kernel
theorem d_X_storeWord_9 : decode b_X_storeWord 9 = .ok (.aload_n 0, 1) := by decide +kernel
theorem d_X_storeWord_10 : decode b_X_storeWord 10 = .ok (.getfield 9, 3) := by decide +kernel
theorem d_X_storeWord_13 : decode b_X_storeWord 13 = .ok (.iload_n 1, 1) := by decide +kernel
theorem d_X_storeWord_14 : decode b_X_storeWord 14 = .ok (.iload_n 2, 1) := by decide +kernel
theorem d_X_storeWord_15 : decode b_X_storeWord 15 = .ok (.iastore, 1) := by decide +kernel
theorem d_X_storeWord_16 : decode b_X_storeWord 16 = .ok (.iconst 1, 1) := by decide +kernel
theorem d_X_storeWord_17 : decode b_X_storeWord 17 = .ok (.ireturn, 1) := by decide +kernel
theorem d_X_storeValue_0 : decode b_X_storeValue 0 = .ok (.aload_n 0, 1) := by decide +kernel
theorem d_X_storeValue_1 : decode b_X_storeValue 1 = .ok (.iload_n 1, 1) := by decide +kernel
theorem d_X_storeValue_2 : decode b_X_storeValue 2 = .ok (.lload_n 2, 1) := by decide +kernel
theorem d_X_storeValue_3 : decode b_X_storeValue 3 = .ok (.invokestatic 136, 3) := by decide +kernel
theorem d_X_storeValue_6 : decode b_X_storeValue 6 = .ok (.iload_n 1, 1) := by decide +kernel
theorem d_X_storeValue_7 : decode b_X_storeValue 7 = .ok (.iload 4, 2) := by decide +kernel
theorem d_X_storeValue_9 : decode b_X_storeValue 9 = .ok (.invokestatic 27, 3) := by decide +kernel
theorem d_X_storeValue_12 : decode b_X_storeValue 12 = .ok (.invokevirtual 140, 3) := by decide +kernel
theorem d_X_storeValue_15 : decode b_X_storeValue 15 = .ok (.ifCond .eq 29, 3) := by decide +kernel
theorem d_X_storeValue_18 : decode b_X_storeValue 18 = .ok (.aload_n 0, 1) := by decide +kernel
theorem d_X_storeValue_19 : decode b_X_storeValue 19 = .ok (.iload_n 1, 1) := by decide +kernel
theorem d_X_storeValue_20 : decode b_X_storeValue 20 = .ok (.iconst 1, 1) := by decide +kernel
theorem d_X_storeValue_21 : decode b_X_storeValue 21 = .ok (.iadd, 1) := by decide +kernel
theorem d_X_storeValue_22 : decode b_X_storeValue 22 = .ok (.lload_n 2, 1) := by decide +kernel
theorem d_X_storeValue_23 : decode b_X_storeValue 23 = .ok (.invokestatic 144, 3) := by decide +kernel
theorem d_X_storeValue_26 : decode b_X_storeValue 26 = .ok (.iload_n 1, 1) := by decide +kernel
theorem d_X_storeValue_27 : decode b_X_storeValue 27 = .ok (.iconst 1, 1) := by decide +kernel
theorem d_X_storeValue_28 : decode b_X_storeValue 28 = .ok (.iadd, 1) := by decide +kernel
theorem d_X_storeValue_29 : decode b_X_storeValue 29 = .ok (.iload 4, 2) := by decide +kernel
theorem d_X_storeValue_31 : decode b_X_storeValue 31 = .ok (.invokestatic 27, 3) := by decide +kernel
theorem d_X_storeValue_34 : decode b_X_storeValue 34 = .ok (.invokevirtual 140, 3) := by decide +kernel
theorem d_X_storeValue_37 : decode b_X_storeValue 37 = .ok (.ifCond .eq 7, 3) := by decide +kernel
theorem d_X_storeValue_40 : decode b_X_storeValue 40 = .ok (.iconst 1, 1) := by decide +kernel
theorem d_X_storeValue_41 : decode b_X_storeValue 41 = .ok (.goto 4, 3) := by decide +kernel
theorem d_X_storeValue_44 : decode b_X_storeValue 44 = .ok (.iconst 0, 1) := by decide +kernel
theorem d_X_storeValue_45 : decode b_X_storeValue 45 = .ok (.ireturn, 1) := by decide +kernel
theorem d_X_changeSeal_0 : decode b_X_changeSeal 0 = .ok (.aload_n 0, 1) := by decide +kernel
theorem d_X_changeSeal_1 : decode b_X_changeSeal 1 = .ok (.invokevirtual 132, 3) := by decide +kernel
theorem d_X_changeSeal_4 : decode b_X_changeSeal 4 = .ok (.ifCond .ne 5, 3) := by decide +kernel
theorem d_X_changeSeal_7 : decode b_X_changeSeal 7 = .ok (.iconst 0, 1) := by decide +kernel
theorem d_X_changeSeal_8 : decode b_X_changeSeal 8 = .ok (.ireturn, 1) := by decide +kernel
theorem d_X_changeSeal_9 : decode b_X_changeSeal 9 = .ok (.aload_n 0, 1) := by decide +kernel
theorem d_X_changeSeal_10 : decode b_X_changeSeal 10 = .ok (.iload_n 1, 1) := by decide +kernel
theorem d_X_changeSeal_11 : decode b_X_changeSeal 11 = .ok (.putfield 81, 3) := by decide +kernel
theorem d_X_changeSeal_14 : decode b_X_changeSeal 14 = .ok (.aload_n 0, 1) := by decide +kernel
theorem d_X_changeSeal_15 : decode b_X_changeSeal 15 = .ok (.iload_n 2, 1) := by decide +kernel
theorem d_X_changeSeal_16 : decode b_X_changeSeal 16 = .ok (.putfield 24, 3) := by decide +kernel
theorem d_X_changeSeal_19 : decode b_X_changeSeal 19 = .ok (.aload_n 0, 1) := by decide +kernel
theorem d_X_changeSeal_20 : decode b_X_changeSeal 20 = .ok (.iload_n 3, 1) := by decide +kernel
theorem d_X_changeSeal_21 : decode b_X_changeSeal 21 = .ok (.putfield 38, 3) := by decide +kernel
theorem d_X_changeSeal_24 : decode b_X_changeSeal 24 = .ok (.aload_n 0, 1) := by decide +kernel
theorem d_X_changeSeal_25 : decode b_X_changeSeal 25 = .ok (.iload 4, 2) := by decide +kernel
theorem d_X_changeSeal_27 : decode b_X_changeSeal 27 = .ok (.putfield 47, 3) := by decide +kernel
theorem d_X_changeSeal_30 : decode b_X_changeSeal 30 = .ok (.iconst 1, 1) := by decide +kernel
theorem d_X_changeSeal_31 : decode b_X_changeSeal 31 = .ok (.ireturn, 1) := by decide +kernel
theorem d_X_storeRecord_0 : decode b_X_storeRecord 0 = .ok (.aload_n 0, 1) := by decide +kernel
theorem d_X_storeRecord_1 : decode b_X_storeRecord 1 = .ok (.getfield 81, 3) := by decide +kernel
theorem d_X_storeRecord_4 : decode b_X_storeRecord 4 = .ok (.aload_n 0, 1) := by decide +kernel
theorem d_X_storeRecord_5 : decode b_X_storeRecord 5 = .ok (.getfield 44, 3) := by decide +kernel
theorem d_X_storeRecord_8 : decode b_X_storeRecord 8 = .ok (.invokestatic 123, 3) := by decide +kernel
theorem d_X_storeRecord_11 : decode b_X_storeRecord 11 = .ok (.istore 4, 2) := by decide +kernel
theorem d_X_storeRecord_13 : decode b_X_storeRecord 13 = .ok (.aload_n 0, 1) := by decide +kernel
theorem d_X_storeRecord_14 : decode b_X_storeRecord 14 = .ok (.iload 4, 2) := by decide +kernel
theorem d_X_storeRecord_16 : decode b_X_storeRecord 16 = .ok (.iload_n 1, 1) := by decide +kernel
theorem d_X_storeRecord_17 : decode b_X_storeRecord 17 = .ok (.iload 4, 2) := by decide +kernel
theorem d_X_storeRecord_19 : decode b_X_storeRecord 19 = .ok (.aload_n 0, 1) := by decide +kernel
theorem d_X_storeRecord_20 : decode b_X_storeRecord 20 = .ok (.getfield 24, 3) := by decide +kernel
theorem d_X_storeRecord_23 : decode b_X_storeRecord 23 = .ok (.invokestatic 27, 3) := by decide +kernel
theorem d_X_storeRecord_26 : decode b_X_storeRecord 26 = .ok (.invokevirtual 140, 3) := by decide +kernel
theorem d_X_storeRecord_29 : decode b_X_storeRecord 29 = .ok (.ifCond .eq 19, 3) := by decide +kernel
theorem d_X_storeRecord_32 : decode b_X_storeRecord 32 = .ok (.aload_n 0, 1) := by decide +kernel
theorem d_X_storeRecord_33 : decode b_X_storeRecord 33 = .ok (.iload 4, 2) := by decide +kernel
theorem d_X_storeRecord_35 : decode b_X_storeRecord 35 = .ok (.iconst 1, 1) := by decide +kernel
theorem d_X_storeRecord_36 : decode b_X_storeRecord 36 = .ok (.iadd, 1) := by decide +kernel
theorem d_X_storeRecord_37 : decode b_X_storeRecord 37 = .ok (.lload_n 2, 1) := by decide +kernel
theorem d_X_storeRecord_38 : decode b_X_storeRecord 38 = .ok (.aload_n 0, 1) := by decide +kernel
theorem d_X_storeRecord_39 : decode b_X_storeRecord 39 = .ok (.getfield 24, 3) := by decide +kernel
theorem d_X_storeRecord_42 : decode b_X_storeRecord 42 = .ok (.invokevirtual 147, 3) := by decide +kernel
theorem d_X_storeRecord_45 : decode b_X_storeRecord 45 = .ok (.ifCond .ne 5, 3) := by decide +kernel
theorem d_X_storeRecord_48 : decode b_X_storeRecord 48 = .ok (.iconst 0, 1) := by decide +kernel
theorem d_X_storeRecord_49 : decode b_X_storeRecord 49 = .ok (.ireturn, 1) := by decide +kernel
theorem d_X_storeRecord_50 : decode b_X_storeRecord 50 = .ok (.aload_n 0, 1) := by decide +kernel
theorem d_X_storeRecord_51 : decode b_X_storeRecord 51 = .ok (.iload 4, 2) := by decide +kernel
theorem d_X_storeRecord_53 : decode b_X_storeRecord 53 = .ok (.invokevirtual 126, 3) := by decide +kernel
theorem d_X_storeRecord_56 : decode b_X_storeRecord 56 = .ok (.istore 5, 2) := by decide +kernel
theorem d_X_storeRecord_58 : decode b_X_storeRecord 58 = .ok (.aload_n 0, 1) := by decide +kernel
theorem d_X_storeRecord_59 : decode b_X_storeRecord 59 = .ok (.iload 4, 2) := by decide +kernel
theorem d_X_storeRecord_61 : decode b_X_storeRecord 61 = .ok (.iconst 3, 1) := by decide +kernel
theorem d_X_storeRecord_62 : decode b_X_storeRecord 62 = .ok (.iadd, 1) := by decide +kernel
theorem d_X_storeRecord_63 : decode b_X_storeRecord 63 = .ok (.iload 5, 2) := by decide +kernel
theorem d_X_storeRecord_65 : decode b_X_storeRecord 65 = .ok (.invokestatic 129, 3) := by decide +kernel
theorem d_X_storeRecord_68 : decode b_X_storeRecord 68 = .ok (.invokevirtual 140, 3) := by decide +kernel
theorem d_X_storeRecord_71 : decode b_X_storeRecord 71 = .ok (.ifCond .ne 5, 3) := by decide +kernel
theorem d_X_storeRecord_74 : decode b_X_storeRecord 74 = .ok (.iconst 0, 1) := by decide +kernel
theorem d_X_storeRecord_75 : decode b_X_storeRecord 75 = .ok (.ireturn, 1) := by decide +kernel
theorem d_X_storeRecord_76 : decode b_X_storeRecord 76 = .ok (.aload_n 0, 1) := by decide +kernel
theorem d_X_storeRecord_77 : decode b_X_storeRecord 77 = .ok (.iload 5, 2) := by decide +kernel
theorem d_X_storeRecord_79 : decode b_X_storeRecord 79 = .ok (.putfield 117, 3) := by decide +kernel
theorem d_X_storeRecord_82 : decode b_X_storeRecord 82 = .ok (.iconst 1, 1) := by decide +kernel
theorem d_X_storeRecord_83 : decode b_X_storeRecord 83 = .ok (.ireturn, 1) := by decide +kernel
theorem d_X_clearMarks_0 : decode b_X_clearMarks 0 = .ok (.iconst 0, 1) := by decide +kernel
theorem d_X_clearMarks_1 : decode b_X_clearMarks 1 = .ok (.istore_n 2, 1) := by decide +kernel
theorem d_X_clearMarks_2 : decode b_X_clearMarks 2 = .ok (.iload_n 2, 1) := by decide +kernel
theorem d_X_clearMarks_3 : decode b_X_clearMarks 3 = .ok (.iconst 5, 1) := by decide +kernel
theorem d_X_clearMarks_4 : decode b_X_clearMarks 4 = .ok (.if_icmp .ge 26, 3) := by decide +kernel
theorem d_X_clearMarks_7 : decode b_X_clearMarks 7 = .ok (.aload_n 0, 1) := by decide +kernel
theorem d_X_clearMarks_8 : decode b_X_clearMarks 8 = .ok (.iload_n 1, 1) := by decide +kernel
theorem d_X_clearMarks_9 : decode b_X_clearMarks 9 = .ok (.iload_n 2, 1) := by decide +kernel
theorem d_X_clearMarks_10 : decode b_X_clearMarks 10 = .ok (.invokestatic 123, 3) := by decide +kernel
theorem d_X_clearMarks_13 : decode b_X_clearMarks 13 = .ok (.iconst 3, 1) := by decide +kernel
theorem d_X_clearMarks_14 : decode b_X_clearMarks 14 = .ok (.iadd, 1) := by decide +kernel
theorem d_X_clearMarks_15 : decode b_X_clearMarks 15 = .ok (.iconst 0, 1) := by decide +kernel
theorem d_X_clearMarks_16 : decode b_X_clearMarks 16 = .ok (.invokevirtual 140, 3) := by decide +kernel
theorem d_X_clearMarks_19 : decode b_X_clearMarks 19 = .ok (.ifCond .ne 5, 3) := by decide +kernel
theorem d_X_clearMarks_22 : decode b_X_clearMarks 22 = .ok (.iconst 0, 1) := by decide +kernel
theorem d_X_clearMarks_23 : decode b_X_clearMarks 23 = .ok (.ireturn, 1) := by decide +kernel
theorem d_X_clearMarks_24 : decode b_X_clearMarks 24 = .ok (.iinc 2 1, 3) := by decide +kernel
theorem d_X_clearMarks_27 : decode b_X_clearMarks 27 = .ok (.goto (-25), 3) := by decide +kernel
theorem d_X_clearMarks_30 : decode b_X_clearMarks 30 = .ok (.iconst 1, 1) := by decide +kernel
theorem d_X_clearMarks_31 : decode b_X_clearMarks 31 = .ok (.ireturn, 1) := by decide +kernel
theorem d_X_storeSectors_0 : decode b_X_storeSectors 0 = .ok (.iconst 0, 1) := by decide +kernel
theorem d_X_storeSectors_1 : decode b_X_storeSectors 1 = .ok (.istore_n 3, 1) := by decide +kernel
theorem d_X_storeSectors_2 : decode b_X_storeSectors 2 = .ok (.iload_n 3, 1) := by decide +kernel
theorem d_X_storeSectors_3 : decode b_X_storeSectors 3 = .ok (.bipush 8, 2) := by decide +kernel
theorem d_X_storeSectors_5 : decode b_X_storeSectors 5 = .ok (.if_icmp .ge 29, 3) := by decide +kernel
theorem d_X_storeSectors_8 : decode b_X_storeSectors 8 = .ok (.aload_n 0, 1) := by decide +kernel
theorem d_X_storeSectors_9 : decode b_X_storeSectors 9 = .ok (.iload_n 1, 1) := by decide +kernel
theorem d_X_storeSectors_10 : decode b_X_storeSectors 10 = .ok (.iload_n 3, 1) := by decide +kernel
theorem d_X_storeSectors_11 : decode b_X_storeSectors 11 = .ok (.invokestatic 103, 3) := by decide +kernel
theorem d_X_storeSectors_14 : decode b_X_storeSectors 14 = .ok (.aload_n 0, 1) := by decide +kernel
theorem d_X_storeSectors_15 : decode b_X_storeSectors 15 = .ok (.iload_n 3, 1) := by decide +kernel
theorem d_X_storeSectors_16 : decode b_X_storeSectors 16 = .ok (.invokevirtual 77, 3) := by decide +kernel
theorem d_X_storeSectors_19 : decode b_X_storeSectors 19 = .ok (.iload_n 2, 1) := by decide +kernel
theorem d_X_storeSectors_20 : decode b_X_storeSectors 20 = .ok (.invokevirtual 147, 3) := by decide +kernel
theorem d_X_storeSectors_23 : decode b_X_storeSectors 23 = .ok (.ifCond .ne 5, 3) := by decide +kernel
theorem d_X_storeSectors_26 : decode b_X_storeSectors 26 = .ok (.iconst 0, 1) := by decide +kernel
theorem d_X_storeSectors_27 : decode b_X_storeSectors 27 = .ok (.ireturn, 1) := by decide +kernel
theorem d_X_storeSectors_28 : decode b_X_storeSectors 28 = .ok (.iinc 3 1, 3) := by decide +kernel
theorem d_X_storeSectors_31 : decode b_X_storeSectors 31 = .ok (.goto (-29), 3) := by decide +kernel
theorem d_X_storeSectors_34 : decode b_X_storeSectors 34 = .ok (.iconst 1, 1) := by decide +kernel
theorem d_X_storeSectors_35 : decode b_X_storeSectors 35 = .ok (.ireturn, 1) := by decide +kernel
theorem d_X_storeNodes_0 : decode b_X_storeNodes 0 = .ok (.bipush 15, 2) := by decide +kernel
theorem d_X_storeNodes_2 : decode b_X_storeNodes 2 = .ok (.istore_n 3, 1) := by decide +kernel
theorem d_X_storeNodes_3 : decode b_X_storeNodes 3 = .ok (.iload_n 3, 1) := by decide +kernel
theorem d_X_storeNodes_4 : decode b_X_storeNodes 4 = .ok (.iconst 1, 1) := by decide +kernel
theorem d_X_storeNodes_5 : decode b_X_storeNodes 5 = .ok (.if_icmp .lt 30, 3) := by decide +kernel
theorem d_X_storeNodes_8 : decode b_X_storeNodes 8 = .ok (.aload_n 0, 1) := by decide +kernel
theorem d_X_storeNodes_9 : decode b_X_storeNodes 9 = .ok (.iload_n 1, 1) := by decide +kernel
theorem d_X_storeNodes_10 : decode b_X_storeNodes 10 = .ok (.iload_n 3, 1) := by decide +kernel
theorem d_X_storeNodes_11 : decode b_X_storeNodes 11 = .ok (.invokestatic 31, 3) := by decide +kernel
theorem d_X_storeNodes_14 : decode b_X_storeNodes 14 = .ok (.aload_n 0, 1) := by decide +kernel
theorem d_X_storeNodes_15 : decode b_X_storeNodes 15 = .ok (.iload_n 1, 1) := by decide +kernel
theorem d_X_storeNodes_16 : decode b_X_storeNodes 16 = .ok (.iload_n 3, 1) := by decide +kernel
theorem d_X_storeNodes_17 : decode b_X_storeNodes 17 = .ok (.iload_n 2, 1) := by decide +kernel
theorem d_X_storeNodes_18 : decode b_X_storeNodes 18 = .ok (.invokevirtual 35, 3) := by decide +kernel
theorem d_X_storeNodes_21 : decode b_X_storeNodes 21 = .ok (.invokevirtual 140, 3) := by decide +kernel
theorem d_X_storeNodes_24 : decode b_X_storeNodes 24 = .ok (.ifCond .ne 5, 3) := by decide +kernel
theorem d_X_storeNodes_27 : decode b_X_storeNodes 27 = .ok (.iconst 0, 1) := by decide +kernel
theorem d_X_storeNodes_28 : decode b_X_storeNodes 28 = .ok (.ireturn, 1) := by decide +kernel
theorem d_X_storeNodes_29 : decode b_X_storeNodes 29 = .ok (.iinc 3 (-1), 3) := by decide +kernel
theorem d_X_storeNodes_32 : decode b_X_storeNodes 32 = .ok (.goto (-29), 3) := by decide +kernel
theorem d_X_storeNodes_35 : decode b_X_storeNodes 35 = .ok (.iconst 1, 1) := by decide +kernel
theorem d_X_storeNodes_36 : decode b_X_storeNodes 36 = .ok (.ireturn, 1) := by decide +kernel
theorem d_X_moveToOtherHalf_0 : decode b_X_moveToOtherHalf 0 = .ok (.aload_n 0, 1) := by decide +kernel
theorem d_X_moveToOtherHalf_1 : decode b_X_moveToOtherHalf 1 = .ok (.invokevirtual 91, 3) := by decide +kernel
theorem d_X_moveToOtherHalf_4 : decode b_X_moveToOtherHalf 4 = .ok (.sipush 255, 3) := by decide +kernel
theorem d_X_moveToOtherHalf_7 : decode b_X_moveToOtherHalf 7 = .ok (.if_icmp .eq 6, 3) := by decide +kernel
theorem d_X_moveToOtherHalf_10 : decode b_X_moveToOtherHalf 10 = .ok (.bipush (-3), 2) := by decide +kernel
theorem d_X_moveToOtherHalf_12 : decode b_X_moveToOtherHalf 12 = .ok (.ireturn, 1) := by decide +kernel
theorem d_X_moveToOtherHalf_13 : decode b_X_moveToOtherHalf 13 = .ok (.iconst 1, 1) := by decide +kernel
theorem d_X_moveToOtherHalf_14 : decode b_X_moveToOtherHalf 14 = .ok (.aload_n 0, 1) := by decide +kernel
theorem d_X_moveToOtherHalf_15 : decode b_X_moveToOtherHalf 15 = .ok (.getfield 81, 3) := by decide +kernel
theorem d_X_moveToOtherHalf_18 : decode b_X_moveToOtherHalf 18 = .ok (.isub, 1) := by decide +kernel
theorem d_X_moveToOtherHalf_19 : decode b_X_moveToOtherHalf 19 = .ok (.istore_n 1, 1) := by decide +kernel
theorem d_X_moveToOtherHalf_20 : decode b_X_moveToOtherHalf 20 = .ok (.aload_n 0, 1) := by decide +kernel
theorem d_X_moveToOtherHalf_21 : decode b_X_moveToOtherHalf 21 = .ok (.getfield 24, 3) := by decide +kernel
theorem d_X_moveToOtherHalf_24 : decode b_X_moveToOtherHalf 24 = .ok (.iconst 1, 1) := by decide +kernel
theorem d_X_moveToOtherHalf_25 : decode b_X_moveToOtherHalf 25 = .ok (.iadd, 1) := by decide +kernel
theorem d_X_moveToOtherHalf_26 : decode b_X_moveToOtherHalf 26 = .ok (.istore_n 2, 1) := by decide +kernel
theorem d_X_moveToOtherHalf_27 : decode b_X_moveToOtherHalf 27 = .ok (.aload_n 0, 1) := by decide +kernel
theorem d_X_moveToOtherHalf_28 : decode b_X_moveToOtherHalf 28 = .ok (.iload_n 1, 1) := by decide +kernel
theorem d_X_moveToOtherHalf_29 : decode b_X_moveToOtherHalf 29 = .ok (.invokevirtual 151, 3) := by decide +kernel
theorem d_X_moveToOtherHalf_32 : decode b_X_moveToOtherHalf 32 = .ok (.ifCond .eq 41, 3) := by decide +kernel
theorem d_X_moveToOtherHalf_35 : decode b_X_moveToOtherHalf 35 = .ok (.aload_n 0, 1) := by decide +kernel
theorem d_X_moveToOtherHalf_36 : decode b_X_moveToOtherHalf 36 = .ok (.iload_n 1, 1) := by decide +kernel
theorem d_X_moveToOtherHalf_37 : decode b_X_moveToOtherHalf 37 = .ok (.iload_n 2, 1) := by decide +kernel
theorem d_X_moveToOtherHalf_38 : decode b_X_moveToOtherHalf 38 = .ok (.invokevirtual 154, 3) := by decide +kernel
theorem d_X_moveToOtherHalf_41 : decode b_X_moveToOtherHalf 41 = .ok (.ifCond .eq 32, 3) := by decide +kernel
theorem d_X_moveToOtherHalf_44 : decode b_X_moveToOtherHalf 44 = .ok (.aload_n 0, 1) := by decide +kernel
theorem d_X_moveToOtherHalf_45 : decode b_X_moveToOtherHalf 45 = .ok (.iload_n 1, 1) := by decide +kernel
theorem d_X_moveToOtherHalf_46 : decode b_X_moveToOtherHalf 46 = .ok (.iload_n 2, 1) := by decide +kernel
theorem d_X_moveToOtherHalf_47 : decode b_X_moveToOtherHalf 47 = .ok (.invokevirtual 157, 3) := by decide +kernel
theorem d_X_moveToOtherHalf_50 : decode b_X_moveToOtherHalf 50 = .ok (.ifCond .eq 23, 3) := by decide +kernel
theorem d_X_moveToOtherHalf_53 : decode b_X_moveToOtherHalf 53 = .ok (.aload_n 0, 1) := by decide +kernel
theorem d_X_moveToOtherHalf_54 : decode b_X_moveToOtherHalf 54 = .ok (.iload_n 1, 1) := by decide +kernel
theorem d_X_moveToOtherHalf_55 : decode b_X_moveToOtherHalf 55 = .ok (.iload_n 2, 1) := by decide +kernel
theorem d_X_moveToOtherHalf_56 : decode b_X_moveToOtherHalf 56 = .ok (.aload_n 0, 1) := by decide +kernel
theorem d_X_moveToOtherHalf_57 : decode b_X_moveToOtherHalf 57 = .ok (.getfield 9, 3) := by decide +kernel
theorem d_X_moveToOtherHalf_60 : decode b_X_moveToOtherHalf 60 = .ok (.iload_n 1, 1) := by decide +kernel
theorem d_X_moveToOtherHalf_61 : decode b_X_moveToOtherHalf 61 = .ok (.iconst 1, 1) := by decide +kernel
theorem d_X_moveToOtherHalf_62 : decode b_X_moveToOtherHalf 62 = .ok (.invokestatic 31, 3) := by decide +kernel
theorem d_X_moveToOtherHalf_65 : decode b_X_moveToOtherHalf 65 = .ok (.iaload, 1) := by decide +kernel
theorem d_X_moveToOtherHalf_66 : decode b_X_moveToOtherHalf 66 = .ok (.iconst 0, 1) := by decide +kernel
theorem d_X_moveToOtherHalf_67 : decode b_X_moveToOtherHalf 67 = .ok (.invokevirtual 84, 3) := by decide +kernel
theorem d_X_moveToOtherHalf_70 : decode b_X_moveToOtherHalf 70 = .ok (.ifCond .ne 6, 3) := by decide +kernel
theorem d_X_moveToOtherHalf_73 : decode b_X_moveToOtherHalf 73 = .ok (.bipush (-4), 2) := by decide +kernel
theorem d_X_moveToOtherHalf_75 : decode b_X_moveToOtherHalf 75 = .ok (.ireturn, 1) := by decide +kernel
theorem d_X_moveToOtherHalf_76 : decode b_X_moveToOtherHalf 76 = .ok (.aload_n 0, 1) := by decide +kernel
theorem d_X_moveToOtherHalf_77 : decode b_X_moveToOtherHalf 77 = .ok (.invokevirtual 120, 3) := by decide +kernel
theorem d_X_moveToOtherHalf_80 : decode b_X_moveToOtherHalf 80 = .ok (.iload_n 2, 1) := by decide +kernel
theorem d_X_moveToOtherHalf_81 : decode b_X_moveToOtherHalf 81 = .ok (.ireturn, 1) := by decide +kernel
end
section
theorem d_M_init_0 : decode b_M_init 0 = .ok (.aload_n 0, 1) := by decide +kernel
theorem d_M_init_1 : decode b_M_init 1 = .ok (.invokespecial 1, 3) := by decide +kernel
theorem d_M_init_4 : decode b_M_init 4 = .ok (.aload_n 0, 1) := by decide +kernel
theorem d_M_init_5 : decode b_M_init 5 = .ok (.bipush 102, 2) := by decide +kernel
theorem d_M_init_7 : decode b_M_init 7 = .ok (.newarray .int, 2) := by decide +kernel
theorem d_M_init_9 : decode b_M_init 9 = .ok (.putfield 7, 3) := by decide +kernel
theorem d_M_init_12 : decode b_M_init 12 = .ok (.aload_n 0, 1) := by decide +kernel
theorem d_M_init_13 : decode b_M_init 13 = .ok (.iconst 1, 1) := by decide +kernel
theorem d_M_init_14 : decode b_M_init 14 = .ok (.putfield 13, 3) := by decide +kernel
theorem d_M_init_17 : decode b_M_init 17 = .ok (.aload_n 0, 1) := by decide +kernel
theorem d_M_init_18 : decode b_M_init 18 = .ok (.iconst (-1), 1) := by decide +kernel
theorem d_M_init_19 : decode b_M_init 19 = .ok (.putfield 17, 3) := by decide +kernel
theorem d_M_init_22 : decode b_M_init 22 = .ok (.aload_n 0, 1) := by decide +kernel
theorem d_M_init_23 : decode b_M_init 23 = .ok (.iconst 5, 1) := by decide +kernel
theorem d_M_init_24 : decode b_M_init 24 = .ok (.newarray .int, 2) := by decide +kernel
theorem d_M_init_26 : decode b_M_init 26 = .ok (.putfield 20, 3) := by decide +kernel
theorem d_M_init_29 : decode b_M_init 29 = .ok (.aload_n 0, 1) := by decide +kernel
theorem d_M_init_30 : decode b_M_init 30 = .ok (.iconst 5, 1) := by decide +kernel
theorem d_M_init_31 : decode b_M_init 31 = .ok (.newarray .long, 2) := by decide +kernel
theorem d_M_init_33 : decode b_M_init 33 = .ok (.putfield 23, 3) := by decide +kernel
theorem d_M_init_36 : decode b_M_init 36 = .ok (.aload_n 0, 1) := by decide +kernel
theorem d_M_init_37 : decode b_M_init 37 = .ok (.bipush 8, 2) := by decide +kernel
theorem d_M_init_39 : decode b_M_init 39 = .ok (.newarray .long, 2) := by decide +kernel
theorem d_M_init_41 : decode b_M_init 41 = .ok (.putfield 27, 3) := by decide +kernel
theorem d_M_init_44 : decode b_M_init 44 = .ok (.aload_n 0, 1) := by decide +kernel
theorem d_M_init_45 : decode b_M_init 45 = .ok (.bipush 16, 2) := by decide +kernel
theorem d_M_init_47 : decode b_M_init 47 = .ok (.newarray .int, 2) := by decide +kernel
theorem d_M_init_49 : decode b_M_init 49 = .ok (.putfield 30, 3) := by decide +kernel
theorem d_M_init_52 : decode b_M_init 52 = .ok (.iconst 0, 1) := by decide +kernel
theorem d_M_init_53 : decode b_M_init 53 = .ok (.istore_n 1, 1) := by decide +kernel
theorem d_M_init_54 : decode b_M_init 54 = .ok (.iload_n 1, 1) := by decide +kernel
theorem d_M_init_55 : decode b_M_init 55 = .ok (.bipush 8, 2) := by decide +kernel
theorem d_M_init_57 : decode b_M_init 57 = .ok (.if_icmp .ge 16, 3) := by decide +kernel
theorem d_M_init_60 : decode b_M_init 60 = .ok (.aload_n 0, 1) := by decide +kernel
theorem d_M_init_61 : decode b_M_init 61 = .ok (.getfield 27, 3) := by decide +kernel
theorem d_M_init_64 : decode b_M_init 64 = .ok (.iload_n 1, 1) := by decide +kernel
theorem d_M_init_65 : decode b_M_init 65 = .ok (.lconst 0, 1) := by decide +kernel
theorem d_M_init_66 : decode b_M_init 66 = .ok (.lastore, 1) := by decide +kernel
theorem d_M_init_67 : decode b_M_init 67 = .ok (.iinc 1 1, 3) := by decide +kernel
theorem d_M_init_70 : decode b_M_init 70 = .ok (.goto (-16), 3) := by decide +kernel
theorem d_M_init_73 : decode b_M_init 73 = .ok (.iconst 0, 1) := by decide +kernel
theorem d_M_init_74 : decode b_M_init 74 = .ok (.istore_n 1, 1) := by decide +kernel
theorem d_M_init_75 : decode b_M_init 75 = .ok (.iload_n 1, 1) := by decide +kernel
theorem d_M_init_76 : decode b_M_init 76 = .ok (.bipush 16, 2) := by decide +kernel
theorem d_M_init_78 : decode b_M_init 78 = .ok (.if_icmp .ge 20, 3) := by decide +kernel
theorem d_M_init_81 : decode b_M_init 81 = .ok (.aload_n 0, 1) := by decide +kernel
theorem d_M_init_82 : decode b_M_init 82 = .ok (.getfield 7, 3) := by decide +kernel
theorem d_M_init_85 : decode b_M_init 85 = .ok (.iload_n 1, 1) := by decide +kernel
theorem d_M_init_86 : decode b_M_init 86 = .ok (.iconst 1, 1) := by decide +kernel
theorem d_M_init_87 : decode b_M_init 87 = .ok (.iload_n 1, 1) := by decide +kernel
theorem d_M_init_88 : decode b_M_init 88 = .ok (.invokestatic 33, 3) := by decide +kernel
theorem d_M_init_91 : decode b_M_init 91 = .ok (.iastore, 1) := by decide +kernel
theorem d_M_init_92 : decode b_M_init 92 = .ok (.iinc 1 1, 3) := by decide +kernel
theorem d_M_init_95 : decode b_M_init 95 = .ok (.goto (-20), 3) := by decide +kernel
theorem d_M_init_98 : decode b_M_init 98 = .ok (.aload_n 0, 1) := by decide +kernel
theorem d_M_init_99 : decode b_M_init 99 = .ok (.iconst 0, 1) := by decide +kernel
theorem d_M_init_100 : decode b_M_init 100 = .ok (.iconst 1, 1) := by decide +kernel
theorem d_M_init_101 : decode b_M_init 101 = .ok (.invokevirtual 37, 3) := by decide +kernel
theorem d_M_init_104 : decode b_M_init 104 = .ok (.iconst 1, 1) := by decide +kernel
theorem d_M_init_105 : decode b_M_init 105 = .ok (.istore_n 1, 1) := by decide +kernel
theorem d_M_init_106 : decode b_M_init 106 = .ok (.iload_n 1, 1) := by decide +kernel
theorem d_M_init_107 : decode b_M_init 107 = .ok (.bipush 16, 2) := by decide +kernel
theorem d_M_init_109 : decode b_M_init 109 = .ok (.if_icmp .ge 24, 3) := by decide +kernel
theorem d_M_init_112 : decode b_M_init 112 = .ok (.aload_n 0, 1) := by decide +kernel
theorem d_M_init_113 : decode b_M_init 113 = .ok (.getfield 7, 3) := by decide +kernel
theorem d_M_init_116 : decode b_M_init 116 = .ok (.bipush 15, 2) := by decide +kernel
theorem d_M_init_118 : decode b_M_init 118 = .ok (.iload_n 1, 1) := by decide +kernel
theorem d_M_init_119 : decode b_M_init 119 = .ok (.iadd, 1) := by decide +kernel
theorem d_M_init_120 : decode b_M_init 120 = .ok (.aload_n 0, 1) := by decide +kernel
theorem d_M_init_121 : decode b_M_init 121 = .ok (.getfield 30, 3) := by decide +kernel
theorem d_M_init_124 : decode b_M_init 124 = .ok (.iload_n 1, 1) := by decide +kernel
theorem d_M_init_125 : decode b_M_init 125 = .ok (.iaload, 1) := by decide +kernel
theorem d_M_init_126 : decode b_M_init 126 = .ok (.iastore, 1) := by decide +kernel
theorem d_M_init_127 : decode b_M_init 127 = .ok (.iinc 1 1, 3) := by decide +kernel
theorem d_M_init_130 : decode b_M_init 130 = .ok (.goto (-24), 3) := by decide +kernel
theorem d_M_init_133 : decode b_M_init 133 = .ok (.aload_n 0, 1) := by decide +kernel
theorem d_M_init_134 : decode b_M_init 134 = .ok (.aload_n 0, 1) := by decide +kernel
theorem d_M_init_135 : decode b_M_init 135 = .ok (.getfield 30, 3) := by decide +kernel
theorem d_M_init_138 : decode b_M_init 138 = .ok (.iconst 1, 1) := by decide +kernel
theorem d_M_init_139 : decode b_M_init 139 = .ok (.iaload, 1) := by decide +kernel
theorem d_M_init_140 : decode b_M_init 140 = .ok (.putfield 41, 3) := by decide +kernel
theorem d_M_init_143 : decode b_M_init 143 = .ok (.return_, 1) := by decide +kernel
theorem d_M_digest_0 : decode b_M_digest 0 = .ok (.iload_n 1, 1) := by decide +kernel
theorem d_M_digest_1 : decode b_M_digest 1 = .ok (.bipush 9, 2) := by decide +kernel
theorem d_M_digest_3 : decode b_M_digest 3 = .ok (.ishl, 1) := by decide +kernel
theorem d_M_digest_4 : decode b_M_digest 4 = .ok (.iload_n 1, 1) := by decide +kernel
theorem d_M_digest_5 : decode b_M_digest 5 = .ok (.bipush 23, 2) := by decide +kernel
theorem d_M_digest_7 : decode b_M_digest 7 = .ok (.iushr, 1) := by decide +kernel
theorem d_M_digest_8 : decode b_M_digest 8 = .ok (.ior, 1) := by decide +kernel
theorem d_M_digest_9 : decode b_M_digest 9 = .ok (.istore_n 2, 1) := by decide +kernel
theorem d_M_digest_10 : decode b_M_digest 10 = .ok (.iload_n 0, 1) := by decide +kernel
theorem d_M_digest_11 : decode b_M_digest 11 = .ok (.ldc 44, 2) := by decide +kernel
theorem d_M_digest_13 : decode b_M_digest 13 = .ok (.iadd, 1) := by decide +kernel
theorem d_M_digest_14 : decode b_M_digest 14 = .ok (.iload_n 2, 1) := by decide +kernel
theorem d_M_digest_15 : decode b_M_digest 15 = .ok (.ixor, 1) := by decide +kernel
theorem d_M_digest_16 : decode b_M_digest 16 = .ok (.ldc 45, 2) := by decide +kernel
theorem d_M_digest_18 : decode b_M_digest 18 = .ok (.imul, 1) := by decide +kernel
theorem d_M_digest_19 : decode b_M_digest 19 = .ok (.istore_n 3, 1) := by decide +kernel
theorem d_M_digest_20 : decode b_M_digest 20 = .ok (.iload_n 3, 1) := by decide +kernel
theorem d_M_digest_21 : decode b_M_digest 21 = .ok (.iload_n 3, 1) := by decide +kernel
theorem d_M_digest_22 : decode b_M_digest 22 = .ok (.bipush 15, 2) := by decide +kernel
theorem d_M_digest_24 : decode b_M_digest 24 = .ok (.iushr, 1) := by decide +kernel
theorem d_M_digest_25 : decode b_M_digest 25 = .ok (.ixor, 1) := by decide +kernel
theorem d_M_digest_26 : decode b_M_digest 26 = .ok (.ireturn, 1) := by decide +kernel
theorem d_M_key_0 : decode b_M_key 0 = .ok (.ldc 46, 2) := by decide +kernel
theorem d_M_key_2 : decode b_M_key 2 = .ok (.iload_n 0, 1) := by decide +kernel
theorem d_M_key_3 : decode b_M_key 3 = .ok (.invokestatic 47, 3) := by decide +kernel
theorem d_M_key_6 : decode b_M_key 6 = .ok (.iload_n 1, 1) := by decide +kernel
theorem d_M_key_7 : decode b_M_key 7 = .ok (.invokestatic 47, 3) := by decide +kernel
theorem d_M_key_10 : decode b_M_key 10 = .ok (.ireturn, 1) := by decide +kernel
theorem d_M_clear_0 : decode b_M_clear 0 = .ok (.aload_n 0, 1) := by decide +kernel
theorem d_M_clear_1 : decode b_M_clear 1 = .ok (.getfield 7, 3) := by decide +kernel
theorem d_M_clear_4 : decode b_M_clear 4 = .ok (.iload_n 1, 1) := by decide +kernel
theorem d_M_clear_5 : decode b_M_clear 5 = .ok (.iaload, 1) := by decide +kernel
theorem d_M_clear_6 : decode b_M_clear 6 = .ok (.iload_n 2, 1) := by decide +kernel
theorem d_M_clear_7 : decode b_M_clear 7 = .ok (.iload_n 1, 1) := by decide +kernel
theorem d_M_clear_8 : decode b_M_clear 8 = .ok (.invokestatic 33, 3) := by decide +kernel
theorem d_M_clear_11 : decode b_M_clear 11 = .ok (.ixor, 1) := by decide +kernel
theorem d_M_clear_12 : decode b_M_clear 12 = .ok (.ireturn, 1) := by decide +kernel
theorem d_M_joined_0 : decode b_M_joined 0 = .ok (.iload_n 0, 1) := by decide +kernel
theorem d_M_joined_1 : decode b_M_joined 1 = .ok (.i2l, 1) := by decide +kernel
theorem d_M_joined_2 : decode b_M_joined 2 = .ok (.bipush 32, 2) := by decide +kernel
theorem d_M_joined_4 : decode b_M_joined 4 = .ok (.lshl, 1) := by decide +kernel
theorem d_M_joined_5 : decode b_M_joined 5 = .ok (.iload_n 1, 1) := by decide +kernel
theorem d_M_joined_6 : decode b_M_joined 6 = .ok (.i2l, 1) := by decide +kernel
theorem d_M_joined_7 : decode b_M_joined 7 = .ok (.ldc2_w 50, 3) := by decide +kernel
theorem d_M_joined_10 : decode b_M_joined 10 = .ok (.land, 1) := by decide +kernel
theorem d_M_joined_11 : decode b_M_joined 11 = .ok (.lor, 1) := by decide +kernel
theorem d_M_joined_12 : decode b_M_joined 12 = .ok (.lreturn, 1) := by decide +kernel
theorem d_M_leaf_0 : decode b_M_leaf 0 = .ok (.bipush 8, 2) := by decide +kernel
theorem d_M_leaf_2 : decode b_M_leaf 2 = .ok (.iload_n 2, 1) := by decide +kernel
theorem d_M_leaf_3 : decode b_M_leaf 3 = .ok (.imul, 1) := by decide +kernel
theorem d_M_leaf_4 : decode b_M_leaf 4 = .ok (.iload_n 1, 1) := by decide +kernel
theorem d_M_leaf_5 : decode b_M_leaf 5 = .ok (.iadd, 1) := by decide +kernel
theorem d_M_leaf_6 : decode b_M_leaf 6 = .ok (.iload_n 3, 1) := by decide +kernel
theorem d_M_leaf_7 : decode b_M_leaf 7 = .ok (.invokestatic 47, 3) := by decide +kernel
theorem d_M_leaf_10 : decode b_M_leaf 10 = .ok (.istore 5, 2) := by decide +kernel
theorem d_M_leaf_12 : decode b_M_leaf 12 = .ok (.iload 5, 2) := by decide +kernel
theorem d_M_leaf_14 : decode b_M_leaf 14 = .ok (.iload 4, 2) := by decide +kernel
theorem d_M_leaf_16 : decode b_M_leaf 16 = .ok (.invokestatic 47, 3) := by decide +kernel
theorem d_M_leaf_19 : decode b_M_leaf 19 = .ok (.ireturn, 1) := by decide +kernel
theorem d_M_nodes_0 : decode b_M_nodes 0 = .ok (.iconst 0, 1) := by decide +kernel
theorem d_M_nodes_1 : decode b_M_nodes 1 = .ok (.istore_n 3, 1) := by decide +kernel
theorem d_M_nodes_2 : decode b_M_nodes 2 = .ok (.iload_n 3, 1) := by decide +kernel
theorem d_M_nodes_3 : decode b_M_nodes 3 = .ok (.bipush 8, 2) := by decide +kernel
theorem d_M_nodes_5 : decode b_M_nodes 5 = .ok (.if_icmp .ge 52, 3) := by decide +kernel
theorem d_M_nodes_8 : decode b_M_nodes 8 = .ok (.aload_n 0, 1) := by decide +kernel
theorem d_M_nodes_9 : decode b_M_nodes 9 = .ok (.getfield 30, 3) := by decide +kernel
theorem d_M_nodes_12 : decode b_M_nodes 12 = .ok (.bipush 8, 2) := by decide +kernel
theorem d_M_nodes_14 : decode b_M_nodes 14 = .ok (.iload_n 3, 1) := by decide +kernel
theorem d_M_nodes_15 : decode b_M_nodes 15 = .ok (.iadd, 1) := by decide +kernel
theorem d_M_nodes_16 : decode b_M_nodes 16 = .ok (.aload_n 0, 1) := by decide +kernel
theorem d_M_nodes_17 : decode b_M_nodes 17 = .ok (.iload_n 3, 1) := by decide +kernel
theorem d_M_nodes_18 : decode b_M_nodes 18 = .ok (.iload_n 2, 1) := by decide +kernel
theorem d_M_nodes_19 : decode b_M_nodes 19 = .ok (.aload_n 0, 1) := by decide +kernel
theorem d_M_nodes_20 : decode b_M_nodes 20 = .ok (.getfield 7, 3) := by decide +kernel
theorem d_M_nodes_23 : decode b_M_nodes 23 = .ok (.bipush 51, 2) := by decide +kernel
theorem d_M_nodes_25 : decode b_M_nodes 25 = .ok (.iload_n 1, 1) := by decide +kernel
theorem d_M_nodes_26 : decode b_M_nodes 26 = .ok (.imul, 1) := by decide +kernel
theorem d_M_nodes_27 : decode b_M_nodes 27 = .ok (.iconst 2, 1) := by decide +kernel
theorem d_M_nodes_28 : decode b_M_nodes 28 = .ok (.iload_n 3, 1) := by decide +kernel
theorem d_M_nodes_29 : decode b_M_nodes 29 = .ok (.imul, 1) := by decide +kernel
theorem d_M_nodes_30 : decode b_M_nodes 30 = .ok (.iadd, 1) := by decide +kernel
theorem d_M_nodes_31 : decode b_M_nodes 31 = .ok (.iaload, 1) := by decide +kernel
theorem d_M_nodes_32 : decode b_M_nodes 32 = .ok (.aload_n 0, 1) := by decide +kernel
theorem d_M_nodes_33 : decode b_M_nodes 33 = .ok (.getfield 7, 3) := by decide +kernel
theorem d_M_nodes_36 : decode b_M_nodes 36 = .ok (.bipush 51, 2) := by decide +kernel
theorem d_M_nodes_38 : decode b_M_nodes 38 = .ok (.iload_n 1, 1) := by decide +kernel
theorem d_M_nodes_39 : decode b_M_nodes 39 = .ok (.imul, 1) := by decide +kernel
theorem d_M_nodes_40 : decode b_M_nodes 40 = .ok (.iconst 2, 1) := by decide +kernel
theorem d_M_nodes_41 : decode b_M_nodes 41 = .ok (.iload_n 3, 1) := by decide +kernel
theorem d_M_nodes_42 : decode b_M_nodes 42 = .ok (.imul, 1) := by decide +kernel
theorem d_M_nodes_43 : decode b_M_nodes 43 = .ok (.iadd, 1) := by decide +kernel
theorem d_M_nodes_44 : decode b_M_nodes 44 = .ok (.iconst 1, 1) := by decide +kernel
theorem d_M_nodes_45 : decode b_M_nodes 45 = .ok (.iadd, 1) := by decide +kernel
theorem d_M_nodes_46 : decode b_M_nodes 46 = .ok (.iaload, 1) := by decide +kernel
theorem d_M_nodes_47 : decode b_M_nodes 47 = .ok (.invokevirtual 52, 3) := by decide +kernel
theorem d_M_nodes_50 : decode b_M_nodes 50 = .ok (.iastore, 1) := by decide +kernel
theorem d_M_nodes_51 : decode b_M_nodes 51 = .ok (.iinc 3 1, 3) := by decide +kernel
theorem d_M_nodes_54 : decode b_M_nodes 54 = .ok (.goto (-52), 3) := by decide +kernel
theorem d_M_nodes_57 : decode b_M_nodes 57 = .ok (.bipush 7, 2) := by decide +kernel
theorem d_M_nodes_59 : decode b_M_nodes 59 = .ok (.istore_n 3, 1) := by decide +kernel
theorem d_M_nodes_60 : decode b_M_nodes 60 = .ok (.iload_n 3, 1) := by decide +kernel
theorem d_M_nodes_61 : decode b_M_nodes 61 = .ok (.ifCond .le 36, 3) := by decide +kernel
theorem d_M_nodes_64 : decode b_M_nodes 64 = .ok (.aload_n 0, 1) := by decide +kernel
theorem d_M_nodes_65 : decode b_M_nodes 65 = .ok (.getfield 30, 3) := by decide +kernel
theorem d_M_nodes_68 : decode b_M_nodes 68 = .ok (.iload_n 3, 1) := by decide +kernel
theorem d_M_nodes_69 : decode b_M_nodes 69 = .ok (.aload_n 0, 1) := by decide +kernel
theorem d_M_nodes_70 : decode b_M_nodes 70 = .ok (.getfield 30, 3) := by decide +kernel
theorem d_M_nodes_73 : decode b_M_nodes 73 = .ok (.iconst 2, 1) := by decide +kernel
theorem d_M_nodes_74 : decode b_M_nodes 74 = .ok (.iload_n 3, 1) := by decide +kernel
theorem d_M_nodes_75 : decode b_M_nodes 75 = .ok (.imul, 1) := by decide +kernel
theorem d_M_nodes_76 : decode b_M_nodes 76 = .ok (.iaload, 1) := by decide +kernel
theorem d_M_nodes_77 : decode b_M_nodes 77 = .ok (.aload_n 0, 1) := by decide +kernel
theorem d_M_nodes_78 : decode b_M_nodes 78 = .ok (.getfield 30, 3) := by decide +kernel
theorem d_M_nodes_81 : decode b_M_nodes 81 = .ok (.iconst 2, 1) := by decide +kernel
theorem d_M_nodes_82 : decode b_M_nodes 82 = .ok (.iload_n 3, 1) := by decide +kernel
theorem d_M_nodes_83 : decode b_M_nodes 83 = .ok (.imul, 1) := by decide +kernel
theorem d_M_nodes_84 : decode b_M_nodes 84 = .ok (.iconst 1, 1) := by decide +kernel
theorem d_M_nodes_85 : decode b_M_nodes 85 = .ok (.iadd, 1) := by decide +kernel
theorem d_M_nodes_86 : decode b_M_nodes 86 = .ok (.iaload, 1) := by decide +kernel
theorem d_M_nodes_87 : decode b_M_nodes 87 = .ok (.invokestatic 47, 3) := by decide +kernel
theorem d_M_nodes_90 : decode b_M_nodes 90 = .ok (.iastore, 1) := by decide +kernel
theorem d_M_nodes_91 : decode b_M_nodes 91 = .ok (.iinc 3 (-1), 3) := by decide +kernel
theorem d_M_nodes_94 : decode b_M_nodes 94 = .ok (.goto (-34), 3) := by decide +kernel
theorem d_M_nodes_97 : decode b_M_nodes 97 = .ok (.return_, 1) := by decide +kernel
theorem d_M_step_0 : decode b_M_step 0 = .ok (.aload_n 0, 1) := by decide +kernel
theorem d_M_step_1 : decode b_M_step 1 = .ok (.getfield 56, 3) := by decide +kernel
theorem d_M_step_4 : decode b_M_step 4 = .ok (.ifCond .eq 5, 3) := by decide +kernel
theorem d_M_step_7 : decode b_M_step 7 = .ok (.iconst 0, 1) := by decide +kernel
theorem d_M_step_8 : decode b_M_step 8 = .ok (.ireturn, 1) := by decide +kernel
theorem d_M_step_9 : decode b_M_step 9 = .ok (.aload_n 0, 1) := by decide +kernel
theorem d_M_step_10 : decode b_M_step 10 = .ok (.getfield 17, 3) := by decide +kernel
theorem d_M_step_13 : decode b_M_step 13 = .ok (.ifCond .ne 25, 3) := by decide +kernel
theorem d_M_step_16 : decode b_M_step 16 = .ok (.aload_n 0, 1) := by decide +kernel
theorem d_M_step_17 : decode b_M_step 17 = .ok (.iconst (-1), 1) := by decide +kernel
theorem d_M_step_18 : decode b_M_step 18 = .ok (.putfield 17, 3) := by decide +kernel
theorem d_M_step_21 : decode b_M_step 21 = .ok (.aload_n 0, 1) := by decide +kernel
theorem d_M_step_22 : decode b_M_step 22 = .ok (.iconst 0, 1) := by decide +kernel
theorem d_M_step_23 : decode b_M_step 23 = .ok (.putfield 60, 3) := by decide +kernel
theorem d_M_step_26 : decode b_M_step 26 = .ok (.aload_n 0, 1) := by decide +kernel
theorem d_M_step_27 : decode b_M_step 27 = .ok (.iconst 0, 1) := by decide +kernel
theorem d_M_step_28 : decode b_M_step 28 = .ok (.putfield 63, 3) := by decide +kernel
theorem d_M_step_31 : decode b_M_step 31 = .ok (.aload_n 0, 1) := by decide +kernel
theorem d_M_step_32 : decode b_M_step 32 = .ok (.iconst 1, 1) := by decide +kernel
theorem d_M_step_33 : decode b_M_step 33 = .ok (.putfield 56, 3) := by decide +kernel
theorem d_M_step_36 : decode b_M_step 36 = .ok (.iconst 0, 1) := by decide +kernel
theorem d_M_step_37 : decode b_M_step 37 = .ok (.ireturn, 1) := by decide +kernel
theorem d_M_step_38 : decode b_M_step 38 = .ok (.aload_n 0, 1) := by decide +kernel
theorem d_M_step_39 : decode b_M_step 39 = .ok (.aload_n 0, 1) := by decide +kernel
theorem d_M_step_40 : decode b_M_step 40 = .ok (.getfield 17, 3) := by decide +kernel
theorem d_M_step_43 : decode b_M_step 43 = .ok (.ifCond .le 12, 3) := by decide +kernel
theorem d_M_step_46 : decode b_M_step 46 = .ok (.aload_n 0, 1) := by decide +kernel
theorem d_M_step_47 : decode b_M_step 47 = .ok (.getfield 17, 3) := by decide +kernel
theorem d_M_step_50 : decode b_M_step 50 = .ok (.iconst 1, 1) := by decide +kernel
theorem d_M_step_51 : decode b_M_step 51 = .ok (.isub, 1) := by decide +kernel
theorem d_M_step_52 : decode b_M_step 52 = .ok (.goto 7, 3) := by decide +kernel
theorem d_M_step_55 : decode b_M_step 55 = .ok (.aload_n 0, 1) := by decide +kernel
theorem d_M_step_56 : decode b_M_step 56 = .ok (.getfield 17, 3) := by decide +kernel
theorem d_M_step_59 : decode b_M_step 59 = .ok (.putfield 17, 3) := by decide +kernel
theorem d_M_step_62 : decode b_M_step 62 = .ok (.aload_n 0, 1) := by decide +kernel
theorem d_M_step_63 : decode b_M_step 63 = .ok (.dup, 1) := by decide +kernel
theorem d_M_step_64 : decode b_M_step 64 = .ok (.getfield 66, 3) := by decide +kernel
theorem d_M_step_67 : decode b_M_step 67 = .ok (.iconst 1, 1) := by decide +kernel
theorem d_M_step_68 : decode b_M_step 68 = .ok (.iadd, 1) := by decide +kernel
theorem d_M_step_69 : decode b_M_step 69 = .ok (.putfield 66, 3) := by decide +kernel
theorem d_M_step_72 : decode b_M_step 72 = .ok (.iconst 1, 1) := by decide +kernel
theorem d_M_step_73 : decode b_M_step 73 = .ok (.ireturn, 1) := by decide +kernel
theorem d_M_put_0 : decode b_M_put 0 = .ok (.aload_n 0, 1) := by decide +kernel
theorem d_M_put_1 : decode b_M_put 1 = .ok (.invokevirtual 69, 3) := by decide +kernel
theorem d_M_put_4 : decode b_M_put 4 = .ok (.ifCond .eq 10, 3) := by decide +kernel
theorem d_M_put_7 : decode b_M_put 7 = .ok (.aload_n 0, 1) := by decide +kernel
theorem d_M_put_8 : decode b_M_put 8 = .ok (.getfield 7, 3) := by decide +kernel
theorem d_M_put_11 : decode b_M_put 11 = .ok (.iload_n 1, 1) := by decide +kernel
theorem d_M_put_12 : decode b_M_put 12 = .ok (.iload_n 2, 1) := by decide +kernel
theorem d_M_put_13 : decode b_M_put 13 = .ok (.iastore, 1) := by decide +kernel
theorem d_M_put_14 : decode b_M_put 14 = .ok (.return_, 1) := by decide +kernel
theorem d_M_changeSeal_0 : decode b_M_changeSeal 0 = .ok (.aload_n 0, 1) := by decide +kernel
theorem d_M_changeSeal_1 : decode b_M_changeSeal 1 = .ok (.invokevirtual 69, 3) := by decide +kernel
theorem d_M_changeSeal_4 : decode b_M_changeSeal 4 = .ok (.ifCond .eq 24, 3) := by decide +kernel
theorem d_M_changeSeal_7 : decode b_M_changeSeal 7 = .ok (.aload_n 0, 1) := by decide +kernel
theorem d_M_changeSeal_8 : decode b_M_changeSeal 8 = .ok (.iload_n 1, 1) := by decide +kernel
theorem d_M_changeSeal_9 : decode b_M_changeSeal 9 = .ok (.putfield 73, 3) := by decide +kernel
theorem d_M_changeSeal_12 : decode b_M_changeSeal 12 = .ok (.aload_n 0, 1) := by decide +kernel
theorem d_M_changeSeal_13 : decode b_M_changeSeal 13 = .ok (.iload_n 2, 1) := by decide +kernel
theorem d_M_changeSeal_14 : decode b_M_changeSeal 14 = .ok (.putfield 13, 3) := by decide +kernel
theorem d_M_changeSeal_17 : decode b_M_changeSeal 17 = .ok (.aload_n 0, 1) := by decide +kernel
theorem d_M_changeSeal_18 : decode b_M_changeSeal 18 = .ok (.iload_n 3, 1) := by decide +kernel
theorem d_M_changeSeal_19 : decode b_M_changeSeal 19 = .ok (.putfield 41, 3) := by decide +kernel
theorem d_M_changeSeal_22 : decode b_M_changeSeal 22 = .ok (.aload_n 0, 1) := by decide +kernel
theorem d_M_changeSeal_23 : decode b_M_changeSeal 23 = .ok (.iload 4, 2) := by decide +kernel
theorem d_M_changeSeal_25 : decode b_M_changeSeal 25 = .ok (.putfield 76, 3) := by decide +kernel
theorem d_M_changeSeal_28 : decode b_M_changeSeal 28 = .ok (.return_, 1) := by decide +kernel
theorem d_M_arm_0 : decode b_M_arm 0 = .ok (.iload_n 1, 1) := by decide +kernel
theorem d_M_arm_1 : decode b_M_arm 1 = .ok (.ifCond .ge 5, 3) := by decide +kernel
theorem d_M_arm_4 : decode b_M_arm 4 = .ok (.iconst 0, 1) := by decide +kernel
theorem d_M_arm_5 : decode b_M_arm 5 = .ok (.ireturn, 1) := by decide +kernel
theorem d_M_arm_6 : decode b_M_arm 6 = .ok (.aload_n 0, 1) := by decide +kernel
theorem d_M_arm_7 : decode b_M_arm 7 = .ok (.iload_n 1, 1) := by decide +kernel
theorem d_M_arm_8 : decode b_M_arm 8 = .ok (.putfield 17, 3) := by decide +kernel
theorem d_M_arm_11 : decode b_M_arm 11 = .ok (.iconst 1, 1) := by decide +kernel
theorem d_M_arm_12 : decode b_M_arm 12 = .ok (.ireturn, 1) := by decide +kernel
theorem d_M_isOn_0 : decode b_M_isOn 0 = .ok (.aload_n 0, 1) := by decide +kernel
theorem d_M_isOn_1 : decode b_M_isOn 1 = .ok (.getfield 60, 3) := by decide +kernel
theorem d_M_isOn_4 : decode b_M_isOn 4 = .ok (.ireturn, 1) := by decide +kernel
theorem d_M_entryAt_0 : decode b_M_entryAt 0 = .ok (.bipush 51, 2) := by decide +kernel
theorem d_M_entryAt_2 : decode b_M_entryAt 2 = .ok (.aload_n 0, 1) := by decide +kernel
theorem d_M_entryAt_3 : decode b_M_entryAt 3 = .ok (.getfield 73, 3) := by decide +kernel
theorem d_M_entryAt_6 : decode b_M_entryAt 6 = .ok (.imul, 1) := by decide +kernel
theorem d_M_entryAt_7 : decode b_M_entryAt 7 = .ok (.bipush 31, 2) := by decide +kernel
theorem d_M_entryAt_9 : decode b_M_entryAt 9 = .ok (.iadd, 1) := by decide +kernel
theorem d_M_entryAt_10 : decode b_M_entryAt 10 = .ok (.iconst 4, 1) := by decide +kernel
theorem d_M_entryAt_11 : decode b_M_entryAt 11 = .ok (.iload_n 1, 1) := by decide +kernel
theorem d_M_entryAt_12 : decode b_M_entryAt 12 = .ok (.imul, 1) := by decide +kernel
theorem d_M_entryAt_13 : decode b_M_entryAt 13 = .ok (.iadd, 1) := by decide +kernel
theorem d_M_entryAt_14 : decode b_M_entryAt 14 = .ok (.ireturn, 1) := by decide +kernel
theorem d_M_chain_0 : decode b_M_chain 0 = .ok (.ldc 46, 2) := by decide +kernel
theorem d_M_chain_2 : decode b_M_chain 2 = .ok (.aload_n 0, 1) := by decide +kernel
theorem d_M_chain_3 : decode b_M_chain 3 = .ok (.getfield 41, 3) := by decide +kernel
theorem d_M_chain_6 : decode b_M_chain 6 = .ok (.invokestatic 47, 3) := by decide +kernel
theorem d_M_chain_9 : decode b_M_chain 9 = .ok (.aload_n 0, 1) := by decide +kernel
theorem d_M_chain_10 : decode b_M_chain 10 = .ok (.getfield 13, 3) := by decide +kernel
theorem d_M_chain_13 : decode b_M_chain 13 = .ok (.invokestatic 47, 3) := by decide +kernel
theorem d_M_chain_16 : decode b_M_chain 16 = .ok (.istore_n 2, 1) := by decide +kernel
theorem d_M_chain_17 : decode b_M_chain 17 = .ok (.iconst 0, 1) := by decide +kernel
theorem d_M_chain_18 : decode b_M_chain 18 = .ok (.istore_n 3, 1) := by decide +kernel
theorem d_M_chain_19 : decode b_M_chain 19 = .ok (.iload_n 3, 1) := by decide +kernel
theorem d_M_chain_20 : decode b_M_chain 20 = .ok (.iload_n 1, 1) := by decide +kernel
theorem d_M_chain_21 : decode b_M_chain 21 = .ok (.if_icmp .ge 56, 3) := by decide +kernel
theorem d_M_chain_24 : decode b_M_chain 24 = .ok (.aload_n 0, 1) := by decide +kernel
theorem d_M_chain_25 : decode b_M_chain 25 = .ok (.iload_n 3, 1) := by decide +kernel
theorem d_M_chain_26 : decode b_M_chain 26 = .ok (.invokevirtual 79, 3) := by decide +kernel
theorem d_M_chain_29 : decode b_M_chain 29 = .ok (.istore 4, 2) := by decide +kernel
theorem d_M_chain_31 : decode b_M_chain 31 = .ok (.iload_n 2, 1) := by decide +kernel
theorem d_M_chain_32 : decode b_M_chain 32 = .ok (.aload_n 0, 1) := by decide +kernel
theorem d_M_chain_33 : decode b_M_chain 33 = .ok (.getfield 7, 3) := by decide +kernel
theorem d_M_chain_36 : decode b_M_chain 36 = .ok (.iload 4, 2) := by decide +kernel
theorem d_M_chain_38 : decode b_M_chain 38 = .ok (.iaload, 1) := by decide +kernel
theorem d_M_chain_39 : decode b_M_chain 39 = .ok (.invokestatic 47, 3) := by decide +kernel
theorem d_M_chain_42 : decode b_M_chain 42 = .ok (.istore_n 2, 1) := by decide +kernel
theorem d_M_chain_43 : decode b_M_chain 43 = .ok (.iload_n 2, 1) := by decide +kernel
theorem d_M_chain_44 : decode b_M_chain 44 = .ok (.aload_n 0, 1) := by decide +kernel
theorem d_M_chain_45 : decode b_M_chain 45 = .ok (.getfield 7, 3) := by decide +kernel
theorem d_M_chain_48 : decode b_M_chain 48 = .ok (.iload 4, 2) := by decide +kernel
theorem d_M_chain_50 : decode b_M_chain 50 = .ok (.iconst 1, 1) := by decide +kernel
theorem d_M_chain_51 : decode b_M_chain 51 = .ok (.iadd, 1) := by decide +kernel
theorem d_M_chain_52 : decode b_M_chain 52 = .ok (.iaload, 1) := by decide +kernel
theorem d_M_chain_53 : decode b_M_chain 53 = .ok (.invokestatic 47, 3) := by decide +kernel
theorem d_M_chain_56 : decode b_M_chain 56 = .ok (.istore_n 2, 1) := by decide +kernel
theorem d_M_chain_57 : decode b_M_chain 57 = .ok (.iload_n 2, 1) := by decide +kernel
theorem d_M_chain_58 : decode b_M_chain 58 = .ok (.aload_n 0, 1) := by decide +kernel
theorem d_M_chain_59 : decode b_M_chain 59 = .ok (.getfield 7, 3) := by decide +kernel
theorem d_M_chain_62 : decode b_M_chain 62 = .ok (.iload 4, 2) := by decide +kernel
theorem d_M_chain_64 : decode b_M_chain 64 = .ok (.iconst 2, 1) := by decide +kernel
theorem d_M_chain_65 : decode b_M_chain 65 = .ok (.iadd, 1) := by decide +kernel
theorem d_M_chain_66 : decode b_M_chain 66 = .ok (.iaload, 1) := by decide +kernel
theorem d_M_chain_67 : decode b_M_chain 67 = .ok (.invokestatic 47, 3) := by decide +kernel
theorem d_M_chain_70 : decode b_M_chain 70 = .ok (.istore_n 2, 1) := by decide +kernel
theorem d_M_chain_71 : decode b_M_chain 71 = .ok (.iinc 3 1, 3) := by decide +kernel
theorem d_M_chain_74 : decode b_M_chain 74 = .ok (.goto (-55), 3) := by decide +kernel
theorem d_M_chain_77 : decode b_M_chain 77 = .ok (.iload_n 2, 1) := by decide +kernel
theorem d_M_chain_78 : decode b_M_chain 78 = .ok (.ireturn, 1) := by decide +kernel
theorem d_M_recorded_0 : decode b_M_recorded 0 = .ok (.aload_n 0, 1) := by decide +kernel
theorem d_M_recorded_1 : decode b_M_recorded 1 = .ok (.iload_n 1, 1) := by decide +kernel
theorem d_M_recorded_2 : decode b_M_recorded 2 = .ok (.invokevirtual 79, 3) := by decide +kernel
theorem d_M_recorded_5 : decode b_M_recorded 5 = .ok (.istore_n 2, 1) := by decide +kernel
theorem d_M_recorded_6 : decode b_M_recorded 6 = .ok (.aload_n 0, 1) := by decide +kernel
theorem d_M_recorded_7 : decode b_M_recorded 7 = .ok (.iload_n 2, 1) := by decide +kernel
theorem d_M_recorded_8 : decode b_M_recorded 8 = .ok (.iconst 1, 1) := by decide +kernel
theorem d_M_recorded_9 : decode b_M_recorded 9 = .ok (.iadd, 1) := by decide +kernel
theorem d_M_recorded_10 : decode b_M_recorded 10 = .ok (.aload_n 0, 1) := by decide +kernel
theorem d_M_recorded_11 : decode b_M_recorded 11 = .ok (.getfield 13, 3) := by decide +kernel
theorem d_M_recorded_14 : decode b_M_recorded 14 = .ok (.invokevirtual 83, 3) := by decide +kernel
theorem d_M_recorded_17 : decode b_M_recorded 17 = .ok (.istore_n 3, 1) := by decide +kernel
theorem d_M_recorded_18 : decode b_M_recorded 18 = .ok (.aload_n 0, 1) := by decide +kernel
theorem d_M_recorded_19 : decode b_M_recorded 19 = .ok (.iload_n 2, 1) := by decide +kernel
theorem d_M_recorded_20 : decode b_M_recorded 20 = .ok (.iconst 2, 1) := by decide +kernel
theorem d_M_recorded_21 : decode b_M_recorded 21 = .ok (.iadd, 1) := by decide +kernel
theorem d_M_recorded_22 : decode b_M_recorded 22 = .ok (.aload_n 0, 1) := by decide +kernel
theorem d_M_recorded_23 : decode b_M_recorded 23 = .ok (.getfield 13, 3) := by decide +kernel
theorem d_M_recorded_26 : decode b_M_recorded 26 = .ok (.invokevirtual 83, 3) := by decide +kernel
theorem d_M_recorded_29 : decode b_M_recorded 29 = .ok (.istore 4, 2) := by decide +kernel
theorem d_M_recorded_31 : decode b_M_recorded 31 = .ok (.iload_n 3, 1) := by decide +kernel
theorem d_M_recorded_32 : decode b_M_recorded 32 = .ok (.iload 4, 2) := by decide +kernel
theorem d_M_recorded_34 : decode b_M_recorded 34 = .ok (.invokestatic 86, 3) := by decide +kernel
theorem d_M_recorded_37 : decode b_M_recorded 37 = .ok (.lreturn, 1) := by decide +kernel
theorem d_M_due_0 : decode b_M_due 0 = .ok (.aload_n 0, 1) := by decide +kernel
theorem d_M_due_1 : decode b_M_due 1 = .ok (.aload_n 0, 1) := by decide +kernel
theorem d_M_due_2 : decode b_M_due 2 = .ok (.iload_n 1, 1) := by decide +kernel
theorem d_M_due_3 : decode b_M_due 3 = .ok (.invokevirtual 79, 3) := by decide +kernel
theorem d_M_due_6 : decode b_M_due 6 = .ok (.aload_n 0, 1) := by decide +kernel
theorem d_M_due_7 : decode b_M_due 7 = .ok (.getfield 13, 3) := by decide +kernel
theorem d_M_due_10 : decode b_M_due 10 = .ok (.invokevirtual 83, 3) := by decide +kernel
theorem d_M_due_13 : decode b_M_due 13 = .ok (.istore_n 2, 1) := by decide +kernel
theorem d_M_due_14 : decode b_M_due 14 = .ok (.aload_n 0, 1) := by decide +kernel
theorem d_M_due_15 : decode b_M_due 15 = .ok (.getfield 7, 3) := by decide +kernel
theorem d_M_due_18 : decode b_M_due 18 = .ok (.aload_n 0, 1) := by decide +kernel
theorem d_M_due_19 : decode b_M_due 19 = .ok (.iload_n 1, 1) := by decide +kernel
theorem d_M_due_20 : decode b_M_due 20 = .ok (.invokevirtual 79, 3) := by decide +kernel
theorem d_M_due_23 : decode b_M_due 23 = .ok (.iconst 3, 1) := by decide +kernel
theorem d_M_due_24 : decode b_M_due 24 = .ok (.iadd, 1) := by decide +kernel
theorem d_M_due_25 : decode b_M_due 25 = .ok (.iaload, 1) := by decide +kernel
theorem d_M_due_26 : decode b_M_due 26 = .ok (.aload_n 0, 1) := by decide +kernel
theorem d_M_due_27 : decode b_M_due 27 = .ok (.iload_n 1, 1) := by decide +kernel
theorem d_M_due_28 : decode b_M_due 28 = .ok (.iconst 1, 1) := by decide +kernel
theorem d_M_due_29 : decode b_M_due 29 = .ok (.iadd, 1) := by decide +kernel
theorem d_M_due_30 : decode b_M_due 30 = .ok (.invokevirtual 90, 3) := by decide +kernel
theorem d_M_due_33 : decode b_M_due 33 = .ok (.iconst 1, 1) := by decide +kernel
theorem d_M_due_34 : decode b_M_due 34 = .ok (.ior, 1) := by decide +kernel
theorem d_M_due_35 : decode b_M_due 35 = .ok (.if_icmp .ne 27, 3) := by decide +kernel
theorem d_M_due_38 : decode b_M_due 38 = .ok (.iload_n 2, 1) := by decide +kernel
theorem d_M_due_39 : decode b_M_due 39 = .ok (.ifCond .lt 23, 3) := by decide +kernel
theorem d_M_due_42 : decode b_M_due 42 = .ok (.iload_n 2, 1) := by decide +kernel
theorem d_M_due_43 : decode b_M_due 43 = .ok (.bipush 8, 2) := by decide +kernel
theorem d_M_due_45 : decode b_M_due 45 = .ok (.if_icmp .ge 17, 3) := by decide +kernel
theorem d_M_due_48 : decode b_M_due 48 = .ok (.aload_n 0, 1) := by decide +kernel
theorem d_M_due_49 : decode b_M_due 49 = .ok (.iload_n 1, 1) := by decide +kernel
theorem d_M_due_50 : decode b_M_due 50 = .ok (.invokevirtual 93, 3) := by decide +kernel
theorem d_M_due_53 : decode b_M_due 53 = .ok (.lconst 0, 1) := by decide +kernel
theorem d_M_due_54 : decode b_M_due 54 = .ok (.lcmp, 1) := by decide +kernel
theorem d_M_due_55 : decode b_M_due 55 = .ok (.ifCond .lt 7, 3) := by decide +kernel
theorem d_M_due_58 : decode b_M_due 58 = .ok (.iconst 1, 1) := by decide +kernel
theorem d_M_due_59 : decode b_M_due 59 = .ok (.goto 4, 3) := by decide +kernel
theorem d_M_due_62 : decode b_M_due 62 = .ok (.iconst 0, 1) := by decide +kernel
theorem d_M_due_63 : decode b_M_due 63 = .ok (.ireturn, 1) := by decide +kernel
theorem d_M_mount_0 : decode b_M_mount 0 = .ok (.iconst 0, 1) := by decide +kernel
theorem d_M_mount_1 : decode b_M_mount 1 = .ok (.istore_n 1, 1) := by decide +kernel
theorem d_M_mount_2 : decode b_M_mount 2 = .ok (.iload_n 1, 1) := by decide +kernel
theorem d_M_mount_3 : decode b_M_mount 3 = .ok (.iconst 5, 1) := by decide +kernel
theorem d_M_mount_4 : decode b_M_mount 4 = .ok (.if_icmp .ge 17, 3) := by decide +kernel
theorem d_M_mount_7 : decode b_M_mount 7 = .ok (.aload_n 0, 1) := by decide +kernel
theorem d_M_mount_8 : decode b_M_mount 8 = .ok (.iload_n 1, 1) := by decide +kernel
theorem d_M_mount_9 : decode b_M_mount 9 = .ok (.invokevirtual 97, 3) := by decide +kernel
theorem d_M_mount_12 : decode b_M_mount 12 = .ok (.ifCond .eq 9, 3) := by decide +kernel
theorem d_M_mount_15 : decode b_M_mount 15 = .ok (.iinc 1 1, 3) := by decide +kernel
theorem d_M_mount_18 : decode b_M_mount 18 = .ok (.goto (-16), 3) := by decide +kernel
theorem d_M_mount_21 : decode b_M_mount 21 = .ok (.aload_n 0, 1) := by decide +kernel
theorem d_M_mount_22 : decode b_M_mount 22 = .ok (.iconst 0, 1) := by decide +kernel
theorem d_M_mount_23 : decode b_M_mount 23 = .ok (.putfield 63, 3) := by decide +kernel
theorem d_M_mount_26 : decode b_M_mount 26 = .ok (.iload_n 1, 1) := by decide +kernel
theorem d_M_mount_27 : decode b_M_mount 27 = .ok (.aload_n 0, 1) := by decide +kernel
theorem d_M_mount_28 : decode b_M_mount 28 = .ok (.getfield 76, 3) := by decide +kernel
theorem d_M_mount_31 : decode b_M_mount 31 = .ok (.if_icmp .ge 11, 3) := by decide +kernel
theorem d_M_mount_34 : decode b_M_mount 34 = .ok (.aload_n 0, 1) := by decide +kernel
theorem d_M_mount_35 : decode b_M_mount 35 = .ok (.iconst 0, 1) := by decide +kernel
theorem d_M_mount_36 : decode b_M_mount 36 = .ok (.putfield 60, 3) := by decide +kernel
theorem d_M_mount_39 : decode b_M_mount 39 = .ok (.bipush (-3), 2) := by decide +kernel
theorem d_M_mount_41 : decode b_M_mount 41 = .ok (.ireturn, 1) := by decide +kernel
theorem d_M_mount_42 : decode b_M_mount 42 = .ok (.aload_n 0, 1) := by decide +kernel
theorem d_M_mount_43 : decode b_M_mount 43 = .ok (.iconst 1, 1) := by decide +kernel
theorem d_M_mount_44 : decode b_M_mount 44 = .ok (.putfield 60, 3) := by decide +kernel
theorem d_M_mount_47 : decode b_M_mount 47 = .ok (.iconst 0, 1) := by decide +kernel
theorem d_M_mount_48 : decode b_M_mount 48 = .ok (.istore_n 2, 1) := by decide +kernel
theorem d_M_mount_49 : decode b_M_mount 49 = .ok (.iload_n 2, 1) := by decide +kernel
theorem d_M_mount_50 : decode b_M_mount 50 = .ok (.iload_n 1, 1) := by decide +kernel
theorem d_M_mount_51 : decode b_M_mount 51 = .ok (.if_icmp .ge 39, 3) := by decide +kernel
theorem d_M_mount_54 : decode b_M_mount 54 = .ok (.aload_n 0, 1) := by decide +kernel
theorem d_M_mount_55 : decode b_M_mount 55 = .ok (.getfield 20, 3) := by decide +kernel
theorem d_M_mount_58 : decode b_M_mount 58 = .ok (.iload_n 2, 1) := by decide +kernel
theorem d_M_mount_59 : decode b_M_mount 59 = .ok (.aload_n 0, 1) := by decide +kernel
theorem d_M_mount_60 : decode b_M_mount 60 = .ok (.aload_n 0, 1) := by decide +kernel
theorem d_M_mount_61 : decode b_M_mount 61 = .ok (.iload_n 2, 1) := by decide +kernel
theorem d_M_mount_62 : decode b_M_mount 62 = .ok (.invokevirtual 79, 3) := by decide +kernel
theorem d_M_mount_65 : decode b_M_mount 65 = .ok (.aload_n 0, 1) := by decide +kernel
theorem d_M_mount_66 : decode b_M_mount 66 = .ok (.getfield 13, 3) := by decide +kernel
theorem d_M_mount_69 : decode b_M_mount 69 = .ok (.invokevirtual 83, 3) := by decide +kernel
theorem d_M_mount_72 : decode b_M_mount 72 = .ok (.iastore, 1) := by decide +kernel
theorem d_M_mount_73 : decode b_M_mount 73 = .ok (.aload_n 0, 1) := by decide +kernel
theorem d_M_mount_74 : decode b_M_mount 74 = .ok (.getfield 23, 3) := by decide +kernel
theorem d_M_mount_77 : decode b_M_mount 77 = .ok (.iload_n 2, 1) := by decide +kernel
theorem d_M_mount_78 : decode b_M_mount 78 = .ok (.aload_n 0, 1) := by decide +kernel
theorem d_M_mount_79 : decode b_M_mount 79 = .ok (.iload_n 2, 1) := by decide +kernel
theorem d_M_mount_80 : decode b_M_mount 80 = .ok (.invokevirtual 93, 3) := by decide +kernel
theorem d_M_mount_83 : decode b_M_mount 83 = .ok (.lastore, 1) := by decide +kernel
theorem d_M_mount_84 : decode b_M_mount 84 = .ok (.iinc 2 1, 3) := by decide +kernel
theorem d_M_mount_87 : decode b_M_mount 87 = .ok (.goto (-38), 3) := by decide +kernel
theorem d_M_mount_90 : decode b_M_mount 90 = .ok (.aload_n 0, 1) := by decide +kernel
theorem d_M_mount_91 : decode b_M_mount 91 = .ok (.iload_n 1, 1) := by decide +kernel
theorem d_M_mount_92 : decode b_M_mount 92 = .ok (.putfield 63, 3) := by decide +kernel
theorem d_M_mount_95 : decode b_M_mount 95 = .ok (.aload_n 0, 1) := by decide +kernel
theorem d_M_mount_96 : decode b_M_mount 96 = .ok (.aload_n 0, 1) := by decide +kernel
theorem d_M_mount_97 : decode b_M_mount 97 = .ok (.iload_n 1, 1) := by decide +kernel
theorem d_M_mount_98 : decode b_M_mount 98 = .ok (.invokevirtual 90, 3) := by decide +kernel
theorem d_M_mount_101 : decode b_M_mount 101 = .ok (.putfield 101, 3) := by decide +kernel
theorem d_M_mount_104 : decode b_M_mount 104 = .ok (.iload_n 1, 1) := by decide +kernel
theorem d_M_mount_105 : decode b_M_mount 105 = .ok (.ireturn, 1) := by decide +kernel
theorem d_M_looked_0 : decode b_M_looked 0 = .ok (.bipush 51, 2) := by decide +kernel
theorem d_M_looked_2 : decode b_M_looked 2 = .ok (.aload_n 0, 1) := by decide +kernel
theorem d_M_looked_3 : decode b_M_looked 3 = .ok (.getfield 73, 3) := by decide +kernel
theorem d_M_looked_6 : decode b_M_looked 6 = .ok (.imul, 1) := by decide +kernel
theorem d_M_looked_7 : decode b_M_looked 7 = .ok (.iconst 2, 1) := by decide +kernel
theorem d_M_looked_8 : decode b_M_looked 8 = .ok (.iload_n 1, 1) := by decide +kernel
theorem d_M_looked_9 : decode b_M_looked 9 = .ok (.imul, 1) := by decide +kernel
theorem d_M_looked_10 : decode b_M_looked 10 = .ok (.iadd, 1) := by decide +kernel
theorem d_M_looked_11 : decode b_M_looked 11 = .ok (.istore_n 2, 1) := by decide +kernel
theorem d_M_looked_12 : decode b_M_looked 12 = .ok (.aload_n 0, 1) := by decide +kernel
theorem d_M_looked_13 : decode b_M_looked 13 = .ok (.iload_n 1, 1) := by decide +kernel
theorem d_M_looked_14 : decode b_M_looked 14 = .ok (.aload_n 0, 1) := by decide +kernel
theorem d_M_looked_15 : decode b_M_looked 15 = .ok (.getfield 13, 3) := by decide +kernel
theorem d_M_looked_18 : decode b_M_looked 18 = .ok (.aload_n 0, 1) := by decide +kernel
theorem d_M_looked_19 : decode b_M_looked 19 = .ok (.getfield 7, 3) := by decide +kernel
theorem d_M_looked_22 : decode b_M_looked 22 = .ok (.iload_n 2, 1) := by decide +kernel
theorem d_M_looked_23 : decode b_M_looked 23 = .ok (.iaload, 1) := by decide +kernel
theorem d_M_looked_24 : decode b_M_looked 24 = .ok (.aload_n 0, 1) := by decide +kernel
theorem d_M_looked_25 : decode b_M_looked 25 = .ok (.getfield 7, 3) := by decide +kernel
theorem d_M_looked_28 : decode b_M_looked 28 = .ok (.iload_n 2, 1) := by decide +kernel
theorem d_M_looked_29 : decode b_M_looked 29 = .ok (.iconst 1, 1) := by decide +kernel
theorem d_M_looked_30 : decode b_M_looked 30 = .ok (.iadd, 1) := by decide +kernel
theorem d_M_looked_31 : decode b_M_looked 31 = .ok (.iaload, 1) := by decide +kernel
theorem d_M_looked_32 : decode b_M_looked 32 = .ok (.invokevirtual 52, 3) := by decide +kernel
theorem d_M_looked_35 : decode b_M_looked 35 = .ok (.istore_n 3, 1) := by decide +kernel
theorem d_M_looked_36 : decode b_M_looked 36 = .ok (.bipush 8, 2) := by decide +kernel
theorem d_M_looked_38 : decode b_M_looked 38 = .ok (.iload_n 1, 1) := by decide +kernel
theorem d_M_looked_39 : decode b_M_looked 39 = .ok (.iadd, 1) := by decide +kernel
theorem d_M_looked_40 : decode b_M_looked 40 = .ok (.istore 4, 2) := by decide +kernel
theorem d_M_looked_42 : decode b_M_looked 42 = .ok (.iload 4, 2) := by decide +kernel
theorem d_M_looked_44 : decode b_M_looked 44 = .ok (.iconst 1, 1) := by decide +kernel
theorem d_M_looked_45 : decode b_M_looked 45 = .ok (.if_icmp .le 71, 3) := by decide +kernel
theorem d_M_looked_48 : decode b_M_looked 48 = .ok (.aload_n 0, 1) := by decide +kernel
theorem d_M_looked_49 : decode b_M_looked 49 = .ok (.getfield 7, 3) := by decide +kernel
theorem d_M_looked_52 : decode b_M_looked 52 = .ok (.bipush 51, 2) := by decide +kernel
theorem d_M_looked_54 : decode b_M_looked 54 = .ok (.aload_n 0, 1) := by decide +kernel
theorem d_M_looked_55 : decode b_M_looked 55 = .ok (.getfield 73, 3) := by decide +kernel
theorem d_M_looked_58 : decode b_M_looked 58 = .ok (.imul, 1) := by decide +kernel
theorem d_M_looked_59 : decode b_M_looked 59 = .ok (.bipush 15, 2) := by decide +kernel
theorem d_M_looked_61 : decode b_M_looked 61 = .ok (.iadd, 1) := by decide +kernel
theorem d_M_looked_62 : decode b_M_looked 62 = .ok (.iload 4, 2) := by decide +kernel
theorem d_M_looked_64 : decode b_M_looked 64 = .ok (.iconst 2, 1) := by decide +kernel
theorem d_M_looked_65 : decode b_M_looked 65 = .ok (.irem, 1) := by decide +kernel
theorem d_M_looked_66 : decode b_M_looked 66 = .ok (.ifCond .ne 10, 3) := by decide +kernel
theorem d_M_looked_69 : decode b_M_looked 69 = .ok (.iload 4, 2) := by decide +kernel
theorem d_M_looked_71 : decode b_M_looked 71 = .ok (.iconst 1, 1) := by decide +kernel
theorem d_M_looked_72 : decode b_M_looked 72 = .ok (.iadd, 1) := by decide +kernel
theorem d_M_looked_73 : decode b_M_looked 73 = .ok (.goto 7, 3) := by decide +kernel
theorem d_M_looked_76 : decode b_M_looked 76 = .ok (.iload 4, 2) := by decide +kernel
theorem d_M_looked_78 : decode b_M_looked 78 = .ok (.iconst 1, 1) := by decide +kernel
theorem d_M_looked_79 : decode b_M_looked 79 = .ok (.isub, 1) := by decide +kernel
theorem d_M_looked_80 : decode b_M_looked 80 = .ok (.iadd, 1) := by decide +kernel
theorem d_M_looked_81 : decode b_M_looked 81 = .ok (.iaload, 1) := by decide +kernel
theorem d_M_looked_82 : decode b_M_looked 82 = .ok (.istore 5, 2) := by decide +kernel
theorem d_M_looked_84 : decode b_M_looked 84 = .ok (.iload 4, 2) := by decide +kernel
theorem d_M_looked_86 : decode b_M_looked 86 = .ok (.iconst 2, 1) := by decide +kernel
theorem d_M_looked_87 : decode b_M_looked 87 = .ok (.irem, 1) := by decide +kernel
theorem d_M_looked_88 : decode b_M_looked 88 = .ok (.ifCond .ne 12, 3) := by decide +kernel
theorem d_M_looked_91 : decode b_M_looked 91 = .ok (.iload_n 3, 1) := by decide +kernel
theorem d_M_looked_92 : decode b_M_looked 92 = .ok (.iload 5, 2) := by decide +kernel
theorem d_M_looked_94 : decode b_M_looked 94 = .ok (.invokestatic 47, 3) := by decide +kernel
theorem d_M_looked_97 : decode b_M_looked 97 = .ok (.goto 9, 3) := by decide +kernel
theorem d_M_looked_100 : decode b_M_looked 100 = .ok (.iload 5, 2) := by decide +kernel
theorem d_M_looked_102 : decode b_M_looked 102 = .ok (.iload_n 3, 1) := by decide +kernel
theorem d_M_looked_103 : decode b_M_looked 103 = .ok (.invokestatic 47, 3) := by decide +kernel
theorem d_M_looked_106 : decode b_M_looked 106 = .ok (.istore_n 3, 1) := by decide +kernel
theorem d_M_looked_107 : decode b_M_looked 107 = .ok (.iload 4, 2) := by decide +kernel
theorem d_M_looked_109 : decode b_M_looked 109 = .ok (.iconst 2, 1) := by decide +kernel
theorem d_M_looked_110 : decode b_M_looked 110 = .ok (.idiv, 1) := by decide +kernel
theorem d_M_looked_111 : decode b_M_looked 111 = .ok (.istore 4, 2) := by decide +kernel
theorem d_M_looked_113 : decode b_M_looked 113 = .ok (.goto (-71), 3) := by decide +kernel
theorem d_M_looked_116 : decode b_M_looked 116 = .ok (.aload_n 0, 1) := by decide +kernel
theorem d_M_looked_117 : decode b_M_looked 117 = .ok (.iload_n 2, 1) := by decide +kernel
theorem d_M_looked_118 : decode b_M_looked 118 = .ok (.aload_n 0, 1) := by decide +kernel
theorem d_M_looked_119 : decode b_M_looked 119 = .ok (.getfield 13, 3) := by decide +kernel
theorem d_M_looked_122 : decode b_M_looked 122 = .ok (.invokevirtual 83, 3) := by decide +kernel
theorem d_M_looked_125 : decode b_M_looked 125 = .ok (.istore 4, 2) := by decide +kernel
theorem d_M_looked_127 : decode b_M_looked 127 = .ok (.aload_n 0, 1) := by decide +kernel
theorem d_M_looked_128 : decode b_M_looked 128 = .ok (.iload_n 2, 1) := by decide +kernel
theorem d_M_looked_129 : decode b_M_looked 129 = .ok (.iconst 1, 1) := by decide +kernel
theorem d_M_looked_130 : decode b_M_looked 130 = .ok (.iadd, 1) := by decide +kernel
theorem d_M_looked_131 : decode b_M_looked 131 = .ok (.aload_n 0, 1) := by decide +kernel
theorem d_M_looked_132 : decode b_M_looked 132 = .ok (.getfield 13, 3) := by decide +kernel
theorem d_M_looked_135 : decode b_M_looked 135 = .ok (.invokevirtual 83, 3) := by decide +kernel
theorem d_M_looked_138 : decode b_M_looked 138 = .ok (.istore 5, 2) := by decide +kernel
theorem d_M_looked_140 : decode b_M_looked 140 = .ok (.iload_n 3, 1) := by decide +kernel
theorem d_M_looked_141 : decode b_M_looked 141 = .ok (.aload_n 0, 1) := by decide +kernel
theorem d_M_looked_142 : decode b_M_looked 142 = .ok (.getfield 41, 3) := by decide +kernel
theorem d_M_looked_145 : decode b_M_looked 145 = .ok (.if_icmp .ne 18, 3) := by decide +kernel
theorem d_M_looked_148 : decode b_M_looked 148 = .ok (.iload 4, 2) := by decide +kernel
theorem d_M_looked_150 : decode b_M_looked 150 = .ok (.ifCond .lt 13, 3) := by decide +kernel
theorem d_M_looked_153 : decode b_M_looked 153 = .ok (.iload 4, 2) := by decide +kernel
theorem d_M_looked_155 : decode b_M_looked 155 = .ok (.iload 5, 2) := by decide +kernel
theorem d_M_looked_157 : decode b_M_looked 157 = .ok (.invokestatic 86, 3) := by decide +kernel
theorem d_M_looked_160 : decode b_M_looked 160 = .ok (.goto 6, 3) := by decide +kernel
theorem d_M_looked_163 : decode b_M_looked 163 = .ok (.ldc2_w 104, 3) := by decide +kernel
theorem d_M_looked_166 : decode b_M_looked 166 = .ok (.lreturn, 1) := by decide +kernel
theorem d_M_value_0 : decode b_M_value 0 = .ok (.aload_n 0, 1) := by decide +kernel
theorem d_M_value_1 : decode b_M_value 1 = .ok (.getfield 63, 3) := by decide +kernel
theorem d_M_value_4 : decode b_M_value 4 = .ok (.iconst 1, 1) := by decide +kernel
theorem d_M_value_5 : decode b_M_value 5 = .ok (.isub, 1) := by decide +kernel
theorem d_M_value_6 : decode b_M_value 6 = .ok (.istore_n 2, 1) := by decide +kernel
theorem d_M_value_7 : decode b_M_value 7 = .ok (.iload_n 2, 1) := by decide +kernel
theorem d_M_value_8 : decode b_M_value 8 = .ok (.ifCond .lt 26, 3) := by decide +kernel
theorem d_M_value_11 : decode b_M_value 11 = .ok (.aload_n 0, 1) := by decide +kernel
theorem d_M_value_12 : decode b_M_value 12 = .ok (.getfield 20, 3) := by decide +kernel
theorem d_M_value_15 : decode b_M_value 15 = .ok (.iload_n 2, 1) := by decide +kernel
theorem d_M_value_16 : decode b_M_value 16 = .ok (.iaload, 1) := by decide +kernel
theorem d_M_value_17 : decode b_M_value 17 = .ok (.iload_n 1, 1) := by decide +kernel
theorem d_M_value_18 : decode b_M_value 18 = .ok (.if_icmp .ne 10, 3) := by decide +kernel
theorem d_M_value_21 : decode b_M_value 21 = .ok (.aload_n 0, 1) := by decide +kernel
theorem d_M_value_22 : decode b_M_value 22 = .ok (.getfield 23, 3) := by decide +kernel
theorem d_M_value_25 : decode b_M_value 25 = .ok (.iload_n 2, 1) := by decide +kernel
theorem d_M_value_26 : decode b_M_value 26 = .ok (.laload, 1) := by decide +kernel
theorem d_M_value_27 : decode b_M_value 27 = .ok (.lreturn, 1) := by decide +kernel
theorem d_M_value_28 : decode b_M_value 28 = .ok (.iinc 2 (-1), 3) := by decide +kernel
theorem d_M_value_31 : decode b_M_value 31 = .ok (.goto (-24), 3) := by decide +kernel
theorem d_M_value_34 : decode b_M_value 34 = .ok (.aload_n 0, 1) := by decide +kernel
theorem d_M_value_35 : decode b_M_value 35 = .ok (.iload_n 1, 1) := by decide +kernel
theorem d_M_value_36 : decode b_M_value 36 = .ok (.invokevirtual 106, 3) := by decide +kernel
theorem d_M_value_39 : decode b_M_value 39 = .ok (.lreturn, 1) := by decide +kernel
theorem d_M_read_0 : decode b_M_read 0 = .ok (.aload_n 0, 1) := by decide +kernel
theorem d_M_read_1 : decode b_M_read 1 = .ok (.getfield 60, 3) := by decide +kernel
theorem d_M_read_4 : decode b_M_read 4 = .ok (.ifCond .ne 7, 3) := by decide +kernel
theorem d_M_read_7 : decode b_M_read 7 = .ok (.ldc2_w 104, 3) := by decide +kernel
theorem d_M_read_10 : decode b_M_read 10 = .ok (.lreturn, 1) := by decide +kernel
theorem d_M_read_11 : decode b_M_read 11 = .ok (.iload_n 1, 1) := by decide +kernel
theorem d_M_read_12 : decode b_M_read 12 = .ok (.ifCond .lt 9, 3) := by decide +kernel
theorem d_M_read_15 : decode b_M_read 15 = .ok (.iload_n 1, 1) := by decide +kernel
theorem d_M_read_16 : decode b_M_read 16 = .ok (.bipush 7, 2) := by decide +kernel
theorem d_M_read_18 : decode b_M_read 18 = .ok (.if_icmp .le 7, 3) := by decide +kernel
theorem d_M_read_21 : decode b_M_read 21 = .ok (.ldc2_w 109, 3) := by decide +kernel
theorem d_M_read_24 : decode b_M_read 24 = .ok (.lreturn, 1) := by decide +kernel
theorem d_M_read_25 : decode b_M_read 25 = .ok (.aload_n 0, 1) := by decide +kernel
theorem d_M_read_26 : decode b_M_read 26 = .ok (.iload_n 1, 1) := by decide +kernel
theorem d_M_read_27 : decode b_M_read 27 = .ok (.invokevirtual 111, 3) := by decide +kernel
theorem d_M_read_30 : decode b_M_read 30 = .ok (.lstore_n 2, 1) := by decide +kernel
theorem d_M_read_31 : decode b_M_read 31 = .ok (.lload_n 2, 1) := by decide +kernel
theorem d_M_read_32 : decode b_M_read 32 = .ok (.lconst 0, 1) := by decide +kernel
theorem d_M_read_33 : decode b_M_read 33 = .ok (.lcmp, 1) := by decide +kernel
theorem d_M_read_34 : decode b_M_read 34 = .ok (.ifCond .ge 9, 3) := by decide +kernel
theorem d_M_read_37 : decode b_M_read 37 = .ok (.ldc2_w 114, 3) := by decide +kernel
theorem d_M_read_40 : decode b_M_read 40 = .ok (.goto 4, 3) := by decide +kernel
theorem d_M_read_43 : decode b_M_read 43 = .ok (.lload_n 2, 1) := by decide +kernel
theorem d_M_read_44 : decode b_M_read 44 = .ok (.lreturn, 1) := by decide +kernel
theorem d_M_sound_0 : decode b_M_sound 0 = .ok (.iconst 0, 1) := by decide +kernel
theorem d_M_sound_1 : decode b_M_sound 1 = .ok (.istore_n 1, 1) := by decide +kernel
theorem d_M_sound_2 : decode b_M_sound 2 = .ok (.iconst 0, 1) := by decide +kernel
theorem d_M_sound_3 : decode b_M_sound 3 = .ok (.istore_n 2, 1) := by decide +kernel
theorem d_M_sound_4 : decode b_M_sound 4 = .ok (.iload_n 2, 1) := by decide +kernel
theorem d_M_sound_5 : decode b_M_sound 5 = .ok (.bipush 8, 2) := by decide +kernel
theorem d_M_sound_7 : decode b_M_sound 7 = .ok (.if_icmp .ge 29, 3) := by decide +kernel
theorem d_M_sound_10 : decode b_M_sound 10 = .ok (.aload_n 0, 1) := by decide +kernel
theorem d_M_sound_11 : decode b_M_sound 11 = .ok (.iload_n 2, 1) := by decide +kernel
theorem d_M_sound_12 : decode b_M_sound 12 = .ok (.invokevirtual 111, 3) := by decide +kernel
theorem d_M_sound_15 : decode b_M_sound 15 = .ok (.lconst 0, 1) := by decide +kernel
theorem d_M_sound_16 : decode b_M_sound 16 = .ok (.lcmp, 1) := by decide +kernel
theorem d_M_sound_17 : decode b_M_sound 17 = .ok (.ifCond .ge 7, 3) := by decide +kernel
theorem d_M_sound_20 : decode b_M_sound 20 = .ok (.iload_n 1, 1) := by decide +kernel
theorem d_M_sound_21 : decode b_M_sound 21 = .ok (.goto 8, 3) := by decide +kernel
theorem d_M_sound_24 : decode b_M_sound 24 = .ok (.iload_n 1, 1) := by decide +kernel
theorem d_M_sound_25 : decode b_M_sound 25 = .ok (.iconst 1, 1) := by decide +kernel
theorem d_M_sound_26 : decode b_M_sound 26 = .ok (.iload_n 2, 1) := by decide +kernel
theorem d_M_sound_27 : decode b_M_sound 27 = .ok (.ishl, 1) := by decide +kernel
theorem d_M_sound_28 : decode b_M_sound 28 = .ok (.ior, 1) := by decide +kernel
theorem d_M_sound_29 : decode b_M_sound 29 = .ok (.istore_n 1, 1) := by decide +kernel
theorem d_M_sound_30 : decode b_M_sound 30 = .ok (.iinc 2 1, 3) := by decide +kernel
theorem d_M_sound_33 : decode b_M_sound 33 = .ok (.goto (-29), 3) := by decide +kernel
theorem d_M_sound_36 : decode b_M_sound 36 = .ok (.aload_n 0, 1) := by decide +kernel
theorem d_M_sound_37 : decode b_M_sound 37 = .ok (.getfield 60, 3) := by decide +kernel
theorem d_M_sound_40 : decode b_M_sound 40 = .ok (.ifCond .eq 7, 3) := by decide +kernel
theorem d_M_sound_43 : decode b_M_sound 43 = .ok (.iload_n 1, 1) := by decide +kernel
theorem d_M_sound_44 : decode b_M_sound 44 = .ok (.goto 4, 3) := by decide +kernel
theorem d_M_sound_47 : decode b_M_sound 47 = .ok (.iconst (-1), 1) := by decide +kernel
theorem d_M_sound_48 : decode b_M_sound 48 = .ok (.ireturn, 1) := by decide +kernel
theorem d_M_change_0 : decode b_M_change 0 = .ok (.iconst 1, 1) := by decide +kernel
theorem d_M_change_1 : decode b_M_change 1 = .ok (.istore_n 1, 1) := by decide +kernel
theorem d_M_change_2 : decode b_M_change 2 = .ok (.iconst 0, 1) := by decide +kernel
theorem d_M_change_3 : decode b_M_change 3 = .ok (.istore_n 2, 1) := by decide +kernel
theorem d_M_change_4 : decode b_M_change 4 = .ok (.iload_n 2, 1) := by decide +kernel
theorem d_M_change_5 : decode b_M_change 5 = .ok (.bipush 8, 2) := by decide +kernel
theorem d_M_change_7 : decode b_M_change 7 = .ok (.if_icmp .ge 41, 3) := by decide +kernel
theorem d_M_change_10 : decode b_M_change 10 = .ok (.aload_n 0, 1) := by decide +kernel
theorem d_M_change_11 : decode b_M_change 11 = .ok (.getfield 27, 3) := by decide +kernel
theorem d_M_change_14 : decode b_M_change 14 = .ok (.iload_n 2, 1) := by decide +kernel
theorem d_M_change_15 : decode b_M_change 15 = .ok (.aload_n 0, 1) := by decide +kernel
theorem d_M_change_16 : decode b_M_change 16 = .ok (.iload_n 2, 1) := by decide +kernel
theorem d_M_change_17 : decode b_M_change 17 = .ok (.invokevirtual 111, 3) := by decide +kernel
theorem d_M_change_20 : decode b_M_change 20 = .ok (.lastore, 1) := by decide +kernel
theorem d_M_change_21 : decode b_M_change 21 = .ok (.iload_n 1, 1) := by decide +kernel
theorem d_M_change_22 : decode b_M_change 22 = .ok (.ifCond .eq 18, 3) := by decide +kernel
theorem d_M_change_25 : decode b_M_change 25 = .ok (.aload_n 0, 1) := by decide +kernel
theorem d_M_change_26 : decode b_M_change 26 = .ok (.getfield 27, 3) := by decide +kernel
theorem d_M_change_29 : decode b_M_change 29 = .ok (.iload_n 2, 1) := by decide +kernel
theorem d_M_change_30 : decode b_M_change 30 = .ok (.laload, 1) := by decide +kernel
theorem d_M_change_31 : decode b_M_change 31 = .ok (.lconst 0, 1) := by decide +kernel
theorem d_M_change_32 : decode b_M_change 32 = .ok (.lcmp, 1) := by decide +kernel
theorem d_M_change_33 : decode b_M_change 33 = .ok (.ifCond .lt 7, 3) := by decide +kernel
theorem d_M_change_36 : decode b_M_change 36 = .ok (.iconst 1, 1) := by decide +kernel
theorem d_M_change_37 : decode b_M_change 37 = .ok (.goto 4, 3) := by decide +kernel
theorem d_M_change_40 : decode b_M_change 40 = .ok (.iconst 0, 1) := by decide +kernel
theorem d_M_change_41 : decode b_M_change 41 = .ok (.istore_n 1, 1) := by decide +kernel
theorem d_M_change_42 : decode b_M_change 42 = .ok (.iinc 2 1, 3) := by decide +kernel
theorem d_M_change_45 : decode b_M_change 45 = .ok (.goto (-41), 3) := by decide +kernel
theorem d_M_change_48 : decode b_M_change 48 = .ok (.iload_n 1, 1) := by decide +kernel
theorem d_M_change_49 : decode b_M_change 49 = .ok (.ifCond .ne 6, 3) := by decide +kernel
theorem d_M_change_52 : decode b_M_change 52 = .ok (.bipush (-3), 2) := by decide +kernel
theorem d_M_change_54 : decode b_M_change 54 = .ok (.ireturn, 1) := by decide +kernel
theorem d_M_change_55 : decode b_M_change 55 = .ok (.iconst 1, 1) := by decide +kernel
theorem d_M_change_56 : decode b_M_change 56 = .ok (.aload_n 0, 1) := by decide +kernel
theorem d_M_change_57 : decode b_M_change 57 = .ok (.getfield 73, 3) := by decide +kernel
theorem d_M_change_60 : decode b_M_change 60 = .ok (.isub, 1) := by decide +kernel
theorem d_M_change_61 : decode b_M_change 61 = .ok (.istore_n 2, 1) := by decide +kernel
theorem d_M_change_62 : decode b_M_change 62 = .ok (.aload_n 0, 1) := by decide +kernel
theorem d_M_change_63 : decode b_M_change 63 = .ok (.getfield 13, 3) := by decide +kernel
theorem d_M_change_66 : decode b_M_change 66 = .ok (.iconst 1, 1) := by decide +kernel
theorem d_M_change_67 : decode b_M_change 67 = .ok (.iadd, 1) := by decide +kernel
theorem d_M_change_68 : decode b_M_change 68 = .ok (.istore_n 3, 1) := by decide +kernel
theorem d_M_change_69 : decode b_M_change 69 = .ok (.iconst 0, 1) := by decide +kernel
theorem d_M_change_70 : decode b_M_change 70 = .ok (.istore 4, 2) := by decide +kernel
theorem d_M_change_72 : decode b_M_change 72 = .ok (.iload 4, 2) := by decide +kernel
theorem d_M_change_74 : decode b_M_change 74 = .ok (.iconst 5, 1) := by decide +kernel
theorem d_M_change_75 : decode b_M_change 75 = .ok (.if_icmp .ge 26, 3) := by decide +kernel
theorem d_M_change_78 : decode b_M_change 78 = .ok (.aload_n 0, 1) := by decide +kernel
theorem d_M_change_79 : decode b_M_change 79 = .ok (.bipush 51, 2) := by decide +kernel
theorem d_M_change_81 : decode b_M_change 81 = .ok (.iload_n 2, 1) := by decide +kernel
theorem d_M_change_82 : decode b_M_change 82 = .ok (.imul, 1) := by decide +kernel
theorem d_M_change_83 : decode b_M_change 83 = .ok (.bipush 34, 2) := by decide +kernel
theorem d_M_change_85 : decode b_M_change 85 = .ok (.iadd, 1) := by decide +kernel
theorem d_M_change_86 : decode b_M_change 86 = .ok (.iconst 4, 1) := by decide +kernel
theorem d_M_change_87 : decode b_M_change 87 = .ok (.iload 4, 2) := by decide +kernel
theorem d_M_change_89 : decode b_M_change 89 = .ok (.imul, 1) := by decide +kernel
theorem d_M_change_90 : decode b_M_change 90 = .ok (.iadd, 1) := by decide +kernel
theorem d_M_change_91 : decode b_M_change 91 = .ok (.iconst 0, 1) := by decide +kernel
theorem d_M_change_92 : decode b_M_change 92 = .ok (.invokevirtual 116, 3) := by decide +kernel
theorem d_M_change_95 : decode b_M_change 95 = .ok (.iinc 4 1, 3) := by decide +kernel
theorem d_M_change_98 : decode b_M_change 98 = .ok (.goto (-26), 3) := by decide +kernel
theorem d_M_change_101 : decode b_M_change 101 = .ok (.iconst 0, 1) := by decide +kernel
theorem d_M_change_102 : decode b_M_change 102 = .ok (.istore 4, 2) := by decide +kernel
theorem d_M_change_104 : decode b_M_change 104 = .ok (.iload 4, 2) := by decide +kernel
theorem d_M_change_106 : decode b_M_change 106 = .ok (.bipush 8, 2) := by decide +kernel
theorem d_M_change_108 : decode b_M_change 108 = .ok (.if_icmp .ge 69, 3) := by decide +kernel
theorem d_M_change_111 : decode b_M_change 111 = .ok (.bipush 51, 2) := by decide +kernel
theorem d_M_change_113 : decode b_M_change 113 = .ok (.iload_n 2, 1) := by decide +kernel
theorem d_M_change_114 : decode b_M_change 114 = .ok (.imul, 1) := by decide +kernel
theorem d_M_change_115 : decode b_M_change 115 = .ok (.iconst 2, 1) := by decide +kernel
theorem d_M_change_116 : decode b_M_change 116 = .ok (.iload 4, 2) := by decide +kernel
theorem d_M_change_118 : decode b_M_change 118 = .ok (.imul, 1) := by decide +kernel
theorem d_M_change_119 : decode b_M_change 119 = .ok (.iadd, 1) := by decide +kernel
theorem d_M_change_120 : decode b_M_change 120 = .ok (.istore 5, 2) := by decide +kernel
theorem d_M_change_122 : decode b_M_change 122 = .ok (.aload_n 0, 1) := by decide +kernel
theorem d_M_change_123 : decode b_M_change 123 = .ok (.iload 5, 2) := by decide +kernel
theorem d_M_change_125 : decode b_M_change 125 = .ok (.aload_n 0, 1) := by decide +kernel
theorem d_M_change_126 : decode b_M_change 126 = .ok (.getfield 27, 3) := by decide +kernel
theorem d_M_change_129 : decode b_M_change 129 = .ok (.iload 4, 2) := by decide +kernel
theorem d_M_change_131 : decode b_M_change 131 = .ok (.laload, 1) := by decide +kernel
theorem d_M_change_132 : decode b_M_change 132 = .ok (.bipush 32, 2) := by decide +kernel
theorem d_M_change_134 : decode b_M_change 134 = .ok (.lshr, 1) := by decide +kernel
theorem d_M_change_135 : decode b_M_change 135 = .ok (.l2i, 1) := by decide +kernel
theorem d_M_change_136 : decode b_M_change 136 = .ok (.iload_n 3, 1) := by decide +kernel
theorem d_M_change_137 : decode b_M_change 137 = .ok (.iload 5, 2) := by decide +kernel
theorem d_M_change_139 : decode b_M_change 139 = .ok (.invokestatic 33, 3) := by decide +kernel
theorem d_M_change_142 : decode b_M_change 142 = .ok (.ixor, 1) := by decide +kernel
theorem d_M_change_143 : decode b_M_change 143 = .ok (.invokevirtual 116, 3) := by decide +kernel
theorem d_M_change_146 : decode b_M_change 146 = .ok (.aload_n 0, 1) := by decide +kernel
theorem d_M_change_147 : decode b_M_change 147 = .ok (.iload 5, 2) := by decide +kernel
theorem d_M_change_149 : decode b_M_change 149 = .ok (.iconst 1, 1) := by decide +kernel
theorem d_M_change_150 : decode b_M_change 150 = .ok (.iadd, 1) := by decide +kernel
theorem d_M_change_151 : decode b_M_change 151 = .ok (.aload_n 0, 1) := by decide +kernel
theorem d_M_change_152 : decode b_M_change 152 = .ok (.getfield 27, 3) := by decide +kernel
theorem d_M_change_155 : decode b_M_change 155 = .ok (.iload 4, 2) := by decide +kernel
theorem d_M_change_157 : decode b_M_change 157 = .ok (.laload, 1) := by decide +kernel
theorem d_M_change_158 : decode b_M_change 158 = .ok (.l2i, 1) := by decide +kernel
theorem d_M_change_159 : decode b_M_change 159 = .ok (.iload_n 3, 1) := by decide +kernel
theorem d_M_change_160 : decode b_M_change 160 = .ok (.iload 5, 2) := by decide +kernel
theorem d_M_change_162 : decode b_M_change 162 = .ok (.iconst 1, 1) := by decide +kernel
theorem d_M_change_163 : decode b_M_change 163 = .ok (.iadd, 1) := by decide +kernel
theorem d_M_change_164 : decode b_M_change 164 = .ok (.invokestatic 33, 3) := by decide +kernel
theorem d_M_change_167 : decode b_M_change 167 = .ok (.ixor, 1) := by decide +kernel
theorem d_M_change_168 : decode b_M_change 168 = .ok (.invokevirtual 116, 3) := by decide +kernel
theorem d_M_change_171 : decode b_M_change 171 = .ok (.iinc 4 1, 3) := by decide +kernel
theorem d_M_change_174 : decode b_M_change 174 = .ok (.goto (-70), 3) := by decide +kernel
theorem d_M_change_177 : decode b_M_change 177 = .ok (.aload_n 0, 1) := by decide +kernel
theorem d_M_change_178 : decode b_M_change 178 = .ok (.iload_n 2, 1) := by decide +kernel
theorem d_M_change_179 : decode b_M_change 179 = .ok (.iload_n 3, 1) := by decide +kernel
theorem d_M_change_180 : decode b_M_change 180 = .ok (.invokevirtual 37, 3) := by decide +kernel
theorem d_M_change_183 : decode b_M_change 183 = .ok (.bipush 15, 2) := by decide +kernel
theorem d_M_change_185 : decode b_M_change 185 = .ok (.istore 4, 2) := by decide +kernel
theorem d_M_change_187 : decode b_M_change 187 = .ok (.iload 4, 2) := by decide +kernel
theorem d_M_change_189 : decode b_M_change 189 = .ok (.ifCond .le 30, 3) := by decide +kernel
theorem d_M_change_192 : decode b_M_change 192 = .ok (.aload_n 0, 1) := by decide +kernel
theorem d_M_change_193 : decode b_M_change 193 = .ok (.bipush 51, 2) := by decide +kernel
theorem d_M_change_195 : decode b_M_change 195 = .ok (.iload_n 2, 1) := by decide +kernel
theorem d_M_change_196 : decode b_M_change 196 = .ok (.imul, 1) := by decide +kernel
theorem d_M_change_197 : decode b_M_change 197 = .ok (.bipush 15, 2) := by decide +kernel
theorem d_M_change_199 : decode b_M_change 199 = .ok (.iadd, 1) := by decide +kernel
theorem d_M_change_200 : decode b_M_change 200 = .ok (.iload 4, 2) := by decide +kernel
theorem d_M_change_202 : decode b_M_change 202 = .ok (.iadd, 1) := by decide +kernel
theorem d_M_change_203 : decode b_M_change 203 = .ok (.aload_n 0, 1) := by decide +kernel
theorem d_M_change_204 : decode b_M_change 204 = .ok (.getfield 30, 3) := by decide +kernel
theorem d_M_change_207 : decode b_M_change 207 = .ok (.iload 4, 2) := by decide +kernel
theorem d_M_change_209 : decode b_M_change 209 = .ok (.iaload, 1) := by decide +kernel
theorem d_M_change_210 : decode b_M_change 210 = .ok (.invokevirtual 116, 3) := by decide +kernel
theorem d_M_change_213 : decode b_M_change 213 = .ok (.iinc 4 (-1), 3) := by decide +kernel
theorem d_M_change_216 : decode b_M_change 216 = .ok (.goto (-29), 3) := by decide +kernel
theorem d_M_change_219 : decode b_M_change 219 = .ok (.aload_n 0, 1) := by decide +kernel
theorem d_M_change_220 : decode b_M_change 220 = .ok (.iload_n 2, 1) := by decide +kernel
theorem d_M_change_221 : decode b_M_change 221 = .ok (.iload_n 3, 1) := by decide +kernel
theorem d_M_change_222 : decode b_M_change 222 = .ok (.aload_n 0, 1) := by decide +kernel
theorem d_M_change_223 : decode b_M_change 223 = .ok (.getfield 30, 3) := by decide +kernel
theorem d_M_change_226 : decode b_M_change 226 = .ok (.iconst 1, 1) := by decide +kernel
theorem d_M_change_227 : decode b_M_change 227 = .ok (.iaload, 1) := by decide +kernel
theorem d_M_change_228 : decode b_M_change 228 = .ok (.iconst 0, 1) := by decide +kernel
theorem d_M_change_229 : decode b_M_change 229 = .ok (.invokevirtual 119, 3) := by decide +kernel
theorem d_M_change_232 : decode b_M_change 232 = .ok (.aload_n 0, 1) := by decide +kernel
theorem d_M_change_233 : decode b_M_change 233 = .ok (.iconst 0, 1) := by decide +kernel
theorem d_M_change_234 : decode b_M_change 234 = .ok (.putfield 63, 3) := by decide +kernel
theorem d_M_change_237 : decode b_M_change 237 = .ok (.aload_n 0, 1) := by decide +kernel
theorem d_M_change_238 : decode b_M_change 238 = .ok (.aload_n 0, 1) := by decide +kernel
theorem d_M_change_239 : decode b_M_change 239 = .ok (.iconst 0, 1) := by decide +kernel
theorem d_M_change_240 : decode b_M_change 240 = .ok (.invokevirtual 90, 3) := by decide +kernel
theorem d_M_change_243 : decode b_M_change 243 = .ok (.putfield 101, 3) := by decide +kernel
theorem d_M_change_246 : decode b_M_change 246 = .ok (.aload_n 0, 1) := by decide +kernel
theorem d_M_change_247 : decode b_M_change 247 = .ok (.getfield 56, 3) := by decide +kernel
theorem d_M_change_250 : decode b_M_change 250 = .ok (.ifCond .eq 8, 3) := by decide +kernel
theorem d_M_change_253 : decode b_M_change 253 = .ok (.bipush (-4), 2) := by decide +kernel
theorem d_M_change_255 : decode b_M_change 255 = .ok (.goto 4, 3) := by decide +kernel
theorem d_M_change_258 : decode b_M_change 258 = .ok (.iconst 0, 1) := by decide +kernel
theorem d_M_change_259 : decode b_M_change 259 = .ok (.ireturn, 1) := by decide +kernel
theorem d_M_checkpoint_0 : decode b_M_checkpoint 0 = .ok (.aload_n 0, 1) := by decide +kernel
theorem d_M_checkpoint_1 : decode b_M_checkpoint 1 = .ok (.getfield 60, 3) := by decide +kernel
theorem d_M_checkpoint_4 : decode b_M_checkpoint 4 = .ok (.ifCond .ne 5, 3) := by decide +kernel
theorem d_M_checkpoint_7 : decode b_M_checkpoint 7 = .ok (.iconst (-1), 1) := by decide +kernel
theorem d_M_checkpoint_8 : decode b_M_checkpoint 8 = .ok (.ireturn, 1) := by decide +kernel
theorem d_M_checkpoint_9 : decode b_M_checkpoint 9 = .ok (.aload_n 0, 1) := by decide +kernel
theorem d_M_checkpoint_10 : decode b_M_checkpoint 10 = .ok (.iconst 0, 1) := by decide +kernel
theorem d_M_checkpoint_11 : decode b_M_checkpoint 11 = .ok (.putfield 56, 3) := by decide +kernel
theorem d_M_checkpoint_14 : decode b_M_checkpoint 14 = .ok (.aload_n 0, 1) := by decide +kernel
theorem d_M_checkpoint_15 : decode b_M_checkpoint 15 = .ok (.invokevirtual 123, 3) := by decide +kernel
theorem d_M_checkpoint_18 : decode b_M_checkpoint 18 = .ok (.istore_n 1, 1) := by decide +kernel
theorem d_M_checkpoint_19 : decode b_M_checkpoint 19 = .ok (.iload_n 1, 1) := by decide +kernel
theorem d_M_checkpoint_20 : decode b_M_checkpoint 20 = .ok (.ifCond .ge 7, 3) := by decide +kernel
theorem d_M_checkpoint_23 : decode b_M_checkpoint 23 = .ok (.iload_n 1, 1) := by decide +kernel
theorem d_M_checkpoint_24 : decode b_M_checkpoint 24 = .ok (.goto 7, 3) := by decide +kernel
theorem d_M_checkpoint_27 : decode b_M_checkpoint 27 = .ok (.aload_n 0, 1) := by decide +kernel
theorem d_M_checkpoint_28 : decode b_M_checkpoint 28 = .ok (.getfield 13, 3) := by decide +kernel
theorem d_M_checkpoint_31 : decode b_M_checkpoint 31 = .ok (.ireturn, 1) := by decide +kernel
theorem d_M_write_0 : decode b_M_write 0 = .ok (.aload_n 0, 1) := by decide +kernel
theorem d_M_write_1 : decode b_M_write 1 = .ok (.getfield 60, 3) := by decide +kernel
theorem d_M_write_4 : decode b_M_write 4 = .ok (.ifCond .ne 5, 3) := by decide +kernel
theorem d_M_write_7 : decode b_M_write 7 = .ok (.iconst (-1), 1) := by decide +kernel
theorem d_M_write_8 : decode b_M_write 8 = .ok (.ireturn, 1) := by decide +kernel
theorem d_M_write_9 : decode b_M_write 9 = .ok (.iload_n 1, 1) := by decide +kernel
theorem d_M_write_10 : decode b_M_write 10 = .ok (.ifCond .lt 15, 3) := by decide +kernel
theorem d_M_write_13 : decode b_M_write 13 = .ok (.iload_n 1, 1) := by decide +kernel
theorem d_M_write_14 : decode b_M_write 14 = .ok (.bipush 7, 2) := by decide +kernel
theorem d_M_write_16 : decode b_M_write 16 = .ok (.if_icmp .gt 9, 3) := by decide +kernel
theorem d_M_write_19 : decode b_M_write 19 = .ok (.lload_n 2, 1) := by decide +kernel
theorem d_M_write_20 : decode b_M_write 20 = .ok (.lconst 0, 1) := by decide +kernel
theorem d_M_write_21 : decode b_M_write 21 = .ok (.lcmp, 1) := by decide +kernel
theorem d_M_write_22 : decode b_M_write 22 = .ok (.ifCond .ge 6, 3) := by decide +kernel
theorem d_M_write_25 : decode b_M_write 25 = .ok (.bipush (-2), 2) := by decide +kernel
theorem d_M_write_27 : decode b_M_write 27 = .ok (.ireturn, 1) := by decide +kernel
theorem d_M_write_28 : decode b_M_write 28 = .ok (.aload_n 0, 1) := by decide +kernel
theorem d_M_write_29 : decode b_M_write 29 = .ok (.iconst 0, 1) := by decide +kernel
theorem d_M_write_30 : decode b_M_write 30 = .ok (.putfield 56, 3) := by decide +kernel
theorem d_M_write_33 : decode b_M_write 33 = .ok (.aload_n 0, 1) := by decide +kernel
theorem d_M_write_34 : decode b_M_write 34 = .ok (.getfield 63, 3) := by decide +kernel
theorem d_M_write_37 : decode b_M_write 37 = .ok (.iconst 5, 1) := by decide +kernel
theorem d_M_write_38 : decode b_M_write 38 = .ok (.if_icmp .ne 10, 3) := by decide +kernel
theorem d_M_write_41 : decode b_M_write 41 = .ok (.aload_n 0, 1) := by decide +kernel
theorem d_M_write_42 : decode b_M_write 42 = .ok (.invokevirtual 123, 3) := by decide +kernel
theorem d_M_write_45 : decode b_M_write 45 = .ok (.goto 4, 3) := by decide +kernel
theorem d_M_write_48 : decode b_M_write 48 = .ok (.iconst 0, 1) := by decide +kernel
theorem d_M_write_49 : decode b_M_write 49 = .ok (.istore 4, 2) := by decide +kernel
theorem d_M_write_51 : decode b_M_write 51 = .ok (.iload 4, 2) := by decide +kernel
theorem d_M_write_53 : decode b_M_write 53 = .ok (.ifCond .ge 6, 3) := by decide +kernel
theorem d_M_write_56 : decode b_M_write 56 = .ok (.iload 4, 2) := by decide +kernel
theorem d_M_write_58 : decode b_M_write 58 = .ok (.ireturn, 1) := by decide +kernel
theorem d_M_write_59 : decode b_M_write 59 = .ok (.aload_n 0, 1) := by decide +kernel
theorem d_M_write_60 : decode b_M_write 60 = .ok (.getfield 63, 3) := by decide +kernel
theorem d_M_write_63 : decode b_M_write 63 = .ok (.istore 5, 2) := by decide +kernel
theorem d_M_write_65 : decode b_M_write 65 = .ok (.aload_n 0, 1) := by decide +kernel
theorem d_M_write_66 : decode b_M_write 66 = .ok (.iload 5, 2) := by decide +kernel
theorem d_M_write_68 : decode b_M_write 68 = .ok (.invokevirtual 79, 3) := by decide +kernel
theorem d_M_write_71 : decode b_M_write 71 = .ok (.istore 6, 2) := by decide +kernel
theorem d_M_write_73 : decode b_M_write 73 = .ok (.iload_n 1, 1) := by decide +kernel
theorem d_M_write_74 : decode b_M_write 74 = .ok (.aload_n 0, 1) := by decide +kernel
theorem d_M_write_75 : decode b_M_write 75 = .ok (.getfield 13, 3) := by decide +kernel
theorem d_M_write_78 : decode b_M_write 78 = .ok (.iload 6, 2) := by decide +kernel
theorem d_M_write_80 : decode b_M_write 80 = .ok (.invokestatic 33, 3) := by decide +kernel
theorem d_M_write_83 : decode b_M_write 83 = .ok (.ixor, 1) := by decide +kernel
theorem d_M_write_84 : decode b_M_write 84 = .ok (.istore 7, 2) := by decide +kernel
theorem d_M_write_86 : decode b_M_write 86 = .ok (.lload_n 2, 1) := by decide +kernel
theorem d_M_write_87 : decode b_M_write 87 = .ok (.bipush 32, 2) := by decide +kernel
theorem d_M_write_89 : decode b_M_write 89 = .ok (.lshr, 1) := by decide +kernel
theorem d_M_write_90 : decode b_M_write 90 = .ok (.l2i, 1) := by decide +kernel
theorem d_M_write_91 : decode b_M_write 91 = .ok (.aload_n 0, 1) := by decide +kernel
theorem d_M_write_92 : decode b_M_write 92 = .ok (.getfield 13, 3) := by decide +kernel
theorem d_M_write_95 : decode b_M_write 95 = .ok (.iload 6, 2) := by decide +kernel
theorem d_M_write_97 : decode b_M_write 97 = .ok (.iconst 1, 1) := by decide +kernel
theorem d_M_write_98 : decode b_M_write 98 = .ok (.iadd, 1) := by decide +kernel
theorem d_M_write_99 : decode b_M_write 99 = .ok (.invokestatic 33, 3) := by decide +kernel
theorem d_M_write_102 : decode b_M_write 102 = .ok (.ixor, 1) := by decide +kernel
theorem d_M_write_103 : decode b_M_write 103 = .ok (.istore 8, 2) := by decide +kernel
theorem d_M_write_105 : decode b_M_write 105 = .ok (.lload_n 2, 1) := by decide +kernel
theorem d_M_write_106 : decode b_M_write 106 = .ok (.l2i, 1) := by decide +kernel
theorem d_M_write_107 : decode b_M_write 107 = .ok (.aload_n 0, 1) := by decide +kernel
theorem d_M_write_108 : decode b_M_write 108 = .ok (.getfield 13, 3) := by decide +kernel
theorem d_M_write_111 : decode b_M_write 111 = .ok (.iload 6, 2) := by decide +kernel
theorem d_M_write_113 : decode b_M_write 113 = .ok (.iconst 2, 1) := by decide +kernel
theorem d_M_write_114 : decode b_M_write 114 = .ok (.iadd, 1) := by decide +kernel
theorem d_M_write_115 : decode b_M_write 115 = .ok (.invokestatic 33, 3) := by decide +kernel
theorem d_M_write_118 : decode b_M_write 118 = .ok (.ixor, 1) := by decide +kernel
theorem d_M_write_119 : decode b_M_write 119 = .ok (.istore 9, 2) := by decide +kernel
theorem d_M_write_121 : decode b_M_write 121 = .ok (.aload_n 0, 1) := by decide +kernel
theorem d_M_write_122 : decode b_M_write 122 = .ok (.getfield 101, 3) := by decide +kernel
theorem d_M_write_125 : decode b_M_write 125 = .ok (.iload 7, 2) := by decide +kernel
theorem d_M_write_127 : decode b_M_write 127 = .ok (.invokestatic 47, 3) := by decide +kernel
theorem d_M_write_130 : decode b_M_write 130 = .ok (.istore 10, 2) := by decide +kernel
theorem d_M_write_132 : decode b_M_write 132 = .ok (.iload 10, 2) := by decide +kernel
theorem d_M_write_134 : decode b_M_write 134 = .ok (.iload 8, 2) := by decide +kernel
theorem d_M_write_136 : decode b_M_write 136 = .ok (.invokestatic 47, 3) := by decide +kernel
theorem d_M_write_139 : decode b_M_write 139 = .ok (.istore 10, 2) := by decide +kernel
theorem d_M_write_141 : decode b_M_write 141 = .ok (.iload 10, 2) := by decide +kernel
theorem d_M_write_143 : decode b_M_write 143 = .ok (.iload 9, 2) := by decide +kernel
theorem d_M_write_145 : decode b_M_write 145 = .ok (.invokestatic 47, 3) := by decide +kernel
theorem d_M_write_148 : decode b_M_write 148 = .ok (.istore 10, 2) := by decide +kernel
theorem d_M_write_150 : decode b_M_write 150 = .ok (.aload_n 0, 1) := by decide +kernel
theorem d_M_write_151 : decode b_M_write 151 = .ok (.iload 6, 2) := by decide +kernel
theorem d_M_write_153 : decode b_M_write 153 = .ok (.iload 7, 2) := by decide +kernel
theorem d_M_write_155 : decode b_M_write 155 = .ok (.invokevirtual 116, 3) := by decide +kernel
theorem d_M_write_158 : decode b_M_write 158 = .ok (.aload_n 0, 1) := by decide +kernel
theorem d_M_write_159 : decode b_M_write 159 = .ok (.iload 6, 2) := by decide +kernel
theorem d_M_write_161 : decode b_M_write 161 = .ok (.iconst 1, 1) := by decide +kernel
theorem d_M_write_162 : decode b_M_write 162 = .ok (.iadd, 1) := by decide +kernel
theorem d_M_write_163 : decode b_M_write 163 = .ok (.iload 8, 2) := by decide +kernel
theorem d_M_write_165 : decode b_M_write 165 = .ok (.invokevirtual 116, 3) := by decide +kernel
theorem d_M_write_168 : decode b_M_write 168 = .ok (.aload_n 0, 1) := by decide +kernel
theorem d_M_write_169 : decode b_M_write 169 = .ok (.iload 6, 2) := by decide +kernel
theorem d_M_write_171 : decode b_M_write 171 = .ok (.iconst 2, 1) := by decide +kernel
theorem d_M_write_172 : decode b_M_write 172 = .ok (.iadd, 1) := by decide +kernel
theorem d_M_write_173 : decode b_M_write 173 = .ok (.iload 9, 2) := by decide +kernel
theorem d_M_write_175 : decode b_M_write 175 = .ok (.invokevirtual 116, 3) := by decide +kernel
theorem d_M_write_178 : decode b_M_write 178 = .ok (.aload_n 0, 1) := by decide +kernel
theorem d_M_write_179 : decode b_M_write 179 = .ok (.iload 6, 2) := by decide +kernel
theorem d_M_write_181 : decode b_M_write 181 = .ok (.iconst 3, 1) := by decide +kernel
theorem d_M_write_182 : decode b_M_write 182 = .ok (.iadd, 1) := by decide +kernel
theorem d_M_write_183 : decode b_M_write 183 = .ok (.iload 10, 2) := by decide +kernel
theorem d_M_write_185 : decode b_M_write 185 = .ok (.iconst 1, 1) := by decide +kernel
theorem d_M_write_186 : decode b_M_write 186 = .ok (.ior, 1) := by decide +kernel
theorem d_M_write_187 : decode b_M_write 187 = .ok (.invokevirtual 116, 3) := by decide +kernel
theorem d_M_write_190 : decode b_M_write 190 = .ok (.aload_n 0, 1) := by decide +kernel
theorem d_M_write_191 : decode b_M_write 191 = .ok (.getfield 56, 3) := by decide +kernel
theorem d_M_write_194 : decode b_M_write 194 = .ok (.ifCond .eq 6, 3) := by decide +kernel
theorem d_M_write_197 : decode b_M_write 197 = .ok (.bipush (-4), 2) := by decide +kernel
theorem d_M_write_199 : decode b_M_write 199 = .ok (.ireturn, 1) := by decide +kernel
theorem d_M_write_200 : decode b_M_write 200 = .ok (.aload_n 0, 1) := by decide +kernel
theorem d_M_write_201 : decode b_M_write 201 = .ok (.iload 10, 2) := by decide +kernel
theorem d_M_write_203 : decode b_M_write 203 = .ok (.putfield 101, 3) := by decide +kernel
theorem d_M_write_206 : decode b_M_write 206 = .ok (.aload_n 0, 1) := by decide +kernel
theorem d_M_write_207 : decode b_M_write 207 = .ok (.getfield 20, 3) := by decide +kernel
theorem d_M_write_210 : decode b_M_write 210 = .ok (.iload 5, 2) := by decide +kernel
theorem d_M_write_212 : decode b_M_write 212 = .ok (.iload_n 1, 1) := by decide +kernel
theorem d_M_write_213 : decode b_M_write 213 = .ok (.iastore, 1) := by decide +kernel
theorem d_M_write_214 : decode b_M_write 214 = .ok (.aload_n 0, 1) := by decide +kernel
theorem d_M_write_215 : decode b_M_write 215 = .ok (.getfield 23, 3) := by decide +kernel
theorem d_M_write_218 : decode b_M_write 218 = .ok (.iload 5, 2) := by decide +kernel
theorem d_M_write_220 : decode b_M_write 220 = .ok (.lload_n 2, 1) := by decide +kernel
theorem d_M_write_221 : decode b_M_write 221 = .ok (.lastore, 1) := by decide +kernel
theorem d_M_write_222 : decode b_M_write 222 = .ok (.aload_n 0, 1) := by decide +kernel
theorem d_M_write_223 : decode b_M_write 223 = .ok (.iload 5, 2) := by decide +kernel
theorem d_M_write_225 : decode b_M_write 225 = .ok (.iconst 1, 1) := by decide +kernel
theorem d_M_write_226 : decode b_M_write 226 = .ok (.iadd, 1) := by decide +kernel
theorem d_M_write_227 : decode b_M_write 227 = .ok (.putfield 63, 3) := by decide +kernel
theorem d_M_write_230 : decode b_M_write 230 = .ok (.aload_n 0, 1) := by decide +kernel
theorem d_M_write_231 : decode b_M_write 231 = .ok (.getfield 63, 3) := by decide +kernel
theorem d_M_write_234 : decode b_M_write 234 = .ok (.ireturn, 1) := by decide +kernel
theorem d_M_sync_0 : decode b_M_sync 0 = .ok (.aload_n 0, 1) := by decide +kernel
theorem d_M_sync_1 : decode b_M_sync 1 = .ok (.getfield 60, 3) := by decide +kernel
theorem d_M_sync_4 : decode b_M_sync 4 = .ok (.ifCond .ne 5, 3) := by decide +kernel
theorem d_M_sync_7 : decode b_M_sync 7 = .ok (.iconst (-1), 1) := by decide +kernel
theorem d_M_sync_8 : decode b_M_sync 8 = .ok (.ireturn, 1) := by decide +kernel
theorem d_M_sync_9 : decode b_M_sync 9 = .ok (.aload_n 0, 1) := by decide +kernel
theorem d_M_sync_10 : decode b_M_sync 10 = .ok (.iconst 0, 1) := by decide +kernel
theorem d_M_sync_11 : decode b_M_sync 11 = .ok (.putfield 56, 3) := by decide +kernel
theorem d_M_sync_14 : decode b_M_sync 14 = .ok (.aload_n 0, 1) := by decide +kernel
theorem d_M_sync_15 : decode b_M_sync 15 = .ok (.getfield 63, 3) := by decide +kernel
theorem d_M_sync_18 : decode b_M_sync 18 = .ok (.istore_n 1, 1) := by decide +kernel
theorem d_M_sync_19 : decode b_M_sync 19 = .ok (.aload_n 0, 1) := by decide +kernel
theorem d_M_sync_20 : decode b_M_sync 20 = .ok (.aload_n 0, 1) := by decide +kernel
theorem d_M_sync_21 : decode b_M_sync 21 = .ok (.getfield 73, 3) := by decide +kernel
theorem d_M_sync_24 : decode b_M_sync 24 = .ok (.aload_n 0, 1) := by decide +kernel
theorem d_M_sync_25 : decode b_M_sync 25 = .ok (.getfield 13, 3) := by decide +kernel
theorem d_M_sync_28 : decode b_M_sync 28 = .ok (.aload_n 0, 1) := by decide +kernel
theorem d_M_sync_29 : decode b_M_sync 29 = .ok (.getfield 41, 3) := by decide +kernel
theorem d_M_sync_32 : decode b_M_sync 32 = .ok (.iload_n 1, 1) := by decide +kernel
theorem d_M_sync_33 : decode b_M_sync 33 = .ok (.invokevirtual 119, 3) := by decide +kernel
theorem d_M_sync_36 : decode b_M_sync 36 = .ok (.aload_n 0, 1) := by decide +kernel
theorem d_M_sync_37 : decode b_M_sync 37 = .ok (.getfield 56, 3) := by decide +kernel
theorem d_M_sync_40 : decode b_M_sync 40 = .ok (.ifCond .eq 8, 3) := by decide +kernel
theorem d_M_sync_43 : decode b_M_sync 43 = .ok (.bipush (-4), 2) := by decide +kernel
theorem d_M_sync_45 : decode b_M_sync 45 = .ok (.goto 4, 3) := by decide +kernel
theorem d_M_sync_48 : decode b_M_sync 48 = .ok (.iload_n 1, 1) := by decide +kernel
theorem d_M_sync_49 : decode b_M_sync 49 = .ok (.ireturn, 1) := by decide +kernel
theorem d_M_place_0 : decode b_M_place 0 = .ok (.iload_n 0, 1) := by decide +kernel
theorem d_M_place_1 : decode b_M_place 1 = .ok (.ifCond .lt 13, 3) := by decide +kernel
theorem d_M_place_4 : decode b_M_place 4 = .ok (.iload_n 0, 1) := by decide +kernel
theorem d_M_place_5 : decode b_M_place 5 = .ok (.bipush 101, 2) := by decide +kernel
theorem d_M_place_7 : decode b_M_place 7 = .ok (.if_icmp .gt 7, 3) := by decide +kernel
theorem d_M_place_10 : decode b_M_place 10 = .ok (.iconst 1, 1) := by decide +kernel
theorem d_M_place_11 : decode b_M_place 11 = .ok (.goto 4, 3) := by decide +kernel
theorem d_M_place_14 : decode b_M_place 14 = .ok (.iconst 0, 1) := by decide +kernel
theorem d_M_place_15 : decode b_M_place 15 = .ok (.ireturn, 1) := by decide +kernel
theorem d_M_alter_0 : decode b_M_alter 0 = .ok (.iload_n 1, 1) := by decide +kernel
theorem d_M_alter_1 : decode b_M_alter 1 = .ok (.invokestatic 127, 3) := by decide +kernel
theorem d_M_alter_4 : decode b_M_alter 4 = .ok (.ifCond .ne 5, 3) := by decide +kernel
theorem d_M_alter_7 : decode b_M_alter 7 = .ok (.iconst 0, 1) := by decide +kernel
theorem d_M_alter_8 : decode b_M_alter 8 = .ok (.ireturn, 1) := by decide +kernel
theorem d_M_alter_9 : decode b_M_alter 9 = .ok (.aload_n 0, 1) := by decide +kernel
theorem d_M_alter_10 : decode b_M_alter 10 = .ok (.getfield 7, 3) := by decide +kernel
theorem d_M_alter_13 : decode b_M_alter 13 = .ok (.iload_n 1, 1) := by decide +kernel
theorem d_M_alter_14 : decode b_M_alter 14 = .ok (.aload_n 0, 1) := by decide +kernel
theorem d_M_alter_15 : decode b_M_alter 15 = .ok (.getfield 7, 3) := by decide +kernel
theorem d_M_alter_18 : decode b_M_alter 18 = .ok (.iload_n 1, 1) := by decide +kernel
theorem d_M_alter_19 : decode b_M_alter 19 = .ok (.iaload, 1) := by decide +kernel
theorem d_M_alter_20 : decode b_M_alter 20 = .ok (.iload_n 2, 1) := by decide +kernel
theorem d_M_alter_21 : decode b_M_alter 21 = .ok (.ixor, 1) := by decide +kernel
theorem d_M_alter_22 : decode b_M_alter 22 = .ok (.iastore, 1) := by decide +kernel
theorem d_M_alter_23 : decode b_M_alter 23 = .ok (.iconst 1, 1) := by decide +kernel
theorem d_M_alter_24 : decode b_M_alter 24 = .ok (.ireturn, 1) := by decide +kernel
theorem d_M_peek_0 : decode b_M_peek 0 = .ok (.iload_n 1, 1) := by decide +kernel
theorem d_M_peek_1 : decode b_M_peek 1 = .ok (.invokestatic 127, 3) := by decide +kernel
theorem d_M_peek_4 : decode b_M_peek 4 = .ok (.ifCond .eq 12, 3) := by decide +kernel
theorem d_M_peek_7 : decode b_M_peek 7 = .ok (.aload_n 0, 1) := by decide +kernel
theorem d_M_peek_8 : decode b_M_peek 8 = .ok (.getfield 7, 3) := by decide +kernel
theorem d_M_peek_11 : decode b_M_peek 11 = .ok (.iload_n 1, 1) := by decide +kernel
theorem d_M_peek_12 : decode b_M_peek 12 = .ok (.iaload, 1) := by decide +kernel
theorem d_M_peek_13 : decode b_M_peek 13 = .ok (.goto 4, 3) := by decide +kernel
theorem d_M_peek_16 : decode b_M_peek 16 = .ok (.iconst 0, 1) := by decide +kernel
theorem d_M_peek_17 : decode b_M_peek 17 = .ok (.ireturn, 1) := by decide +kernel
theorem d_M_seal_0 : decode b_M_seal 0 = .ok (.iload_n 1, 1) := by decide +kernel
theorem d_M_seal_1 : decode b_M_seal 1 = .ok (.ifCond .ne 10, 3) := by decide +kernel
theorem d_M_seal_4 : decode b_M_seal 4 = .ok (.aload_n 0, 1) := by decide +kernel
theorem d_M_seal_5 : decode b_M_seal 5 = .ok (.getfield 73, 3) := by decide +kernel
theorem d_M_seal_8 : decode b_M_seal 8 = .ok (.goto 40, 3) := by decide +kernel
theorem d_M_seal_11 : decode b_M_seal 11 = .ok (.iload_n 1, 1) := by decide +kernel
theorem d_M_seal_12 : decode b_M_seal 12 = .ok (.iconst 1, 1) := by decide +kernel
theorem d_M_seal_13 : decode b_M_seal 13 = .ok (.if_icmp .ne 10, 3) := by decide +kernel
theorem d_M_seal_16 : decode b_M_seal 16 = .ok (.aload_n 0, 1) := by decide +kernel
theorem d_M_seal_17 : decode b_M_seal 17 = .ok (.getfield 13, 3) := by decide +kernel
theorem d_M_seal_20 : decode b_M_seal 20 = .ok (.goto 28, 3) := by decide +kernel
theorem d_M_seal_23 : decode b_M_seal 23 = .ok (.iload_n 1, 1) := by decide +kernel
theorem d_M_seal_24 : decode b_M_seal 24 = .ok (.iconst 2, 1) := by decide +kernel
theorem d_M_seal_25 : decode b_M_seal 25 = .ok (.if_icmp .ne 10, 3) := by decide +kernel
theorem d_M_seal_28 : decode b_M_seal 28 = .ok (.aload_n 0, 1) := by decide +kernel
theorem d_M_seal_29 : decode b_M_seal 29 = .ok (.getfield 41, 3) := by decide +kernel
theorem d_M_seal_32 : decode b_M_seal 32 = .ok (.goto 16, 3) := by decide +kernel
theorem d_M_seal_35 : decode b_M_seal 35 = .ok (.iload_n 1, 1) := by decide +kernel
theorem d_M_seal_36 : decode b_M_seal 36 = .ok (.iconst 3, 1) := by decide +kernel
theorem d_M_seal_37 : decode b_M_seal 37 = .ok (.if_icmp .ne 10, 3) := by decide +kernel
theorem d_M_seal_40 : decode b_M_seal 40 = .ok (.aload_n 0, 1) := by decide +kernel
theorem d_M_seal_41 : decode b_M_seal 41 = .ok (.getfield 76, 3) := by decide +kernel
theorem d_M_seal_44 : decode b_M_seal 44 = .ok (.goto 4, 3) := by decide +kernel
theorem d_M_seal_47 : decode b_M_seal 47 = .ok (.iconst 0, 1) := by decide +kernel
theorem d_M_seal_48 : decode b_M_seal 48 = .ok (.ireturn, 1) := by decide +kernel
theorem d_M_writes_0 : decode b_M_writes 0 = .ok (.aload_n 0, 1) := by decide +kernel
theorem d_M_writes_1 : decode b_M_writes 1 = .ok (.getfield 60, 3) := by decide +kernel
theorem d_M_writes_4 : decode b_M_writes 4 = .ok (.ifCond .eq 10, 3) := by decide +kernel
theorem d_M_writes_7 : decode b_M_writes 7 = .ok (.aload_n 0, 1) := by decide +kernel
theorem d_M_writes_8 : decode b_M_writes 8 = .ok (.getfield 63, 3) := by decide +kernel
theorem d_M_writes_11 : decode b_M_writes 11 = .ok (.goto 4, 3) := by decide +kernel
theorem d_M_writes_14 : decode b_M_writes 14 = .ok (.iconst (-1), 1) := by decide +kernel
theorem d_M_writes_15 : decode b_M_writes 15 = .ok (.ireturn, 1) := by decide +kernel
theorem d_M_steps_0 : decode b_M_steps 0 = .ok (.aload_n 0, 1) := by decide +kernel
theorem d_M_steps_1 : decode b_M_steps 1 = .ok (.getfield 66, 3) := by decide +kernel
theorem d_M_steps_4 : decode b_M_steps 4 = .ok (.ireturn, 1) := by decide +kernel
end
section
theorem d_law_0 : decode code 0 = .ok (.new 7, 3) := by decide +kernel
theorem d_law_3 : decode code 3 = .ok (.dup, 1) := by decide +kernel
theorem d_law_4 : decode code 4 = .ok (.invokespecial 9, 3) := by decide +kernel
theorem d_law_7 : decode code 7 = .ok (.astore_n 1, 1) := by decide +kernel
theorem d_law_8 : decode code 8 = .ok (.new 10, 3) := by decide +kernel
theorem d_law_11 : decode code 11 = .ok (.dup, 1) := by decide +kernel
theorem d_law_12 : decode code 12 = .ok (.invokespecial 12, 3) := by decide +kernel
theorem d_law_15 : decode code 15 = .ok (.astore_n 2, 1) := by decide +kernel
theorem d_law_16 : decode code 16 = .ok (.iconst 0, 1) := by decide +kernel
theorem d_law_17 : decode code 17 = .ok (.istore_n 3, 1) := by decide +kernel
theorem d_law_18 : decode code 18 = .ok (.iload_n 3, 1) := by decide +kernel
theorem d_law_19 : decode code 19 = .ok (.aload_n 0, 1) := by decide +kernel
theorem d_law_20 : decode code 20 = .ok (.arraylength, 1) := by decide +kernel
theorem d_law_21 : decode code 21 = .ok (.iconst 4, 1) := by decide +kernel
theorem d_law_22 : decode code 22 = .ok (.isub, 1) := by decide +kernel
theorem d_law_23 : decode code 23 = .ok (.if_icmp .gt 363, 3) := by decide +kernel
theorem d_law_26 : decode code 26 = .ok (.aload_n 0, 1) := by decide +kernel
theorem d_law_27 : decode code 27 = .ok (.iload_n 3, 1) := by decide +kernel
theorem d_law_28 : decode code 28 = .ok (.iaload, 1) := by decide +kernel
theorem d_law_29 : decode code 29 = .ok (.bipush 15, 2) := by decide +kernel
theorem d_law_31 : decode code 31 = .ok (.iand, 1) := by decide +kernel
theorem d_law_32 : decode code 32 = .ok (.tableswitch 348 0 12 #[68, 81, 104, 117, 180, 204, 217, 230, 263, 286, 309, 322, 335], 68) := by decide +kernel
theorem d_law_100 : decode code 100 = .ok (.aload_n 1, 1) := by decide +kernel
theorem d_law_101 : decode code 101 = .ok (.invokevirtual 13, 3) := by decide +kernel
theorem d_law_104 : decode code 104 = .ok (.aload_n 2, 1) := by decide +kernel
theorem d_law_105 : decode code 105 = .ok (.invokevirtual 17, 3) := by decide +kernel
theorem d_law_108 : decode code 108 = .ok (.if_icmp .eq 272, 3) := by decide +kernel
theorem d_law_111 : decode code 111 = .ok (.iconst 0, 1) := by decide +kernel
theorem d_law_112 : decode code 112 = .ok (.ireturn, 1) := by decide +kernel
theorem d_law_113 : decode code 113 = .ok (.aload_n 1, 1) := by decide +kernel
theorem d_law_114 : decode code 114 = .ok (.aload_n 0, 1) := by decide +kernel
theorem d_law_115 : decode code 115 = .ok (.iload_n 3, 1) := by decide +kernel
theorem d_law_116 : decode code 116 = .ok (.iconst 1, 1) := by decide +kernel
theorem d_law_117 : decode code 117 = .ok (.iadd, 1) := by decide +kernel
theorem d_law_118 : decode code 118 = .ok (.iaload, 1) := by decide +kernel
theorem d_law_119 : decode code 119 = .ok (.invokevirtual 18, 3) := by decide +kernel
theorem d_law_122 : decode code 122 = .ok (.aload_n 2, 1) := by decide +kernel
theorem d_law_123 : decode code 123 = .ok (.aload_n 0, 1) := by decide +kernel
theorem d_law_124 : decode code 124 = .ok (.iload_n 3, 1) := by decide +kernel
theorem d_law_125 : decode code 125 = .ok (.iconst 1, 1) := by decide +kernel
theorem d_law_126 : decode code 126 = .ok (.iadd, 1) := by decide +kernel
theorem d_law_127 : decode code 127 = .ok (.iaload, 1) := by decide +kernel
theorem d_law_128 : decode code 128 = .ok (.invokevirtual 22, 3) := by decide +kernel
theorem d_law_131 : decode code 131 = .ok (.if_icmp .eq 249, 3) := by decide +kernel
theorem d_law_134 : decode code 134 = .ok (.iconst 0, 1) := by decide +kernel
theorem d_law_135 : decode code 135 = .ok (.ireturn, 1) := by decide +kernel
theorem d_law_136 : decode code 136 = .ok (.aload_n 1, 1) := by decide +kernel
theorem d_law_137 : decode code 137 = .ok (.invokevirtual 23, 3) := by decide +kernel
theorem d_law_140 : decode code 140 = .ok (.aload_n 2, 1) := by decide +kernel
theorem d_law_141 : decode code 141 = .ok (.invokevirtual 27, 3) := by decide +kernel
theorem d_law_144 : decode code 144 = .ok (.if_icmp .eq 236, 3) := by decide +kernel
theorem d_law_147 : decode code 147 = .ok (.iconst 0, 1) := by decide +kernel
theorem d_law_148 : decode code 148 = .ok (.ireturn, 1) := by decide +kernel
theorem d_law_149 : decode code 149 = .ok (.aload_n 1, 1) := by decide +kernel
theorem d_law_150 : decode code 150 = .ok (.aload_n 0, 1) := by decide +kernel
theorem d_law_151 : decode code 151 = .ok (.iload_n 3, 1) := by decide +kernel
theorem d_law_152 : decode code 152 = .ok (.iconst 1, 1) := by decide +kernel
theorem d_law_153 : decode code 153 = .ok (.iadd, 1) := by decide +kernel
theorem d_law_154 : decode code 154 = .ok (.iaload, 1) := by decide +kernel
theorem d_law_155 : decode code 155 = .ok (.aload_n 0, 1) := by decide +kernel
theorem d_law_156 : decode code 156 = .ok (.iload_n 3, 1) := by decide +kernel
theorem d_law_157 : decode code 157 = .ok (.iconst 2, 1) := by decide +kernel
theorem d_law_158 : decode code 158 = .ok (.iadd, 1) := by decide +kernel
theorem d_law_159 : decode code 159 = .ok (.iaload, 1) := by decide +kernel
theorem d_law_160 : decode code 160 = .ok (.i2l, 1) := by decide +kernel
theorem d_law_161 : decode code 161 = .ok (.bipush 32, 2) := by decide +kernel
theorem d_law_163 : decode code 163 = .ok (.lshl, 1) := by decide +kernel
theorem d_law_164 : decode code 164 = .ok (.aload_n 0, 1) := by decide +kernel
theorem d_law_165 : decode code 165 = .ok (.iload_n 3, 1) := by decide +kernel
theorem d_law_166 : decode code 166 = .ok (.iconst 3, 1) := by decide +kernel
theorem d_law_167 : decode code 167 = .ok (.iadd, 1) := by decide +kernel
theorem d_law_168 : decode code 168 = .ok (.iaload, 1) := by decide +kernel
theorem d_law_169 : decode code 169 = .ok (.i2l, 1) := by decide +kernel
theorem d_law_170 : decode code 170 = .ok (.ldc2_w 28, 3) := by decide +kernel
theorem d_law_173 : decode code 173 = .ok (.land, 1) := by decide +kernel
theorem d_law_174 : decode code 174 = .ok (.lor, 1) := by decide +kernel
theorem d_law_175 : decode code 175 = .ok (.invokevirtual 30, 3) := by decide +kernel
theorem d_law_178 : decode code 178 = .ok (.aload_n 2, 1) := by decide +kernel
theorem d_law_179 : decode code 179 = .ok (.aload_n 0, 1) := by decide +kernel
theorem d_law_180 : decode code 180 = .ok (.iload_n 3, 1) := by decide +kernel
theorem d_law_181 : decode code 181 = .ok (.iconst 1, 1) := by decide +kernel
theorem d_law_182 : decode code 182 = .ok (.iadd, 1) := by decide +kernel
theorem d_law_183 : decode code 183 = .ok (.iaload, 1) := by decide +kernel
theorem d_law_184 : decode code 184 = .ok (.aload_n 0, 1) := by decide +kernel
theorem d_law_185 : decode code 185 = .ok (.iload_n 3, 1) := by decide +kernel
theorem d_law_186 : decode code 186 = .ok (.iconst 2, 1) := by decide +kernel
theorem d_law_187 : decode code 187 = .ok (.iadd, 1) := by decide +kernel
theorem d_law_188 : decode code 188 = .ok (.iaload, 1) := by decide +kernel
theorem d_law_189 : decode code 189 = .ok (.i2l, 1) := by decide +kernel
theorem d_law_190 : decode code 190 = .ok (.bipush 32, 2) := by decide +kernel
theorem d_law_192 : decode code 192 = .ok (.lshl, 1) := by decide +kernel
theorem d_law_193 : decode code 193 = .ok (.aload_n 0, 1) := by decide +kernel
theorem d_law_194 : decode code 194 = .ok (.iload_n 3, 1) := by decide +kernel
theorem d_law_195 : decode code 195 = .ok (.iconst 3, 1) := by decide +kernel
theorem d_law_196 : decode code 196 = .ok (.iadd, 1) := by decide +kernel
theorem d_law_197 : decode code 197 = .ok (.iaload, 1) := by decide +kernel
theorem d_law_198 : decode code 198 = .ok (.i2l, 1) := by decide +kernel
theorem d_law_199 : decode code 199 = .ok (.ldc2_w 28, 3) := by decide +kernel
theorem d_law_202 : decode code 202 = .ok (.land, 1) := by decide +kernel
theorem d_law_203 : decode code 203 = .ok (.lor, 1) := by decide +kernel
theorem d_law_204 : decode code 204 = .ok (.invokevirtual 34, 3) := by decide +kernel
theorem d_law_207 : decode code 207 = .ok (.if_icmp .eq 173, 3) := by decide +kernel
theorem d_law_210 : decode code 210 = .ok (.iconst 0, 1) := by decide +kernel
theorem d_law_211 : decode code 211 = .ok (.ireturn, 1) := by decide +kernel
theorem d_law_212 : decode code 212 = .ok (.aload_n 1, 1) := by decide +kernel
theorem d_law_213 : decode code 213 = .ok (.aload_n 0, 1) := by decide +kernel
theorem d_law_214 : decode code 214 = .ok (.iload_n 3, 1) := by decide +kernel
theorem d_law_215 : decode code 215 = .ok (.iconst 1, 1) := by decide +kernel
theorem d_law_216 : decode code 216 = .ok (.iadd, 1) := by decide +kernel
theorem d_law_217 : decode code 217 = .ok (.iaload, 1) := by decide +kernel
theorem d_law_218 : decode code 218 = .ok (.invokevirtual 35, 3) := by decide +kernel
theorem d_law_221 : decode code 221 = .ok (.aload_n 2, 1) := by decide +kernel
theorem d_law_222 : decode code 222 = .ok (.aload_n 0, 1) := by decide +kernel
theorem d_law_223 : decode code 223 = .ok (.iload_n 3, 1) := by decide +kernel
theorem d_law_224 : decode code 224 = .ok (.iconst 1, 1) := by decide +kernel
theorem d_law_225 : decode code 225 = .ok (.iadd, 1) := by decide +kernel
theorem d_law_226 : decode code 226 = .ok (.iaload, 1) := by decide +kernel
theorem d_law_227 : decode code 227 = .ok (.invokevirtual 39, 3) := by decide +kernel
theorem d_law_230 : decode code 230 = .ok (.lcmp, 1) := by decide +kernel
theorem d_law_231 : decode code 231 = .ok (.ifCond .eq 149, 3) := by decide +kernel
theorem d_law_234 : decode code 234 = .ok (.iconst 0, 1) := by decide +kernel
theorem d_law_235 : decode code 235 = .ok (.ireturn, 1) := by decide +kernel
theorem d_law_236 : decode code 236 = .ok (.aload_n 1, 1) := by decide +kernel
theorem d_law_237 : decode code 237 = .ok (.invokevirtual 40, 3) := by decide +kernel
theorem d_law_240 : decode code 240 = .ok (.aload_n 2, 1) := by decide +kernel
theorem d_law_241 : decode code 241 = .ok (.invokevirtual 43, 3) := by decide +kernel
theorem d_law_244 : decode code 244 = .ok (.if_icmp .eq 136, 3) := by decide +kernel
theorem d_law_247 : decode code 247 = .ok (.iconst 0, 1) := by decide +kernel
theorem d_law_248 : decode code 248 = .ok (.ireturn, 1) := by decide +kernel
theorem d_law_249 : decode code 249 = .ok (.aload_n 1, 1) := by decide +kernel
theorem d_law_250 : decode code 250 = .ok (.invokevirtual 44, 3) := by decide +kernel
theorem d_law_253 : decode code 253 = .ok (.aload_n 2, 1) := by decide +kernel
theorem d_law_254 : decode code 254 = .ok (.invokevirtual 47, 3) := by decide +kernel
theorem d_law_257 : decode code 257 = .ok (.if_icmp .eq 123, 3) := by decide +kernel
theorem d_law_260 : decode code 260 = .ok (.iconst 0, 1) := by decide +kernel
theorem d_law_261 : decode code 261 = .ok (.ireturn, 1) := by decide +kernel
theorem d_law_262 : decode code 262 = .ok (.aload_n 1, 1) := by decide +kernel
theorem d_law_263 : decode code 263 = .ok (.aload_n 0, 1) := by decide +kernel
theorem d_law_264 : decode code 264 = .ok (.iload_n 3, 1) := by decide +kernel
theorem d_law_265 : decode code 265 = .ok (.iconst 1, 1) := by decide +kernel
theorem d_law_266 : decode code 266 = .ok (.iadd, 1) := by decide +kernel
theorem d_law_267 : decode code 267 = .ok (.iaload, 1) := by decide +kernel
theorem d_law_268 : decode code 268 = .ok (.aload_n 0, 1) := by decide +kernel
theorem d_law_269 : decode code 269 = .ok (.iload_n 3, 1) := by decide +kernel
theorem d_law_270 : decode code 270 = .ok (.iconst 2, 1) := by decide +kernel
theorem d_law_271 : decode code 271 = .ok (.iadd, 1) := by decide +kernel
theorem d_law_272 : decode code 272 = .ok (.iaload, 1) := by decide +kernel
theorem d_law_273 : decode code 273 = .ok (.invokevirtual 48, 3) := by decide +kernel
theorem d_law_276 : decode code 276 = .ok (.aload_n 2, 1) := by decide +kernel
theorem d_law_277 : decode code 277 = .ok (.aload_n 0, 1) := by decide +kernel
theorem d_law_278 : decode code 278 = .ok (.iload_n 3, 1) := by decide +kernel
theorem d_law_279 : decode code 279 = .ok (.iconst 1, 1) := by decide +kernel
theorem d_law_280 : decode code 280 = .ok (.iadd, 1) := by decide +kernel
theorem d_law_281 : decode code 281 = .ok (.iaload, 1) := by decide +kernel
theorem d_law_282 : decode code 282 = .ok (.aload_n 0, 1) := by decide +kernel
theorem d_law_283 : decode code 283 = .ok (.iload_n 3, 1) := by decide +kernel
theorem d_law_284 : decode code 284 = .ok (.iconst 2, 1) := by decide +kernel
theorem d_law_285 : decode code 285 = .ok (.iadd, 1) := by decide +kernel
theorem d_law_286 : decode code 286 = .ok (.iaload, 1) := by decide +kernel
theorem d_law_287 : decode code 287 = .ok (.invokevirtual 52, 3) := by decide +kernel
theorem d_law_290 : decode code 290 = .ok (.if_icmp .eq 90, 3) := by decide +kernel
theorem d_law_293 : decode code 293 = .ok (.iconst 0, 1) := by decide +kernel
theorem d_law_294 : decode code 294 = .ok (.ireturn, 1) := by decide +kernel
theorem d_law_295 : decode code 295 = .ok (.aload_n 1, 1) := by decide +kernel
theorem d_law_296 : decode code 296 = .ok (.aload_n 0, 1) := by decide +kernel
theorem d_law_297 : decode code 297 = .ok (.iload_n 3, 1) := by decide +kernel
theorem d_law_298 : decode code 298 = .ok (.iconst 1, 1) := by decide +kernel
theorem d_law_299 : decode code 299 = .ok (.iadd, 1) := by decide +kernel
theorem d_law_300 : decode code 300 = .ok (.iaload, 1) := by decide +kernel
theorem d_law_301 : decode code 301 = .ok (.invokevirtual 53, 3) := by decide +kernel
theorem d_law_304 : decode code 304 = .ok (.aload_n 2, 1) := by decide +kernel
theorem d_law_305 : decode code 305 = .ok (.aload_n 0, 1) := by decide +kernel
theorem d_law_306 : decode code 306 = .ok (.iload_n 3, 1) := by decide +kernel
theorem d_law_307 : decode code 307 = .ok (.iconst 1, 1) := by decide +kernel
theorem d_law_308 : decode code 308 = .ok (.iadd, 1) := by decide +kernel
theorem d_law_309 : decode code 309 = .ok (.iaload, 1) := by decide +kernel
theorem d_law_310 : decode code 310 = .ok (.invokevirtual 57, 3) := by decide +kernel
theorem d_law_313 : decode code 313 = .ok (.if_icmp .eq 67, 3) := by decide +kernel
theorem d_law_316 : decode code 316 = .ok (.iconst 0, 1) := by decide +kernel
theorem d_law_317 : decode code 317 = .ok (.ireturn, 1) := by decide +kernel
theorem d_law_318 : decode code 318 = .ok (.aload_n 1, 1) := by decide +kernel
theorem d_law_319 : decode code 319 = .ok (.aload_n 0, 1) := by decide +kernel
theorem d_law_320 : decode code 320 = .ok (.iload_n 3, 1) := by decide +kernel
theorem d_law_321 : decode code 321 = .ok (.iconst 1, 1) := by decide +kernel
theorem d_law_322 : decode code 322 = .ok (.iadd, 1) := by decide +kernel
theorem d_law_323 : decode code 323 = .ok (.iaload, 1) := by decide +kernel
theorem d_law_324 : decode code 324 = .ok (.invokevirtual 58, 3) := by decide +kernel
theorem d_law_327 : decode code 327 = .ok (.aload_n 2, 1) := by decide +kernel
theorem d_law_328 : decode code 328 = .ok (.aload_n 0, 1) := by decide +kernel
theorem d_law_329 : decode code 329 = .ok (.iload_n 3, 1) := by decide +kernel
theorem d_law_330 : decode code 330 = .ok (.iconst 1, 1) := by decide +kernel
theorem d_law_331 : decode code 331 = .ok (.iadd, 1) := by decide +kernel
theorem d_law_332 : decode code 332 = .ok (.iaload, 1) := by decide +kernel
theorem d_law_333 : decode code 333 = .ok (.invokevirtual 61, 3) := by decide +kernel
theorem d_law_336 : decode code 336 = .ok (.if_icmp .eq 44, 3) := by decide +kernel
theorem d_law_339 : decode code 339 = .ok (.iconst 0, 1) := by decide +kernel
theorem d_law_340 : decode code 340 = .ok (.ireturn, 1) := by decide +kernel
theorem d_law_341 : decode code 341 = .ok (.aload_n 1, 1) := by decide +kernel
theorem d_law_342 : decode code 342 = .ok (.invokevirtual 62, 3) := by decide +kernel
theorem d_law_345 : decode code 345 = .ok (.aload_n 2, 1) := by decide +kernel
theorem d_law_346 : decode code 346 = .ok (.invokevirtual 65, 3) := by decide +kernel
theorem d_law_349 : decode code 349 = .ok (.if_icmp .eq 31, 3) := by decide +kernel
theorem d_law_352 : decode code 352 = .ok (.iconst 0, 1) := by decide +kernel
theorem d_law_353 : decode code 353 = .ok (.ireturn, 1) := by decide +kernel
theorem d_law_354 : decode code 354 = .ok (.aload_n 1, 1) := by decide +kernel
theorem d_law_355 : decode code 355 = .ok (.invokevirtual 66, 3) := by decide +kernel
theorem d_law_358 : decode code 358 = .ok (.aload_n 2, 1) := by decide +kernel
theorem d_law_359 : decode code 359 = .ok (.invokevirtual 69, 3) := by decide +kernel
theorem d_law_362 : decode code 362 = .ok (.if_icmp .eq 18, 3) := by decide +kernel
theorem d_law_365 : decode code 365 = .ok (.iconst 0, 1) := by decide +kernel
theorem d_law_366 : decode code 366 = .ok (.ireturn, 1) := by decide +kernel
theorem d_law_367 : decode code 367 = .ok (.aload_n 1, 1) := by decide +kernel
theorem d_law_368 : decode code 368 = .ok (.invokevirtual 70, 3) := by decide +kernel
theorem d_law_371 : decode code 371 = .ok (.aload_n 2, 1) := by decide +kernel
theorem d_law_372 : decode code 372 = .ok (.invokevirtual 73, 3) := by decide +kernel
theorem d_law_375 : decode code 375 = .ok (.if_icmp .eq 5, 3) := by decide +kernel
theorem d_law_378 : decode code 378 = .ok (.iconst 0, 1) := by decide +kernel
theorem d_law_379 : decode code 379 = .ok (.ireturn, 1) := by decide +kernel
theorem d_law_380 : decode code 380 = .ok (.iinc 3 4, 3) := by decide +kernel
theorem d_law_383 : decode code 383 = .ok (.goto (-365), 3) := by decide +kernel
theorem d_law_386 : decode code 386 = .ok (.iconst 1, 1) := by decide +kernel
theorem d_law_387 : decode code 387 = .ok (.ireturn, 1) := by decide +kernel
end
section
theorem nx_xor (a b : Nat) : nI a ^^^ nI b = nI (a ^^^ b) := by
  apply Int32.toBitVec_inj.1
  show BitVec.ofNat 32 a ^^^ BitVec.ofNat 32 b = BitVec.ofNat 32 (a ^^^ b)
  apply BitVec.eq_of_getLsbD_eq
  intro i hi
  simp [hi]
/-! My own short rows over the kit's: numbers as nI, arrays at nI, calls over one whole world. -/
theorem z_inc (a k : Nat) : nI a + Int32.ofInt (k : Int) = nI (a + k) := by
  have h : Int32.ofInt (k : Int) = nI k := rfl
  rw [h, nI_add]
theorem z_dec (a : Nat) : nI (a + 1) + Int32.ofInt (-1) = nI a := pk_m1 a
section ZB
variable {p : Program} {l : Launch} {e : Env} {R : Room} {s : State} {m : MethodId} {args : Array Value} {below : List Frame} {meth : Method} {c : Code} {H : Heap} {locs : List Loc} {cells slots : Nat} {Q : State → Prop}
variable {cc : ByteArray} {pc : Nat} {ls : Array Slot} {rest st0 : List Value} {D : va_G} {cl : List vw_C} {A : Nat → Prop} {a : Nat} {tys : List (ClassId × FieldType)} {ws wc : va_W} {H0 : Heap} {av : Array Value}
theorem z_top {x y : Int32} (h : x = y) (k : W p l e R s m args below meth c H locs cells slots Q (F0 m pc ls (.int y :: rest))) : W p l e R s m args below meth c H locs cells slots Q (F0 m pc ls (.int x :: rest)) := by
  rw [h]; exact k
theorem z_topl {x y : Int64} (h : x = y) (k : W p l e R s m args below meth c H locs cells slots Q (F0 m pc ls (.long y :: rest))) : W p l e R s m args below meth c H locs cells slots Q (F0 m pc ls (.long x :: rest)) := by
  rw [h]; exact k
theorem z_iald (hexec : p.tables.exec = Jvm.exec) (hb : c.code = cc) (hK : va_K D cl tys s) (hP : va_P D cl ws H) (q0 t0 : Nat) {cA : ClassId} {n : Nat} {f : Nat → Int32} (ha : ws[q0]? = some (a, .inl (cA, n, .inl f))) (ht : tys[t0]? = some (cA, .int)) {j : Nat} (hj : j < n) (hn : n < 2 ^ 31) (hdg : decode cc pc = .ok (.iaload, 1))
    (kk : W p l e R s m args below meth c H locs cells slots Q (F0 m (pc + 1) ls (.int (f j) :: rest))) : W p l e R s m args below meth c H locs cells slots Q (F0 m pc ls (.int (nI j) :: .ref a :: rest)) := by
  refine va_iald hexec hb hK hP q0 t0 ha ht (vp_in_nI hj hn) hdg ?_
  rw [nI_clamp (Nat.lt_trans hj hn)]
  exact kk
theorem z_lald (hexec : p.tables.exec = Jvm.exec) (hb : c.code = cc) (hK : va_K D cl tys s) (hP : va_P D cl ws H) (q0 t0 : Nat) {cA : ClassId} {n : Nat} {f : Nat → Int64} (ha : ws[q0]? = some (a, .inl (cA, n, .inr (.inl f)))) (ht : tys[t0]? = some (cA, .long)) {j : Nat} (hj : j < n) (hn : n < 2 ^ 31) (hdg : decode cc pc = .ok (.laload, 1))
    (kk : W p l e R s m args below meth c H locs cells slots Q (F0 m (pc + 1) ls (.long (f j) :: rest))) : W p l e R s m args below meth c H locs cells slots Q (F0 m pc ls (.int (nI j) :: .ref a :: rest)) := by
  refine va_lald hexec hb hK hP q0 t0 ha ht (vp_in_nI hj hn) hdg ?_
  rw [nI_clamp (Nat.lt_trans hj hn)]
  exact kk
theorem z_iast (hexec : p.tables.exec = Jvm.exec) (hb : c.code = cc) (hK : va_K D cl tys s) (hP : va_P D cl ws H) (hD : va_D A ws) (hS : va_S A H0 H locs) (q0 t0 : Nat) {cA : ClassId} {n : Nat} {f : Nat → Int32} (ha : ws[q0]? = some (a, .inl (cA, n, .inl f))) (ht : tys[t0]? = some (cA, .int)) {j : Nat} {x : Int32} (hj : j < n) (hn : n < 2 ^ 31) (hdg : decode cc pc = .ok (.iastore, 1))
    (kk : ∀ (H1 : Heap) (locs1 : List Loc), va_P D cl (ws.set q0 (a, .inl (cA, n, .inl (upd f j x)))) H1 → va_D A (ws.set q0 (a, .inl (cA, n, .inl (upd f j x)))) → va_S A H0 H1 locs1 → W p l e R s m args below meth c H1 locs1 cells slots Q (F0 m (pc + 1) ls rest)) : W p l e R s m args below meth c H locs cells slots Q (F0 m pc ls (.int x :: .int (nI j) :: .ref a :: rest)) := by
  refine va_iast hexec hb hK hP hD hS q0 t0 ha ht (vp_in_nI hj hn) hdg ?_
  rw [nI_clamp (Nat.lt_trans hj hn)]
  exact kk
theorem z_last (hexec : p.tables.exec = Jvm.exec) (hb : c.code = cc) (hK : va_K D cl tys s) (hP : va_P D cl ws H) (hD : va_D A ws) (hS : va_S A H0 H locs) (q0 t0 : Nat) {cA : ClassId} {n : Nat} {f : Nat → Int64} (ha : ws[q0]? = some (a, .inl (cA, n, .inr (.inl f)))) (ht : tys[t0]? = some (cA, .long)) {j : Nat} {x : Int64} (hj : j < n) (hn : n < 2 ^ 31) (hdg : decode cc pc = .ok (.lastore, 1))
    (kk : ∀ (H1 : Heap) (locs1 : List Loc), va_P D cl (ws.set q0 (a, .inl (cA, n, .inr (.inl (vp_updL f j x))))) H1 → va_D A (ws.set q0 (a, .inl (cA, n, .inr (.inl (vp_updL f j x))))) → va_S A H0 H1 locs1 → W p l e R s m args below meth c H1 locs1 cells slots Q (F0 m (pc + 1) ls rest)) : W p l e R s m args below meth c H locs cells slots Q (F0 m pc ls (.long x :: .int (nI j) :: .ref a :: rest)) := by
  refine va_last hexec hb hK hP hD hS q0 t0 ha ht (vp_in_nI hj hn) hdg ?_
  rw [nI_clamp (Nat.lt_trans hj hn)]
  exact kk
/-- a callee's start: the heap of that size holds the whole world ws -/
def z_pre (D : va_G) (cl : List vw_C) (tys : List (ClassId × FieldType)) (ws : va_W) (sz : Nat) : State → Prop := fun U => U.heap.size = sz ∧ va_P D cl ws U.heap ∧ va_K D cl tys U ∧ va_D (fun _ => True) ws
/-- a callee's end: the world w, in A -/
def z_at (D : va_G) (cl : List vw_C) (tys : List (ClassId × FieldType)) (A : Nat → Prop) (w : va_W) : State → Prop := fun t => va_P D cl w t.heap ∧ va_K D cl tys t ∧ va_D A w
theorem z_preS {As : List Value} (hP : va_P D cl ws H) (hK : va_K D cl tys s) (hD : va_D A ws) : PreS s H (va_Pc As (z_pre D cl tys ws H.size)) As :=
  ⟨fun a U g mk q => by obtain ⟨q0, q1, qP, qK, qD⟩ := q; exact ⟨q0, q1, qP, va_K.moved (u := U) (U := U.calling g mk a) (Vm.Alike.refl U.vm) qK, qD⟩, fun U hU hW => ⟨rfl, by rw [hU], by rw [hU]; exact hP, va_K.moved hW.alike hK, hD.weaken (fun _ _ _ _ => trivial)⟩⟩
theorem z_preV {As : List Value} {b : Addr} {C : String} (hc : ∃ cellB : Cell, H[b]? = some cellB ∧ cellB.vm.isStatics = false ∧ s.vm.findClass C = some cellB.cls) (hP : va_P D cl ws H) (hK : va_K D cl tys s) (hD : va_D A ws) : PreV s H C b (va_Pc (.ref b :: As) (z_pre D cl tys ws H.size)) As :=
  ⟨fun a U g mk q => by obtain ⟨q0, q1, qP, qK, qD⟩ := q; exact ⟨q0, q1, qP, va_K.moved (u := U) (U := U.calling g mk a) (Vm.Alike.refl U.vm) qK, qD⟩, hc, fun U hU hW => ⟨rfl, by rw [hU], by rw [hU]; exact hP, va_K.moved hW.alike hK, hD.weaken (fun _ _ _ _ => trivial)⟩⟩
theorem z_free (hS : va_S A H0 H locs) (hD : va_D A wc) (hA : ∀ q, H0.size ≤ q → A q) : ∀ q, va_A wc H.size q → A q := by
  intro q h
  rcases h with ⟨k, e, h⟩ | h
  · exact hD.2 k (q, e) h
  · exact hA q (Nat.le_trans hS.1 h)
theorem z_calli {S : Type} {post : Int32 → S → Prop} {f : S → va_W} (hr : va_Run p l e R s m args below meth c H locs cells slots 0 0 (F0 m pc ls st0) rest (va_Qi post (fun u => z_at D cl tys (va_A wc H.size) (f u)) (va_A wc H.size) av) (va_A wc H.size)) (hS : va_S A H0 H locs) (hD : va_D A wc) (hA : ∀ q, H0.size ≤ q → A q)
    (kk : ∀ (r : Int32) (u : S) (H1 : Heap) (locs1 : List Loc), post r u → va_P D cl (f u) H1 → va_D A (f u) → va_S A H0 H1 locs1 → W p l e R s m args below meth c H1 locs1 cells slots Q (F0 m (pc + 3) ls (.int r :: rest))) : W p l e R s m args below meth c H locs cells slots Q (F0 m pc ls st0) := by
  have hF := z_free hS hD hA
  exact va_calli hr hS (fun q _ h => hF q h) hF (fun r u t H1 locs1 ht hvm hp hB hz hk hS1 => kk r u H1 locs1 hp (by rw [← ht]; exact hB.1) (hB.2.2.weaken (fun _ _ _ h => hF _ h)) hS1)
theorem z_calll {S : Type} {post : Int64 → S → Prop} {f : S → va_W} (hr : va_Run p l e R s m args below meth c H locs cells slots 0 0 (F0 m pc ls st0) rest (va_Ql post (fun u => z_at D cl tys (va_A wc H.size) (f u)) (va_A wc H.size) av) (va_A wc H.size)) (hS : va_S A H0 H locs) (hD : va_D A wc) (hA : ∀ q, H0.size ≤ q → A q)
    (kk : ∀ (r : Int64) (u : S) (H1 : Heap) (locs1 : List Loc), post r u → va_P D cl (f u) H1 → va_D A (f u) → va_S A H0 H1 locs1 → W p l e R s m args below meth c H1 locs1 cells slots Q (F0 m (pc + 3) ls (.long r :: rest))) : W p l e R s m args below meth c H locs cells slots Q (F0 m pc ls st0) := by
  have hF := z_free hS hD hA
  exact va_calll hr hS (fun q _ h => hF q h) hF (fun r u t H1 locs1 ht hvm hp hB hz hk hS1 => kk r u H1 locs1 hp (by rw [← ht]; exact hB.1) (hB.2.2.weaken (fun _ _ _ h => hF _ h)) hS1)
theorem z_callv {S : Type} {post : S → Prop} {f : S → va_W} (hr : va_Run p l e R s m args below meth c H locs cells slots 0 0 (F0 m pc ls st0) rest (va_Qv post (fun u => z_at D cl tys (va_A wc H.size) (f u)) (va_A wc H.size) av) (va_A wc H.size)) (hS : va_S A H0 H locs) (hD : va_D A wc) (hA : ∀ q, H0.size ≤ q → A q)
    (kk : ∀ (u : S) (H1 : Heap) (locs1 : List Loc), post u → va_P D cl (f u) H1 → va_D A (f u) → va_S A H0 H1 locs1 → W p l e R s m args below meth c H1 locs1 cells slots Q (F0 m (pc + 3) ls rest)) : W p l e R s m args below meth c H locs cells slots Q (F0 m pc ls st0) := by
  have hF := z_free hS hD hA
  exact va_callv hr hS (fun q _ h => hF q h) hF (fun u t H1 locs1 ht hvm hp hB hz hk hS1 => kk u H1 locs1 hp (by rw [← ht]; exact hB.1) (hB.2.2.weaken (fun _ _ _ h => hF _ h)) hS1)
end ZB
/-- words: what is in a list that is good in itself is good in any longer one -/
theorem z_good {big ws wg : List Cond} (h : GoodIn wg wg) (hb : ∀ w ∈ wg, w ∈ big) (hs : ∀ w ∈ ws, w ∈ wg) : GoodIn big ws := fun w hw => ⟨hb w (h w (hs w hw)).1, (h w (hs w hw)).2⟩
end
section
/-! The class's pure words: the state is a tuple
(disk, half, generation, root, count, stepsLeft, stepsMade, on, listSize, listSectors, listValues, chain). -/
def dg0 (a b : Int32) : Int32 :=
  (((a + 668265263) ^^^ ((b <<< ((9 : Int32) &&& 31)) ||| (b.toUInt32 >>> ((23 : Int32).toUInt32 &&& Int32.toUInt32 31)).toInt32)) * (-1640531527)) ^^^
  ((((a + 668265263) ^^^ ((b <<< ((9 : Int32) &&& 31)) ||| (b.toUInt32 >>> ((23 : Int32).toUInt32 &&& Int32.toUInt32 31)).toInt32)) * (-1640531527)).toUInt32 >>> ((15 : Int32).toUInt32 &&& Int32.toUInt32 31)).toInt32
/-- the digest, closed: its formula is looked at in dg_eq alone -/
theorem dg_ex : ∃ f : Int32 → Int32 → Int32, f = dg0 := ⟨dg0, rfl⟩
noncomputable def dg : Int32 → Int32 → Int32 := Classical.choose dg_ex
theorem dg_eq : dg = dg0 := Classical.choose_spec dg_ex
noncomputable def enc (w p g : Int32) : Int32 := w ^^^ dg (dg 19088743 g) p
noncomputable def hiW (v : Int64) : Int32 := (v.toUInt64 >>> ((32 : Int32).toInt64.toUInt64 &&& Int64.toUInt64 63)).toInt64.toInt32
noncomputable def loW (v : Int64) : Int32 := v.toInt32
noncomputable def joinW (a b : Int32) : Int64 := (a.toInt64 <<< ((32 : Int32).toInt64 &&& 63)) ||| (b.toInt64 &&& 4294967295)
def bI (b : Bool) : Int32 := cond b 1 0
/-- isSector, isPlace -/
def isIn (N x : Int32) : Int32 := if x < 0 then 0 else if N ≤ x then 0 else 1
noncomputable def due (d : Nat → Int32) (h k : Nat) (g : Int32) : Int32 :=
  if 8 ≤ k then dg (dg (8 * g + nI (k - 8)) (d (51 * h + 2 * (k - 8)))) (d (51 * h + 2 * (k - 8) + 1))
  else dg (d (51 * h + 15 + 2 * k)) (d (51 * h + 15 + (2 * k + 1)))
noncomputable def vat (d : Nat → Int32) (g : Int32) (p : Nat) : Int64 := joinW (enc (d p) (nI p) g) (enc (d (p + 1)) (nI (p + 1)) g)
noncomputable def rup (d : Nat → Int32) (h : Nat) : Nat → Nat → Int32 → Int32
  | 0, _, x => x
  | f + 1, k, x => if k ≤ 1 then x else rup d h f (k / 2) (if k % 2 = 0 then dg x (d (51 * h + 15 + (k ^^^ 1))) else dg (d (51 * h + 15 + (k ^^^ 1))) x)
noncomputable def rabove (d : Nat → Int32) (h : Nat) (g : Int32) (s : Nat) : Int32 := rup d h 16 (8 + s) (due d h (8 + s) g)
noncomputable def lkp (ls : Nat → Int32) (lv : Nat → Int64) (s : Int32) : Nat → Option Int64
  | 0 => none
  | i + 1 => if ls i = s then some (lv i) else lkp ls lv s i
noncomputable def vlook (d : Nat → Int32) (h : Nat) (g rt : Int32) (s : Nat) : Int64 :=
  if rabove d h g s = rt then (if 0 ≤ lg_cmp (vat d g (51 * h + 2 * s)) 0 then vat d g (51 * h + 2 * s) else -3) else -3
noncomputable def vof (d : Nat → Int32) (h : Nat) (g rt : Int32) (n : Nat) (ls : Nat → Int32) (lv : Nat → Int64) (s : Nat) : Int64 :=
  match lkp ls lv (nI s) n with
  | some v => v
  | none => vlook d h g rt s
/-- the sum of the sound sectors from k on -/
noncomputable def sndF (f : Nat → Int64) : Nat → Nat → Int32 → Int32
  | 0, _, acc => acc
  | j + 1, k, acc => sndF f j (k + 1) (if lg_cmp (f k) 0 < 0 then acc else acc + ((1 : Int32) <<< (nI k &&& 31)))
/-- the chain behind the record at p -/
noncomputable def chn (ch : Int32) (d : Nat → Int32) (p : Nat) : Int32 := dg (dg (dg ch (d p)) (d (p + 1))) (d (p + 2))
/-- the journal: record k is good behind the chain ch -/
abbrev jgood (d : Nat → Int32) (h : Nat) (g ch : Int32) (k : Nat) : Prop :=
  d (51 * h + 31 + 4 * k + 3) = (chn ch d (51 * h + 31 + 4 * k) ||| 1) ∧ ¬ isIn 8 (enc (d (51 * h + 31 + 4 * k)) (nI (51 * h + 31 + 4 * k)) g) = 0 ∧ 0 ≤ lg_cmp (vat d g (51 * h + 31 + 4 * k + 1)) 0
noncomputable def tj (d : Nat → Int32) (h : Nat) (g : Int32) : Nat → Nat → (Nat → Int32) → (Nat → Int64) → Int32 → Nat × (Nat → Int32) × (Nat → Int64) × Int32
  | 0, k, lq, vq, ch => (k, lq, vq, ch)
  | j + 1, k, lq, vq, ch => if jgood d h g ch k then tj d h g j (k + 1) (upd lq k (enc (d (51 * h + 31 + 4 * k)) (nI (51 * h + 31 + 4 * k)) g)) (vp_updL vq k (vat d g (51 * h + 31 + 4 * k + 1))) (chn ch d (51 * h + 31 + 4 * k)) else (k, lq, vq, ch)
theorem tj_le (d : Nat → Int32) (h : Nat) (g : Int32) : ∀ (j k : Nat) (lq : Nat → Int32) (vq : Nat → Int64) (ch : Int32), (tj d h g j k lq vq ch).1 ≤ k + j := by
  intro j
  induction j with
  | zero => intro k lq vq ch; simp [tj]
  | succ j ih =>
    intro k lq vq ch
    unfold tj
    split
    · have := ih (k + 1) (upd lq k (enc (d (51 * h + 31 + 4 * k)) (nI (51 * h + 31 + 4 * k)) g)) (vp_updL vq k (vat d g (51 * h + 31 + 4 * k + 1))) (chn ch d (51 * h + 31 + 4 * k))
      omega
    · simp
/-- steps: what they change is (disk, stepsLeft, stepsMade); false: cut, and nothing further happens -/
abbrev M3 : Type := (Nat → Int32) × Int32 × Int32
noncomputable def dec1 (sl : Int32) : Int32 := if 0 < sl then sl - 1 else sl
/-- one step that leaves the disk -/
noncomputable def st1 (q : Bool × M3) : Bool × M3 :=
  match q with
  | (false, r) => (false, r)
  | (true, (d, sl, sm)) => if sl = 0 then (false, (d, -1, sm)) else (true, (d, dec1 sl, sm + 1))
/-- one step that writes a word -/
noncomputable def wr1 (q : Bool × M3) (p : Nat) (w : Int32) : Bool × M3 :=
  match q with
  | (false, r) => (false, r)
  | (true, (d, sl, sm)) => if sl = 0 then (false, (d, -1, sm)) else (true, (upd d p w, dec1 sl, sm + 1))
noncomputable def wv1 (q : Bool × M3) (p : Nat) (v : Int64) (g : Int32) : Bool × M3 := wr1 (wr1 q p (enc (hiW v) (nI p) g)) (p + 1) (enc (loW v) (nI (p + 1)) g)
noncomputable def clM (h : Nat) : Nat → Nat → Bool × M3 → Bool × M3
  | 0, _, q => q
  | j + 1, k, q => clM h j (k + 1) (wr1 q (51 * h + 31 + 4 * k + 3) 0)
noncomputable def ssF (f : (Nat → Int32) → Nat → Int64) (h : Nat) (g : Int32) : Nat → Nat → Bool × M3 → Bool × M3
  | 0, _, q => q
  | j + 1, k, q => ssF f h g j (k + 1) (wv1 q (51 * h + 2 * k) (f q.2.1 k) g)
noncomputable def snF (h : Nat) (g : Int32) : Nat → Bool × M3 → Bool × M3
  | 0, q => q
  | k + 1, q => snF h g k (wr1 q (51 * h + 15 + (k + 1)) (due q.2.1 h (k + 1) g))
theorem wr1_f (r : M3) (p : Nat) (w : Int32) : wr1 (false, r) p w = (false, r) := rfl
theorem wv1_f (r : M3) (p : Nat) (v : Int64) (g : Int32) : wv1 (false, r) p v g = (false, r) := rfl
theorem clM_f (h : Nat) (r : M3) : ∀ (j k : Nat), clM h j k (false, r) = (false, r) := by
  intro j
  induction j with
  | zero => intro k; rfl
  | succ j ih => intro k; exact ih (k + 1)
theorem ssF_f (f : (Nat → Int32) → Nat → Int64) (h : Nat) (g : Int32) (r : M3) : ∀ (j k : Nat), ssF f h g j k (false, r) = (false, r) := by
  intro j
  induction j with
  | zero => intro k; rfl
  | succ j ih => intro k; exact ih (k + 1)
theorem snF_f (h : Nat) (g : Int32) (r : M3) : ∀ (k : Nat), snF h g k (false, r) = (false, r) := by
  intro k
  induction k with
  | zero => rfl
  | succ k ih => exact ih
theorem wr1_0 {d : Nat → Int32} {sl sm : Int32} {p : Nat} {w : Int32} (h : sl = 0) : wr1 (true, (d, sl, sm)) p w = (false, (d, -1, sm)) := by
  show (if sl = 0 then (false, (d, (-1 : Int32), sm)) else (true, (upd d p w, dec1 sl, sm + 1))) = _
  rw [if_pos h]
theorem wr1_1 {d : Nat → Int32} {sl sm : Int32} {p : Nat} {w : Int32} (h : ¬ sl = 0) : wr1 (true, (d, sl, sm)) p w = (true, (upd d p w, dec1 sl, sm + 1)) := by
  show (if sl = 0 then (false, (d, (-1 : Int32), sm)) else (true, (upd d p w, dec1 sl, sm + 1))) = _
  rw [if_neg h]
/-- the object's state -/
abbrev XS : Type := (Nat → Int32) × Nat × Int32 × Int32 × Int32 × Int32 × Int32 × Bool × Nat × (Nat → Int32) × (Nat → Int64) × Int32
/-- what a method of steps answers (1 or 0), and the state behind it; cut: the power is off, the list is forgotten -/
noncomputable def sPost (q : Bool × M3) (hf : Nat) (gn rt ct : Int32) (pw : Bool) (ln : Nat) (lq : Nat → Int32) (vq : Nat → Int64) (ch : Int32) (r : Int32) (u : XS) : Prop :=
  ∃ (d1 : Nat → Int32) (sl1 sm1 : Int32), (q = (true, (d1, sl1, sm1)) ∧ r = 1 ∧ u = (d1, hf, gn, rt, ct, sl1, sm1, pw, ln, lq, vq, ch)) ∨ (q = (false, (d1, sl1, sm1)) ∧ r = 0 ∧ u = (d1, hf, gn, rt, ct, sl1, sm1, false, 0, lq, vq, 0))
/-- the class's world: the object, the disk, the list's two arrays -/
abbrev Xw (h0 qd qs qv : Nat) (cI cJ : ClassId) (u : XS) : va_W :=
  match u with
  | (dk, hf, gn, rt, ct, sl, sm, pw, ln, lq, vq, ch) =>
    [(h0, .inr (0, [.ref qd, .int (nI hf), .int gn, .int rt, .int ct, .int sl, .int sm, .int (bI pw), .int (nI ln), .ref qs, .ref qv, .int ch])),
     (qd, .inl (cI, (102, .inl dk))), (qs, .inl (cI, (5, .inl lq))), (qv, .inl (cJ, (5, .inr (.inl vq))))]
theorem z_np (h k : Nat) : nI (51 * h + 16 + k) - nI 1 = nI (51 * h + 15 + k) := by
  rw [pk_sub (by omega), show 51 * h + 16 + k - 1 = 51 * h + 15 + k by omega]
theorem z_dm (i : Nat) : nI i + Int32.ofInt (-1) = nI i - 1 := by
  rw [Int32.sub_eq_add_neg]; rfl
/-- a record's four steps, with the mark that is due behind the first three -/
noncomputable def srC (q : Bool × M3) (p : Nat) (e0 : Int32) (v : Int64) (g ch : Int32) : Bool × M3 :=
  wr1 (wv1 (wr1 q p e0) (p + 1) v g) (p + 3) (chn ch (wv1 (wr1 q p e0) (p + 1) v g).2.1 p ||| 1)
/-- the steps of a checkpoint but for the last -/
noncomputable def cpC (q : Bool × M3) (f : (Nat → Int32) → Nat → Int64) (h : Nat) (g : Int32) : Bool × M3 := snF h g 15 (ssF f h g 8 0 (clM h 5 0 q))
/-- a checkpoint -/
noncomputable def mvF (u : XS) : Int32 × XS :=
  match u with
  | (dk, hf, gn, rt, ct, sl, sm, pw, ln, lq, vq, ch) =>
    if sndF (vof dk hf gn rt ln lq vq) 8 0 0 = 255 then
      match st1 (cpC (true, (dk, sl, sm)) (fun d k => vof d hf gn rt ln lq vq k) (1 - hf) (gn + 1)) with
      | (true, (d1, sl1, sm1)) => (gn + 1, (d1, 1 - hf, gn + 1, d1 (51 * (1 - hf) + 15 + 1), 0, sl1, sm1, pw, 0, lq, vq, dg (dg 19088743 (d1 (51 * (1 - hf) + 15 + 1))) (gn + 1)))
      | (false, (d1, sl1, sm1)) => (-4, (d1, hf, gn, rt, ct, sl1, sm1, false, 0, lq, vq, 0))
    else (-3, u)
/-- a record behind the list -/
noncomputable def srF (u : XS) (x : Int32) (v : Int64) : Int32 × XS :=
  match u with
  | (dk, hf, gn, rt, ct, sl, sm, pw, ln, lq, vq, ch) =>
    match srC (true, (dk, sl, sm)) (51 * hf + 31 + 4 * ln) (enc x (nI (51 * hf + 31 + 4 * ln)) gn) v gn ch with
    | (true, (d1, sl1, sm1)) => (nI (ln + 1), (d1, hf, gn, rt, ct, sl1, sm1, pw, ln + 1, upd lq ln x, vp_updL vq ln v, chn ch (wv1 (wr1 (true, (dk, sl, sm)) (51 * hf + 31 + 4 * ln) (enc x (nI (51 * hf + 31 + 4 * ln)) gn)) (51 * hf + 31 + 4 * ln + 1) v gn).2.1 (51 * hf + 31 + 4 * ln)))
    | (false, (d1, sl1, sm1)) => (-4, (d1, hf, gn, rt, ct, sl1, sm1, false, 0, lq, vq, 0))
noncomputable def wrF (u : XS) (x : Int32) (v : Int64) : Int32 × XS :=
  if u.2.2.2.2.2.2.2.1 = true then
    if isIn 8 x = 0 then (-2, u)
    else if 0 ≤ lg_cmp v 0 then
      if u.2.2.2.2.2.2.2.2.1 < 5 then srF u x v
      else if 0 ≤ (mvF u).1 then srF (mvF u).2 x v else mvF u
    else (-2, u)
  else (-1, u)
theorem isIn_of {N x : Int32} {n : Nat} (h : ¬ isIn N x = 0) (hN : N = nI n) (hn : n < 2 ^ 31) : ∃ j : Nat, j < n ∧ x = nI j := by
  unfold isIn at h
  by_cases h1 : x < 0
  · exact absurd (if_pos h1) h
  · rw [if_neg h1] at h
    by_cases h2 : N ≤ x
    · exact absurd (if_pos h2) h
    · subst hN
      rcases pk_ix x hn with h3 | h3 | h3
      · exact absurd h3 h1
      · exact absurd h3 h2
      · exact h3
theorem z_out4 {x : Int32} (h0 : ¬ x = 0) (h1 : ¬ x = 1) (h2 : ¬ x = 2) (h3 : ¬ x = 3) : x.toInt < 0 ∨ 3 < x.toInt := by
  have g0 := lv_neT (a := 0) h0 (by decide)
  have g1 := lv_neT (a := 1) h1 (by decide)
  have g2 := lv_neT (a := 2) h2 (by decide)
  have g3 := lv_neT (a := 3) h3 (by decide)
  omega
/-- the disk of a new object -/
noncomputable def ini1 : Nat → Nat → (Nat → Int32) → (Nat → Int32)
  | 0, _, d => d
  | j + 1, k, d => ini1 j (k + 1) (upd d k (enc 0 (nI k) 1))
noncomputable def ini2 : Nat → (Nat → Int32) → (Nat → Int32)
  | 0, d => d
  | k + 1, d => ini2 k (upd d (51 * 0 + 15 + (k + 1)) (due d 0 (k + 1) 1))
noncomputable def iniD : Nat → Int32 := ini2 15 (ini1 16 0 (fun _ => 0))
noncomputable def iniX : XS := (iniD, 0, 1, iniD (51 * 0 + 15 + 1), 0, -1, 0, false, 0, fun _ => 0, fun _ => 0, 0)
theorem z_nn {x : Int32} (h : ¬ x < 0) : 0 ≤ x := by
  rw [Int32.le_iff_toInt_le]; rw [Int32.lt_iff_toInt_lt] at h; omega
theorem z_nn2 {x : Int32} (h : x < 0) (q : 0 ≤ x) : False := by
  rw [Int32.le_iff_toInt_le] at q; rw [Int32.lt_iff_toInt_lt] at h; omega
theorem z_nn3 {x : Int32} (h : ¬ 0 ≤ x) : x < 0 := by
  rw [Int32.lt_iff_toInt_lt]; rw [Int32.le_iff_toInt_le] at h; omega
theorem z_nn4 {x : Int32} (h : 0 ≤ x) : ¬ x < 0 := fun q => z_nn2 q h
theorem z_le0 {x : Int32} (h : x ≤ 0) : ¬ 0 < x := by
  rw [Int32.lt_iff_toInt_lt]; rw [Int32.le_iff_toInt_le] at h; omega
theorem z_nle0 {x : Int32} (h : ¬ x ≤ 0) : 0 < x := by
  rw [Int32.lt_iff_toInt_lt]; rw [Int32.le_iff_toInt_le] at h; omega
theorem st1_0 {d : Nat → Int32} {sl sm : Int32} (h : sl = 0) : st1 (true, (d, sl, sm)) = (false, (d, -1, sm)) := by
  show (if sl = 0 then (false, (d, (-1 : Int32), sm)) else (true, (d, dec1 sl, sm + 1))) = _
  rw [if_pos h]
theorem st1_1 {d : Nat → Int32} {sl sm : Int32} (h : ¬ sl = 0) : st1 (true, (d, sl, sm)) = (true, (d, dec1 sl, sm + 1)) := by
  show (if sl = 0 then (false, (d, (-1 : Int32), sm)) else (true, (d, dec1 sl, sm + 1))) = _
  rw [if_neg h]
theorem mvF_no {dk : Nat → Int32} {hf : Nat} {gn rt ct sl sm : Int32} {pw : Bool} {ln : Nat} {lq : Nat → Int32} {vq : Nat → Int64} {ch : Int32} (h : ¬ sndF (vof dk hf gn rt ln lq vq) 8 0 0 = 255) : mvF (dk, hf, gn, rt, ct, sl, sm, pw, ln, lq, vq, ch) = (-3, (dk, hf, gn, rt, ct, sl, sm, pw, ln, lq, vq, ch)) := if_neg h
theorem mvF_ok {dk : Nat → Int32} {hf : Nat} {gn rt ct sl sm : Int32} {pw : Bool} {ln : Nat} {lq : Nat → Int32} {vq : Nat → Int64} {ch : Int32} (h : sndF (vof dk hf gn rt ln lq vq) 8 0 0 = 255) {d1 : Nat → Int32} {sl1 sm1 : Int32} (hc : st1 (cpC (true, (dk, sl, sm)) (fun d k => vof d hf gn rt ln lq vq k) (1 - hf) (gn + 1)) = (true, (d1, sl1, sm1))) : mvF (dk, hf, gn, rt, ct, sl, sm, pw, ln, lq, vq, ch) = (gn + 1, (d1, 1 - hf, gn + 1, d1 (51 * (1 - hf) + 15 + 1), 0, sl1, sm1, pw, 0, lq, vq, dg (dg 19088743 (d1 (51 * (1 - hf) + 15 + 1))) (gn + 1))) := by
  refine (if_pos h).trans ?_
  rw [hc]
theorem mvF_cut {dk : Nat → Int32} {hf : Nat} {gn rt ct sl sm : Int32} {pw : Bool} {ln : Nat} {lq : Nat → Int32} {vq : Nat → Int64} {ch : Int32} (h : sndF (vof dk hf gn rt ln lq vq) 8 0 0 = 255) {d1 : Nat → Int32} {sl1 sm1 : Int32} (hc : st1 (cpC (true, (dk, sl, sm)) (fun d k => vof d hf gn rt ln lq vq k) (1 - hf) (gn + 1)) = (false, (d1, sl1, sm1))) : mvF (dk, hf, gn, rt, ct, sl, sm, pw, ln, lq, vq, ch) = (-4, (d1, hf, gn, rt, ct, sl1, sm1, false, 0, lq, vq, 0)) := by
  refine (if_pos h).trans ?_
  rw [hc]
end
section
set_option maxHeartbeats 4000000 in
set_option maxRecDepth 100000 in
theorem c_digest (l : Launch) (a b : Int32) : Met l y_X_digest w_X_digest ({ frames := 0, cells := 0, slots := 0, locals := 0 }) (fun v _ => v = [.int a, .int b].toArray) (vp_Si (fun r => r = dg a b)) 0 0 (fun _ => False) := by
  refine Met.ofW (cc := b_X_digest) (maxL := 3) (ret := (some .int)) (by decide) rfl ?_
  intro p e s m args below meth c s₁ B hml hv
  obtain rfl := hv
  have hx := B.exec
  have hb := B.bytes
  have hr := B.returns
  have hts := fun (w : Cond) (h : w ∈ lw_U) => atoms_spec (ws := w_X_digest) B.pre w (List.mem_cons_of_mem _ h)
  have hown : s.vm.findClass R_X = some m.cls := findClass_of_methodNamed B.named
  have hlocks := B.notSynchronized
  have hl := lv_entry ([.int a, .int b]) (n := 3) (Nat.le_of_ble_eq_true rfl)
  rw [lg_entry_eq]
  generalize (lg_sl ([.int a, .int b]) ++ List.replicate (3 - (lg_sl ([.int a, .int b])).length) Slot.unset).toArray = ls at hl ⊢
  have hl : lv_has ls 3 [(0, .int a), (1, .int b)] := hl
  refine lv_iload_n hx hb d_X_digest_0 rfl (lv_at hl 0 rfl) ?_
  refine lv_ldc (v := 668265263) hx hb hown (hts _ m_50) d_X_digest_1 ?_
  refine lv_iadd hx hb d_X_digest_3 ?_
  refine lv_iload_n hx hb d_X_digest_4 rfl (lv_at hl 1 rfl) ?_
  refine lv_bipush (v := (9 : Int32)) hx hb d_X_digest_5 (by decide) ?_
  refine lv_ishl hx hb d_X_digest_7 ?_
  refine lv_iload_n hx hb d_X_digest_8 rfl (lv_at hl 1 rfl) ?_
  refine lv_bipush (v := (23 : Int32)) hx hb d_X_digest_9 (by decide) ?_
  refine lv_iushr hx hb d_X_digest_11 rfl ?_
  refine lv_ior hx hb d_X_digest_12 ?_
  refine lv_ixor hx hb d_X_digest_13 ?_
  refine lv_ldc (v := -1640531527) hx hb hown (hts _ m_51) d_X_digest_14 ?_
  refine lv_imul hx hb d_X_digest_16 ?_
  refine lv_istore_n hx hb d_X_digest_17 rfl hl (by decide) rfl (fun ls hl => ?_)
  have hl : lv_has ls 3 [(2, .int (((a + (668265263 : Int32)) ^^^ ((b <<< ((9 : Int32) &&& 31)) ||| ((b.toUInt32 >>> ((23 : Int32).toUInt32 &&& Int32.toUInt32 31)).toInt32))) * (-1640531527 : Int32))), (0, .int a), (1, .int b)] := hl
  refine lv_iload_n hx hb d_X_digest_18 rfl (lv_at hl 0 rfl) ?_
  refine lv_iload_n hx hb d_X_digest_19 rfl (lv_at hl 0 rfl) ?_
  refine lv_bipush (v := (15 : Int32)) hx hb d_X_digest_20 (by decide) ?_
  refine lv_iushr hx hb d_X_digest_22 rfl ?_
  refine lv_ixor hx hb d_X_digest_23 ?_
  exact W.iret hx hb hr (fun t ht hW => ⟨_, rfl, (by rw [dg_eq]; rfl), ht⟩) (fun q h => by cases h) d_X_digest_24
set_option maxHeartbeats 4000000 in
set_option maxRecDepth 100000 in
theorem c_encipher (l : Launch) (w0 p0 g0 : Int32) : Met l y_X_encipher w_X_encipher ({ frames := 1, cells := 0, slots := 0, locals := 22 }) (fun v _ => v = [.int w0, .int p0, .int g0].toArray) (vp_Si (fun r => r = enc w0 p0 g0)) 0 0 (fun _ => False) := by
  refine Met.ofW (cc := b_X_encipher) (maxL := 3) (ret := (some .int)) (by decide) rfl ?_
  intro p e s m args below meth c s₁ B hml hv
  obtain rfl := hv
  have hx := B.exec
  have hb := B.bytes
  have hr := B.returns
  have hts := fun (w : Cond) (h : w ∈ lw_U) => atoms_spec (ws := w_X_encipher) B.pre w (List.mem_cons_of_mem _ h)
  have hown : s.vm.findClass R_X = some m.cls := findClass_of_methodNamed B.named
  have hlocks := B.notSynchronized
  have hl := lv_entry ([.int w0, .int p0, .int g0]) (n := 3) (Nat.le_of_ble_eq_true rfl)
  rw [lg_entry_eq]
  generalize (lg_sl ([.int w0, .int p0, .int g0]) ++ List.replicate (3 - (lg_sl ([.int w0, .int p0, .int g0])).length) Slot.unset).toArray = ls at hl ⊢
  have hl : lv_has ls 3 [(0, .int w0), (1, .int p0), (2, .int g0)] := hl
  refine lv_iload_n hx hb d_X_encipher_0 rfl (lv_at hl 0 rfl) ?_
  refine lv_ldc (v := 19088743) hx hb hown (hts _ m_46) d_X_encipher_1 ?_
  refine lv_iload_n hx hb d_X_encipher_3 rfl (lv_at hl 2 rfl) ?_
  refine vp_callSi (W.runS (As := [.int (19088743 : Int32), .int g0]) (rest := [.int w0]) ⟨hx, hb, hml, hown, hts⟩ (c_digest l (19088743 : Int32) g0) (cwS 2 hts g_X_100 rfl rfl rfl (by decide +kernel) ⟨(Nat.le_of_ble_eq_true rfl), (Nat.le_of_ble_eq_true rfl)⟩) preEq rfl rfl hl.1 rfl (lv_room (Nat.le_of_ble_eq_true rfl)) d_X_encipher_4 ⟨(Nat.le_of_ble_eq_true rfl), (Nat.le_of_ble_eq_true rfl)⟩) (fun r hr0 => ?_)
  subst hr0
  refine lv_iload_n hx hb d_X_encipher_7 rfl (lv_at hl 1 rfl) ?_
  refine vp_callSi (W.runS (As := [.int (dg (19088743 : Int32) g0), .int p0]) (rest := [.int w0]) ⟨hx, hb, hml, hown, hts⟩ (c_digest l (dg (19088743 : Int32) g0) p0) (cwS 2 hts g_X_100 rfl rfl rfl (by decide +kernel) ⟨(Nat.le_of_ble_eq_true rfl), (Nat.le_of_ble_eq_true rfl)⟩) preEq rfl rfl hl.1 rfl (lv_room (Nat.le_of_ble_eq_true rfl)) d_X_encipher_8 ⟨(Nat.le_of_ble_eq_true rfl), (Nat.le_of_ble_eq_true rfl)⟩) (fun r hr0 => ?_)
  subst hr0
  refine lv_ixor hx hb d_X_encipher_11 ?_
  exact W.iret hx hb hr (fun t ht hW => ⟨_, rfl, rfl, ht⟩) (fun q h => by cases h) d_X_encipher_12
set_option maxHeartbeats 4000000 in
set_option maxRecDepth 100000 in
theorem c_upper (l : Launch) (x0 : Int64) : Met l y_X_upper w_X_upper ({ frames := 0, cells := 0, slots := 0, locals := 0 }) (fun v _ => v = [.long x0].toArray) (vp_Si (fun r => r = hiW x0)) 0 0 (fun _ => False) := by
  refine Met.ofW (cc := b_X_upper) (maxL := 2) (ret := (some .int)) (by decide) rfl ?_
  intro p e s m args below meth c s₁ B hml hv
  obtain rfl := hv
  have hx := B.exec
  have hb := B.bytes
  have hr := B.returns
  have hts := fun (w : Cond) (h : w ∈ lw_U) => atoms_spec (ws := w_X_upper) B.pre w (List.mem_cons_of_mem _ h)
  have hown : s.vm.findClass R_X = some m.cls := findClass_of_methodNamed B.named
  have hlocks := B.notSynchronized
  have hl := lv_entry ([.long x0]) (n := 2) (Nat.le_of_ble_eq_true rfl)
  rw [lg_entry_eq]
  generalize (lg_sl ([.long x0]) ++ List.replicate (2 - (lg_sl ([.long x0])).length) Slot.unset).toArray = ls at hl ⊢
  have hl : lv_has ls 2 [(0, .long x0)] := hl
  refine lv_lload_n hx hb d_X_upper_0 rfl (lv_at hl 0 rfl) ?_
  refine lv_bipush (v := (32 : Int32)) hx hb d_X_upper_1 (by decide) ?_
  refine lv_lushr hx hb d_X_upper_3 rfl ?_
  refine lv_l2i hx hb d_X_upper_4 rfl ?_
  exact W.iret hx hb hr (fun t ht hW => ⟨_, rfl, rfl, ht⟩) (fun q h => by cases h) d_X_upper_5
set_option maxHeartbeats 4000000 in
set_option maxRecDepth 100000 in
theorem c_lower (l : Launch) (x0 : Int64) : Met l y_X_lower w_X_lower ({ frames := 0, cells := 0, slots := 0, locals := 0 }) (fun v _ => v = [.long x0].toArray) (vp_Si (fun r => r = loW x0)) 0 0 (fun _ => False) := by
  refine Met.ofW (cc := b_X_lower) (maxL := 2) (ret := (some .int)) (by decide) rfl ?_
  intro p e s m args below meth c s₁ B hml hv
  obtain rfl := hv
  have hx := B.exec
  have hb := B.bytes
  have hr := B.returns
  have hts := fun (w : Cond) (h : w ∈ lw_U) => atoms_spec (ws := w_X_lower) B.pre w (List.mem_cons_of_mem _ h)
  have hown : s.vm.findClass R_X = some m.cls := findClass_of_methodNamed B.named
  have hlocks := B.notSynchronized
  have hl := lv_entry ([.long x0]) (n := 2) (Nat.le_of_ble_eq_true rfl)
  rw [lg_entry_eq]
  generalize (lg_sl ([.long x0]) ++ List.replicate (2 - (lg_sl ([.long x0])).length) Slot.unset).toArray = ls at hl ⊢
  have hl : lv_has ls 2 [(0, .long x0)] := hl
  refine lv_lload_n hx hb d_X_lower_0 rfl (lv_at hl 0 rfl) ?_
  refine lv_l2i hx hb d_X_lower_1 rfl ?_
  exact W.iret hx hb hr (fun t ht hW => ⟨_, rfl, rfl, ht⟩) (fun q h => by cases h) d_X_lower_2
set_option maxHeartbeats 4000000 in
set_option maxRecDepth 100000 in
theorem c_isSector (l : Launch) (x : Int32) : Met l y_X_isSector w_X_isSector ({ frames := 0, cells := 0, slots := 0, locals := 0 }) (fun v _ => v = [.int x].toArray) (vp_Si (fun r => r = isIn 8 x)) 0 0 (fun _ => False) := by
  refine Met.ofW (cc := b_X_isSector) (maxL := 1) (ret := (some .boolean)) (by decide) rfl ?_
  intro p e s m args below meth c s₁ B hml hv
  obtain rfl := hv
  have hx := B.exec
  have hb := B.bytes
  have hr := B.returns
  have hts := fun (w : Cond) (h : w ∈ lw_U) => atoms_spec (ws := w_X_isSector) B.pre w (List.mem_cons_of_mem _ h)
  have hown : s.vm.findClass R_X = some m.cls := findClass_of_methodNamed B.named
  have hlocks := B.notSynchronized
  have hl := lv_entry ([.int x]) (n := 1) (Nat.le_of_ble_eq_true rfl)
  rw [lg_entry_eq]
  generalize (lg_sl ([.int x]) ++ List.replicate (1 - (lg_sl ([.int x])).length) Slot.unset).toArray = ls at hl ⊢
  have hl : lv_has ls 1 [(0, .int x)] := hl
  refine lv_iload_n hx hb d_X_isSector_0 rfl (lv_at hl 0 rfl) ?_
  refine lv_if_lt (tgt := 14) hx hb d_X_isSector_1 (by decide) (fun h1 => ?_) (fun h1 => ?_)
  · refine lv_iconst (v := (0 : Int32)) hx hb d_X_isSector_14 (by decide) ?_
    exact W.zret hx hb hr rfl (fun t ht hW => ⟨_, rfl, (by simp only [isIn]; simp [*]), ht⟩) (fun q h => by cases h) d_X_isSector_15
  · refine lv_iload_n hx hb d_X_isSector_4 rfl (lv_at hl 0 rfl) ?_
    refine lv_bipush (v := (8 : Int32)) hx hb d_X_isSector_5 (by decide) ?_
    refine lv_icmp_ge (tgt := 14) hx hb d_X_isSector_7 (by decide) (fun h2 => ?_) (fun h2 => ?_)
    · refine lv_iconst (v := (0 : Int32)) hx hb d_X_isSector_14 (by decide) ?_
      exact W.zret hx hb hr rfl (fun t ht hW => ⟨_, rfl, (by simp only [isIn]; simp [*]), ht⟩) (fun q h => by cases h) d_X_isSector_15
    · refine lv_iconst (v := (1 : Int32)) hx hb d_X_isSector_10 (by decide) ?_
      refine lv_goto (tgt := 15) hx hb d_X_isSector_11 (by decide) ?_
      exact W.zret hx hb hr rfl (fun t ht hW => ⟨_, rfl, (by simp only [isIn]; simp [*]), ht⟩) (fun q h => by cases h) d_X_isSector_15
set_option maxHeartbeats 4000000 in
set_option maxRecDepth 100000 in
theorem c_isPlace (l : Launch) (x : Int32) : Met l y_X_isPlace w_X_isPlace ({ frames := 0, cells := 0, slots := 0, locals := 0 }) (fun v _ => v = [.int x].toArray) (vp_Si (fun r => r = isIn 102 x)) 0 0 (fun _ => False) := by
  refine Met.ofW (cc := b_X_isPlace) (maxL := 1) (ret := (some .boolean)) (by decide) rfl ?_
  intro p e s m args below meth c s₁ B hml hv
  obtain rfl := hv
  have hx := B.exec
  have hb := B.bytes
  have hr := B.returns
  have hts := fun (w : Cond) (h : w ∈ lw_U) => atoms_spec (ws := w_X_isPlace) B.pre w (List.mem_cons_of_mem _ h)
  have hown : s.vm.findClass R_X = some m.cls := findClass_of_methodNamed B.named
  have hlocks := B.notSynchronized
  have hl := lv_entry ([.int x]) (n := 1) (Nat.le_of_ble_eq_true rfl)
  rw [lg_entry_eq]
  generalize (lg_sl ([.int x]) ++ List.replicate (1 - (lg_sl ([.int x])).length) Slot.unset).toArray = ls at hl ⊢
  have hl : lv_has ls 1 [(0, .int x)] := hl
  refine lv_iload_n hx hb d_X_isPlace_0 rfl (lv_at hl 0 rfl) ?_
  refine lv_if_lt (tgt := 14) hx hb d_X_isPlace_1 (by decide) (fun h1 => ?_) (fun h1 => ?_)
  · refine lv_iconst (v := (0 : Int32)) hx hb d_X_isPlace_14 (by decide) ?_
    exact W.zret hx hb hr rfl (fun t ht hW => ⟨_, rfl, (by simp only [isIn]; simp [*]), ht⟩) (fun q h => by cases h) d_X_isPlace_15
  · refine lv_iload_n hx hb d_X_isPlace_4 rfl (lv_at hl 0 rfl) ?_
    refine lv_bipush (v := (102 : Int32)) hx hb d_X_isPlace_5 (by decide) ?_
    refine lv_icmp_ge (tgt := 14) hx hb d_X_isPlace_7 (by decide) (fun h2 => ?_) (fun h2 => ?_)
    · refine lv_iconst (v := (0 : Int32)) hx hb d_X_isPlace_14 (by decide) ?_
      exact W.zret hx hb hr rfl (fun t ht hW => ⟨_, rfl, (by simp only [isIn]; simp [*]), ht⟩) (fun q h => by cases h) d_X_isPlace_15
    · refine lv_iconst (v := (1 : Int32)) hx hb d_X_isPlace_10 (by decide) ?_
      refine lv_goto (tgt := 15) hx hb d_X_isPlace_11 (by decide) ?_
      exact W.zret hx hb hr rfl (fun t ht hW => ⟨_, rfl, (by simp only [isIn]; simp [*]), ht⟩) (fun q h => by cases h) d_X_isPlace_15
set_option maxHeartbeats 4000000 in
set_option maxRecDepth 100000 in
theorem c_sectorPlace (l : Launch) (h k : Nat) : Met l y_X_sectorPlace w_X_sectorPlace ({ frames := 0, cells := 0, slots := 0, locals := 0 }) (fun v _ => v = [.int (nI h), .int (nI k)].toArray) (vp_Si (fun r => r = nI (51 * h + 2 * k))) 0 0 (fun _ => False) := by
  refine Met.ofW (cc := b_X_sectorPlace) (maxL := 2) (ret := (some .int)) (by decide) rfl ?_
  intro p e s m args below meth c s₁ B hml hv
  obtain rfl := hv
  have hx := B.exec
  have hb := B.bytes
  have hr := B.returns
  have hts := fun (w : Cond) (h : w ∈ lw_U) => atoms_spec (ws := w_X_sectorPlace) B.pre w (List.mem_cons_of_mem _ h)
  have hown : s.vm.findClass R_X = some m.cls := findClass_of_methodNamed B.named
  have hlocks := B.notSynchronized
  have hl := lv_entry ([.int (nI h), .int (nI k)]) (n := 2) (Nat.le_of_ble_eq_true rfl)
  rw [lg_entry_eq]
  generalize (lg_sl ([.int (nI h), .int (nI k)]) ++ List.replicate (2 - (lg_sl ([.int (nI h), .int (nI k)])).length) Slot.unset).toArray = ls at hl ⊢
  have hl : lv_has ls 2 [(0, .int (nI h)), (1, .int (nI k))] := hl
  refine lv_bipush (v := nI 51) hx hb d_X_sectorPlace_0 (by decide) ?_
  refine lv_iload_n hx hb d_X_sectorPlace_2 rfl (lv_at hl 0 rfl) ?_
  refine lv_imul hx hb d_X_sectorPlace_3 ?_
  refine z_top (pk_mul _ _) ?_
  refine lv_iconst (v := nI 2) hx hb d_X_sectorPlace_4 (by decide) ?_
  refine lv_iload_n hx hb d_X_sectorPlace_5 rfl (lv_at hl 1 rfl) ?_
  refine lv_imul hx hb d_X_sectorPlace_6 ?_
  refine z_top (pk_mul _ _) ?_
  refine lv_iadd hx hb d_X_sectorPlace_7 ?_
  refine z_top (nI_add _ _) ?_
  exact W.iret hx hb hr (fun t ht hW => ⟨_, rfl, rfl, ht⟩) (fun q h => by cases h) d_X_sectorPlace_8
set_option maxHeartbeats 4000000 in
set_option maxRecDepth 100000 in
theorem c_nodePlace (l : Launch) (h k : Nat) : Met l y_X_nodePlace w_X_nodePlace ({ frames := 0, cells := 0, slots := 0, locals := 0 }) (fun v _ => v = [.int (nI h), .int (nI k)].toArray) (vp_Si (fun r => r = nI (51 * h + 15 + k))) 0 0 (fun _ => False) := by
  refine Met.ofW (cc := b_X_nodePlace) (maxL := 2) (ret := (some .int)) (by decide) rfl ?_
  intro p e s m args below meth c s₁ B hml hv
  obtain rfl := hv
  have hx := B.exec
  have hb := B.bytes
  have hr := B.returns
  have hts := fun (w : Cond) (h : w ∈ lw_U) => atoms_spec (ws := w_X_nodePlace) B.pre w (List.mem_cons_of_mem _ h)
  have hown : s.vm.findClass R_X = some m.cls := findClass_of_methodNamed B.named
  have hlocks := B.notSynchronized
  have hl := lv_entry ([.int (nI h), .int (nI k)]) (n := 2) (Nat.le_of_ble_eq_true rfl)
  rw [lg_entry_eq]
  generalize (lg_sl ([.int (nI h), .int (nI k)]) ++ List.replicate (2 - (lg_sl ([.int (nI h), .int (nI k)])).length) Slot.unset).toArray = ls at hl ⊢
  have hl : lv_has ls 2 [(0, .int (nI h)), (1, .int (nI k))] := hl
  refine lv_bipush (v := nI 51) hx hb d_X_nodePlace_0 (by decide) ?_
  refine lv_iload_n hx hb d_X_nodePlace_2 rfl (lv_at hl 0 rfl) ?_
  refine lv_imul hx hb d_X_nodePlace_3 ?_
  refine z_top (pk_mul _ _) ?_
  refine lv_bipush (v := nI 16) hx hb d_X_nodePlace_4 (by decide) ?_
  refine lv_iadd hx hb d_X_nodePlace_6 ?_
  refine z_top (nI_add _ _) ?_
  refine lv_iload_n hx hb d_X_nodePlace_7 rfl (lv_at hl 1 rfl) ?_
  refine lv_iadd hx hb d_X_nodePlace_8 ?_
  refine z_top (nI_add _ _) ?_
  refine lv_iconst (v := nI 1) hx hb d_X_nodePlace_9 (by decide) ?_
  refine lv_isub hx hb d_X_nodePlace_10 ?_
  refine z_top (z_np h k) ?_
  exact W.iret hx hb hr (fun t ht hW => ⟨_, rfl, rfl, ht⟩) (fun q h => by cases h) d_X_nodePlace_11
set_option maxHeartbeats 4000000 in
set_option maxRecDepth 100000 in
theorem c_recordPlace (l : Launch) (h k : Nat) : Met l y_X_recordPlace w_X_recordPlace ({ frames := 0, cells := 0, slots := 0, locals := 0 }) (fun v _ => v = [.int (nI h), .int (nI k)].toArray) (vp_Si (fun r => r = nI (51 * h + 31 + 4 * k))) 0 0 (fun _ => False) := by
  refine Met.ofW (cc := b_X_recordPlace) (maxL := 2) (ret := (some .int)) (by decide) rfl ?_
  intro p e s m args below meth c s₁ B hml hv
  obtain rfl := hv
  have hx := B.exec
  have hb := B.bytes
  have hr := B.returns
  have hts := fun (w : Cond) (h : w ∈ lw_U) => atoms_spec (ws := w_X_recordPlace) B.pre w (List.mem_cons_of_mem _ h)
  have hown : s.vm.findClass R_X = some m.cls := findClass_of_methodNamed B.named
  have hlocks := B.notSynchronized
  have hl := lv_entry ([.int (nI h), .int (nI k)]) (n := 2) (Nat.le_of_ble_eq_true rfl)
  rw [lg_entry_eq]
  generalize (lg_sl ([.int (nI h), .int (nI k)]) ++ List.replicate (2 - (lg_sl ([.int (nI h), .int (nI k)])).length) Slot.unset).toArray = ls at hl ⊢
  have hl : lv_has ls 2 [(0, .int (nI h)), (1, .int (nI k))] := hl
  refine lv_bipush (v := nI 51) hx hb d_X_recordPlace_0 (by decide) ?_
  refine lv_iload_n hx hb d_X_recordPlace_2 rfl (lv_at hl 0 rfl) ?_
  refine lv_imul hx hb d_X_recordPlace_3 ?_
  refine z_top (pk_mul _ _) ?_
  refine lv_bipush (v := nI 31) hx hb d_X_recordPlace_4 (by decide) ?_
  refine lv_iadd hx hb d_X_recordPlace_6 ?_
  refine z_top (nI_add _ _) ?_
  refine lv_iconst (v := nI 4) hx hb d_X_recordPlace_7 (by decide) ?_
  refine lv_iload_n hx hb d_X_recordPlace_8 rfl (lv_at hl 1 rfl) ?_
  refine lv_imul hx hb d_X_recordPlace_9 ?_
  refine z_top (pk_mul _ _) ?_
  refine lv_iadd hx hb d_X_recordPlace_10 ?_
  refine z_top (nI_add _ _) ?_
  exact W.iret hx hb hr (fun t ht hW => ⟨_, rfl, rfl, ht⟩) (fun q h => by cases h) d_X_recordPlace_11
set_option maxHeartbeats 4000000 in
set_option maxRecDepth 100000 in
theorem c_markOf (l : Launch) (x : Int32) : Met l y_X_markOf w_X_markOf ({ frames := 0, cells := 0, slots := 0, locals := 0 }) (fun v _ => v = [.int x].toArray) (vp_Si (fun r => r = x ||| 1)) 0 0 (fun _ => False) := by
  refine Met.ofW (cc := b_X_markOf) (maxL := 1) (ret := (some .int)) (by decide) rfl ?_
  intro p e s m args below meth c s₁ B hml hv
  obtain rfl := hv
  have hx := B.exec
  have hb := B.bytes
  have hr := B.returns
  have hts := fun (w : Cond) (h : w ∈ lw_U) => atoms_spec (ws := w_X_markOf) B.pre w (List.mem_cons_of_mem _ h)
  have hown : s.vm.findClass R_X = some m.cls := findClass_of_methodNamed B.named
  have hlocks := B.notSynchronized
  have hl := lv_entry ([.int x]) (n := 1) (Nat.le_of_ble_eq_true rfl)
  rw [lg_entry_eq]
  generalize (lg_sl ([.int x]) ++ List.replicate (1 - (lg_sl ([.int x])).length) Slot.unset).toArray = ls at hl ⊢
  have hl : lv_has ls 1 [(0, .int x)] := hl
  refine lv_iload_n hx hb d_X_markOf_0 rfl (lv_at hl 0 rfl) ?_
  refine lv_iconst (v := (1 : Int32)) hx hb d_X_markOf_1 (by decide) ?_
  refine lv_ior hx hb d_X_markOf_2 ?_
  exact W.iret hx hb hr (fun t ht hW => ⟨_, rfl, rfl, ht⟩) (fun q h => by cases h) d_X_markOf_3
end
section
set_option maxHeartbeats 4000000 in
set_option maxRecDepth 100000 in
theorem c_dueNode (l : Launch) (dC : Nat → ClassId) (dI : Nat → Nat → Nat) (h0 qd qs qv : Nat) (cI cJ : ClassId) (sz : Nat) (dk : Nat → Int32) (hf : Nat) (gn : Int32) (rt : Int32) (ct : Int32) (sl : Int32) (sm : Int32) (pw : Bool) (ln : Nat) (lq : Nat → Int32) (vq : Nat → Int64) (ch : Int32) (hh kk : Nat) (g0 : Int32) (h_h : hh < 2) (h_k : kk < 16) : Met l y_X_dueNode w_X_dueNode ({ frames := 1, cells := 0, slots := 0, locals := 22 }) (va_Pc [.ref h0, .int (nI hh), .int (nI kk), .int g0] (z_pre (dC, dI) classes [(cI, .int), (cJ, .long)] (Xw h0 qd qs qv cI cJ (dk, hf, gn, rt, ct, sl, sm, pw, ln, lq, vq, ch)) sz)) (vp_Si (fun r => r = due dk hh kk g0)) 0 0 (fun _ => False) := by
  refine Met.ofW (cc := b_X_dueNode) (maxL := 6) (ret := (some .int)) (by decide) rfl ?_
  intro p e s m args below meth c s₁ B hml hv
  obtain ⟨rfl, hsz, hP, hK, hD0⟩ := hv
  have hx := B.exec
  have hb := B.bytes
  have hr := B.returns
  have hts := fun (w : Cond) (h : w ∈ lw_U) => atoms_spec (ws := w_X_dueNode) B.pre w (List.mem_cons_of_mem _ h)
  have hown : s.vm.findClass R_X = some m.cls := findClass_of_methodNamed B.named
  have hlocks := B.notSynchronized
  subst hsz
  have hD := hD0
  have hl := lv_entry ([.ref h0, .int (nI hh), .int (nI kk), .int g0]) (n := 6) (Nat.le_of_ble_eq_true rfl)
  rw [lg_entry_eq]
  generalize (lg_sl ([.ref h0, .int (nI hh), .int (nI kk), .int g0]) ++ List.replicate (6 - (lg_sl ([.ref h0, .int (nI hh), .int (nI kk), .int g0])).length) Slot.unset).toArray = ls at hl ⊢
  have hl : lv_has ls 6 [(0, .ref h0), (1, .int (nI hh)), (2, .int (nI kk)), (3, .int g0)] := hl
  refine lv_iload_n hx hb d_X_dueNode_0 rfl (lv_at hl 2 rfl) ?_
  refine lv_bipush (v := nI 8) hx hb d_X_dueNode_1 (by decide) ?_
  refine lv_icmp_lt (tgt := 50) hx hb d_X_dueNode_3 (by decide) (fun h1 => ?_) (fun h1 => ?_)
  · have h1 : kk < 8 := (nI_ltI (by omega) (by omega)).mp h1
    refine lv_aload_n hx hb d_X_dueNode_50 rfl (lv_at hl 0 rfl) ?_
    refine va_get (D := (dC, dI)) (ci := 0) (v := .ref qd) (C := R_X) (T := F_X) (N := 12) hx hb hts lay_X hown hK hP 0 rfl rfl 0 (by decide) (hts _ m_62) (fun _ h9 => h9) rfl d_X_dueNode_51 ?_
    refine lv_iload_n hx hb d_X_dueNode_54 rfl (lv_at hl 1 rfl) ?_
    refine lv_iconst (v := nI 2) hx hb d_X_dueNode_55 (by decide) ?_
    refine lv_iload_n hx hb d_X_dueNode_56 rfl (lv_at hl 2 rfl) ?_
    refine lv_imul hx hb d_X_dueNode_57 ?_
    refine z_top (pk_mul _ _) ?_
    refine vp_callSi (W.runS (As := [.int (nI hh), .int (nI (2 * kk))]) (rest := [.ref qd]) ⟨hx, hb, hml, hown, hts⟩ (c_nodePlace l hh (2 * kk)) (cwS 2 hts g_X_31 rfl rfl rfl (by decide +kernel) ⟨(Nat.le_of_ble_eq_true rfl), (Nat.le_of_ble_eq_true rfl)⟩) preEq rfl rfl hl.1 rfl (lv_room (Nat.le_of_ble_eq_true rfl)) d_X_dueNode_58 ⟨(Nat.le_of_ble_eq_true rfl), (Nat.le_of_ble_eq_true rfl)⟩) (fun r hr0 => ?_)
    subst hr0
    refine z_iald hx hb hK hP 1 0 rfl rfl (by omega) (by decide) d_X_dueNode_61 ?_
    refine lv_aload_n hx hb d_X_dueNode_62 rfl (lv_at hl 0 rfl) ?_
    refine va_get (D := (dC, dI)) (ci := 0) (v := .ref qd) (C := R_X) (T := F_X) (N := 12) hx hb hts lay_X hown hK hP 0 rfl rfl 0 (by decide) (hts _ m_62) (fun _ h9 => h9) rfl d_X_dueNode_63 ?_
    refine lv_iload_n hx hb d_X_dueNode_66 rfl (lv_at hl 1 rfl) ?_
    refine lv_iconst (v := nI 2) hx hb d_X_dueNode_67 (by decide) ?_
    refine lv_iload_n hx hb d_X_dueNode_68 rfl (lv_at hl 2 rfl) ?_
    refine lv_imul hx hb d_X_dueNode_69 ?_
    refine z_top (pk_mul _ _) ?_
    refine lv_iconst (v := nI 1) hx hb d_X_dueNode_70 (by decide) ?_
    refine lv_iadd hx hb d_X_dueNode_71 ?_
    refine z_top (nI_add _ _) ?_
    refine vp_callSi (W.runS (As := [.int (nI hh), .int (nI ((2 * kk) + 1))]) (rest := [.ref qd, .int (dk (51 * hh + 15 + (2 * kk)))]) ⟨hx, hb, hml, hown, hts⟩ (c_nodePlace l hh ((2 * kk) + 1)) (cwS 2 hts g_X_31 rfl rfl rfl (by decide +kernel) ⟨(Nat.le_of_ble_eq_true rfl), (Nat.le_of_ble_eq_true rfl)⟩) preEq rfl rfl hl.1 rfl (lv_room (Nat.le_of_ble_eq_true rfl)) d_X_dueNode_72 ⟨(Nat.le_of_ble_eq_true rfl), (Nat.le_of_ble_eq_true rfl)⟩) (fun r hr0 => ?_)
    subst hr0
    refine z_iald hx hb hK hP 1 0 rfl rfl (by omega) (by decide) d_X_dueNode_75 ?_
    refine vp_callSi (W.runS (As := [.int (dk (51 * hh + 15 + (2 * kk))), .int (dk (51 * hh + 15 + ((2 * kk) + 1)))]) (rest := []) ⟨hx, hb, hml, hown, hts⟩ (c_digest l (dk (51 * hh + 15 + (2 * kk))) (dk (51 * hh + 15 + ((2 * kk) + 1)))) (cwS 2 hts g_X_100 rfl rfl rfl (by decide +kernel) ⟨(Nat.le_of_ble_eq_true rfl), (Nat.le_of_ble_eq_true rfl)⟩) preEq rfl rfl hl.1 rfl (lv_room (Nat.le_of_ble_eq_true rfl)) d_X_dueNode_76 ⟨(Nat.le_of_ble_eq_true rfl), (Nat.le_of_ble_eq_true rfl)⟩) (fun r hr0 => ?_)
    subst hr0
    exact W.iret hx hb hr (fun t ht hW => ⟨_, rfl, (by unfold due; rw [if_neg (by omega)]), ht⟩) (fun q h => by cases h) d_X_dueNode_79
  · have h1 : ¬ kk < 8 := fun q => h1 ((nI_ltI (by omega) (by omega)).mpr q)
    refine lv_iload_n hx hb d_X_dueNode_6 rfl (lv_at hl 2 rfl) ?_
    refine lv_bipush (v := nI 8) hx hb d_X_dueNode_7 (by decide) ?_
    refine lv_isub hx hb d_X_dueNode_9 ?_
    refine z_top (pk_sub (by omega)) ?_
    refine lv_istore hx hb d_X_dueNode_10 hl (by decide) rfl (fun ls hl => ?_)
    have hl : lv_has ls 6 [(4, .int (nI (kk - 8))), (0, .ref h0), (1, .int (nI hh)), (2, .int (nI kk)), (3, .int g0)] := hl
    refine lv_iload_n hx hb d_X_dueNode_12 rfl (lv_at hl 2 rfl) ?_
    refine lv_iload hx hb d_X_dueNode_13 (lv_at hl 0 rfl) ?_
    refine vp_callSi (W.runS (As := [.int (nI hh), .int (nI (kk - 8))]) (rest := []) ⟨hx, hb, hml, hown, hts⟩ (c_sectorPlace l hh (kk - 8)) (cwS 2 hts g_X_103 rfl rfl rfl (by decide +kernel) ⟨(Nat.le_of_ble_eq_true rfl), (Nat.le_of_ble_eq_true rfl)⟩) preEq rfl rfl hl.1 rfl (lv_room (Nat.le_of_ble_eq_true rfl)) d_X_dueNode_15 ⟨(Nat.le_of_ble_eq_true rfl), (Nat.le_of_ble_eq_true rfl)⟩) (fun r hr0 => ?_)
    subst hr0
    refine lv_istore hx hb d_X_dueNode_18 hl (by decide) rfl (fun ls hl => ?_)
    have hl : lv_has ls 6 [(5, .int (nI (51 * hh + 2 * (kk - 8)))), (4, .int (nI (kk - 8))), (0, .ref h0), (1, .int (nI hh)), (2, .int (nI kk)), (3, .int g0)] := hl
    refine lv_bipush (v := (8 : Int32)) hx hb d_X_dueNode_20 (by decide) ?_
    refine lv_iload_n hx hb d_X_dueNode_22 rfl (lv_at hl 5 rfl) ?_
    refine lv_imul hx hb d_X_dueNode_23 ?_
    refine lv_iload hx hb d_X_dueNode_24 (lv_at hl 1 rfl) ?_
    refine lv_iadd hx hb d_X_dueNode_26 ?_
    refine lv_aload_n hx hb d_X_dueNode_27 rfl (lv_at hl 2 rfl) ?_
    refine va_get (D := (dC, dI)) (ci := 0) (v := .ref qd) (C := R_X) (T := F_X) (N := 12) hx hb hts lay_X hown hK hP 0 rfl rfl 0 (by decide) (hts _ m_62) (fun _ h9 => h9) rfl d_X_dueNode_28 ?_
    refine lv_iload hx hb d_X_dueNode_31 (lv_at hl 0 rfl) ?_
    refine z_iald hx hb hK hP 1 0 rfl rfl (by omega) (by decide) d_X_dueNode_33 ?_
    refine vp_callSi (W.runS (As := [.int (((8 : Int32) * g0) + (nI (kk - 8))), .int (dk (51 * hh + 2 * (kk - 8)))]) (rest := []) ⟨hx, hb, hml, hown, hts⟩ (c_digest l (((8 : Int32) * g0) + (nI (kk - 8))) (dk (51 * hh + 2 * (kk - 8)))) (cwS 2 hts g_X_100 rfl rfl rfl (by decide +kernel) ⟨(Nat.le_of_ble_eq_true rfl), (Nat.le_of_ble_eq_true rfl)⟩) preEq rfl rfl hl.1 rfl (lv_room (Nat.le_of_ble_eq_true rfl)) d_X_dueNode_34 ⟨(Nat.le_of_ble_eq_true rfl), (Nat.le_of_ble_eq_true rfl)⟩) (fun r hr0 => ?_)
    subst hr0
    refine lv_aload_n hx hb d_X_dueNode_37 rfl (lv_at hl 2 rfl) ?_
    refine va_get (D := (dC, dI)) (ci := 0) (v := .ref qd) (C := R_X) (T := F_X) (N := 12) hx hb hts lay_X hown hK hP 0 rfl rfl 0 (by decide) (hts _ m_62) (fun _ h9 => h9) rfl d_X_dueNode_38 ?_
    refine lv_iload hx hb d_X_dueNode_41 (lv_at hl 0 rfl) ?_
    refine lv_iconst (v := nI 1) hx hb d_X_dueNode_43 (by decide) ?_
    refine lv_iadd hx hb d_X_dueNode_44 ?_
    refine z_top (nI_add _ _) ?_
    refine z_iald hx hb hK hP 1 0 rfl rfl (by omega) (by decide) d_X_dueNode_45 ?_
    refine vp_callSi (W.runS (As := [.int (dg (((8 : Int32) * g0) + (nI (kk - 8))) (dk (51 * hh + 2 * (kk - 8)))), .int (dk ((51 * hh + 2 * (kk - 8)) + 1))]) (rest := []) ⟨hx, hb, hml, hown, hts⟩ (c_digest l (dg (((8 : Int32) * g0) + (nI (kk - 8))) (dk (51 * hh + 2 * (kk - 8)))) (dk ((51 * hh + 2 * (kk - 8)) + 1))) (cwS 2 hts g_X_100 rfl rfl rfl (by decide +kernel) ⟨(Nat.le_of_ble_eq_true rfl), (Nat.le_of_ble_eq_true rfl)⟩) preEq rfl rfl hl.1 rfl (lv_room (Nat.le_of_ble_eq_true rfl)) d_X_dueNode_46 ⟨(Nat.le_of_ble_eq_true rfl), (Nat.le_of_ble_eq_true rfl)⟩) (fun r hr0 => ?_)
    subst hr0
    exact W.iret hx hb hr (fun t ht hW => ⟨_, rfl, (by unfold due; rw [if_pos (by omega)]), ht⟩) (fun q h => by cases h) d_X_dueNode_49
set_option maxHeartbeats 4000000 in
set_option maxRecDepth 100000 in
theorem c_valueAt (l : Launch) (dC : Nat → ClassId) (dI : Nat → Nat → Nat) (h0 qd qs qv : Nat) (cI cJ : ClassId) (sz : Nat) (dk : Nat → Int32) (hf : Nat) (gn : Int32) (rt : Int32) (ct : Int32) (sl : Int32) (sm : Int32) (pw : Bool) (ln : Nat) (lq : Nat → Int32) (vq : Nat → Int64) (ch : Int32) (pp : Nat) (h_p : pp + 1 < 102) : Met l y_X_valueAt w_X_valueAt ({ frames := 2, cells := 0, slots := 0, locals := 44 }) (va_Pc [.ref h0, .int (nI pp)] (z_pre (dC, dI) classes [(cI, .int), (cJ, .long)] (Xw h0 qd qs qv cI cJ (dk, hf, gn, rt, ct, sl, sm, pw, ln, lq, vq, ch)) sz)) (vp_Sl (fun r => r = vat dk gn pp)) 0 0 (fun _ => False) := by
  refine Met.ofW (cc := b_X_valueAt) (maxL := 6) (ret := (some .long)) (by decide) rfl ?_
  intro p e s m args below meth c s₁ B hml hv
  obtain ⟨rfl, hsz, hP, hK, hD0⟩ := hv
  have hx := B.exec
  have hb := B.bytes
  have hr := B.returns
  have hts := fun (w : Cond) (h : w ∈ lw_U) => atoms_spec (ws := w_X_valueAt) B.pre w (List.mem_cons_of_mem _ h)
  have hown : s.vm.findClass R_X = some m.cls := findClass_of_methodNamed B.named
  have hlocks := B.notSynchronized
  subst hsz
  have hD := hD0
  have hl := lv_entry ([.ref h0, .int (nI pp)]) (n := 6) (Nat.le_of_ble_eq_true rfl)
  rw [lg_entry_eq]
  generalize (lg_sl ([.ref h0, .int (nI pp)]) ++ List.replicate (6 - (lg_sl ([.ref h0, .int (nI pp)])).length) Slot.unset).toArray = ls at hl ⊢
  have hl : lv_has ls 6 [(0, .ref h0), (1, .int (nI pp))] := hl
  refine lv_aload_n hx hb d_X_valueAt_0 rfl (lv_at hl 0 rfl) ?_
  refine va_get (D := (dC, dI)) (ci := 0) (v := .ref qd) (C := R_X) (T := F_X) (N := 12) hx hb hts lay_X hown hK hP 0 rfl rfl 0 (by decide) (hts _ m_62) (fun _ h9 => h9) rfl d_X_valueAt_1 ?_
  refine lv_iload_n hx hb d_X_valueAt_4 rfl (lv_at hl 1 rfl) ?_
  refine z_iald hx hb hK hP 1 0 rfl rfl (by omega) (by decide) d_X_valueAt_5 ?_
  refine lv_iload_n hx hb d_X_valueAt_6 rfl (lv_at hl 1 rfl) ?_
  refine lv_aload_n hx hb d_X_valueAt_7 rfl (lv_at hl 0 rfl) ?_
  refine va_get (D := (dC, dI)) (ci := 0) (v := .int gn) (C := R_X) (T := F_X) (N := 12) hx hb hts lay_X hown hK hP 0 rfl rfl 2 (by decide) (hts _ m_64) (fun _ h9 => h9) rfl d_X_valueAt_8 ?_
  refine vp_callSi (W.runS (As := [.int (dk pp), .int (nI pp), .int gn]) (rest := []) ⟨hx, hb, hml, hown, hts⟩ (c_encipher l (dk pp) (nI pp) gn) (cwS 3 hts g_X_27 rfl rfl rfl (by decide +kernel) ⟨(Nat.le_of_ble_eq_true rfl), (Nat.le_of_ble_eq_true rfl)⟩) preEq rfl rfl hl.1 rfl (lv_room (Nat.le_of_ble_eq_true rfl)) d_X_valueAt_11 ⟨(Nat.le_of_ble_eq_true rfl), (Nat.le_of_ble_eq_true rfl)⟩) (fun r hr0 => ?_)
  subst hr0
  refine lv_i2l hx hb d_X_valueAt_14 rfl ?_
  refine lv_lstore_n hx hb d_X_valueAt_15 rfl hl (by decide) rfl (fun ls hl => ?_)
  have hl : lv_has ls 6 [(2, .long ((enc (dk pp) (nI pp) gn).toInt64)), (0, .ref h0), (1, .int (nI pp))] := hl
  refine lv_aload_n hx hb d_X_valueAt_16 rfl (lv_at hl 1 rfl) ?_
  refine va_get (D := (dC, dI)) (ci := 0) (v := .ref qd) (C := R_X) (T := F_X) (N := 12) hx hb hts lay_X hown hK hP 0 rfl rfl 0 (by decide) (hts _ m_62) (fun _ h9 => h9) rfl d_X_valueAt_17 ?_
  refine lv_iload_n hx hb d_X_valueAt_20 rfl (lv_at hl 2 rfl) ?_
  refine lv_iconst (v := nI 1) hx hb d_X_valueAt_21 (by decide) ?_
  refine lv_iadd hx hb d_X_valueAt_22 ?_
  refine z_top (nI_add _ _) ?_
  refine z_iald hx hb hK hP 1 0 rfl rfl (by omega) (by decide) d_X_valueAt_23 ?_
  refine lv_iload_n hx hb d_X_valueAt_24 rfl (lv_at hl 2 rfl) ?_
  refine lv_iconst (v := nI 1) hx hb d_X_valueAt_25 (by decide) ?_
  refine lv_iadd hx hb d_X_valueAt_26 ?_
  refine z_top (nI_add _ _) ?_
  refine lv_aload_n hx hb d_X_valueAt_27 rfl (lv_at hl 1 rfl) ?_
  refine va_get (D := (dC, dI)) (ci := 0) (v := .int gn) (C := R_X) (T := F_X) (N := 12) hx hb hts lay_X hown hK hP 0 rfl rfl 2 (by decide) (hts _ m_64) (fun _ h9 => h9) rfl d_X_valueAt_28 ?_
  refine vp_callSi (W.runS (As := [.int (dk (pp + 1)), .int (nI (pp + 1)), .int gn]) (rest := []) ⟨hx, hb, hml, hown, hts⟩ (c_encipher l (dk (pp + 1)) (nI (pp + 1)) gn) (cwS 3 hts g_X_27 rfl rfl rfl (by decide +kernel) ⟨(Nat.le_of_ble_eq_true rfl), (Nat.le_of_ble_eq_true rfl)⟩) preEq rfl rfl hl.1 rfl (lv_room (Nat.le_of_ble_eq_true rfl)) d_X_valueAt_31 ⟨(Nat.le_of_ble_eq_true rfl), (Nat.le_of_ble_eq_true rfl)⟩) (fun r hr0 => ?_)
  subst hr0
  refine lv_i2l hx hb d_X_valueAt_34 rfl ?_
  refine lv_lstore hx hb d_X_valueAt_35 hl (by decide) rfl (fun ls hl => ?_)
  have hl : lv_has ls 6 [(4, .long ((enc (dk (pp + 1)) (nI (pp + 1)) gn).toInt64)), (2, .long ((enc (dk pp) (nI pp) gn).toInt64)), (0, .ref h0), (1, .int (nI pp))] := hl
  refine lv_lload_n hx hb d_X_valueAt_37 rfl (lv_at hl 1 rfl) ?_
  refine lv_bipush (v := (32 : Int32)) hx hb d_X_valueAt_38 (by decide) ?_
  refine lv_lshl hx hb d_X_valueAt_40 rfl ?_
  refine lv_lload hx hb d_X_valueAt_41 (lv_at hl 0 rfl) ?_
  refine lv_ldc2 (v := 4294967295) hx hb hown (hts _ m_124) d_X_valueAt_43 ?_
  refine lv_land hx hb d_X_valueAt_46 ?_
  refine lv_lor hx hb d_X_valueAt_47 ?_
  exact W.lret hx hb hr (fun t ht hW => ⟨_, rfl, rfl, ht⟩) (fun q h => by cases h) d_X_valueAt_48
set_option maxHeartbeats 4000000 in
set_option maxRecDepth 100000 in
theorem c_rootAbove (l : Launch) (dC : Nat → ClassId) (dI : Nat → Nat → Nat) (h0 qd qs qv : Nat) (cI cJ : ClassId) (sz : Nat) (dk : Nat → Int32) (hf : Nat) (gn : Int32) (rt : Int32) (ct : Int32) (sl : Int32) (sm : Int32) (pw : Bool) (ln : Nat) (lq : Nat → Int32) (vq : Nat → Int64) (ch : Int32) (sc : Nat) (h_f : hf < 2) (h_s : sc < 8) : Met l y_X_rootAbove w_X_rootAbove ({ frames := 2, cells := 0, slots := 0, locals := 47 }) (va_Pc [.ref h0, .int (nI sc)] (z_pre (dC, dI) classes [(cI, .int), (cJ, .long)] (Xw h0 qd qs qv cI cJ (dk, hf, gn, rt, ct, sl, sm, pw, ln, lq, vq, ch)) sz)) (vp_Si (fun r => r = rabove dk hf gn sc)) 0 0 (fun _ => False) := by
  refine Met.ofW (cc := b_X_rootAbove) (maxL := 5) (ret := (some .int)) (by decide) rfl ?_
  intro p e s m args below meth c s₁ B hml hv
  obtain ⟨rfl, hsz, hP, hK, hD0⟩ := hv
  have hx := B.exec
  have hb := B.bytes
  have hr := B.returns
  have hts := fun (w : Cond) (h : w ∈ lw_U) => atoms_spec (ws := w_X_rootAbove) B.pre w (List.mem_cons_of_mem _ h)
  have hown : s.vm.findClass R_X = some m.cls := findClass_of_methodNamed B.named
  have hlocks := B.notSynchronized
  subst hsz
  have hD := hD0
  have hl := lv_entry ([.ref h0, .int (nI sc)]) (n := 5) (Nat.le_of_ble_eq_true rfl)
  rw [lg_entry_eq]
  generalize (lg_sl ([.ref h0, .int (nI sc)]) ++ List.replicate (5 - (lg_sl ([.ref h0, .int (nI sc)])).length) Slot.unset).toArray = ls at hl ⊢
  have hl : lv_has ls 5 [(0, .ref h0), (1, .int (nI sc))] := hl
  have loop : ∀ (f k : Nat) (x : Int32) (ls : Array Slot), k ≤ f → k < 16 → lv_has ls 5 [(0, .ref h0), (2, .int x), (3, .int (nI k))] → rup dk hf f k x = rabove dk hf gn sc → W p l e (headSpec w_X_rootAbove ({ frames := 2, cells := 0, slots := 0, locals := 47 })).room s m ([.ref h0, .int (nI sc)].toArray) below meth c s.heap [] 0 0 (MQ below (vp_Si (fun r => r = rabove dk hf gn sc)) ([.ref h0, .int (nI sc)].toArray) s 0 0 (fun _ => False)) (F0 m 22 ls []) := by
    intro f
    induction f with
    | zero =>
      intro k x ls hf0 hk16 hl hF
      refine lv_iload_n hx hb d_X_rootAbove_22 rfl (lv_at hl 2 rfl) ?_
      refine lv_iconst (v := nI 1) hx hb d_X_rootAbove_23 (by decide) ?_
      refine lv_icmp_le (tgt := 73) hx hb d_X_rootAbove_24 (by decide) (fun _ => ?_) (fun h9 => absurd ((nI_leI (by omega) (by omega)).mpr (by omega)) h9)
      refine lv_iload_n hx hb d_X_rootAbove_73 rfl (lv_at hl 1 rfl) ?_
      exact W.iret hx hb hr (fun t ht hW => ⟨_, rfl, (by rw [← hF]; rfl), ht⟩) (fun q h => by cases h) d_X_rootAbove_74
    | succ f ih =>
      intro k x ls hf0 hk16 hl hF
      have hx1 : k ^^^ 1 < 16 := Nat.xor_lt_two_pow (n := 4) hk16 (by decide)
      refine lv_iload_n hx hb d_X_rootAbove_22 rfl (lv_at hl 2 rfl) ?_
      refine lv_iconst (v := nI 1) hx hb d_X_rootAbove_23 (by decide) ?_
      refine lv_icmp_le (tgt := 73) hx hb d_X_rootAbove_24 (by decide) (fun h1 => ?_) (fun h1 => ?_)
      · have h1 : k ≤ 1 := (nI_leI (by omega) (by omega)).mp h1
        refine lv_iload_n hx hb d_X_rootAbove_73 rfl (lv_at hl 1 rfl) ?_
        exact W.iret hx hb hr (fun t ht hW => ⟨_, rfl, (by rw [← hF, rup, if_pos (by omega)]), ht⟩) (fun q h => by cases h) d_X_rootAbove_74
      · have h1 : ¬ k ≤ 1 := fun q => h1 ((nI_leI (by omega) (by omega)).mpr q)
        refine lv_aload_n hx hb d_X_rootAbove_27 rfl (lv_at hl 0 rfl) ?_
        refine va_get (D := (dC, dI)) (ci := 0) (v := .ref qd) (C := R_X) (T := F_X) (N := 12) hx hb hts lay_X hown hK hP 0 rfl rfl 0 (by decide) (hts _ m_62) (fun _ h9 => h9) rfl d_X_rootAbove_28 ?_
        refine lv_aload_n hx hb d_X_rootAbove_31 rfl (lv_at hl 0 rfl) ?_
        refine va_get (D := (dC, dI)) (ci := 0) (v := .int (nI hf)) (C := R_X) (T := F_X) (N := 12) hx hb hts lay_X hown hK hP 0 rfl rfl 1 (by decide) (hts _ m_63) (fun _ h9 => h9) rfl d_X_rootAbove_32 ?_
        refine lv_iload_n hx hb d_X_rootAbove_35 rfl (lv_at hl 2 rfl) ?_
        refine lv_iconst (v := nI 1) hx hb d_X_rootAbove_36 (by decide) ?_
        refine lv_ixor hx hb d_X_rootAbove_37 ?_
        refine z_top (nx_xor _ _) ?_
        refine vp_callSi (W.runS (As := [.int (nI hf), .int (nI (k ^^^ 1))]) (rest := [.ref qd]) ⟨hx, hb, hml, hown, hts⟩ (c_nodePlace l hf (k ^^^ 1)) (cwS 2 hts g_X_31 rfl rfl rfl (by decide +kernel) ⟨(Nat.le_of_ble_eq_true rfl), (Nat.le_of_ble_eq_true rfl)⟩) preEq rfl rfl hl.1 rfl (lv_room (Nat.le_of_ble_eq_true rfl)) d_X_rootAbove_38 ⟨(Nat.le_of_ble_eq_true rfl), (Nat.le_of_ble_eq_true rfl)⟩) (fun r hr0 => ?_)
        subst hr0
        refine z_iald hx hb hK hP 1 0 rfl rfl (by omega) (by decide) d_X_rootAbove_41 ?_
        refine lv_istore hx hb d_X_rootAbove_42 hl (by decide) rfl (fun ls hl => ?_)
        have hl : lv_has ls 5 [(4, .int (dk (51 * hf + 15 + (k ^^^ 1)))), (0, .ref h0), (2, .int x), (3, .int (nI k))] := hl
        refine lv_iload_n hx hb d_X_rootAbove_44 rfl (lv_at hl 3 rfl) ?_
        refine lv_iconst (v := nI 2) hx hb d_X_rootAbove_45 (by decide) ?_
        refine lv_irem hx hb d_X_rootAbove_46 (by decide) ?_
        refine z_top (pk_rem (by omega) (by decide) (by decide)) ?_
        refine lv_if_ne (tgt := 59) hx hb d_X_rootAbove_47 (by decide) (fun h2 => ?_) (fun h2 => ?_)
        · have h2 : ¬ k % 2 = 0 := fun q => h2 (by rw [q]; rfl)
          refine lv_iload hx hb d_X_rootAbove_59 (lv_at hl 0 rfl) ?_
          refine lv_iload_n hx hb d_X_rootAbove_61 rfl (lv_at hl 2 rfl) ?_
          refine vp_callSi (W.runS (As := [.int (dk (51 * hf + 15 + (k ^^^ 1))), .int x]) (rest := []) ⟨hx, hb, hml, hown, hts⟩ (c_digest l (dk (51 * hf + 15 + (k ^^^ 1))) x) (cwS 2 hts g_X_100 rfl rfl rfl (by decide +kernel) ⟨(Nat.le_of_ble_eq_true rfl), (Nat.le_of_ble_eq_true rfl)⟩) preEq rfl rfl hl.1 rfl (lv_room (Nat.le_of_ble_eq_true rfl)) d_X_rootAbove_62 ⟨(Nat.le_of_ble_eq_true rfl), (Nat.le_of_ble_eq_true rfl)⟩) (fun r hr0 => ?_)
          subst hr0
          refine lv_istore_n hx hb d_X_rootAbove_65 rfl hl (by decide) rfl (fun ls hl => ?_)
          have hl : lv_has ls 5 [(2, .int (dg (dk (51 * hf + 15 + (k ^^^ 1))) x)), (4, .int (dk (51 * hf + 15 + (k ^^^ 1)))), (0, .ref h0), (3, .int (nI k))] := hl
          refine lv_iload_n hx hb d_X_rootAbove_66 rfl (lv_at hl 3 rfl) ?_
          refine lv_iconst (v := nI 2) hx hb d_X_rootAbove_67 (by decide) ?_
          refine lv_idiv hx hb d_X_rootAbove_68 (by decide) ?_
          refine z_top (pk_div (by omega) (by decide) (by decide)) ?_
          refine lv_istore_n hx hb d_X_rootAbove_69 rfl hl (by decide) rfl (fun ls hl => ?_)
          have hl : lv_has ls 5 [(3, .int (nI (k / 2))), (2, .int (dg (dk (51 * hf + 15 + (k ^^^ 1))) x)), (4, .int (dk (51 * hf + 15 + (k ^^^ 1)))), (0, .ref h0)] := hl
          refine lv_goto (tgt := 22) hx hb d_X_rootAbove_70 (by decide) ?_
          exact ih (k / 2) _ ls (by omega) (by omega) (lv_sub hl [3, 1, 0] rfl) (by rw [← hF, rup, if_neg (by omega)]; first | rw [if_pos (by omega)] | rw [if_neg (by omega)])
        · have h2 : k % 2 = 0 := (nI_eq (b := 0) (by omega) (by omega)).mp h2
          refine lv_iload_n hx hb d_X_rootAbove_50 rfl (lv_at hl 2 rfl) ?_
          refine lv_iload hx hb d_X_rootAbove_51 (lv_at hl 0 rfl) ?_
          refine vp_callSi (W.runS (As := [.int x, .int (dk (51 * hf + 15 + (k ^^^ 1)))]) (rest := []) ⟨hx, hb, hml, hown, hts⟩ (c_digest l x (dk (51 * hf + 15 + (k ^^^ 1)))) (cwS 2 hts g_X_100 rfl rfl rfl (by decide +kernel) ⟨(Nat.le_of_ble_eq_true rfl), (Nat.le_of_ble_eq_true rfl)⟩) preEq rfl rfl hl.1 rfl (lv_room (Nat.le_of_ble_eq_true rfl)) d_X_rootAbove_53 ⟨(Nat.le_of_ble_eq_true rfl), (Nat.le_of_ble_eq_true rfl)⟩) (fun r hr0 => ?_)
          subst hr0
          refine lv_goto (tgt := 65) hx hb d_X_rootAbove_56 (by decide) ?_
          refine lv_istore_n hx hb d_X_rootAbove_65 rfl hl (by decide) rfl (fun ls hl => ?_)
          have hl : lv_has ls 5 [(2, .int (dg x (dk (51 * hf + 15 + (k ^^^ 1))))), (4, .int (dk (51 * hf + 15 + (k ^^^ 1)))), (0, .ref h0), (3, .int (nI k))] := hl
          refine lv_iload_n hx hb d_X_rootAbove_66 rfl (lv_at hl 3 rfl) ?_
          refine lv_iconst (v := nI 2) hx hb d_X_rootAbove_67 (by decide) ?_
          refine lv_idiv hx hb d_X_rootAbove_68 (by decide) ?_
          refine z_top (pk_div (by omega) (by decide) (by decide)) ?_
          refine lv_istore_n hx hb d_X_rootAbove_69 rfl hl (by decide) rfl (fun ls hl => ?_)
          have hl : lv_has ls 5 [(3, .int (nI (k / 2))), (2, .int (dg x (dk (51 * hf + 15 + (k ^^^ 1))))), (4, .int (dk (51 * hf + 15 + (k ^^^ 1)))), (0, .ref h0)] := hl
          refine lv_goto (tgt := 22) hx hb d_X_rootAbove_70 (by decide) ?_
          exact ih (k / 2) _ ls (by omega) (by omega) (lv_sub hl [3, 1, 0] rfl) (by rw [← hF, rup, if_neg (by omega)]; first | rw [if_pos (by omega)] | rw [if_neg (by omega)])
  refine lv_aload_n hx hb d_X_rootAbove_0 rfl (lv_at hl 0 rfl) ?_
  refine lv_aload_n hx hb d_X_rootAbove_1 rfl (lv_at hl 0 rfl) ?_
  refine va_get (D := (dC, dI)) (ci := 0) (v := .int (nI hf)) (C := R_X) (T := F_X) (N := 12) hx hb hts lay_X hown hK hP 0 rfl rfl 1 (by decide) (hts _ m_63) (fun _ h9 => h9) rfl d_X_rootAbove_2 ?_
  refine lv_bipush (v := nI 8) hx hb d_X_rootAbove_5 (by decide) ?_
  refine lv_iload_n hx hb d_X_rootAbove_7 rfl (lv_at hl 1 rfl) ?_
  refine lv_iadd hx hb d_X_rootAbove_8 ?_
  refine z_top (nI_add _ _) ?_
  refine lv_aload_n hx hb d_X_rootAbove_9 rfl (lv_at hl 0 rfl) ?_
  refine va_get (D := (dC, dI)) (ci := 0) (v := .int gn) (C := R_X) (T := F_X) (N := 12) hx hb hts lay_X hown hK hP 0 rfl rfl 2 (by decide) (hts _ m_64) (fun _ h9 => h9) rfl d_X_rootAbove_10 ?_
  refine vp_callSi (W.runV (C := R_X) (b := h0) (As := [.int (nI hf), .int (nI (8 + sc)), .int gn]) (rest := []) ⟨hx, hb, hml, hown, hts⟩ (c_dueNode l dC dI h0 qd qs qv cI cJ _ dk hf gn rt ct sl sm pw ln lq vq ch hf (8 + sc) gn (by omega) (by omega)) (cwV 3 hts g_X_35 rfl rfl rfl (by decide +kernel) ⟨(Nat.le_of_ble_eq_true rfl), (Nat.le_of_ble_eq_true rfl)⟩) (z_preV (va_recv (q0 := 0) hK hP rfl rfl) hP hK hD) rfl rfl hl.1 rfl (lv_room (Nat.le_of_ble_eq_true rfl)) d_X_rootAbove_13 ⟨(Nat.le_of_ble_eq_true rfl), (Nat.le_of_ble_eq_true rfl)⟩) (fun r hr0 => ?_)
  subst hr0
  refine lv_istore_n hx hb d_X_rootAbove_16 rfl hl (by decide) rfl (fun ls hl => ?_)
  have hl : lv_has ls 5 [(2, .int (due dk hf (8 + sc) gn)), (0, .ref h0), (1, .int (nI sc))] := hl
  refine lv_bipush (v := nI 8) hx hb d_X_rootAbove_17 (by decide) ?_
  refine lv_iload_n hx hb d_X_rootAbove_19 rfl (lv_at hl 2 rfl) ?_
  refine lv_iadd hx hb d_X_rootAbove_20 ?_
  refine z_top (nI_add _ _) ?_
  refine lv_istore_n hx hb d_X_rootAbove_21 rfl hl (by decide) rfl (fun ls hl => ?_)
  have hl : lv_has ls 5 [(3, .int (nI (8 + sc))), (2, .int (due dk hf (8 + sc) gn)), (0, .ref h0), (1, .int (nI sc))] := hl
  exact loop 16 (8 + sc) _ ls (by omega) (by omega) (lv_sub hl [2, 1, 0] rfl) rfl
set_option maxHeartbeats 4000000 in
set_option maxRecDepth 100000 in
theorem c_valueOf (l : Launch) (dC : Nat → ClassId) (dI : Nat → Nat → Nat) (h0 qd qs qv : Nat) (cI cJ : ClassId) (sz : Nat) (dk : Nat → Int32) (hf : Nat) (gn : Int32) (rt : Int32) (ct : Int32) (sl : Int32) (sm : Int32) (pw : Bool) (ln : Nat) (lq : Nat → Int32) (vq : Nat → Int64) (ch : Int32) (sc : Nat) (h_f : hf < 2) (h_n : ln ≤ 5) (h_s : sc < 8) : Met l y_X_valueOf w_X_valueOf ({ frames := 3, cells := 0, slots := 0, locals := 71 }) (va_Pc [.ref h0, .int (nI sc)] (z_pre (dC, dI) classes [(cI, .int), (cJ, .long)] (Xw h0 qd qs qv cI cJ (dk, hf, gn, rt, ct, sl, sm, pw, ln, lq, vq, ch)) sz)) (vp_Sl (fun r => r = vof dk hf gn rt ln lq vq sc)) 0 0 (fun _ => False) := by
  refine Met.ofW (cc := b_X_valueOf) (maxL := 4) (ret := (some .long)) (by decide) rfl ?_
  intro p e s m args below meth c s₁ B hml hv
  obtain ⟨rfl, hsz, hP, hK, hD0⟩ := hv
  have hx := B.exec
  have hb := B.bytes
  have hr := B.returns
  have hts := fun (w : Cond) (h : w ∈ lw_U) => atoms_spec (ws := w_X_valueOf) B.pre w (List.mem_cons_of_mem _ h)
  have hown : s.vm.findClass R_X = some m.cls := findClass_of_methodNamed B.named
  have hlocks := B.notSynchronized
  subst hsz
  have hD := hD0
  have hl := lv_entry ([.ref h0, .int (nI sc)]) (n := 4) (Nat.le_of_ble_eq_true rfl)
  rw [lg_entry_eq]
  generalize (lg_sl ([.ref h0, .int (nI sc)]) ++ List.replicate (4 - (lg_sl ([.ref h0, .int (nI sc)])).length) Slot.unset).toArray = ls at hl ⊢
  have hl : lv_has ls 4 [(0, .ref h0), (1, .int (nI sc))] := hl
  have loop : ∀ (i : Nat) (ls : Array Slot), i ≤ ln → lv_has ls 4 [(0, .ref h0), (1, .int (nI sc)), (2, .int (nI i - 1))] → lkp lq vq (nI sc) i = lkp lq vq (nI sc) ln → W p l e (headSpec w_X_valueOf ({ frames := 3, cells := 0, slots := 0, locals := 71 })).room s m ([.ref h0, .int (nI sc)].toArray) below meth c s.heap [] 0 0 (MQ below (vp_Sl (fun r => r = vof dk hf gn rt ln lq vq sc)) ([.ref h0, .int (nI sc)].toArray) s 0 0 (fun _ => False)) (F0 m 7 ls []) := by
    intro i
    induction i with
    | zero =>
      intro ls hi hl hF
      refine lv_iload_n hx hb d_X_valueOf_7 rfl (lv_at hl 2 rfl) ?_
      refine lv_if_lt (tgt := 34) hx hb d_X_valueOf_8 (by decide) (fun _ => ?_) (fun h9 => absurd (by decide) h9)
      refine lv_aload_n hx hb d_X_valueOf_34 rfl (lv_at hl 0 rfl) ?_
      refine lv_iload_n hx hb d_X_valueOf_35 rfl (lv_at hl 1 rfl) ?_
      refine vp_callSi (W.runV (C := R_X) (b := h0) (As := [.int (nI sc)]) (rest := []) ⟨hx, hb, hml, hown, hts⟩ (c_rootAbove l dC dI h0 qd qs qv cI cJ _ dk hf gn rt ct sl sm pw ln lq vq ch sc (by omega) (by omega)) (cwV 1 hts g_X_108 rfl rfl rfl (by decide +kernel) ⟨(Nat.le_of_ble_eq_true rfl), (Nat.le_of_ble_eq_true rfl)⟩) (z_preV (va_recv (q0 := 0) hK hP rfl rfl) hP hK hD) rfl rfl hl.1 rfl (lv_room (Nat.le_of_ble_eq_true rfl)) d_X_valueOf_36 ⟨(Nat.le_of_ble_eq_true rfl), (Nat.le_of_ble_eq_true rfl)⟩) (fun r hr0 => ?_)
      subst hr0
      refine lv_aload_n hx hb d_X_valueOf_39 rfl (lv_at hl 0 rfl) ?_
      refine va_get (D := (dC, dI)) (ci := 0) (v := .int rt) (C := R_X) (T := F_X) (N := 12) hx hb hts lay_X hown hK hP 0 rfl rfl 3 (by decide) (hts _ m_65) (fun _ h9 => h9) rfl d_X_valueOf_40 ?_
      refine lv_icmp_eq (tgt := 50) hx hb d_X_valueOf_43 (by decide) (fun h1 => ?_) (fun h1 => ?_)
      · refine lv_aload_n hx hb d_X_valueOf_50 rfl (lv_at hl 0 rfl) ?_
        refine lv_aload_n hx hb d_X_valueOf_51 rfl (lv_at hl 0 rfl) ?_
        refine va_get (D := (dC, dI)) (ci := 0) (v := .int (nI hf)) (C := R_X) (T := F_X) (N := 12) hx hb hts lay_X hown hK hP 0 rfl rfl 1 (by decide) (hts _ m_63) (fun _ h9 => h9) rfl d_X_valueOf_52 ?_
        refine lv_iload_n hx hb d_X_valueOf_55 rfl (lv_at hl 1 rfl) ?_
        refine vp_callSi (W.runS (As := [.int (nI hf), .int (nI sc)]) (rest := [.ref h0]) ⟨hx, hb, hml, hown, hts⟩ (c_sectorPlace l hf sc) (cwS 2 hts g_X_103 rfl rfl rfl (by decide +kernel) ⟨(Nat.le_of_ble_eq_true rfl), (Nat.le_of_ble_eq_true rfl)⟩) preEq rfl rfl hl.1 rfl (lv_room (Nat.le_of_ble_eq_true rfl)) d_X_valueOf_56 ⟨(Nat.le_of_ble_eq_true rfl), (Nat.le_of_ble_eq_true rfl)⟩) (fun r hr0 => ?_)
        subst hr0
        refine vp_callSl (W.runV (C := R_X) (b := h0) (As := [.int (nI (51 * hf + 2 * sc))]) (rest := []) ⟨hx, hb, hml, hown, hts⟩ (c_valueAt l dC dI h0 qd qs qv cI cJ _ dk hf gn rt ct sl sm pw ln lq vq ch (51 * hf + 2 * sc) (by omega)) (cwV 1 hts g_X_114 rfl rfl rfl (by decide +kernel) ⟨(Nat.le_of_ble_eq_true rfl), (Nat.le_of_ble_eq_true rfl)⟩) (z_preV (va_recv (q0 := 0) hK hP rfl rfl) hP hK hD) rfl rfl hl.1 rfl (lv_room (Nat.le_of_ble_eq_true rfl)) d_X_valueOf_59 ⟨(Nat.le_of_ble_eq_true rfl), (Nat.le_of_ble_eq_true rfl)⟩) (fun r hr0 => ?_)
        subst hr0
        refine lv_lstore_n hx hb d_X_valueOf_62 rfl hl (by decide) rfl (fun ls hl => ?_)
        have hl : lv_has ls 4 [(2, .long (vat dk gn (51 * hf + 2 * sc))), (0, .ref h0), (1, .int (nI sc))] := hl
        refine lv_lload_n hx hb d_X_valueOf_63 rfl (lv_at hl 0 rfl) ?_
        refine lv_lconst (v := 0) hx hb d_X_valueOf_64 (by decide) ?_
        refine W.lcmp hx hb d_X_valueOf_65 ?_
        refine lv_if_ge (tgt := 75) hx hb d_X_valueOf_66 (by decide) (fun h2 => ?_) (fun h2 => ?_)
        · refine lv_lload_n hx hb d_X_valueOf_75 rfl (lv_at hl 0 rfl) ?_
          exact W.lret hx hb hr (fun t ht hW => ⟨_, rfl, (by simp only [vof, ← hF, lkp, vlook]; simp [*]), ht⟩) (fun q h => by cases h) d_X_valueOf_76
        · refine lv_ldc2 (v := -3) hx hb hown (hts _ m_167) d_X_valueOf_69 ?_
          refine lv_goto (tgt := 76) hx hb d_X_valueOf_72 (by decide) ?_
          exact W.lret hx hb hr (fun t ht hW => ⟨_, rfl, (by simp only [vof, ← hF, lkp, vlook]; simp [*]), ht⟩) (fun q h => by cases h) d_X_valueOf_76
      · refine lv_ldc2 (v := -3) hx hb hown (hts _ m_167) d_X_valueOf_46 ?_
        exact W.lret hx hb hr (fun t ht hW => ⟨_, rfl, (by simp only [vof, ← hF, lkp, vlook]; simp [*]), ht⟩) (fun q h => by cases h) d_X_valueOf_49
    | succ i ih =>
      intro ls hi hl hF
      rw [nI_pred] at hl
      refine lv_iload_n hx hb d_X_valueOf_7 rfl (lv_at hl 2 rfl) ?_
      refine lv_if_lt (tgt := 34) hx hb d_X_valueOf_8 (by decide) (fun h9 => absurd h9 (nI_pos (by omega))) (fun _ => ?_)
      refine lv_aload_n hx hb d_X_valueOf_11 rfl (lv_at hl 0 rfl) ?_
      refine va_get (D := (dC, dI)) (ci := 0) (v := .ref qs) (C := R_X) (T := F_X) (N := 12) hx hb hts lay_X hown hK hP 0 rfl rfl 9 (by decide) (hts _ m_71) (fun _ h9 => h9) rfl d_X_valueOf_12 ?_
      refine lv_iload_n hx hb d_X_valueOf_15 rfl (lv_at hl 2 rfl) ?_
      refine z_iald hx hb hK hP 2 0 rfl rfl (by omega) (by decide) d_X_valueOf_16 ?_
      refine lv_iload_n hx hb d_X_valueOf_17 rfl (lv_at hl 1 rfl) ?_
      refine lv_icmp_ne (tgt := 28) hx hb d_X_valueOf_18 (by decide) (fun h3 => ?_) (fun h3 => ?_)
      · refine lv_iinc (k := 2) hx hb d_X_valueOf_28 hl rfl (z_dm _) (by decide) rfl (fun ls hl => ?_)
        have hl : lv_has ls 4 [(2, .int (nI i - 1)), (0, .ref h0), (1, .int (nI sc))] := hl
        refine lv_goto (tgt := 7) hx hb d_X_valueOf_31 (by decide) ?_
        exact ih ls (by omega) (lv_sub hl [1, 2, 0] rfl) (by rw [← hF, lkp]; simp [*])
      · refine lv_aload_n hx hb d_X_valueOf_21 rfl (lv_at hl 0 rfl) ?_
        refine va_get (D := (dC, dI)) (ci := 0) (v := .ref qv) (C := R_X) (T := F_X) (N := 12) hx hb hts lay_X hown hK hP 0 rfl rfl 10 (by decide) (hts _ m_72) (fun _ h9 => h9) rfl d_X_valueOf_22 ?_
        refine lv_iload_n hx hb d_X_valueOf_25 rfl (lv_at hl 2 rfl) ?_
        refine z_lald hx hb hK hP 3 1 rfl rfl (by omega) (by decide) d_X_valueOf_26 ?_
        exact W.lret hx hb hr (fun t ht hW => ⟨_, rfl, (by unfold vof; rw [← hF, lkp, if_pos h3]), ht⟩) (fun q h => by cases h) d_X_valueOf_27
  refine lv_aload_n hx hb d_X_valueOf_0 rfl (lv_at hl 0 rfl) ?_
  refine va_get (D := (dC, dI)) (ci := 0) (v := .int (nI ln)) (C := R_X) (T := F_X) (N := 12) hx hb hts lay_X hown hK hP 0 rfl rfl 8 (by decide) (hts _ m_70) (fun _ h9 => h9) rfl d_X_valueOf_1 ?_
  refine lv_iconst (v := (1 : Int32)) hx hb d_X_valueOf_4 (by decide) ?_
  refine lv_isub hx hb d_X_valueOf_5 ?_
  refine z_top rfl ?_
  refine lv_istore_n hx hb d_X_valueOf_6 rfl hl (by decide) rfl (fun ls hl => ?_)
  have hl : lv_has ls 4 [(2, .int (nI ln - 1)), (0, .ref h0), (1, .int (nI sc))] := hl
  exact loop ln ls (Nat.le_refl _) (lv_sub hl [1, 2, 0] rfl) rfl
set_option maxHeartbeats 4000000 in
set_option maxRecDepth 100000 in
theorem c_soundSectors (l : Launch) (dC : Nat → ClassId) (dI : Nat → Nat → Nat) (h0 qd qs qv : Nat) (cI cJ : ClassId) (sz : Nat) (dk : Nat → Int32) (hf : Nat) (gn : Int32) (rt : Int32) (ct : Int32) (sl : Int32) (sm : Int32) (pw : Bool) (ln : Nat) (lq : Nat → Int32) (vq : Nat → Int64) (ch : Int32)  (h_f : hf < 2) (h_n : ln ≤ 5) : Met l y_X_soundSectors w_X_soundSectors ({ frames := 4, cells := 0, slots := 0, locals := 94 }) (va_Pc [.ref h0] (z_pre (dC, dI) classes [(cI, .int), (cJ, .long)] (Xw h0 qd qs qv cI cJ (dk, hf, gn, rt, ct, sl, sm, pw, ln, lq, vq, ch)) sz)) (vp_Si (fun r => r = sndF (vof dk hf gn rt ln lq vq) 8 0 0)) 0 0 (fun _ => False) := by
  refine Met.ofW (cc := b_X_soundSectors) (maxL := 3) (ret := (some .int)) (by decide) rfl ?_
  intro p e s m args below meth c s₁ B hml hv
  obtain ⟨rfl, hsz, hP, hK, hD0⟩ := hv
  have hx := B.exec
  have hb := B.bytes
  have hr := B.returns
  have hts := fun (w : Cond) (h : w ∈ lw_U) => atoms_spec (ws := w_X_soundSectors) B.pre w (List.mem_cons_of_mem _ h)
  have hown : s.vm.findClass R_X = some m.cls := findClass_of_methodNamed B.named
  have hlocks := B.notSynchronized
  subst hsz
  have hD := hD0
  have hl := lv_entry ([.ref h0]) (n := 3) (Nat.le_of_ble_eq_true rfl)
  rw [lg_entry_eq]
  generalize (lg_sl ([.ref h0]) ++ List.replicate (3 - (lg_sl ([.ref h0])).length) Slot.unset).toArray = ls at hl ⊢
  have hl : lv_has ls 3 [(0, .ref h0)] := hl
  have loop : ∀ (j k : Nat) (x : Int32) (ls : Array Slot), k + j = 8 → lv_has ls 3 [(0, .ref h0), (1, .int x), (2, .int (nI k))] → sndF (vof dk hf gn rt ln lq vq) j k x = sndF (vof dk hf gn rt ln lq vq) 8 0 0 → W p l e (headSpec w_X_soundSectors ({ frames := 4, cells := 0, slots := 0, locals := 94 })).room s m ([.ref h0].toArray) below meth c s.heap [] 0 0 (MQ below (vp_Si (fun r => r = sndF (vof dk hf gn rt ln lq vq) 8 0 0)) ([.ref h0].toArray) s 0 0 (fun _ => False)) (F0 m 4 ls []) := by
    intro j
    induction j with
    | zero =>
      intro k x ls hk hl hF
      refine lv_iload_n hx hb d_X_soundSectors_4 rfl (lv_at hl 2 rfl) ?_
      refine lv_bipush (v := nI 8) hx hb d_X_soundSectors_5 (by decide) ?_
      refine lv_icmp_ge (tgt := 32) hx hb d_X_soundSectors_7 (by decide) (fun _ => ?_) (fun h9 => absurd ((nI_leI (by omega) (by omega)).mpr (by omega)) h9)
      refine lv_iload_n hx hb d_X_soundSectors_32 rfl (lv_at hl 1 rfl) ?_
      exact W.iret hx hb hr (fun t ht hW => ⟨_, rfl, hF, ht⟩) (fun q h => by cases h) d_X_soundSectors_33
    | succ j ih =>
      intro k x ls hk hl hF
      refine lv_iload_n hx hb d_X_soundSectors_4 rfl (lv_at hl 2 rfl) ?_
      refine lv_bipush (v := nI 8) hx hb d_X_soundSectors_5 (by decide) ?_
      refine lv_icmp_ge (tgt := 32) hx hb d_X_soundSectors_7 (by decide) (fun h9 => absurd h9 (fun q => absurd ((nI_leI (by omega) (by omega)).mp q) (by omega))) (fun _ => ?_)
      refine lv_aload_n hx hb d_X_soundSectors_10 rfl (lv_at hl 0 rfl) ?_
      refine lv_iload_n hx hb d_X_soundSectors_11 rfl (lv_at hl 2 rfl) ?_
      refine vp_callSl (W.runV (C := R_X) (b := h0) (As := [.int (nI k)]) (rest := []) ⟨hx, hb, hml, hown, hts⟩ (c_valueOf l dC dI h0 qd qs qv cI cJ _ dk hf gn rt ct sl sm pw ln lq vq ch k (by omega) (by omega) (by omega)) (cwV 1 hts g_X_77 rfl rfl rfl (by decide +kernel) ⟨(Nat.le_of_ble_eq_true rfl), (Nat.le_of_ble_eq_true rfl)⟩) (z_preV (va_recv (q0 := 0) hK hP rfl rfl) hP hK hD) rfl rfl hl.1 rfl (lv_room (Nat.le_of_ble_eq_true rfl)) d_X_soundSectors_12 ⟨(Nat.le_of_ble_eq_true rfl), (Nat.le_of_ble_eq_true rfl)⟩) (fun r hr0 => ?_)
      subst hr0
      refine lv_lconst (v := 0) hx hb d_X_soundSectors_15 (by decide) ?_
      refine W.lcmp hx hb d_X_soundSectors_16 ?_
      refine lv_if_lt (tgt := 26) hx hb d_X_soundSectors_17 (by decide) (fun h1 => ?_) (fun h1 => ?_)
      · refine lv_iinc (k := 2) hx hb d_X_soundSectors_26 hl rfl (z_inc _ 1) (by decide) rfl (fun ls hl => ?_)
        have hl : lv_has ls 3 [(2, .int (nI (k + 1))), (0, .ref h0), (1, .int x)] := hl
        refine lv_goto (tgt := 4) hx hb d_X_soundSectors_29 (by decide) ?_
        exact ih (k + 1) _ ls (by omega) (lv_sub hl [1, 2, 0] rfl) (by rw [← hF, sndF]; simp [*])
      · refine lv_iload_n hx hb d_X_soundSectors_20 rfl (lv_at hl 1 rfl) ?_
        refine lv_iconst (v := (1 : Int32)) hx hb d_X_soundSectors_21 (by decide) ?_
        refine lv_iload_n hx hb d_X_soundSectors_22 rfl (lv_at hl 2 rfl) ?_
        refine lv_ishl hx hb d_X_soundSectors_23 ?_
        refine lv_iadd hx hb d_X_soundSectors_24 ?_
        refine lv_istore_n hx hb d_X_soundSectors_25 rfl hl (by decide) rfl (fun ls hl => ?_)
        have hl : lv_has ls 3 [(1, .int (x + ((1 : Int32) <<< ((nI k) &&& 31)))), (0, .ref h0), (2, .int (nI k))] := hl
        refine lv_iinc (k := 2) hx hb d_X_soundSectors_26 hl rfl (z_inc _ 1) (by decide) rfl (fun ls hl => ?_)
        have hl : lv_has ls 3 [(2, .int (nI (k + 1))), (1, .int (x + ((1 : Int32) <<< ((nI k) &&& 31)))), (0, .ref h0)] := hl
        refine lv_goto (tgt := 4) hx hb d_X_soundSectors_29 (by decide) ?_
        exact ih (k + 1) _ ls (by omega) (lv_sub hl [2, 1, 0] rfl) (by rw [← hF, sndF]; simp [*])
  refine lv_iconst (v := (0 : Int32)) hx hb d_X_soundSectors_0 (by decide) ?_
  refine lv_istore_n hx hb d_X_soundSectors_1 rfl hl (by decide) rfl (fun ls hl => ?_)
  have hl : lv_has ls 3 [(1, .int (0 : Int32)), (0, .ref h0)] := hl
  refine lv_iconst (v := nI 0) hx hb d_X_soundSectors_2 (by decide) ?_
  refine lv_istore_n hx hb d_X_soundSectors_3 rfl hl (by decide) rfl (fun ls hl => ?_)
  have hl : lv_has ls 3 [(2, .int (nI 0)), (1, .int (0 : Int32)), (0, .ref h0)] := hl
  exact loop 8 0 _ ls rfl (lv_sub hl [2, 1, 0] rfl) rfl
set_option maxHeartbeats 4000000 in
set_option maxRecDepth 100000 in
theorem c_chainBehind (l : Launch) (dC : Nat → ClassId) (dI : Nat → Nat → Nat) (h0 qd qs qv : Nat) (cI cJ : ClassId) (sz : Nat) (dk : Nat → Int32) (hf : Nat) (gn : Int32) (rt : Int32) (ct : Int32) (sl : Int32) (sm : Int32) (pw : Bool) (ln : Nat) (lq : Nat → Int32) (vq : Nat → Int64) (ch : Int32) (pp : Nat) (h_p : pp + 2 < 102) : Met l y_X_chainBehind w_X_chainBehind ({ frames := 1, cells := 0, slots := 0, locals := 22 }) (va_Pc [.ref h0, .int (nI pp)] (z_pre (dC, dI) classes [(cI, .int), (cJ, .long)] (Xw h0 qd qs qv cI cJ (dk, hf, gn, rt, ct, sl, sm, pw, ln, lq, vq, ch)) sz)) (vp_Si (fun r => r = chn ch dk pp)) 0 0 (fun _ => False) := by
  refine Met.ofW (cc := b_X_chainBehind) (maxL := 2) (ret := (some .int)) (by decide) rfl ?_
  intro p e s m args below meth c s₁ B hml hv
  obtain ⟨rfl, hsz, hP, hK, hD0⟩ := hv
  have hx := B.exec
  have hb := B.bytes
  have hr := B.returns
  have hts := fun (w : Cond) (h : w ∈ lw_U) => atoms_spec (ws := w_X_chainBehind) B.pre w (List.mem_cons_of_mem _ h)
  have hown : s.vm.findClass R_X = some m.cls := findClass_of_methodNamed B.named
  have hlocks := B.notSynchronized
  subst hsz
  have hD := hD0
  have hl := lv_entry ([.ref h0, .int (nI pp)]) (n := 2) (Nat.le_of_ble_eq_true rfl)
  rw [lg_entry_eq]
  generalize (lg_sl ([.ref h0, .int (nI pp)]) ++ List.replicate (2 - (lg_sl ([.ref h0, .int (nI pp)])).length) Slot.unset).toArray = ls at hl ⊢
  have hl : lv_has ls 2 [(0, .ref h0), (1, .int (nI pp))] := hl
  refine lv_aload_n hx hb d_X_chainBehind_0 rfl (lv_at hl 0 rfl) ?_
  refine va_get (D := (dC, dI)) (ci := 0) (v := .int ch) (C := R_X) (T := F_X) (N := 12) hx hb hts lay_X hown hK hP 0 rfl rfl 11 (by decide) (hts _ m_73) (fun _ h9 => h9) rfl d_X_chainBehind_1 ?_
  refine lv_aload_n hx hb d_X_chainBehind_4 rfl (lv_at hl 0 rfl) ?_
  refine va_get (D := (dC, dI)) (ci := 0) (v := .ref qd) (C := R_X) (T := F_X) (N := 12) hx hb hts lay_X hown hK hP 0 rfl rfl 0 (by decide) (hts _ m_62) (fun _ h9 => h9) rfl d_X_chainBehind_5 ?_
  refine lv_iload_n hx hb d_X_chainBehind_8 rfl (lv_at hl 1 rfl) ?_
  refine z_iald hx hb hK hP 1 0 rfl rfl (by omega) (by decide) d_X_chainBehind_9 ?_
  refine vp_callSi (W.runS (As := [.int ch, .int (dk pp)]) (rest := []) ⟨hx, hb, hml, hown, hts⟩ (c_digest l ch (dk pp)) (cwS 2 hts g_X_100 rfl rfl rfl (by decide +kernel) ⟨(Nat.le_of_ble_eq_true rfl), (Nat.le_of_ble_eq_true rfl)⟩) preEq rfl rfl hl.1 rfl (lv_room (Nat.le_of_ble_eq_true rfl)) d_X_chainBehind_10 ⟨(Nat.le_of_ble_eq_true rfl), (Nat.le_of_ble_eq_true rfl)⟩) (fun r hr0 => ?_)
  subst hr0
  refine lv_aload_n hx hb d_X_chainBehind_13 rfl (lv_at hl 0 rfl) ?_
  refine va_get (D := (dC, dI)) (ci := 0) (v := .ref qd) (C := R_X) (T := F_X) (N := 12) hx hb hts lay_X hown hK hP 0 rfl rfl 0 (by decide) (hts _ m_62) (fun _ h9 => h9) rfl d_X_chainBehind_14 ?_
  refine lv_iload_n hx hb d_X_chainBehind_17 rfl (lv_at hl 1 rfl) ?_
  refine lv_iconst (v := nI 1) hx hb d_X_chainBehind_18 (by decide) ?_
  refine lv_iadd hx hb d_X_chainBehind_19 ?_
  refine z_top (nI_add _ _) ?_
  refine z_iald hx hb hK hP 1 0 rfl rfl (by omega) (by decide) d_X_chainBehind_20 ?_
  refine vp_callSi (W.runS (As := [.int (dg ch (dk pp)), .int (dk (pp + 1))]) (rest := []) ⟨hx, hb, hml, hown, hts⟩ (c_digest l (dg ch (dk pp)) (dk (pp + 1))) (cwS 2 hts g_X_100 rfl rfl rfl (by decide +kernel) ⟨(Nat.le_of_ble_eq_true rfl), (Nat.le_of_ble_eq_true rfl)⟩) preEq rfl rfl hl.1 rfl (lv_room (Nat.le_of_ble_eq_true rfl)) d_X_chainBehind_21 ⟨(Nat.le_of_ble_eq_true rfl), (Nat.le_of_ble_eq_true rfl)⟩) (fun r hr0 => ?_)
  subst hr0
  refine lv_aload_n hx hb d_X_chainBehind_24 rfl (lv_at hl 0 rfl) ?_
  refine va_get (D := (dC, dI)) (ci := 0) (v := .ref qd) (C := R_X) (T := F_X) (N := 12) hx hb hts lay_X hown hK hP 0 rfl rfl 0 (by decide) (hts _ m_62) (fun _ h9 => h9) rfl d_X_chainBehind_25 ?_
  refine lv_iload_n hx hb d_X_chainBehind_28 rfl (lv_at hl 1 rfl) ?_
  refine lv_iconst (v := nI 2) hx hb d_X_chainBehind_29 (by decide) ?_
  refine lv_iadd hx hb d_X_chainBehind_30 ?_
  refine z_top (nI_add _ _) ?_
  refine z_iald hx hb hK hP 1 0 rfl rfl (by omega) (by decide) d_X_chainBehind_31 ?_
  refine vp_callSi (W.runS (As := [.int (dg (dg ch (dk pp)) (dk (pp + 1))), .int (dk (pp + 2))]) (rest := []) ⟨hx, hb, hml, hown, hts⟩ (c_digest l (dg (dg ch (dk pp)) (dk (pp + 1))) (dk (pp + 2))) (cwS 2 hts g_X_100 rfl rfl rfl (by decide +kernel) ⟨(Nat.le_of_ble_eq_true rfl), (Nat.le_of_ble_eq_true rfl)⟩) preEq rfl rfl hl.1 rfl (lv_room (Nat.le_of_ble_eq_true rfl)) d_X_chainBehind_32 ⟨(Nat.le_of_ble_eq_true rfl), (Nat.le_of_ble_eq_true rfl)⟩) (fun r hr0 => ?_)
  subst hr0
  exact W.iret hx hb hr (fun t ht hW => ⟨_, rfl, rfl, ht⟩) (fun q h => by cases h) d_X_chainBehind_35
end
section
set_option maxHeartbeats 4000000 in
set_option maxRecDepth 100000 in
theorem c_forget (l : Launch) (dC : Nat → ClassId) (dI : Nat → Nat → Nat) (h0 qd qs qv : Nat) (cI cJ : ClassId) (sz : Nat) (dk : Nat → Int32) (hf : Nat) (gn : Int32) (rt : Int32) (ct : Int32) (sl : Int32) (sm : Int32) (pw : Bool) (ln : Nat) (lq : Nat → Int32) (vq : Nat → Int64) (ch : Int32)   : Met l y_X_forget w_X_forget ({ frames := 0, cells := 0, slots := 0, locals := 0 }) (va_Pc [.ref h0] (z_pre (dC, dI) classes [(cI, .int), (cJ, .long)] (Xw h0 qd qs qv cI cJ (dk, hf, gn, rt, ct, sl, sm, pw, ln, lq, vq, ch)) sz)) (va_Qv (fun (u : XS) => u = (dk, hf, gn, rt, ct, sl, sm, false, 0, lq, vq, 0)) (fun u => z_at (dC, dI) classes [(cI, .int), (cJ, .long)] (va_A (Xw h0 qd qs qv cI cJ (dk, hf, gn, rt, ct, sl, sm, pw, ln, lq, vq, ch)) sz) (Xw h0 qd qs qv cI cJ u)) (va_A (Xw h0 qd qs qv cI cJ (dk, hf, gn, rt, ct, sl, sm, pw, ln, lq, vq, ch)) sz)) 0 0 (va_A (Xw h0 qd qs qv cI cJ (dk, hf, gn, rt, ct, sl, sm, pw, ln, lq, vq, ch)) sz) := by
  refine Met.ofW (cc := b_X_forget) (maxL := 1) (ret := none) (by decide) rfl ?_
  intro p e s m args below meth c s₁ B hml hv
  obtain ⟨rfl, hsz, hP, hK, hD0⟩ := hv
  have hx := B.exec
  have hb := B.bytes
  have hr := B.returns
  have hts := fun (w : Cond) (h : w ∈ lw_U) => atoms_spec (ws := w_X_forget) B.pre w (List.mem_cons_of_mem _ h)
  have hown : s.vm.findClass R_X = some m.cls := findClass_of_methodNamed B.named
  have hlocks := B.notSynchronized
  subst hsz
  have hD := hD0.self (sz := s.heap.size)
  generalize hAe : va_A (Xw h0 qd qs qv cI cJ (dk, hf, gn, rt, ct, sl, sm, pw, ln, lq, vq, ch)) s.heap.size = A at hD ⊢
  have hA : ∀ q : Nat, s.heap.size ≤ q → A q := fun q h => by rw [← hAe]; exact Or.inr h
  have hS : va_S A s.heap s.heap [] := va_S.rf
  have hP : va_P (dC, dI) classes (Xw h0 qd qs qv cI cJ (dk, hf, gn, rt, ct, sl, sm, pw, ln, lq, vq, ch)) s.heap := hP
  have hl := lv_entry ([.ref h0]) (n := 1) (Nat.le_of_ble_eq_true rfl)
  rw [lg_entry_eq]
  generalize (lg_sl ([.ref h0]) ++ List.replicate (1 - (lg_sl ([.ref h0])).length) Slot.unset).toArray = ls at hl ⊢
  have hl : lv_has ls 1 [(0, .ref h0)] := hl
  refine lv_aload_n hx hb d_X_forget_0 rfl (lv_at hl 0 rfl) ?_
  refine lv_iconst (v := (0 : Int32)) hx hb d_X_forget_1 (by decide) ?_
  refine va_put (D := (dC, dI)) (ci := 0) (v := .int (0 : Int32)) (ty := .boolean) (C := R_X) (T := F_X) (N := 12) hx hb hts lay_X t_X t_X_ok n_X hown hK hP hD hS 0 rfl rfl 7 (by decide) (hts _ m_69) (fun _ h9 => h9) rfl (by decide +kernel) rfl rfl (Nat.le_of_ble_eq_true rfl) d_X_forget_2 (fun H locs hP hD hS => ?_)
  have hP : va_P (dC, dI) classes (Xw h0 qd qs qv cI cJ (dk, hf, gn, rt, ct, sl, sm, false, ln, lq, vq, ch)) H := hP
  have hD : va_D A (Xw h0 qd qs qv cI cJ (dk, hf, gn, rt, ct, sl, sm, false, ln, lq, vq, ch)) := hD
  refine lv_aload_n hx hb d_X_forget_5 rfl (lv_at hl 0 rfl) ?_
  refine lv_iconst (v := nI 0) hx hb d_X_forget_6 (by decide) ?_
  refine va_put (D := (dC, dI)) (ci := 0) (v := .int (nI 0)) (ty := .int) (C := R_X) (T := F_X) (N := 12) hx hb hts lay_X t_X t_X_ok n_X hown hK hP hD hS 0 rfl rfl 8 (by decide) (hts _ m_70) (fun _ h9 => h9) rfl (by decide +kernel) rfl rfl (Nat.le_of_ble_eq_true rfl) d_X_forget_7 (fun H locs hP hD hS => ?_)
  have hP : va_P (dC, dI) classes (Xw h0 qd qs qv cI cJ (dk, hf, gn, rt, ct, sl, sm, false, 0, lq, vq, ch)) H := hP
  have hD : va_D A (Xw h0 qd qs qv cI cJ (dk, hf, gn, rt, ct, sl, sm, false, 0, lq, vq, ch)) := hD
  refine lv_aload_n hx hb d_X_forget_10 rfl (lv_at hl 0 rfl) ?_
  refine lv_iconst (v := (0 : Int32)) hx hb d_X_forget_11 (by decide) ?_
  refine va_put (D := (dC, dI)) (ci := 0) (v := .int (0 : Int32)) (ty := .int) (C := R_X) (T := F_X) (N := 12) hx hb hts lay_X t_X t_X_ok n_X hown hK hP hD hS 0 rfl rfl 11 (by decide) (hts _ m_73) (fun _ h9 => h9) rfl (by decide +kernel) rfl rfl (Nat.le_of_ble_eq_true rfl) d_X_forget_12 (fun H locs hP hD hS => ?_)
  have hP : va_P (dC, dI) classes (Xw h0 qd qs qv cI cJ (dk, hf, gn, rt, ct, sl, sm, false, 0, lq, vq, (0 : Int32))) H := hP
  have hD : va_D A (Xw h0 qd qs qv cI cJ (dk, hf, gn, rt, ct, sl, sm, false, 0, lq, vq, (0 : Int32))) := hD
  exact W.vret hx hb hr (fun t ht hW => ⟨⟨(dk, hf, gn, rt, ct, sl, sm, false, 0, lq, vq, (0 : Int32)), rfl, rfl, by rw [ht]; exact hP, va_K.moved hW.alike hK, hD⟩, hS.F ht⟩) hS.2.2 d_X_forget_15
set_option maxHeartbeats 4000000 in
set_option maxRecDepth 100000 in
theorem c_addToList (l : Launch) (dC : Nat → ClassId) (dI : Nat → Nat → Nat) (h0 qd qs qv : Nat) (cI cJ : ClassId) (sz : Nat) (dk : Nat → Int32) (hf : Nat) (gn : Int32) (rt : Int32) (ct : Int32) (sl : Int32) (sm : Int32) (pw : Bool) (ln : Nat) (lq : Nat → Int32) (vq : Nat → Int64) (ch : Int32) (x0 : Int32) (v0 : Int64) (h_n : ln < 5) : Met l y_X_addToList w_X_addToList ({ frames := 0, cells := 0, slots := 0, locals := 0 }) (va_Pc [.ref h0, .int x0, .long v0] (z_pre (dC, dI) classes [(cI, .int), (cJ, .long)] (Xw h0 qd qs qv cI cJ (dk, hf, gn, rt, ct, sl, sm, pw, ln, lq, vq, ch)) sz)) (va_Qv (fun (u : XS) => u = (dk, hf, gn, rt, ct, sl, sm, pw, ln + 1, upd lq ln x0, vp_updL vq ln v0, ch)) (fun u => z_at (dC, dI) classes [(cI, .int), (cJ, .long)] (va_A (Xw h0 qd qs qv cI cJ (dk, hf, gn, rt, ct, sl, sm, pw, ln, lq, vq, ch)) sz) (Xw h0 qd qs qv cI cJ u)) (va_A (Xw h0 qd qs qv cI cJ (dk, hf, gn, rt, ct, sl, sm, pw, ln, lq, vq, ch)) sz)) 0 0 (va_A (Xw h0 qd qs qv cI cJ (dk, hf, gn, rt, ct, sl, sm, pw, ln, lq, vq, ch)) sz) := by
  refine Met.ofW (cc := b_X_addToList) (maxL := 4) (ret := none) (by decide) rfl ?_
  intro p e s m args below meth c s₁ B hml hv
  obtain ⟨rfl, hsz, hP, hK, hD0⟩ := hv
  have hx := B.exec
  have hb := B.bytes
  have hr := B.returns
  have hts := fun (w : Cond) (h : w ∈ lw_U) => atoms_spec (ws := w_X_addToList) B.pre w (List.mem_cons_of_mem _ h)
  have hown : s.vm.findClass R_X = some m.cls := findClass_of_methodNamed B.named
  have hlocks := B.notSynchronized
  subst hsz
  have hD := hD0.self (sz := s.heap.size)
  generalize hAe : va_A (Xw h0 qd qs qv cI cJ (dk, hf, gn, rt, ct, sl, sm, pw, ln, lq, vq, ch)) s.heap.size = A at hD ⊢
  have hA : ∀ q : Nat, s.heap.size ≤ q → A q := fun q h => by rw [← hAe]; exact Or.inr h
  have hS : va_S A s.heap s.heap [] := va_S.rf
  have hP : va_P (dC, dI) classes (Xw h0 qd qs qv cI cJ (dk, hf, gn, rt, ct, sl, sm, pw, ln, lq, vq, ch)) s.heap := hP
  have hl := lv_entry ([.ref h0, .int x0, .long v0]) (n := 4) (Nat.le_of_ble_eq_true rfl)
  rw [lg_entry_eq]
  generalize (lg_sl ([.ref h0, .int x0, .long v0]) ++ List.replicate (4 - (lg_sl ([.ref h0, .int x0, .long v0])).length) Slot.unset).toArray = ls at hl ⊢
  have hl : lv_has ls 4 [(0, .ref h0), (1, .int x0), (2, .long v0)] := hl
  refine lv_aload_n hx hb d_X_addToList_0 rfl (lv_at hl 0 rfl) ?_
  refine va_get (D := (dC, dI)) (ci := 0) (v := .ref qs) (C := R_X) (T := F_X) (N := 12) hx hb hts lay_X hown hK hP 0 rfl rfl 9 (by decide) (hts _ m_71) (fun _ h9 => h9) rfl d_X_addToList_1 ?_
  refine lv_aload_n hx hb d_X_addToList_4 rfl (lv_at hl 0 rfl) ?_
  refine va_get (D := (dC, dI)) (ci := 0) (v := .int (nI ln)) (C := R_X) (T := F_X) (N := 12) hx hb hts lay_X hown hK hP 0 rfl rfl 8 (by decide) (hts _ m_70) (fun _ h9 => h9) rfl d_X_addToList_5 ?_
  refine lv_iload_n hx hb d_X_addToList_8 rfl (lv_at hl 1 rfl) ?_
  refine z_iast hx hb hK hP hD hS 2 0 rfl rfl (by omega) (by decide) d_X_addToList_9 (fun H locs hP hD hS => ?_)
  have hP : va_P (dC, dI) classes (Xw h0 qd qs qv cI cJ (dk, hf, gn, rt, ct, sl, sm, pw, ln, upd lq ln x0, vq, ch)) H := hP
  have hD : va_D A (Xw h0 qd qs qv cI cJ (dk, hf, gn, rt, ct, sl, sm, pw, ln, upd lq ln x0, vq, ch)) := hD
  refine lv_aload_n hx hb d_X_addToList_10 rfl (lv_at hl 0 rfl) ?_
  refine va_get (D := (dC, dI)) (ci := 0) (v := .ref qv) (C := R_X) (T := F_X) (N := 12) hx hb hts lay_X hown hK hP 0 rfl rfl 10 (by decide) (hts _ m_72) (fun _ h9 => h9) rfl d_X_addToList_11 ?_
  refine lv_aload_n hx hb d_X_addToList_14 rfl (lv_at hl 0 rfl) ?_
  refine va_get (D := (dC, dI)) (ci := 0) (v := .int (nI ln)) (C := R_X) (T := F_X) (N := 12) hx hb hts lay_X hown hK hP 0 rfl rfl 8 (by decide) (hts _ m_70) (fun _ h9 => h9) rfl d_X_addToList_15 ?_
  refine lv_lload_n hx hb d_X_addToList_18 rfl (lv_at hl 2 rfl) ?_
  refine z_last hx hb hK hP hD hS 3 1 rfl rfl (by omega) (by decide) d_X_addToList_19 (fun H locs hP hD hS => ?_)
  have hP : va_P (dC, dI) classes (Xw h0 qd qs qv cI cJ (dk, hf, gn, rt, ct, sl, sm, pw, ln, upd lq ln x0, vp_updL vq ln v0, ch)) H := hP
  have hD : va_D A (Xw h0 qd qs qv cI cJ (dk, hf, gn, rt, ct, sl, sm, pw, ln, upd lq ln x0, vp_updL vq ln v0, ch)) := hD
  refine lv_aload_n hx hb d_X_addToList_20 rfl (lv_at hl 0 rfl) ?_
  refine lv_dup hx hb d_X_addToList_21 rfl ?_
  refine va_get (D := (dC, dI)) (ci := 0) (v := .int (nI ln)) (C := R_X) (T := F_X) (N := 12) hx hb hts lay_X hown hK hP 0 rfl rfl 8 (by decide) (hts _ m_70) (fun _ h9 => h9) rfl d_X_addToList_22 ?_
  refine lv_iconst (v := nI 1) hx hb d_X_addToList_25 (by decide) ?_
  refine lv_iadd hx hb d_X_addToList_26 ?_
  refine z_top (nI_add _ _) ?_
  refine va_put (D := (dC, dI)) (ci := 0) (v := .int (nI (ln + 1))) (ty := .int) (C := R_X) (T := F_X) (N := 12) hx hb hts lay_X t_X t_X_ok n_X hown hK hP hD hS 0 rfl rfl 8 (by decide) (hts _ m_70) (fun _ h9 => h9) rfl (by decide +kernel) rfl rfl (Nat.le_of_ble_eq_true rfl) d_X_addToList_27 (fun H locs hP hD hS => ?_)
  have hP : va_P (dC, dI) classes (Xw h0 qd qs qv cI cJ (dk, hf, gn, rt, ct, sl, sm, pw, ln + 1, upd lq ln x0, vp_updL vq ln v0, ch)) H := hP
  have hD : va_D A (Xw h0 qd qs qv cI cJ (dk, hf, gn, rt, ct, sl, sm, pw, ln + 1, upd lq ln x0, vp_updL vq ln v0, ch)) := hD
  exact W.vret hx hb hr (fun t ht hW => ⟨⟨(dk, hf, gn, rt, ct, sl, sm, pw, ln + 1, upd lq ln x0, vp_updL vq ln v0, ch), rfl, rfl, by rw [ht]; exact hP, va_K.moved hW.alike hK, hD⟩, hS.F ht⟩) hS.2.2 d_X_addToList_30
set_option maxHeartbeats 4000000 in
set_option maxRecDepth 100000 in
theorem c_beginList (l : Launch) (dC : Nat → ClassId) (dI : Nat → Nat → Nat) (h0 qd qs qv : Nat) (cI cJ : ClassId) (sz : Nat) (dk : Nat → Int32) (hf : Nat) (gn : Int32) (rt : Int32) (ct : Int32) (sl : Int32) (sm : Int32) (pw : Bool) (ln : Nat) (lq : Nat → Int32) (vq : Nat → Int64) (ch : Int32)   : Met l y_X_beginList w_X_beginList ({ frames := 1, cells := 0, slots := 0, locals := 22 }) (va_Pc [.ref h0] (z_pre (dC, dI) classes [(cI, .int), (cJ, .long)] (Xw h0 qd qs qv cI cJ (dk, hf, gn, rt, ct, sl, sm, pw, ln, lq, vq, ch)) sz)) (va_Qv (fun (u : XS) => u = (dk, hf, gn, rt, ct, sl, sm, pw, 0, lq, vq, dg (dg 19088743 rt) gn)) (fun u => z_at (dC, dI) classes [(cI, .int), (cJ, .long)] (va_A (Xw h0 qd qs qv cI cJ (dk, hf, gn, rt, ct, sl, sm, pw, ln, lq, vq, ch)) sz) (Xw h0 qd qs qv cI cJ u)) (va_A (Xw h0 qd qs qv cI cJ (dk, hf, gn, rt, ct, sl, sm, pw, ln, lq, vq, ch)) sz)) 0 0 (va_A (Xw h0 qd qs qv cI cJ (dk, hf, gn, rt, ct, sl, sm, pw, ln, lq, vq, ch)) sz) := by
  refine Met.ofW (cc := b_X_beginList) (maxL := 1) (ret := none) (by decide) rfl ?_
  intro p e s m args below meth c s₁ B hml hv
  obtain ⟨rfl, hsz, hP, hK, hD0⟩ := hv
  have hx := B.exec
  have hb := B.bytes
  have hr := B.returns
  have hts := fun (w : Cond) (h : w ∈ lw_U) => atoms_spec (ws := w_X_beginList) B.pre w (List.mem_cons_of_mem _ h)
  have hown : s.vm.findClass R_X = some m.cls := findClass_of_methodNamed B.named
  have hlocks := B.notSynchronized
  subst hsz
  have hD := hD0.self (sz := s.heap.size)
  generalize hAe : va_A (Xw h0 qd qs qv cI cJ (dk, hf, gn, rt, ct, sl, sm, pw, ln, lq, vq, ch)) s.heap.size = A at hD ⊢
  have hA : ∀ q : Nat, s.heap.size ≤ q → A q := fun q h => by rw [← hAe]; exact Or.inr h
  have hS : va_S A s.heap s.heap [] := va_S.rf
  have hP : va_P (dC, dI) classes (Xw h0 qd qs qv cI cJ (dk, hf, gn, rt, ct, sl, sm, pw, ln, lq, vq, ch)) s.heap := hP
  have hl := lv_entry ([.ref h0]) (n := 1) (Nat.le_of_ble_eq_true rfl)
  rw [lg_entry_eq]
  generalize (lg_sl ([.ref h0]) ++ List.replicate (1 - (lg_sl ([.ref h0])).length) Slot.unset).toArray = ls at hl ⊢
  have hl : lv_has ls 1 [(0, .ref h0)] := hl
  refine lv_aload_n hx hb d_X_beginList_0 rfl (lv_at hl 0 rfl) ?_
  refine lv_iconst (v := nI 0) hx hb d_X_beginList_1 (by decide) ?_
  refine va_put (D := (dC, dI)) (ci := 0) (v := .int (nI 0)) (ty := .int) (C := R_X) (T := F_X) (N := 12) hx hb hts lay_X t_X t_X_ok n_X hown hK hP hD hS 0 rfl rfl 8 (by decide) (hts _ m_70) (fun _ h9 => h9) rfl (by decide +kernel) rfl rfl (Nat.le_of_ble_eq_true rfl) d_X_beginList_2 (fun H locs hP hD hS => ?_)
  have hP : va_P (dC, dI) classes (Xw h0 qd qs qv cI cJ (dk, hf, gn, rt, ct, sl, sm, pw, 0, lq, vq, ch)) H := hP
  have hD : va_D A (Xw h0 qd qs qv cI cJ (dk, hf, gn, rt, ct, sl, sm, pw, 0, lq, vq, ch)) := hD
  refine lv_aload_n hx hb d_X_beginList_5 rfl (lv_at hl 0 rfl) ?_
  refine lv_ldc (v := 19088743) hx hb hown (hts _ m_46) d_X_beginList_6 ?_
  refine lv_aload_n hx hb d_X_beginList_8 rfl (lv_at hl 0 rfl) ?_
  refine va_get (D := (dC, dI)) (ci := 0) (v := .int rt) (C := R_X) (T := F_X) (N := 12) hx hb hts lay_X hown hK hP 0 rfl rfl 3 (by decide) (hts _ m_65) (fun _ h9 => h9) rfl d_X_beginList_9 ?_
  refine vp_callSi (W.runS (As := [.int (19088743 : Int32), .int rt]) (rest := [.ref h0]) ⟨hx, hb, hml, hown, hts⟩ (c_digest l (19088743 : Int32) rt) (cwS 2 hts g_X_100 rfl rfl rfl (by decide +kernel) ⟨(Nat.le_of_ble_eq_true rfl), (Nat.le_of_ble_eq_true rfl)⟩) preEq rfl rfl hl.1 rfl (lv_room (Nat.le_of_ble_eq_true rfl)) d_X_beginList_12 ⟨(Nat.le_of_ble_eq_true rfl), (Nat.le_of_ble_eq_true rfl)⟩) (fun r hr0 => ?_)
  subst hr0
  refine lv_aload_n hx hb d_X_beginList_15 rfl (lv_at hl 0 rfl) ?_
  refine va_get (D := (dC, dI)) (ci := 0) (v := .int gn) (C := R_X) (T := F_X) (N := 12) hx hb hts lay_X hown hK hP 0 rfl rfl 2 (by decide) (hts _ m_64) (fun _ h9 => h9) rfl d_X_beginList_16 ?_
  refine vp_callSi (W.runS (As := [.int (dg (19088743 : Int32) rt), .int gn]) (rest := [.ref h0]) ⟨hx, hb, hml, hown, hts⟩ (c_digest l (dg (19088743 : Int32) rt) gn) (cwS 2 hts g_X_100 rfl rfl rfl (by decide +kernel) ⟨(Nat.le_of_ble_eq_true rfl), (Nat.le_of_ble_eq_true rfl)⟩) preEq rfl rfl hl.1 rfl (lv_room (Nat.le_of_ble_eq_true rfl)) d_X_beginList_19 ⟨(Nat.le_of_ble_eq_true rfl), (Nat.le_of_ble_eq_true rfl)⟩) (fun r hr0 => ?_)
  subst hr0
  refine va_put (D := (dC, dI)) (ci := 0) (v := .int (dg (dg (19088743 : Int32) rt) gn)) (ty := .int) (C := R_X) (T := F_X) (N := 12) hx hb hts lay_X t_X t_X_ok n_X hown hK hP hD hS 0 rfl rfl 11 (by decide) (hts _ m_73) (fun _ h9 => h9) rfl (by decide +kernel) rfl rfl (Nat.le_of_ble_eq_true rfl) d_X_beginList_22 (fun H locs hP hD hS => ?_)
  have hP : va_P (dC, dI) classes (Xw h0 qd qs qv cI cJ (dk, hf, gn, rt, ct, sl, sm, pw, 0, lq, vq, dg (dg (19088743 : Int32) rt) gn)) H := hP
  have hD : va_D A (Xw h0 qd qs qv cI cJ (dk, hf, gn, rt, ct, sl, sm, pw, 0, lq, vq, dg (dg (19088743 : Int32) rt) gn)) := hD
  exact W.vret hx hb hr (fun t ht hW => ⟨⟨(dk, hf, gn, rt, ct, sl, sm, pw, 0, lq, vq, dg (dg (19088743 : Int32) rt) gn), rfl, rfl, by rw [ht]; exact hP, va_K.moved hW.alike hK, hD⟩, hS.F ht⟩) hS.2.2 d_X_beginList_25
set_option maxHeartbeats 4000000 in
set_option maxRecDepth 100000 in
theorem c_takeJournal (l : Launch) (dC : Nat → ClassId) (dI : Nat → Nat → Nat) (h0 qd qs qv : Nat) (cI cJ : ClassId) (sz : Nat) (dk : Nat → Int32) (hf : Nat) (gn : Int32) (rt : Int32) (ct : Int32) (sl : Int32) (sm : Int32) (pw : Bool) (ln : Nat) (lq : Nat → Int32) (vq : Nat → Int64) (ch : Int32)  (h_f : hf < 2) : Met l y_X_takeJournal w_X_takeJournal ({ frames := 3, cells := 0, slots := 0, locals := 69 }) (va_Pc [.ref h0] (z_pre (dC, dI) classes [(cI, .int), (cJ, .long)] (Xw h0 qd qs qv cI cJ (dk, hf, gn, rt, ct, sl, sm, pw, ln, lq, vq, ch)) sz)) (va_Qv (fun (u : XS) => ∃ (n1 : Nat) (lq1 : Nat → Int32) (vq1 : Nat → Int64) (ch1 : Int32), tj dk hf gn 5 0 lq vq (dg (dg 19088743 rt) gn) = (n1, lq1, vq1, ch1) ∧ n1 ≤ 5 ∧ u = (dk, hf, gn, rt, ct, sl, sm, pw, n1, lq1, vq1, ch1)) (fun u => z_at (dC, dI) classes [(cI, .int), (cJ, .long)] (va_A (Xw h0 qd qs qv cI cJ (dk, hf, gn, rt, ct, sl, sm, pw, ln, lq, vq, ch)) sz) (Xw h0 qd qs qv cI cJ u)) (va_A (Xw h0 qd qs qv cI cJ (dk, hf, gn, rt, ct, sl, sm, pw, ln, lq, vq, ch)) sz)) 0 0 (va_A (Xw h0 qd qs qv cI cJ (dk, hf, gn, rt, ct, sl, sm, pw, ln, lq, vq, ch)) sz) := by
  refine Met.ofW (cc := b_X_takeJournal) (maxL := 7) (ret := none) (by decide) rfl ?_
  intro p e s m args below meth c s₁ B hml hv
  obtain ⟨rfl, hsz, hP, hK, hD0⟩ := hv
  have hx := B.exec
  have hb := B.bytes
  have hr := B.returns
  have hts := fun (w : Cond) (h : w ∈ lw_U) => atoms_spec (ws := w_X_takeJournal) B.pre w (List.mem_cons_of_mem _ h)
  have hown : s.vm.findClass R_X = some m.cls := findClass_of_methodNamed B.named
  have hlocks := B.notSynchronized
  subst hsz
  have hD := hD0.self (sz := s.heap.size)
  generalize hAe : va_A (Xw h0 qd qs qv cI cJ (dk, hf, gn, rt, ct, sl, sm, pw, ln, lq, vq, ch)) s.heap.size = A at hD ⊢
  have hA : ∀ q : Nat, s.heap.size ≤ q → A q := fun q h => by rw [← hAe]; exact Or.inr h
  have hS : va_S A s.heap s.heap [] := va_S.rf
  have hP : va_P (dC, dI) classes (Xw h0 qd qs qv cI cJ (dk, hf, gn, rt, ct, sl, sm, pw, ln, lq, vq, ch)) s.heap := hP
  have hl := lv_entry ([.ref h0]) (n := 7) (Nat.le_of_ble_eq_true rfl)
  rw [lg_entry_eq]
  generalize (lg_sl ([.ref h0]) ++ List.replicate (7 - (lg_sl ([.ref h0])).length) Slot.unset).toArray = ls at hl ⊢
  have hl : lv_has ls 7 [(0, .ref h0)] := hl
  have loop : ∀ (j k : Nat) (lq1 : Nat → Int32) (vq1 : Nat → Int64) (ch1 : Int32) (ls : Array Slot) (H : Heap) (locs : List Loc), k + j = 5 → lv_has ls 7 [(0, .ref h0), (1, .int (nI k))] → va_P (dC, dI) classes (Xw h0 qd qs qv cI cJ (dk, hf, gn, rt, ct, sl, sm, pw, k, lq1, vq1, ch1)) H → va_D A (Xw h0 qd qs qv cI cJ (dk, hf, gn, rt, ct, sl, sm, pw, k, lq1, vq1, ch1)) → va_S A s.heap H locs → tj dk hf gn j k lq1 vq1 ch1 = tj dk hf gn 5 0 lq vq (dg (dg 19088743 rt) gn) → W p l e (headSpec w_X_takeJournal ({ frames := 3, cells := 0, slots := 0, locals := 69 })).room s m ([.ref h0].toArray) below meth c H locs 0 0 (MQ below (va_Qv (fun (u : XS) => ∃ (n1 : Nat) (lq1 : Nat → Int32) (vq1 : Nat → Int64) (ch1 : Int32), tj dk hf gn 5 0 lq vq (dg (dg 19088743 rt) gn) = (n1, lq1, vq1, ch1) ∧ n1 ≤ 5 ∧ u = (dk, hf, gn, rt, ct, sl, sm, pw, n1, lq1, vq1, ch1)) (fun u => z_at (dC, dI) classes [(cI, .int), (cJ, .long)] A (Xw h0 qd qs qv cI cJ u)) A) ([.ref h0].toArray) s 0 0 A) (F0 m 6 ls []) := by
    intro j
    induction j with
    | zero =>
      intro k lq1 vq1 ch1 ls H locs hk hl hP hD hS hF
      refine lv_iload_n hx hb d_X_takeJournal_6 rfl (lv_at hl 1 rfl) ?_
      refine lv_iconst (v := nI 5) hx hb d_X_takeJournal_7 (by decide) ?_
      refine lv_icmp_ge (tgt := 101) hx hb d_X_takeJournal_8 (by decide) (fun _ => ?_) (fun h9 => absurd ((nI_leI (by omega) (by omega)).mpr (by omega)) h9)
      exact W.vret hx hb hr (fun t ht hW => ⟨⟨(dk, hf, gn, rt, ct, sl, sm, pw, k, lq1, vq1, ch1), rfl, ⟨_, _, _, _, hF.symm, by omega, rfl⟩, by rw [ht]; exact hP, va_K.moved hW.alike hK, hD⟩, hS.F ht⟩) hS.2.2 d_X_takeJournal_101
    | succ j ih =>
      intro k lq1 vq1 ch1 ls H locs hk hl hP hD hS hF
      refine lv_iload_n hx hb d_X_takeJournal_6 rfl (lv_at hl 1 rfl) ?_
      refine lv_iconst (v := nI 5) hx hb d_X_takeJournal_7 (by decide) ?_
      refine lv_icmp_ge (tgt := 101) hx hb d_X_takeJournal_8 (by decide) (fun h9 => absurd h9 (fun q => absurd ((nI_leI (by omega) (by omega)).mp q) (by omega))) (fun _ => ?_)
      refine lv_aload_n hx hb d_X_takeJournal_11 rfl (lv_at hl 0 rfl) ?_
      refine va_get (D := (dC, dI)) (ci := 0) (v := .int (nI hf)) (C := R_X) (T := F_X) (N := 12) hx hb hts lay_X hown hK hP 0 rfl rfl 1 (by decide) (hts _ m_63) (fun _ h9 => h9) rfl d_X_takeJournal_12 ?_
      refine lv_iload_n hx hb d_X_takeJournal_15 rfl (lv_at hl 1 rfl) ?_
      refine vp_callSi (W.runS (As := [.int (nI hf), .int (nI k)]) (rest := []) ⟨hx, hb, hml, hown, hts⟩ (c_recordPlace l hf k) (cwS 2 hts g_X_123 rfl rfl rfl (by decide +kernel) ⟨(Nat.le_of_ble_eq_true rfl), (Nat.le_of_ble_eq_true rfl)⟩) preEq rfl rfl hl.1 rfl (lv_room (Nat.le_of_ble_eq_true rfl)) d_X_takeJournal_16 ⟨(Nat.le_of_ble_eq_true rfl), (Nat.le_of_ble_eq_true rfl)⟩) (fun r hr0 => ?_)
      subst hr0
      refine lv_istore_n hx hb d_X_takeJournal_19 rfl hl (by decide) rfl (fun ls hl => ?_)
      have hl : lv_has ls 7 [(2, .int (nI (51 * hf + 31 + 4 * k))), (0, .ref h0), (1, .int (nI k))] := hl
      refine lv_aload_n hx hb d_X_takeJournal_20 rfl (lv_at hl 1 rfl) ?_
      refine lv_iload_n hx hb d_X_takeJournal_21 rfl (lv_at hl 0 rfl) ?_
      refine vp_callSi (W.runV (C := R_X) (b := h0) (As := [.int (nI (51 * hf + 31 + 4 * k))]) (rest := []) ⟨hx, hb, hml, hown, hts⟩ (c_chainBehind l dC dI h0 qd qs qv cI cJ _ dk hf gn rt ct sl sm pw k lq1 vq1 ch1 (51 * hf + 31 + 4 * k) (by omega)) (cwV 1 hts g_X_126 rfl rfl rfl (by decide +kernel) ⟨(Nat.le_of_ble_eq_true rfl), (Nat.le_of_ble_eq_true rfl)⟩) (z_preV (va_recv (q0 := 0) hK hP rfl rfl) hP hK hD) rfl rfl hl.1 rfl (lv_room (Nat.le_of_ble_eq_true rfl)) d_X_takeJournal_22 ⟨(Nat.le_of_ble_eq_true rfl), (Nat.le_of_ble_eq_true rfl)⟩) (fun r hr0 => ?_)
      subst hr0
      refine lv_istore_n hx hb d_X_takeJournal_25 rfl hl (by decide) rfl (fun ls hl => ?_)
      have hl : lv_has ls 7 [(3, .int (chn ch1 dk (51 * hf + 31 + 4 * k))), (2, .int (nI (51 * hf + 31 + 4 * k))), (0, .ref h0), (1, .int (nI k))] := hl
      refine lv_aload_n hx hb d_X_takeJournal_26 rfl (lv_at hl 2 rfl) ?_
      refine va_get (D := (dC, dI)) (ci := 0) (v := .ref qd) (C := R_X) (T := F_X) (N := 12) hx hb hts lay_X hown hK hP 0 rfl rfl 0 (by decide) (hts _ m_62) (fun _ h9 => h9) rfl d_X_takeJournal_27 ?_
      refine lv_iload_n hx hb d_X_takeJournal_30 rfl (lv_at hl 1 rfl) ?_
      refine z_iald hx hb hK hP 1 0 rfl rfl (by omega) (by decide) d_X_takeJournal_31 ?_
      refine lv_iload_n hx hb d_X_takeJournal_32 rfl (lv_at hl 1 rfl) ?_
      refine lv_aload_n hx hb d_X_takeJournal_33 rfl (lv_at hl 2 rfl) ?_
      refine va_get (D := (dC, dI)) (ci := 0) (v := .int gn) (C := R_X) (T := F_X) (N := 12) hx hb hts lay_X hown hK hP 0 rfl rfl 2 (by decide) (hts _ m_64) (fun _ h9 => h9) rfl d_X_takeJournal_34 ?_
      refine vp_callSi (W.runS (As := [.int (dk (51 * hf + 31 + 4 * k)), .int (nI (51 * hf + 31 + 4 * k)), .int gn]) (rest := []) ⟨hx, hb, hml, hown, hts⟩ (c_encipher l (dk (51 * hf + 31 + 4 * k)) (nI (51 * hf + 31 + 4 * k)) gn) (cwS 3 hts g_X_27 rfl rfl rfl (by decide +kernel) ⟨(Nat.le_of_ble_eq_true rfl), (Nat.le_of_ble_eq_true rfl)⟩) preEq rfl rfl hl.1 rfl (lv_room (Nat.le_of_ble_eq_true rfl)) d_X_takeJournal_37 ⟨(Nat.le_of_ble_eq_true rfl), (Nat.le_of_ble_eq_true rfl)⟩) (fun r hr0 => ?_)
      subst hr0
      refine lv_istore hx hb d_X_takeJournal_40 hl (by decide) rfl (fun ls hl => ?_)
      have hl : lv_has ls 7 [(4, .int (enc (dk (51 * hf + 31 + 4 * k)) (nI (51 * hf + 31 + 4 * k)) gn)), (3, .int (chn ch1 dk (51 * hf + 31 + 4 * k))), (2, .int (nI (51 * hf + 31 + 4 * k))), (0, .ref h0), (1, .int (nI k))] := hl
      refine lv_aload_n hx hb d_X_takeJournal_42 rfl (lv_at hl 3 rfl) ?_
      refine lv_iload_n hx hb d_X_takeJournal_43 rfl (lv_at hl 2 rfl) ?_
      refine lv_iconst (v := nI 1) hx hb d_X_takeJournal_44 (by decide) ?_
      refine lv_iadd hx hb d_X_takeJournal_45 ?_
      refine z_top (nI_add _ _) ?_
      refine vp_callSl (W.runV (C := R_X) (b := h0) (As := [.int (nI ((51 * hf + 31 + 4 * k) + 1))]) (rest := []) ⟨hx, hb, hml, hown, hts⟩ (c_valueAt l dC dI h0 qd qs qv cI cJ _ dk hf gn rt ct sl sm pw k lq1 vq1 ch1 ((51 * hf + 31 + 4 * k) + 1) (by omega)) (cwV 1 hts g_X_114 rfl rfl rfl (by decide +kernel) ⟨(Nat.le_of_ble_eq_true rfl), (Nat.le_of_ble_eq_true rfl)⟩) (z_preV (va_recv (q0 := 0) hK hP rfl rfl) hP hK hD) rfl rfl hl.1 rfl (lv_room (Nat.le_of_ble_eq_true rfl)) d_X_takeJournal_46 ⟨(Nat.le_of_ble_eq_true rfl), (Nat.le_of_ble_eq_true rfl)⟩) (fun r hr0 => ?_)
      subst hr0
      refine lv_lstore hx hb d_X_takeJournal_49 hl (by decide) rfl (fun ls hl => ?_)
      have hl : lv_has ls 7 [(5, .long (vat dk gn ((51 * hf + 31 + 4 * k) + 1))), (4, .int (enc (dk (51 * hf + 31 + 4 * k)) (nI (51 * hf + 31 + 4 * k)) gn)), (3, .int (chn ch1 dk (51 * hf + 31 + 4 * k))), (2, .int (nI (51 * hf + 31 + 4 * k))), (0, .ref h0), (1, .int (nI k))] := hl
      refine lv_aload_n hx hb d_X_takeJournal_51 rfl (lv_at hl 4 rfl) ?_
      refine va_get (D := (dC, dI)) (ci := 0) (v := .ref qd) (C := R_X) (T := F_X) (N := 12) hx hb hts lay_X hown hK hP 0 rfl rfl 0 (by decide) (hts _ m_62) (fun _ h9 => h9) rfl d_X_takeJournal_52 ?_
      refine lv_iload_n hx hb d_X_takeJournal_55 rfl (lv_at hl 3 rfl) ?_
      refine lv_iconst (v := nI 3) hx hb d_X_takeJournal_56 (by decide) ?_
      refine lv_iadd hx hb d_X_takeJournal_57 ?_
      refine z_top (nI_add _ _) ?_
      refine z_iald hx hb hK hP 1 0 rfl rfl (by omega) (by decide) d_X_takeJournal_58 ?_
      refine lv_iload_n hx hb d_X_takeJournal_59 rfl (lv_at hl 2 rfl) ?_
      refine vp_callSi (W.runS (As := [.int (chn ch1 dk (51 * hf + 31 + 4 * k))]) (rest := [.int (dk ((51 * hf + 31 + 4 * k) + 3))]) ⟨hx, hb, hml, hown, hts⟩ (c_markOf l (chn ch1 dk (51 * hf + 31 + 4 * k))) (cwS 1 hts g_X_129 rfl rfl rfl (by decide +kernel) ⟨(Nat.le_of_ble_eq_true rfl), (Nat.le_of_ble_eq_true rfl)⟩) preEq rfl rfl hl.1 rfl (lv_room (Nat.le_of_ble_eq_true rfl)) d_X_takeJournal_60 ⟨(Nat.le_of_ble_eq_true rfl), (Nat.le_of_ble_eq_true rfl)⟩) (fun r hr0 => ?_)
      subst hr0
      refine lv_icmp_ne (tgt := 81) hx hb d_X_takeJournal_63 (by decide) (fun h1 => ?_) (fun h1 => ?_)
      · exact W.vret hx hb hr (fun t ht hW => ⟨⟨(dk, hf, gn, rt, ct, sl, sm, pw, k, lq1, vq1, ch1), rfl, ⟨_, _, _, _, (by rw [← hF]; unfold tj; rw [if_neg (fun q => by simp_all)]), by omega, rfl⟩, by rw [ht]; exact hP, va_K.moved hW.alike hK, hD⟩, hS.F ht⟩) hS.2.2 d_X_takeJournal_81
      · refine lv_iload hx hb d_X_takeJournal_66 (lv_at hl 1 rfl) ?_
        refine vp_callSi (W.runS (As := [.int (enc (dk (51 * hf + 31 + 4 * k)) (nI (51 * hf + 31 + 4 * k)) gn)]) (rest := []) ⟨hx, hb, hml, hown, hts⟩ (c_isSector l (enc (dk (51 * hf + 31 + 4 * k)) (nI (51 * hf + 31 + 4 * k)) gn)) (cwS 1 hts g_X_57 rfl rfl rfl (by decide +kernel) ⟨(Nat.le_of_ble_eq_true rfl), (Nat.le_of_ble_eq_true rfl)⟩) preEq rfl rfl hl.1 rfl (lv_room (Nat.le_of_ble_eq_true rfl)) d_X_takeJournal_68 ⟨(Nat.le_of_ble_eq_true rfl), (Nat.le_of_ble_eq_true rfl)⟩) (fun r hr0 => ?_)
        subst hr0
        refine lv_if_eq (tgt := 81) hx hb d_X_takeJournal_71 (by decide) (fun h2 => ?_) (fun h2 => ?_)
        · exact W.vret hx hb hr (fun t ht hW => ⟨⟨(dk, hf, gn, rt, ct, sl, sm, pw, k, lq1, vq1, ch1), rfl, ⟨_, _, _, _, (by rw [← hF]; unfold tj; rw [if_neg (fun q => by simp_all)]), by omega, rfl⟩, by rw [ht]; exact hP, va_K.moved hW.alike hK, hD⟩, hS.F ht⟩) hS.2.2 d_X_takeJournal_81
        · refine lv_lload hx hb d_X_takeJournal_74 (lv_at hl 0 rfl) ?_
          refine lv_lconst (v := 0) hx hb d_X_takeJournal_76 (by decide) ?_
          refine W.lcmp hx hb d_X_takeJournal_77 ?_
          refine lv_if_ge (tgt := 82) hx hb d_X_takeJournal_78 (by decide) (fun h3 => ?_) (fun h3 => ?_)
          · refine lv_aload_n hx hb d_X_takeJournal_82 rfl (lv_at hl 4 rfl) ?_
            refine lv_iload_n hx hb d_X_takeJournal_83 rfl (lv_at hl 2 rfl) ?_
            refine va_put (D := (dC, dI)) (ci := 0) (v := .int (chn ch1 dk (51 * hf + 31 + 4 * k))) (ty := .int) (C := R_X) (T := F_X) (N := 12) hx hb hts lay_X t_X t_X_ok n_X hown hK hP hD hS 0 rfl rfl 11 (by decide) (hts _ m_73) (fun _ h9 => h9) rfl (by decide +kernel) rfl rfl (Nat.le_of_ble_eq_true rfl) d_X_takeJournal_84 (fun H locs hP hD hS => ?_)
            have hP : va_P (dC, dI) classes (Xw h0 qd qs qv cI cJ (dk, hf, gn, rt, ct, sl, sm, pw, k, lq1, vq1, chn ch1 dk (51 * hf + 31 + 4 * k))) H := hP
            have hD : va_D A (Xw h0 qd qs qv cI cJ (dk, hf, gn, rt, ct, sl, sm, pw, k, lq1, vq1, chn ch1 dk (51 * hf + 31 + 4 * k))) := hD
            refine lv_aload_n hx hb d_X_takeJournal_87 rfl (lv_at hl 4 rfl) ?_
            refine lv_iload hx hb d_X_takeJournal_88 (lv_at hl 1 rfl) ?_
            refine lv_lload hx hb d_X_takeJournal_90 (lv_at hl 0 rfl) ?_
            refine z_callv (va_runV (C := R_X) (b := h0) (As := [.int (enc (dk (51 * hf + 31 + 4 * k)) (nI (51 * hf + 31 + 4 * k)) gn), .long (vat dk gn ((51 * hf + 31 + 4 * k) + 1))]) (rest := []) ⟨hx, hb, hml, hown, hts⟩ (c_addToList l dC dI h0 qd qs qv cI cJ _ dk hf gn rt ct sl sm pw k lq1 vq1 (chn ch1 dk (51 * hf + 31 + 4 * k)) (enc (dk (51 * hf + 31 + 4 * k)) (nI (51 * hf + 31 + 4 * k)) gn) (vat dk gn ((51 * hf + 31 + 4 * k) + 1)) (by omega)) (cwV 2 hts g_X_69 rfl rfl rfl (by decide +kernel) ⟨(Nat.le_of_ble_eq_true rfl), (Nat.le_of_ble_eq_true rfl)⟩) (z_preV (va_recv (q0 := 0) hK hP rfl rfl) hP hK hD) rfl rfl hl.1 rfl (lv_room (Nat.le_of_ble_eq_true rfl)) d_X_takeJournal_92 ⟨(Nat.le_of_ble_eq_true rfl), (Nat.le_of_ble_eq_true rfl)⟩) hS hD hA (fun u H locs hr0 hP hD hS => ?_)
            subst hr0
            refine lv_iinc (k := 5) hx hb d_X_takeJournal_95 hl rfl (z_inc _ 1) (by decide) rfl (fun ls hl => ?_)
            have hl : lv_has ls 7 [(1, .int (nI (k + 1))), (5, .long (vat dk gn ((51 * hf + 31 + 4 * k) + 1))), (4, .int (enc (dk (51 * hf + 31 + 4 * k)) (nI (51 * hf + 31 + 4 * k)) gn)), (3, .int (chn ch1 dk (51 * hf + 31 + 4 * k))), (2, .int (nI (51 * hf + 31 + 4 * k))), (0, .ref h0)] := hl
            refine lv_goto (tgt := 6) hx hb d_X_takeJournal_98 (by decide) ?_
            exact ih (k + 1) _ _ _ ls _ _ (by omega) (lv_sub hl [5, 0] rfl) hP hD hS (by rw [← hF]; conv => rhs; unfold tj; rw [if_pos ⟨by simp_all, by simp_all, by simp_all⟩])
          · exact W.vret hx hb hr (fun t ht hW => ⟨⟨(dk, hf, gn, rt, ct, sl, sm, pw, k, lq1, vq1, ch1), rfl, ⟨_, _, _, _, (by rw [← hF]; unfold tj; rw [if_neg (fun q => by simp_all)]), by omega, rfl⟩, by rw [ht]; exact hP, va_K.moved hW.alike hK, hD⟩, hS.F ht⟩) hS.2.2 d_X_takeJournal_81
  refine lv_aload_n hx hb d_X_takeJournal_0 rfl (lv_at hl 0 rfl) ?_
  refine z_callv (va_runV (C := R_X) (b := h0) (As := []) (rest := []) ⟨hx, hb, hml, hown, hts⟩ (c_beginList l dC dI h0 qd qs qv cI cJ _ dk hf gn rt ct sl sm pw ln lq vq ch ) (cwV 0 hts g_X_120 rfl rfl rfl (by decide +kernel) ⟨(Nat.le_of_ble_eq_true rfl), (Nat.le_of_ble_eq_true rfl)⟩) (z_preV (va_recv (q0 := 0) hK hP rfl rfl) hP hK hD) rfl rfl hl.1 rfl (lv_room (Nat.le_of_ble_eq_true rfl)) d_X_takeJournal_1 ⟨(Nat.le_of_ble_eq_true rfl), (Nat.le_of_ble_eq_true rfl)⟩) hS hD hA (fun u H locs hr0 hP hD hS => ?_)
  subst hr0
  refine lv_iconst (v := nI 0) hx hb d_X_takeJournal_4 (by decide) ?_
  refine lv_istore_n hx hb d_X_takeJournal_5 rfl hl (by decide) rfl (fun ls hl => ?_)
  have hl : lv_has ls 7 [(1, .int (nI 0)), (0, .ref h0)] := hl
  exact loop 5 0 _ _ _ ls _ _ rfl (lv_sub hl [1, 0] rfl) hP hD hS rfl
set_option maxHeartbeats 4000000 in
set_option maxRecDepth 100000 in
theorem c_stepHappens (l : Launch) (dC : Nat → ClassId) (dI : Nat → Nat → Nat) (h0 qd qs qv : Nat) (cI cJ : ClassId) (sz : Nat) (dk : Nat → Int32) (hf : Nat) (gn : Int32) (rt : Int32) (ct : Int32) (sl : Int32) (sm : Int32) (pw : Bool) (ln : Nat) (lq : Nat → Int32) (vq : Nat → Int64) (ch : Int32)   : Met l y_X_stepHappens w_X_stepHappens ({ frames := 1, cells := 0, slots := 0, locals := 20 }) (va_Pc [.ref h0] (z_pre (dC, dI) classes [(cI, .int), (cJ, .long)] (Xw h0 qd qs qv cI cJ (dk, hf, gn, rt, ct, sl, sm, pw, ln, lq, vq, ch)) sz)) (va_Qi (fun (r : Int32) (u : XS) => (sl = 0 ∧ r = 0 ∧ u = (dk, hf, gn, rt, ct, -1, sm, false, 0, lq, vq, 0)) ∨ (¬ sl = 0 ∧ r = 1 ∧ u = (dk, hf, gn, rt, ct, dec1 sl, sm + 1, pw, ln, lq, vq, ch))) (fun u => z_at (dC, dI) classes [(cI, .int), (cJ, .long)] (va_A (Xw h0 qd qs qv cI cJ (dk, hf, gn, rt, ct, sl, sm, pw, ln, lq, vq, ch)) sz) (Xw h0 qd qs qv cI cJ u)) (va_A (Xw h0 qd qs qv cI cJ (dk, hf, gn, rt, ct, sl, sm, pw, ln, lq, vq, ch)) sz)) 0 0 (va_A (Xw h0 qd qs qv cI cJ (dk, hf, gn, rt, ct, sl, sm, pw, ln, lq, vq, ch)) sz) := by
  refine Met.ofW (cc := b_X_stepHappens) (maxL := 1) (ret := (some .boolean)) (by decide) rfl ?_
  intro p e s m args below meth c s₁ B hml hv
  obtain ⟨rfl, hsz, hP, hK, hD0⟩ := hv
  have hx := B.exec
  have hb := B.bytes
  have hr := B.returns
  have hts := fun (w : Cond) (h : w ∈ lw_U) => atoms_spec (ws := w_X_stepHappens) B.pre w (List.mem_cons_of_mem _ h)
  have hown : s.vm.findClass R_X = some m.cls := findClass_of_methodNamed B.named
  have hlocks := B.notSynchronized
  subst hsz
  have hD := hD0.self (sz := s.heap.size)
  generalize hAe : va_A (Xw h0 qd qs qv cI cJ (dk, hf, gn, rt, ct, sl, sm, pw, ln, lq, vq, ch)) s.heap.size = A at hD ⊢
  have hA : ∀ q : Nat, s.heap.size ≤ q → A q := fun q h => by rw [← hAe]; exact Or.inr h
  have hS : va_S A s.heap s.heap [] := va_S.rf
  have hP : va_P (dC, dI) classes (Xw h0 qd qs qv cI cJ (dk, hf, gn, rt, ct, sl, sm, pw, ln, lq, vq, ch)) s.heap := hP
  have hl := lv_entry ([.ref h0]) (n := 1) (Nat.le_of_ble_eq_true rfl)
  rw [lg_entry_eq]
  generalize (lg_sl ([.ref h0]) ++ List.replicate (1 - (lg_sl ([.ref h0])).length) Slot.unset).toArray = ls at hl ⊢
  have hl : lv_has ls 1 [(0, .ref h0)] := hl
  refine lv_aload_n hx hb d_X_stepHappens_0 rfl (lv_at hl 0 rfl) ?_
  refine va_get (D := (dC, dI)) (ci := 0) (v := .int sl) (C := R_X) (T := F_X) (N := 12) hx hb hts lay_X hown hK hP 0 rfl rfl 5 (by decide) (hts _ m_67) (fun _ h9 => h9) rfl d_X_stepHappens_1 ?_
  refine lv_if_ne (tgt := 18) hx hb d_X_stepHappens_4 (by decide) (fun h1 => ?_) (fun h1 => ?_)
  · refine lv_aload_n hx hb d_X_stepHappens_18 rfl (lv_at hl 0 rfl) ?_
    refine va_get (D := (dC, dI)) (ci := 0) (v := .int sl) (C := R_X) (T := F_X) (N := 12) hx hb hts lay_X hown hK hP 0 rfl rfl 5 (by decide) (hts _ m_67) (fun _ h9 => h9) rfl d_X_stepHappens_19 ?_
    refine lv_if_le (tgt := 35) hx hb d_X_stepHappens_22 (by decide) (fun h2 => ?_) (fun h2 => ?_)
    · refine lv_aload_n hx hb d_X_stepHappens_35 rfl (lv_at hl 0 rfl) ?_
      refine lv_dup hx hb d_X_stepHappens_36 rfl ?_
      refine va_get (D := (dC, dI)) (ci := 0) (v := .int sm) (C := R_X) (T := F_X) (N := 12) hx hb hts lay_X hown hK hP 0 rfl rfl 6 (by decide) (hts _ m_68) (fun _ h9 => h9) rfl d_X_stepHappens_37 ?_
      refine lv_iconst (v := (1 : Int32)) hx hb d_X_stepHappens_40 (by decide) ?_
      refine lv_iadd hx hb d_X_stepHappens_41 ?_
      refine va_put (D := (dC, dI)) (ci := 0) (v := .int (sm + (1 : Int32))) (ty := .int) (C := R_X) (T := F_X) (N := 12) hx hb hts lay_X t_X t_X_ok n_X hown hK hP hD hS 0 rfl rfl 6 (by decide) (hts _ m_68) (fun _ h9 => h9) rfl (by decide +kernel) rfl rfl (Nat.le_of_ble_eq_true rfl) d_X_stepHappens_42 (fun H locs hP hD hS => ?_)
      have hP : va_P (dC, dI) classes (Xw h0 qd qs qv cI cJ (dk, hf, gn, rt, ct, sl, sm + (1 : Int32), pw, ln, lq, vq, ch)) H := hP
      have hD : va_D A (Xw h0 qd qs qv cI cJ (dk, hf, gn, rt, ct, sl, sm + (1 : Int32), pw, ln, lq, vq, ch)) := hD
      refine lv_iconst (v := (1 : Int32)) hx hb d_X_stepHappens_45 (by decide) ?_
      exact W.zret hx hb hr rfl (fun t ht hW => ⟨⟨(1 : Int32), (dk, hf, gn, rt, ct, sl, sm + (1 : Int32), pw, ln, lq, vq, ch), rfl, Or.inr ⟨h1, rfl, by rw [dec1, if_neg (z_le0 h2)]⟩, by rw [ht]; exact hP, va_K.moved hW.alike hK, hD⟩, hS.F ht⟩) hS.2.2 d_X_stepHappens_46
    · refine lv_aload_n hx hb d_X_stepHappens_25 rfl (lv_at hl 0 rfl) ?_
      refine lv_dup hx hb d_X_stepHappens_26 rfl ?_
      refine va_get (D := (dC, dI)) (ci := 0) (v := .int sl) (C := R_X) (T := F_X) (N := 12) hx hb hts lay_X hown hK hP 0 rfl rfl 5 (by decide) (hts _ m_67) (fun _ h9 => h9) rfl d_X_stepHappens_27 ?_
      refine lv_iconst (v := (1 : Int32)) hx hb d_X_stepHappens_30 (by decide) ?_
      refine lv_isub hx hb d_X_stepHappens_31 ?_
      refine va_put (D := (dC, dI)) (ci := 0) (v := .int (sl - (1 : Int32))) (ty := .int) (C := R_X) (T := F_X) (N := 12) hx hb hts lay_X t_X t_X_ok n_X hown hK hP hD hS 0 rfl rfl 5 (by decide) (hts _ m_67) (fun _ h9 => h9) rfl (by decide +kernel) rfl rfl (Nat.le_of_ble_eq_true rfl) d_X_stepHappens_32 (fun H locs hP hD hS => ?_)
      have hP : va_P (dC, dI) classes (Xw h0 qd qs qv cI cJ (dk, hf, gn, rt, ct, sl - (1 : Int32), sm, pw, ln, lq, vq, ch)) H := hP
      have hD : va_D A (Xw h0 qd qs qv cI cJ (dk, hf, gn, rt, ct, sl - (1 : Int32), sm, pw, ln, lq, vq, ch)) := hD
      refine lv_aload_n hx hb d_X_stepHappens_35 rfl (lv_at hl 0 rfl) ?_
      refine lv_dup hx hb d_X_stepHappens_36 rfl ?_
      refine va_get (D := (dC, dI)) (ci := 0) (v := .int sm) (C := R_X) (T := F_X) (N := 12) hx hb hts lay_X hown hK hP 0 rfl rfl 6 (by decide) (hts _ m_68) (fun _ h9 => h9) rfl d_X_stepHappens_37 ?_
      refine lv_iconst (v := (1 : Int32)) hx hb d_X_stepHappens_40 (by decide) ?_
      refine lv_iadd hx hb d_X_stepHappens_41 ?_
      refine va_put (D := (dC, dI)) (ci := 0) (v := .int (sm + (1 : Int32))) (ty := .int) (C := R_X) (T := F_X) (N := 12) hx hb hts lay_X t_X t_X_ok n_X hown hK hP hD hS 0 rfl rfl 6 (by decide) (hts _ m_68) (fun _ h9 => h9) rfl (by decide +kernel) rfl rfl (Nat.le_of_ble_eq_true rfl) d_X_stepHappens_42 (fun H locs hP hD hS => ?_)
      have hP : va_P (dC, dI) classes (Xw h0 qd qs qv cI cJ (dk, hf, gn, rt, ct, sl - (1 : Int32), sm + (1 : Int32), pw, ln, lq, vq, ch)) H := hP
      have hD : va_D A (Xw h0 qd qs qv cI cJ (dk, hf, gn, rt, ct, sl - (1 : Int32), sm + (1 : Int32), pw, ln, lq, vq, ch)) := hD
      refine lv_iconst (v := (1 : Int32)) hx hb d_X_stepHappens_45 (by decide) ?_
      exact W.zret hx hb hr rfl (fun t ht hW => ⟨⟨(1 : Int32), (dk, hf, gn, rt, ct, sl - (1 : Int32), sm + (1 : Int32), pw, ln, lq, vq, ch), rfl, Or.inr ⟨h1, rfl, by rw [dec1, if_pos (z_nle0 h2)]⟩, by rw [ht]; exact hP, va_K.moved hW.alike hK, hD⟩, hS.F ht⟩) hS.2.2 d_X_stepHappens_46
  · refine lv_aload_n hx hb d_X_stepHappens_7 rfl (lv_at hl 0 rfl) ?_
    refine lv_iconst (v := (-1 : Int32)) hx hb d_X_stepHappens_8 (by decide) ?_
    refine va_put (D := (dC, dI)) (ci := 0) (v := .int (-1 : Int32)) (ty := .int) (C := R_X) (T := F_X) (N := 12) hx hb hts lay_X t_X t_X_ok n_X hown hK hP hD hS 0 rfl rfl 5 (by decide) (hts _ m_67) (fun _ h9 => h9) rfl (by decide +kernel) rfl rfl (Nat.le_of_ble_eq_true rfl) d_X_stepHappens_9 (fun H locs hP hD hS => ?_)
    have hP : va_P (dC, dI) classes (Xw h0 qd qs qv cI cJ (dk, hf, gn, rt, ct, (-1 : Int32), sm, pw, ln, lq, vq, ch)) H := hP
    have hD : va_D A (Xw h0 qd qs qv cI cJ (dk, hf, gn, rt, ct, (-1 : Int32), sm, pw, ln, lq, vq, ch)) := hD
    refine lv_aload_n hx hb d_X_stepHappens_12 rfl (lv_at hl 0 rfl) ?_
    refine z_callv (va_runV (C := R_X) (b := h0) (As := []) (rest := []) ⟨hx, hb, hml, hown, hts⟩ (c_forget l dC dI h0 qd qs qv cI cJ _ dk hf gn rt ct (-1 : Int32) sm pw ln lq vq ch ) (cwV 0 hts g_X_50 rfl rfl rfl (by decide +kernel) ⟨(Nat.le_of_ble_eq_true rfl), (Nat.le_of_ble_eq_true rfl)⟩) (z_preV (va_recv (q0 := 0) hK hP rfl rfl) hP hK hD) rfl rfl hl.1 rfl (lv_room (Nat.le_of_ble_eq_true rfl)) d_X_stepHappens_13 ⟨(Nat.le_of_ble_eq_true rfl), (Nat.le_of_ble_eq_true rfl)⟩) hS hD hA (fun u H locs hr0 hP hD hS => ?_)
    subst hr0
    refine lv_iconst (v := (0 : Int32)) hx hb d_X_stepHappens_16 (by decide) ?_
    exact W.zret hx hb hr rfl (fun t ht hW => ⟨⟨(0 : Int32), (dk, hf, gn, rt, ct, (-1 : Int32), sm, false, 0, lq, vq, (0 : Int32)), rfl, Or.inl ⟨h1, rfl, rfl⟩, by rw [ht]; exact hP, va_K.moved hW.alike hK, hD⟩, hS.F ht⟩) hS.2.2 d_X_stepHappens_17
set_option maxHeartbeats 4000000 in
set_option maxRecDepth 100000 in
theorem c_storeWord (l : Launch) (dC : Nat → ClassId) (dI : Nat → Nat → Nat) (h0 qd qs qv : Nat) (cI cJ : ClassId) (sz : Nat) (dk : Nat → Int32) (hf : Nat) (gn : Int32) (rt : Int32) (ct : Int32) (sl : Int32) (sm : Int32) (pw : Bool) (ln : Nat) (lq : Nat → Int32) (vq : Nat → Int64) (ch : Int32) (pp : Nat) (w0 : Int32) (h_p : pp < 102) : Met l y_X_storeWord w_X_storeWord ({ frames := 2, cells := 0, slots := 0, locals := 40 }) (va_Pc [.ref h0, .int (nI pp), .int w0] (z_pre (dC, dI) classes [(cI, .int), (cJ, .long)] (Xw h0 qd qs qv cI cJ (dk, hf, gn, rt, ct, sl, sm, pw, ln, lq, vq, ch)) sz)) (va_Qi (fun (r : Int32) (u : XS) => (sl = 0 ∧ r = 0 ∧ u = (dk, hf, gn, rt, ct, -1, sm, false, 0, lq, vq, 0)) ∨ (¬ sl = 0 ∧ r = 1 ∧ u = (upd dk pp w0, hf, gn, rt, ct, dec1 sl, sm + 1, pw, ln, lq, vq, ch))) (fun u => z_at (dC, dI) classes [(cI, .int), (cJ, .long)] (va_A (Xw h0 qd qs qv cI cJ (dk, hf, gn, rt, ct, sl, sm, pw, ln, lq, vq, ch)) sz) (Xw h0 qd qs qv cI cJ u)) (va_A (Xw h0 qd qs qv cI cJ (dk, hf, gn, rt, ct, sl, sm, pw, ln, lq, vq, ch)) sz)) 0 0 (va_A (Xw h0 qd qs qv cI cJ (dk, hf, gn, rt, ct, sl, sm, pw, ln, lq, vq, ch)) sz) := by
  refine Met.ofW (cc := b_X_storeWord) (maxL := 3) (ret := (some .boolean)) (by decide) rfl ?_
  intro p e s m args below meth c s₁ B hml hv
  obtain ⟨rfl, hsz, hP, hK, hD0⟩ := hv
  have hx := B.exec
  have hb := B.bytes
  have hr := B.returns
  have hts := fun (w : Cond) (h : w ∈ lw_U) => atoms_spec (ws := w_X_storeWord) B.pre w (List.mem_cons_of_mem _ h)
  have hown : s.vm.findClass R_X = some m.cls := findClass_of_methodNamed B.named
  have hlocks := B.notSynchronized
  subst hsz
  have hD := hD0.self (sz := s.heap.size)
  generalize hAe : va_A (Xw h0 qd qs qv cI cJ (dk, hf, gn, rt, ct, sl, sm, pw, ln, lq, vq, ch)) s.heap.size = A at hD ⊢
  have hA : ∀ q : Nat, s.heap.size ≤ q → A q := fun q h => by rw [← hAe]; exact Or.inr h
  have hS : va_S A s.heap s.heap [] := va_S.rf
  have hP : va_P (dC, dI) classes (Xw h0 qd qs qv cI cJ (dk, hf, gn, rt, ct, sl, sm, pw, ln, lq, vq, ch)) s.heap := hP
  have hl := lv_entry ([.ref h0, .int (nI pp), .int w0]) (n := 3) (Nat.le_of_ble_eq_true rfl)
  rw [lg_entry_eq]
  generalize (lg_sl ([.ref h0, .int (nI pp), .int w0]) ++ List.replicate (3 - (lg_sl ([.ref h0, .int (nI pp), .int w0])).length) Slot.unset).toArray = ls at hl ⊢
  have hl : lv_has ls 3 [(0, .ref h0), (1, .int (nI pp)), (2, .int w0)] := hl
  refine lv_aload_n hx hb d_X_storeWord_0 rfl (lv_at hl 0 rfl) ?_
  refine z_calli (va_runV (C := R_X) (b := h0) (As := []) (rest := []) ⟨hx, hb, hml, hown, hts⟩ (c_stepHappens l dC dI h0 qd qs qv cI cJ _ dk hf gn rt ct sl sm pw ln lq vq ch ) (cwV 0 hts g_X_132 rfl rfl rfl (by decide +kernel) ⟨(Nat.le_of_ble_eq_true rfl), (Nat.le_of_ble_eq_true rfl)⟩) (z_preV (va_recv (q0 := 0) hK hP rfl rfl) hP hK hD) rfl rfl hl.1 rfl (lv_room (Nat.le_of_ble_eq_true rfl)) d_X_storeWord_1 ⟨(Nat.le_of_ble_eq_true rfl), (Nat.le_of_ble_eq_true rfl)⟩) hS hD hA (fun r u H locs hr0 hP hD hS => ?_)
  obtain ⟨h1, rfl, rfl⟩ | ⟨h1, rfl, rfl⟩ := hr0
  · refine lv_if_ne (tgt := 9) hx hb d_X_storeWord_4 (by decide) (fun h9 => absurd (by decide) h9) (fun _ => ?_)
    refine lv_iconst (v := (0 : Int32)) hx hb d_X_storeWord_7 (by decide) ?_
    exact W.zret hx hb hr rfl (fun t ht hW => ⟨⟨(0 : Int32), (dk, hf, gn, rt, ct, -1, sm, false, 0, lq, vq, (0 : Int32)), rfl, Or.inl ⟨h1, rfl, rfl⟩, by rw [ht]; exact hP, va_K.moved hW.alike hK, hD⟩, hS.F ht⟩) hS.2.2 d_X_storeWord_8
  · refine lv_if_ne (tgt := 9) hx hb d_X_storeWord_4 (by decide) (fun _ => ?_) (fun h9 => absurd h9 (by decide))
    refine lv_aload_n hx hb d_X_storeWord_9 rfl (lv_at hl 0 rfl) ?_
    refine va_get (D := (dC, dI)) (ci := 0) (v := .ref qd) (C := R_X) (T := F_X) (N := 12) hx hb hts lay_X hown hK hP 0 rfl rfl 0 (by decide) (hts _ m_62) (fun _ h9 => h9) rfl d_X_storeWord_10 ?_
    refine lv_iload_n hx hb d_X_storeWord_13 rfl (lv_at hl 1 rfl) ?_
    refine lv_iload_n hx hb d_X_storeWord_14 rfl (lv_at hl 2 rfl) ?_
    refine z_iast hx hb hK hP hD hS 1 0 rfl rfl (by omega) (by decide) d_X_storeWord_15 (fun H locs hP hD hS => ?_)
    have hP : va_P (dC, dI) classes (Xw h0 qd qs qv cI cJ (upd dk pp w0, hf, gn, rt, ct, dec1 sl, sm + 1, pw, ln, lq, vq, ch)) H := hP
    have hD : va_D A (Xw h0 qd qs qv cI cJ (upd dk pp w0, hf, gn, rt, ct, dec1 sl, sm + 1, pw, ln, lq, vq, ch)) := hD
    refine lv_iconst (v := (1 : Int32)) hx hb d_X_storeWord_16 (by decide) ?_
    exact W.zret hx hb hr rfl (fun t ht hW => ⟨⟨(1 : Int32), (upd dk pp w0, hf, gn, rt, ct, dec1 sl, sm + 1, pw, ln, lq, vq, ch), rfl, Or.inr ⟨h1, rfl, rfl⟩, by rw [ht]; exact hP, va_K.moved hW.alike hK, hD⟩, hS.F ht⟩) hS.2.2 d_X_storeWord_17
set_option maxHeartbeats 4000000 in
set_option maxRecDepth 100000 in
theorem c_storeValue (l : Launch) (dC : Nat → ClassId) (dI : Nat → Nat → Nat) (h0 qd qs qv : Nat) (cI cJ : ClassId) (sz : Nat) (dk : Nat → Int32) (hf : Nat) (gn : Int32) (rt : Int32) (ct : Int32) (sl : Int32) (sm : Int32) (pw : Bool) (ln : Nat) (lq : Nat → Int32) (vq : Nat → Int64) (ch : Int32) (pp : Nat) (v0 : Int64) (g0 : Int32) (h_p : pp + 1 < 102) : Met l y_X_storeValue w_X_storeValue ({ frames := 3, cells := 0, slots := 0, locals := 62 }) (va_Pc [.ref h0, .int (nI pp), .long v0, .int g0] (z_pre (dC, dI) classes [(cI, .int), (cJ, .long)] (Xw h0 qd qs qv cI cJ (dk, hf, gn, rt, ct, sl, sm, pw, ln, lq, vq, ch)) sz)) (va_Qi (fun (r : Int32) (u : XS) => sPost (wv1 (true, (dk, sl, sm)) pp v0 g0) hf gn rt ct pw ln lq vq ch r u) (fun u => z_at (dC, dI) classes [(cI, .int), (cJ, .long)] (va_A (Xw h0 qd qs qv cI cJ (dk, hf, gn, rt, ct, sl, sm, pw, ln, lq, vq, ch)) sz) (Xw h0 qd qs qv cI cJ u)) (va_A (Xw h0 qd qs qv cI cJ (dk, hf, gn, rt, ct, sl, sm, pw, ln, lq, vq, ch)) sz)) 0 0 (va_A (Xw h0 qd qs qv cI cJ (dk, hf, gn, rt, ct, sl, sm, pw, ln, lq, vq, ch)) sz) := by
  refine Met.ofW (cc := b_X_storeValue) (maxL := 5) (ret := (some .boolean)) (by decide) rfl ?_
  intro p e s m args below meth c s₁ B hml hv
  obtain ⟨rfl, hsz, hP, hK, hD0⟩ := hv
  have hx := B.exec
  have hb := B.bytes
  have hr := B.returns
  have hts := fun (w : Cond) (h : w ∈ lw_U) => atoms_spec (ws := w_X_storeValue) B.pre w (List.mem_cons_of_mem _ h)
  have hown : s.vm.findClass R_X = some m.cls := findClass_of_methodNamed B.named
  have hlocks := B.notSynchronized
  subst hsz
  have hD := hD0.self (sz := s.heap.size)
  generalize hAe : va_A (Xw h0 qd qs qv cI cJ (dk, hf, gn, rt, ct, sl, sm, pw, ln, lq, vq, ch)) s.heap.size = A at hD ⊢
  have hA : ∀ q : Nat, s.heap.size ≤ q → A q := fun q h => by rw [← hAe]; exact Or.inr h
  have hS : va_S A s.heap s.heap [] := va_S.rf
  have hP : va_P (dC, dI) classes (Xw h0 qd qs qv cI cJ (dk, hf, gn, rt, ct, sl, sm, pw, ln, lq, vq, ch)) s.heap := hP
  have hl := lv_entry ([.ref h0, .int (nI pp), .long v0, .int g0]) (n := 5) (Nat.le_of_ble_eq_true rfl)
  rw [lg_entry_eq]
  generalize (lg_sl ([.ref h0, .int (nI pp), .long v0, .int g0]) ++ List.replicate (5 - (lg_sl ([.ref h0, .int (nI pp), .long v0, .int g0])).length) Slot.unset).toArray = ls at hl ⊢
  have hl : lv_has ls 5 [(0, .ref h0), (1, .int (nI pp)), (2, .long v0), (4, .int g0)] := hl
  refine lv_aload_n hx hb d_X_storeValue_0 rfl (lv_at hl 0 rfl) ?_
  refine lv_iload_n hx hb d_X_storeValue_1 rfl (lv_at hl 1 rfl) ?_
  refine lv_lload_n hx hb d_X_storeValue_2 rfl (lv_at hl 2 rfl) ?_
  refine vp_callSi (W.runS (As := [.long v0]) (rest := [.int (nI pp), .ref h0]) ⟨hx, hb, hml, hown, hts⟩ (c_upper l v0) (cwS 1 hts g_X_136 rfl rfl rfl (by decide +kernel) ⟨(Nat.le_of_ble_eq_true rfl), (Nat.le_of_ble_eq_true rfl)⟩) preEq rfl rfl hl.1 rfl (lv_room (Nat.le_of_ble_eq_true rfl)) d_X_storeValue_3 ⟨(Nat.le_of_ble_eq_true rfl), (Nat.le_of_ble_eq_true rfl)⟩) (fun r hr0 => ?_)
  subst hr0
  refine lv_iload_n hx hb d_X_storeValue_6 rfl (lv_at hl 1 rfl) ?_
  refine lv_iload hx hb d_X_storeValue_7 (lv_at hl 3 rfl) ?_
  refine vp_callSi (W.runS (As := [.int (hiW v0), .int (nI pp), .int g0]) (rest := [.int (nI pp), .ref h0]) ⟨hx, hb, hml, hown, hts⟩ (c_encipher l (hiW v0) (nI pp) g0) (cwS 3 hts g_X_27 rfl rfl rfl (by decide +kernel) ⟨(Nat.le_of_ble_eq_true rfl), (Nat.le_of_ble_eq_true rfl)⟩) preEq rfl rfl hl.1 rfl (lv_room (Nat.le_of_ble_eq_true rfl)) d_X_storeValue_9 ⟨(Nat.le_of_ble_eq_true rfl), (Nat.le_of_ble_eq_true rfl)⟩) (fun r hr0 => ?_)
  subst hr0
  refine z_calli (va_runV (C := R_X) (b := h0) (As := [.int (nI pp), .int (enc (hiW v0) (nI pp) g0)]) (rest := []) ⟨hx, hb, hml, hown, hts⟩ (c_storeWord l dC dI h0 qd qs qv cI cJ _ dk hf gn rt ct sl sm pw ln lq vq ch pp (enc (hiW v0) (nI pp) g0) (by omega)) (cwV 2 hts g_X_140 rfl rfl rfl (by decide +kernel) ⟨(Nat.le_of_ble_eq_true rfl), (Nat.le_of_ble_eq_true rfl)⟩) (z_preV (va_recv (q0 := 0) hK hP rfl rfl) hP hK hD) rfl rfl hl.1 rfl (lv_room (Nat.le_of_ble_eq_true rfl)) d_X_storeValue_12 ⟨(Nat.le_of_ble_eq_true rfl), (Nat.le_of_ble_eq_true rfl)⟩) hS hD hA (fun r u H locs hr0 hP hD hS => ?_)
  obtain ⟨h1, rfl, rfl⟩ | ⟨h1, rfl, rfl⟩ := hr0
  · refine lv_if_eq (tgt := 44) hx hb d_X_storeValue_15 (by decide) (fun _ => ?_) (fun h9 => absurd (by decide) h9)
    refine lv_iconst (v := (0 : Int32)) hx hb d_X_storeValue_44 (by decide) ?_
    exact W.zret hx hb hr rfl (fun t ht hW => ⟨⟨(0 : Int32), (dk, hf, gn, rt, ct, -1, sm, false, 0, lq, vq, (0 : Int32)), rfl, ⟨_, _, _, Or.inr ⟨(by rw [wv1, wr1_0 h1]; try simp only [wr1_f, wv1_f, clM_f, ssF_f, snF_f]), rfl, rfl⟩⟩, by rw [ht]; exact hP, va_K.moved hW.alike hK, hD⟩, hS.F ht⟩) hS.2.2 d_X_storeValue_45
  · refine lv_if_eq (tgt := 44) hx hb d_X_storeValue_15 (by decide) (fun h9 => absurd h9 (by decide)) (fun _ => ?_)
    refine lv_aload_n hx hb d_X_storeValue_18 rfl (lv_at hl 0 rfl) ?_
    refine lv_iload_n hx hb d_X_storeValue_19 rfl (lv_at hl 1 rfl) ?_
    refine lv_iconst (v := nI 1) hx hb d_X_storeValue_20 (by decide) ?_
    refine lv_iadd hx hb d_X_storeValue_21 ?_
    refine z_top (nI_add _ _) ?_
    refine lv_lload_n hx hb d_X_storeValue_22 rfl (lv_at hl 2 rfl) ?_
    refine vp_callSi (W.runS (As := [.long v0]) (rest := [.int (nI (pp + 1)), .ref h0]) ⟨hx, hb, hml, hown, hts⟩ (c_lower l v0) (cwS 1 hts g_X_144 rfl rfl rfl (by decide +kernel) ⟨(Nat.le_of_ble_eq_true rfl), (Nat.le_of_ble_eq_true rfl)⟩) preEq rfl rfl hl.1 rfl (lv_room (Nat.le_of_ble_eq_true rfl)) d_X_storeValue_23 ⟨(Nat.le_of_ble_eq_true rfl), (Nat.le_of_ble_eq_true rfl)⟩) (fun r hr0 => ?_)
    subst hr0
    refine lv_iload_n hx hb d_X_storeValue_26 rfl (lv_at hl 1 rfl) ?_
    refine lv_iconst (v := nI 1) hx hb d_X_storeValue_27 (by decide) ?_
    refine lv_iadd hx hb d_X_storeValue_28 ?_
    refine z_top (nI_add _ _) ?_
    refine lv_iload hx hb d_X_storeValue_29 (lv_at hl 3 rfl) ?_
    refine vp_callSi (W.runS (As := [.int (loW v0), .int (nI (pp + 1)), .int g0]) (rest := [.int (nI (pp + 1)), .ref h0]) ⟨hx, hb, hml, hown, hts⟩ (c_encipher l (loW v0) (nI (pp + 1)) g0) (cwS 3 hts g_X_27 rfl rfl rfl (by decide +kernel) ⟨(Nat.le_of_ble_eq_true rfl), (Nat.le_of_ble_eq_true rfl)⟩) preEq rfl rfl hl.1 rfl (lv_room (Nat.le_of_ble_eq_true rfl)) d_X_storeValue_31 ⟨(Nat.le_of_ble_eq_true rfl), (Nat.le_of_ble_eq_true rfl)⟩) (fun r hr0 => ?_)
    subst hr0
    refine z_calli (va_runV (C := R_X) (b := h0) (As := [.int (nI (pp + 1)), .int (enc (loW v0) (nI (pp + 1)) g0)]) (rest := []) ⟨hx, hb, hml, hown, hts⟩ (c_storeWord l dC dI h0 qd qs qv cI cJ _ (upd dk pp (enc (hiW v0) (nI pp) g0)) hf gn rt ct (dec1 sl) (sm + 1) pw ln lq vq ch (pp + 1) (enc (loW v0) (nI (pp + 1)) g0) (by omega)) (cwV 2 hts g_X_140 rfl rfl rfl (by decide +kernel) ⟨(Nat.le_of_ble_eq_true rfl), (Nat.le_of_ble_eq_true rfl)⟩) (z_preV (va_recv (q0 := 0) hK hP rfl rfl) hP hK hD) rfl rfl hl.1 rfl (lv_room (Nat.le_of_ble_eq_true rfl)) d_X_storeValue_34 ⟨(Nat.le_of_ble_eq_true rfl), (Nat.le_of_ble_eq_true rfl)⟩) hS hD hA (fun r u H locs hr0 hP hD hS => ?_)
    obtain ⟨h2, rfl, rfl⟩ | ⟨h2, rfl, rfl⟩ := hr0
    · refine lv_if_eq (tgt := 44) hx hb d_X_storeValue_37 (by decide) (fun _ => ?_) (fun h9 => absurd (by decide) h9)
      refine lv_iconst (v := (0 : Int32)) hx hb d_X_storeValue_44 (by decide) ?_
      exact W.zret hx hb hr rfl (fun t ht hW => ⟨⟨(0 : Int32), (upd dk pp (enc (hiW v0) (nI pp) g0), hf, gn, rt, ct, -1, sm + 1, false, 0, lq, vq, (0 : Int32)), rfl, ⟨_, _, _, Or.inr ⟨(by rw [wv1, wr1_1 h1, wr1_0 h2]; try simp only [wr1_f, wv1_f, clM_f, ssF_f, snF_f]), rfl, rfl⟩⟩, by rw [ht]; exact hP, va_K.moved hW.alike hK, hD⟩, hS.F ht⟩) hS.2.2 d_X_storeValue_45
    · refine lv_if_eq (tgt := 44) hx hb d_X_storeValue_37 (by decide) (fun h9 => absurd h9 (by decide)) (fun _ => ?_)
      refine lv_iconst (v := (1 : Int32)) hx hb d_X_storeValue_40 (by decide) ?_
      refine lv_goto (tgt := 45) hx hb d_X_storeValue_41 (by decide) ?_
      exact W.zret hx hb hr rfl (fun t ht hW => ⟨⟨(1 : Int32), (upd (upd dk pp (enc (hiW v0) (nI pp) g0)) (pp + 1) (enc (loW v0) (nI (pp + 1)) g0), hf, gn, rt, ct, dec1 (dec1 sl), (sm + 1) + 1, pw, ln, lq, vq, ch), rfl, ⟨_, _, _, Or.inl ⟨(by rw [wv1, wr1_1 h1, wr1_1 h2]), rfl, rfl⟩⟩, by rw [ht]; exact hP, va_K.moved hW.alike hK, hD⟩, hS.F ht⟩) hS.2.2 d_X_storeValue_45
set_option maxHeartbeats 4000000 in
set_option maxRecDepth 100000 in
theorem c_changeSeal (l : Launch) (dC : Nat → ClassId) (dI : Nat → Nat → Nat) (h0 qd qs qv : Nat) (cI cJ : ClassId) (sz : Nat) (dk : Nat → Int32) (hf : Nat) (gn : Int32) (rt : Int32) (ct : Int32) (sl : Int32) (sm : Int32) (pw : Bool) (ln : Nat) (lq : Nat → Int32) (vq : Nat → Int64) (ch : Int32) (a1 : Nat) (b1 c1 d1 : Int32)  : Met l y_X_changeSeal w_X_changeSeal ({ frames := 2, cells := 0, slots := 0, locals := 40 }) (va_Pc [.ref h0, .int (nI a1), .int b1, .int c1, .int d1] (z_pre (dC, dI) classes [(cI, .int), (cJ, .long)] (Xw h0 qd qs qv cI cJ (dk, hf, gn, rt, ct, sl, sm, pw, ln, lq, vq, ch)) sz)) (va_Qi (fun (r : Int32) (u : XS) => (sl = 0 ∧ r = 0 ∧ u = (dk, hf, gn, rt, ct, -1, sm, false, 0, lq, vq, 0)) ∨ (¬ sl = 0 ∧ r = 1 ∧ u = (dk, a1, b1, c1, d1, dec1 sl, sm + 1, pw, ln, lq, vq, ch))) (fun u => z_at (dC, dI) classes [(cI, .int), (cJ, .long)] (va_A (Xw h0 qd qs qv cI cJ (dk, hf, gn, rt, ct, sl, sm, pw, ln, lq, vq, ch)) sz) (Xw h0 qd qs qv cI cJ u)) (va_A (Xw h0 qd qs qv cI cJ (dk, hf, gn, rt, ct, sl, sm, pw, ln, lq, vq, ch)) sz)) 0 0 (va_A (Xw h0 qd qs qv cI cJ (dk, hf, gn, rt, ct, sl, sm, pw, ln, lq, vq, ch)) sz) := by
  refine Met.ofW (cc := b_X_changeSeal) (maxL := 5) (ret := (some .boolean)) (by decide) rfl ?_
  intro p e s m args below meth c s₁ B hml hv
  obtain ⟨rfl, hsz, hP, hK, hD0⟩ := hv
  have hx := B.exec
  have hb := B.bytes
  have hr := B.returns
  have hts := fun (w : Cond) (h : w ∈ lw_U) => atoms_spec (ws := w_X_changeSeal) B.pre w (List.mem_cons_of_mem _ h)
  have hown : s.vm.findClass R_X = some m.cls := findClass_of_methodNamed B.named
  have hlocks := B.notSynchronized
  subst hsz
  have hD := hD0.self (sz := s.heap.size)
  generalize hAe : va_A (Xw h0 qd qs qv cI cJ (dk, hf, gn, rt, ct, sl, sm, pw, ln, lq, vq, ch)) s.heap.size = A at hD ⊢
  have hA : ∀ q : Nat, s.heap.size ≤ q → A q := fun q h => by rw [← hAe]; exact Or.inr h
  have hS : va_S A s.heap s.heap [] := va_S.rf
  have hP : va_P (dC, dI) classes (Xw h0 qd qs qv cI cJ (dk, hf, gn, rt, ct, sl, sm, pw, ln, lq, vq, ch)) s.heap := hP
  have hl := lv_entry ([.ref h0, .int (nI a1), .int b1, .int c1, .int d1]) (n := 5) (Nat.le_of_ble_eq_true rfl)
  rw [lg_entry_eq]
  generalize (lg_sl ([.ref h0, .int (nI a1), .int b1, .int c1, .int d1]) ++ List.replicate (5 - (lg_sl ([.ref h0, .int (nI a1), .int b1, .int c1, .int d1])).length) Slot.unset).toArray = ls at hl ⊢
  have hl : lv_has ls 5 [(0, .ref h0), (1, .int (nI a1)), (2, .int b1), (3, .int c1), (4, .int d1)] := hl
  refine lv_aload_n hx hb d_X_changeSeal_0 rfl (lv_at hl 0 rfl) ?_
  refine z_calli (va_runV (C := R_X) (b := h0) (As := []) (rest := []) ⟨hx, hb, hml, hown, hts⟩ (c_stepHappens l dC dI h0 qd qs qv cI cJ _ dk hf gn rt ct sl sm pw ln lq vq ch ) (cwV 0 hts g_X_132 rfl rfl rfl (by decide +kernel) ⟨(Nat.le_of_ble_eq_true rfl), (Nat.le_of_ble_eq_true rfl)⟩) (z_preV (va_recv (q0 := 0) hK hP rfl rfl) hP hK hD) rfl rfl hl.1 rfl (lv_room (Nat.le_of_ble_eq_true rfl)) d_X_changeSeal_1 ⟨(Nat.le_of_ble_eq_true rfl), (Nat.le_of_ble_eq_true rfl)⟩) hS hD hA (fun r u H locs hr0 hP hD hS => ?_)
  obtain ⟨h1, rfl, rfl⟩ | ⟨h1, rfl, rfl⟩ := hr0
  · refine lv_if_ne (tgt := 9) hx hb d_X_changeSeal_4 (by decide) (fun h9 => absurd (by decide) h9) (fun _ => ?_)
    refine lv_iconst (v := (0 : Int32)) hx hb d_X_changeSeal_7 (by decide) ?_
    exact W.zret hx hb hr rfl (fun t ht hW => ⟨⟨(0 : Int32), (dk, hf, gn, rt, ct, -1, sm, false, 0, lq, vq, (0 : Int32)), rfl, Or.inl ⟨h1, rfl, rfl⟩, by rw [ht]; exact hP, va_K.moved hW.alike hK, hD⟩, hS.F ht⟩) hS.2.2 d_X_changeSeal_8
  · refine lv_if_ne (tgt := 9) hx hb d_X_changeSeal_4 (by decide) (fun _ => ?_) (fun h9 => absurd h9 (by decide))
    refine lv_aload_n hx hb d_X_changeSeal_9 rfl (lv_at hl 0 rfl) ?_
    refine lv_iload_n hx hb d_X_changeSeal_10 rfl (lv_at hl 1 rfl) ?_
    refine va_put (D := (dC, dI)) (ci := 0) (v := .int (nI a1)) (ty := .int) (C := R_X) (T := F_X) (N := 12) hx hb hts lay_X t_X t_X_ok n_X hown hK hP hD hS 0 rfl rfl 1 (by decide) (hts _ m_63) (fun _ h9 => h9) rfl (by decide +kernel) rfl rfl (Nat.le_of_ble_eq_true rfl) d_X_changeSeal_11 (fun H locs hP hD hS => ?_)
    have hP : va_P (dC, dI) classes (Xw h0 qd qs qv cI cJ (dk, a1, gn, rt, ct, dec1 sl, sm + 1, pw, ln, lq, vq, ch)) H := hP
    have hD : va_D A (Xw h0 qd qs qv cI cJ (dk, a1, gn, rt, ct, dec1 sl, sm + 1, pw, ln, lq, vq, ch)) := hD
    refine lv_aload_n hx hb d_X_changeSeal_14 rfl (lv_at hl 0 rfl) ?_
    refine lv_iload_n hx hb d_X_changeSeal_15 rfl (lv_at hl 2 rfl) ?_
    refine va_put (D := (dC, dI)) (ci := 0) (v := .int b1) (ty := .int) (C := R_X) (T := F_X) (N := 12) hx hb hts lay_X t_X t_X_ok n_X hown hK hP hD hS 0 rfl rfl 2 (by decide) (hts _ m_64) (fun _ h9 => h9) rfl (by decide +kernel) rfl rfl (Nat.le_of_ble_eq_true rfl) d_X_changeSeal_16 (fun H locs hP hD hS => ?_)
    have hP : va_P (dC, dI) classes (Xw h0 qd qs qv cI cJ (dk, a1, b1, rt, ct, dec1 sl, sm + 1, pw, ln, lq, vq, ch)) H := hP
    have hD : va_D A (Xw h0 qd qs qv cI cJ (dk, a1, b1, rt, ct, dec1 sl, sm + 1, pw, ln, lq, vq, ch)) := hD
    refine lv_aload_n hx hb d_X_changeSeal_19 rfl (lv_at hl 0 rfl) ?_
    refine lv_iload_n hx hb d_X_changeSeal_20 rfl (lv_at hl 3 rfl) ?_
    refine va_put (D := (dC, dI)) (ci := 0) (v := .int c1) (ty := .int) (C := R_X) (T := F_X) (N := 12) hx hb hts lay_X t_X t_X_ok n_X hown hK hP hD hS 0 rfl rfl 3 (by decide) (hts _ m_65) (fun _ h9 => h9) rfl (by decide +kernel) rfl rfl (Nat.le_of_ble_eq_true rfl) d_X_changeSeal_21 (fun H locs hP hD hS => ?_)
    have hP : va_P (dC, dI) classes (Xw h0 qd qs qv cI cJ (dk, a1, b1, c1, ct, dec1 sl, sm + 1, pw, ln, lq, vq, ch)) H := hP
    have hD : va_D A (Xw h0 qd qs qv cI cJ (dk, a1, b1, c1, ct, dec1 sl, sm + 1, pw, ln, lq, vq, ch)) := hD
    refine lv_aload_n hx hb d_X_changeSeal_24 rfl (lv_at hl 0 rfl) ?_
    refine lv_iload hx hb d_X_changeSeal_25 (lv_at hl 4 rfl) ?_
    refine va_put (D := (dC, dI)) (ci := 0) (v := .int d1) (ty := .int) (C := R_X) (T := F_X) (N := 12) hx hb hts lay_X t_X t_X_ok n_X hown hK hP hD hS 0 rfl rfl 4 (by decide) (hts _ m_66) (fun _ h9 => h9) rfl (by decide +kernel) rfl rfl (Nat.le_of_ble_eq_true rfl) d_X_changeSeal_27 (fun H locs hP hD hS => ?_)
    have hP : va_P (dC, dI) classes (Xw h0 qd qs qv cI cJ (dk, a1, b1, c1, d1, dec1 sl, sm + 1, pw, ln, lq, vq, ch)) H := hP
    have hD : va_D A (Xw h0 qd qs qv cI cJ (dk, a1, b1, c1, d1, dec1 sl, sm + 1, pw, ln, lq, vq, ch)) := hD
    refine lv_iconst (v := (1 : Int32)) hx hb d_X_changeSeal_30 (by decide) ?_
    exact W.zret hx hb hr rfl (fun t ht hW => ⟨⟨(1 : Int32), (dk, a1, b1, c1, d1, dec1 sl, sm + 1, pw, ln, lq, vq, ch), rfl, Or.inr ⟨h1, rfl, rfl⟩, by rw [ht]; exact hP, va_K.moved hW.alike hK, hD⟩, hS.F ht⟩) hS.2.2 d_X_changeSeal_31
set_option maxHeartbeats 4000000 in
set_option maxRecDepth 100000 in
theorem c_storeRecord (l : Launch) (dC : Nat → ClassId) (dI : Nat → Nat → Nat) (h0 qd qs qv : Nat) (cI cJ : ClassId) (sz : Nat) (dk : Nat → Int32) (hf : Nat) (gn : Int32) (rt : Int32) (ct : Int32) (sl : Int32) (sm : Int32) (pw : Bool) (ln : Nat) (lq : Nat → Int32) (vq : Nat → Int64) (ch : Int32) (x0 : Int32) (v0 : Int64) (h_f : hf < 2) (h_n : ln < 5) : Met l y_X_storeRecord w_X_storeRecord ({ frames := 4, cells := 0, slots := 0, locals := 86 }) (va_Pc [.ref h0, .int x0, .long v0] (z_pre (dC, dI) classes [(cI, .int), (cJ, .long)] (Xw h0 qd qs qv cI cJ (dk, hf, gn, rt, ct, sl, sm, pw, ln, lq, vq, ch)) sz)) (va_Qi (fun (r : Int32) (u : XS) => ∃ (d1 : Nat → Int32) (sl1 sm1 : Int32), (srC (true, (dk, sl, sm)) (51 * hf + 31 + 4 * ln) (enc x0 (nI (51 * hf + 31 + 4 * ln)) gn) v0 gn ch = (true, (d1, sl1, sm1)) ∧ r = 1 ∧ u = (d1, hf, gn, rt, ct, sl1, sm1, pw, ln, lq, vq, chn ch (wv1 (wr1 (true, (dk, sl, sm)) (51 * hf + 31 + 4 * ln) (enc x0 (nI (51 * hf + 31 + 4 * ln)) gn)) ((51 * hf + 31 + 4 * ln) + 1) v0 gn).2.1 (51 * hf + 31 + 4 * ln))) ∨ (srC (true, (dk, sl, sm)) (51 * hf + 31 + 4 * ln) (enc x0 (nI (51 * hf + 31 + 4 * ln)) gn) v0 gn ch = (false, (d1, sl1, sm1)) ∧ r = 0 ∧ u = (d1, hf, gn, rt, ct, sl1, sm1, false, 0, lq, vq, 0))) (fun u => z_at (dC, dI) classes [(cI, .int), (cJ, .long)] (va_A (Xw h0 qd qs qv cI cJ (dk, hf, gn, rt, ct, sl, sm, pw, ln, lq, vq, ch)) sz) (Xw h0 qd qs qv cI cJ u)) (va_A (Xw h0 qd qs qv cI cJ (dk, hf, gn, rt, ct, sl, sm, pw, ln, lq, vq, ch)) sz)) 0 0 (va_A (Xw h0 qd qs qv cI cJ (dk, hf, gn, rt, ct, sl, sm, pw, ln, lq, vq, ch)) sz) := by
  refine Met.ofW (cc := b_X_storeRecord) (maxL := 6) (ret := (some .boolean)) (by decide) rfl ?_
  intro p e s m args below meth c s₁ B hml hv
  obtain ⟨rfl, hsz, hP, hK, hD0⟩ := hv
  have hx := B.exec
  have hb := B.bytes
  have hr := B.returns
  have hts := fun (w : Cond) (h : w ∈ lw_U) => atoms_spec (ws := w_X_storeRecord) B.pre w (List.mem_cons_of_mem _ h)
  have hown : s.vm.findClass R_X = some m.cls := findClass_of_methodNamed B.named
  have hlocks := B.notSynchronized
  subst hsz
  have hD := hD0.self (sz := s.heap.size)
  generalize hAe : va_A (Xw h0 qd qs qv cI cJ (dk, hf, gn, rt, ct, sl, sm, pw, ln, lq, vq, ch)) s.heap.size = A at hD ⊢
  have hA : ∀ q : Nat, s.heap.size ≤ q → A q := fun q h => by rw [← hAe]; exact Or.inr h
  have hS : va_S A s.heap s.heap [] := va_S.rf
  have hP : va_P (dC, dI) classes (Xw h0 qd qs qv cI cJ (dk, hf, gn, rt, ct, sl, sm, pw, ln, lq, vq, ch)) s.heap := hP
  have hl := lv_entry ([.ref h0, .int x0, .long v0]) (n := 6) (Nat.le_of_ble_eq_true rfl)
  rw [lg_entry_eq]
  generalize (lg_sl ([.ref h0, .int x0, .long v0]) ++ List.replicate (6 - (lg_sl ([.ref h0, .int x0, .long v0])).length) Slot.unset).toArray = ls at hl ⊢
  have hl : lv_has ls 6 [(0, .ref h0), (1, .int x0), (2, .long v0)] := hl
  refine lv_aload_n hx hb d_X_storeRecord_0 rfl (lv_at hl 0 rfl) ?_
  refine va_get (D := (dC, dI)) (ci := 0) (v := .int (nI hf)) (C := R_X) (T := F_X) (N := 12) hx hb hts lay_X hown hK hP 0 rfl rfl 1 (by decide) (hts _ m_63) (fun _ h9 => h9) rfl d_X_storeRecord_1 ?_
  refine lv_aload_n hx hb d_X_storeRecord_4 rfl (lv_at hl 0 rfl) ?_
  refine va_get (D := (dC, dI)) (ci := 0) (v := .int (nI ln)) (C := R_X) (T := F_X) (N := 12) hx hb hts lay_X hown hK hP 0 rfl rfl 8 (by decide) (hts _ m_70) (fun _ h9 => h9) rfl d_X_storeRecord_5 ?_
  refine vp_callSi (W.runS (As := [.int (nI hf), .int (nI ln)]) (rest := []) ⟨hx, hb, hml, hown, hts⟩ (c_recordPlace l hf ln) (cwS 2 hts g_X_123 rfl rfl rfl (by decide +kernel) ⟨(Nat.le_of_ble_eq_true rfl), (Nat.le_of_ble_eq_true rfl)⟩) preEq rfl rfl hl.1 rfl (lv_room (Nat.le_of_ble_eq_true rfl)) d_X_storeRecord_8 ⟨(Nat.le_of_ble_eq_true rfl), (Nat.le_of_ble_eq_true rfl)⟩) (fun r hr0 => ?_)
  subst hr0
  refine lv_istore hx hb d_X_storeRecord_11 hl (by decide) rfl (fun ls hl => ?_)
  have hl : lv_has ls 6 [(4, .int (nI (51 * hf + 31 + 4 * ln))), (0, .ref h0), (1, .int x0), (2, .long v0)] := hl
  refine lv_aload_n hx hb d_X_storeRecord_13 rfl (lv_at hl 1 rfl) ?_
  refine lv_iload hx hb d_X_storeRecord_14 (lv_at hl 0 rfl) ?_
  refine lv_iload_n hx hb d_X_storeRecord_16 rfl (lv_at hl 2 rfl) ?_
  refine lv_iload hx hb d_X_storeRecord_17 (lv_at hl 0 rfl) ?_
  refine lv_aload_n hx hb d_X_storeRecord_19 rfl (lv_at hl 1 rfl) ?_
  refine va_get (D := (dC, dI)) (ci := 0) (v := .int gn) (C := R_X) (T := F_X) (N := 12) hx hb hts lay_X hown hK hP 0 rfl rfl 2 (by decide) (hts _ m_64) (fun _ h9 => h9) rfl d_X_storeRecord_20 ?_
  refine vp_callSi (W.runS (As := [.int x0, .int (nI (51 * hf + 31 + 4 * ln)), .int gn]) (rest := [.int (nI (51 * hf + 31 + 4 * ln)), .ref h0]) ⟨hx, hb, hml, hown, hts⟩ (c_encipher l x0 (nI (51 * hf + 31 + 4 * ln)) gn) (cwS 3 hts g_X_27 rfl rfl rfl (by decide +kernel) ⟨(Nat.le_of_ble_eq_true rfl), (Nat.le_of_ble_eq_true rfl)⟩) preEq rfl rfl hl.1 rfl (lv_room (Nat.le_of_ble_eq_true rfl)) d_X_storeRecord_23 ⟨(Nat.le_of_ble_eq_true rfl), (Nat.le_of_ble_eq_true rfl)⟩) (fun r hr0 => ?_)
  subst hr0
  refine z_calli (va_runV (C := R_X) (b := h0) (As := [.int (nI (51 * hf + 31 + 4 * ln)), .int (enc x0 (nI (51 * hf + 31 + 4 * ln)) gn)]) (rest := []) ⟨hx, hb, hml, hown, hts⟩ (c_storeWord l dC dI h0 qd qs qv cI cJ _ dk hf gn rt ct sl sm pw ln lq vq ch (51 * hf + 31 + 4 * ln) (enc x0 (nI (51 * hf + 31 + 4 * ln)) gn) (by omega)) (cwV 2 hts g_X_140 rfl rfl rfl (by decide +kernel) ⟨(Nat.le_of_ble_eq_true rfl), (Nat.le_of_ble_eq_true rfl)⟩) (z_preV (va_recv (q0 := 0) hK hP rfl rfl) hP hK hD) rfl rfl hl.1 rfl (lv_room (Nat.le_of_ble_eq_true rfl)) d_X_storeRecord_26 ⟨(Nat.le_of_ble_eq_true rfl), (Nat.le_of_ble_eq_true rfl)⟩) hS hD hA (fun r u H locs hr0 hP hD hS => ?_)
  obtain ⟨h1, rfl, rfl⟩ | ⟨h1, rfl, rfl⟩ := hr0
  · refine lv_if_eq (tgt := 48) hx hb d_X_storeRecord_29 (by decide) (fun _ => ?_) (fun h9 => absurd (by decide) h9)
    refine lv_iconst (v := (0 : Int32)) hx hb d_X_storeRecord_48 (by decide) ?_
    exact W.zret hx hb hr rfl (fun t ht hW => ⟨⟨(0 : Int32), (dk, hf, gn, rt, ct, -1, sm, false, 0, lq, vq, (0 : Int32)), rfl, ⟨_, _, _, Or.inr ⟨(by rw [srC, wr1_0 h1]; try simp only [wr1_f, wv1_f]), rfl, rfl⟩⟩, by rw [ht]; exact hP, va_K.moved hW.alike hK, hD⟩, hS.F ht⟩) hS.2.2 d_X_storeRecord_49
  · refine lv_if_eq (tgt := 48) hx hb d_X_storeRecord_29 (by decide) (fun h9 => absurd h9 (by decide)) (fun _ => ?_)
    refine lv_aload_n hx hb d_X_storeRecord_32 rfl (lv_at hl 1 rfl) ?_
    refine lv_iload hx hb d_X_storeRecord_33 (lv_at hl 0 rfl) ?_
    refine lv_iconst (v := nI 1) hx hb d_X_storeRecord_35 (by decide) ?_
    refine lv_iadd hx hb d_X_storeRecord_36 ?_
    refine z_top (nI_add _ _) ?_
    refine lv_lload_n hx hb d_X_storeRecord_37 rfl (lv_at hl 3 rfl) ?_
    refine lv_aload_n hx hb d_X_storeRecord_38 rfl (lv_at hl 1 rfl) ?_
    refine va_get (D := (dC, dI)) (ci := 0) (v := .int gn) (C := R_X) (T := F_X) (N := 12) hx hb hts lay_X hown hK hP 0 rfl rfl 2 (by decide) (hts _ m_64) (fun _ h9 => h9) rfl d_X_storeRecord_39 ?_
    refine z_calli (va_runV (C := R_X) (b := h0) (As := [.int (nI ((51 * hf + 31 + 4 * ln) + 1)), .long v0, .int gn]) (rest := []) ⟨hx, hb, hml, hown, hts⟩ (c_storeValue l dC dI h0 qd qs qv cI cJ _ (upd dk (51 * hf + 31 + 4 * ln) (enc x0 (nI (51 * hf + 31 + 4 * ln)) gn)) hf gn rt ct (dec1 sl) (sm + 1) pw ln lq vq ch ((51 * hf + 31 + 4 * ln) + 1) v0 gn (by omega)) (cwV 3 hts g_X_147 rfl rfl rfl (by decide +kernel) ⟨(Nat.le_of_ble_eq_true rfl), (Nat.le_of_ble_eq_true rfl)⟩) (z_preV (va_recv (q0 := 0) hK hP rfl rfl) hP hK hD) rfl rfl hl.1 rfl (lv_room (Nat.le_of_ble_eq_true rfl)) d_X_storeRecord_42 ⟨(Nat.le_of_ble_eq_true rfl), (Nat.le_of_ble_eq_true rfl)⟩) hS hD hA (fun r u H locs hr0 hP hD hS => ?_)
    obtain ⟨d2, sl2, sm2, ⟨hc2, rfl, rfl⟩ | ⟨hc2, rfl, rfl⟩⟩ := hr0
    · refine lv_if_ne (tgt := 50) hx hb d_X_storeRecord_45 (by decide) (fun _ => ?_) (fun h9 => absurd h9 (by decide))
      refine lv_aload_n hx hb d_X_storeRecord_50 rfl (lv_at hl 1 rfl) ?_
      refine lv_iload hx hb d_X_storeRecord_51 (lv_at hl 0 rfl) ?_
      refine vp_callSi (W.runV (C := R_X) (b := h0) (As := [.int (nI (51 * hf + 31 + 4 * ln))]) (rest := []) ⟨hx, hb, hml, hown, hts⟩ (c_chainBehind l dC dI h0 qd qs qv cI cJ _ d2 hf gn rt ct sl2 sm2 pw ln lq vq ch (51 * hf + 31 + 4 * ln) (by omega)) (cwV 1 hts g_X_126 rfl rfl rfl (by decide +kernel) ⟨(Nat.le_of_ble_eq_true rfl), (Nat.le_of_ble_eq_true rfl)⟩) (z_preV (va_recv (q0 := 0) hK hP rfl rfl) hP hK hD) rfl rfl hl.1 rfl (lv_room (Nat.le_of_ble_eq_true rfl)) d_X_storeRecord_53 ⟨(Nat.le_of_ble_eq_true rfl), (Nat.le_of_ble_eq_true rfl)⟩) (fun r hr0 => ?_)
      subst hr0
      refine lv_istore hx hb d_X_storeRecord_56 hl (by decide) rfl (fun ls hl => ?_)
      have hl : lv_has ls 6 [(5, .int (chn ch d2 (51 * hf + 31 + 4 * ln))), (4, .int (nI (51 * hf + 31 + 4 * ln))), (0, .ref h0), (1, .int x0), (2, .long v0)] := hl
      refine lv_aload_n hx hb d_X_storeRecord_58 rfl (lv_at hl 2 rfl) ?_
      refine lv_iload hx hb d_X_storeRecord_59 (lv_at hl 1 rfl) ?_
      refine lv_iconst (v := nI 3) hx hb d_X_storeRecord_61 (by decide) ?_
      refine lv_iadd hx hb d_X_storeRecord_62 ?_
      refine z_top (nI_add _ _) ?_
      refine lv_iload hx hb d_X_storeRecord_63 (lv_at hl 0 rfl) ?_
      refine vp_callSi (W.runS (As := [.int (chn ch d2 (51 * hf + 31 + 4 * ln))]) (rest := [.int (nI ((51 * hf + 31 + 4 * ln) + 3)), .ref h0]) ⟨hx, hb, hml, hown, hts⟩ (c_markOf l (chn ch d2 (51 * hf + 31 + 4 * ln))) (cwS 1 hts g_X_129 rfl rfl rfl (by decide +kernel) ⟨(Nat.le_of_ble_eq_true rfl), (Nat.le_of_ble_eq_true rfl)⟩) preEq rfl rfl hl.1 rfl (lv_room (Nat.le_of_ble_eq_true rfl)) d_X_storeRecord_65 ⟨(Nat.le_of_ble_eq_true rfl), (Nat.le_of_ble_eq_true rfl)⟩) (fun r hr0 => ?_)
      subst hr0
      refine z_calli (va_runV (C := R_X) (b := h0) (As := [.int (nI ((51 * hf + 31 + 4 * ln) + 3)), .int ((chn ch d2 (51 * hf + 31 + 4 * ln)) ||| 1)]) (rest := []) ⟨hx, hb, hml, hown, hts⟩ (c_storeWord l dC dI h0 qd qs qv cI cJ _ d2 hf gn rt ct sl2 sm2 pw ln lq vq ch ((51 * hf + 31 + 4 * ln) + 3) ((chn ch d2 (51 * hf + 31 + 4 * ln)) ||| 1) (by omega)) (cwV 2 hts g_X_140 rfl rfl rfl (by decide +kernel) ⟨(Nat.le_of_ble_eq_true rfl), (Nat.le_of_ble_eq_true rfl)⟩) (z_preV (va_recv (q0 := 0) hK hP rfl rfl) hP hK hD) rfl rfl hl.1 rfl (lv_room (Nat.le_of_ble_eq_true rfl)) d_X_storeRecord_68 ⟨(Nat.le_of_ble_eq_true rfl), (Nat.le_of_ble_eq_true rfl)⟩) hS hD hA (fun r u H locs hr0 hP hD hS => ?_)
      obtain ⟨h3, rfl, rfl⟩ | ⟨h3, rfl, rfl⟩ := hr0
      · refine lv_if_ne (tgt := 76) hx hb d_X_storeRecord_71 (by decide) (fun h9 => absurd (by decide) h9) (fun _ => ?_)
        refine lv_iconst (v := (0 : Int32)) hx hb d_X_storeRecord_74 (by decide) ?_
        exact W.zret hx hb hr rfl (fun t ht hW => ⟨⟨(0 : Int32), (d2, hf, gn, rt, ct, -1, sm2, false, 0, lq, vq, (0 : Int32)), rfl, ⟨_, _, _, Or.inr ⟨(by rw [srC, wr1_1 h1, hc2, wr1_0 h3]; try simp only [wr1_f, wv1_f]), rfl, rfl⟩⟩, by rw [ht]; exact hP, va_K.moved hW.alike hK, hD⟩, hS.F ht⟩) hS.2.2 d_X_storeRecord_75
      · refine lv_if_ne (tgt := 76) hx hb d_X_storeRecord_71 (by decide) (fun _ => ?_) (fun h9 => absurd h9 (by decide))
        refine lv_aload_n hx hb d_X_storeRecord_76 rfl (lv_at hl 2 rfl) ?_
        refine lv_iload hx hb d_X_storeRecord_77 (lv_at hl 0 rfl) ?_
        refine va_put (D := (dC, dI)) (ci := 0) (v := .int (chn ch d2 (51 * hf + 31 + 4 * ln))) (ty := .int) (C := R_X) (T := F_X) (N := 12) hx hb hts lay_X t_X t_X_ok n_X hown hK hP hD hS 0 rfl rfl 11 (by decide) (hts _ m_73) (fun _ h9 => h9) rfl (by decide +kernel) rfl rfl (Nat.le_of_ble_eq_true rfl) d_X_storeRecord_79 (fun H locs hP hD hS => ?_)
        have hP : va_P (dC, dI) classes (Xw h0 qd qs qv cI cJ (upd d2 ((51 * hf + 31 + 4 * ln) + 3) ((chn ch d2 (51 * hf + 31 + 4 * ln)) ||| 1), hf, gn, rt, ct, dec1 sl2, sm2 + 1, pw, ln, lq, vq, chn ch d2 (51 * hf + 31 + 4 * ln))) H := hP
        have hD : va_D A (Xw h0 qd qs qv cI cJ (upd d2 ((51 * hf + 31 + 4 * ln) + 3) ((chn ch d2 (51 * hf + 31 + 4 * ln)) ||| 1), hf, gn, rt, ct, dec1 sl2, sm2 + 1, pw, ln, lq, vq, chn ch d2 (51 * hf + 31 + 4 * ln))) := hD
        refine lv_iconst (v := (1 : Int32)) hx hb d_X_storeRecord_82 (by decide) ?_
        exact W.zret hx hb hr rfl (fun t ht hW => ⟨⟨(1 : Int32), (upd d2 ((51 * hf + 31 + 4 * ln) + 3) ((chn ch d2 (51 * hf + 31 + 4 * ln)) ||| 1), hf, gn, rt, ct, dec1 sl2, sm2 + 1, pw, ln, lq, vq, chn ch d2 (51 * hf + 31 + 4 * ln)), rfl, ⟨_, _, _, Or.inl ⟨(by rw [srC, wr1_1 h1, hc2, wr1_1 h3]), rfl, (by rw [wr1_1 h1, hc2])⟩⟩, by rw [ht]; exact hP, va_K.moved hW.alike hK, hD⟩, hS.F ht⟩) hS.2.2 d_X_storeRecord_83
    · refine lv_if_ne (tgt := 50) hx hb d_X_storeRecord_45 (by decide) (fun h9 => absurd (by decide) h9) (fun _ => ?_)
      refine lv_iconst (v := (0 : Int32)) hx hb d_X_storeRecord_48 (by decide) ?_
      exact W.zret hx hb hr rfl (fun t ht hW => ⟨⟨(0 : Int32), (d2, hf, gn, rt, ct, sl2, sm2, false, 0, lq, vq, (0 : Int32)), rfl, ⟨_, _, _, Or.inr ⟨(by rw [srC, wr1_1 h1, hc2]; try simp only [wr1_f, wv1_f]), rfl, rfl⟩⟩, by rw [ht]; exact hP, va_K.moved hW.alike hK, hD⟩, hS.F ht⟩) hS.2.2 d_X_storeRecord_49
set_option maxHeartbeats 4000000 in
set_option maxRecDepth 100000 in
theorem c_clearMarks (l : Launch) (dC : Nat → ClassId) (dI : Nat → Nat → Nat) (h0 qd qs qv : Nat) (cI cJ : ClassId) (sz : Nat) (dk : Nat → Int32) (hf : Nat) (gn : Int32) (rt : Int32) (ct : Int32) (sl : Int32) (sm : Int32) (pw : Bool) (ln : Nat) (lq : Nat → Int32) (vq : Nat → Int64) (ch : Int32) (a1 : Nat) (h_a : a1 < 2) : Met l y_X_clearMarks w_X_clearMarks ({ frames := 3, cells := 0, slots := 0, locals := 62 }) (va_Pc [.ref h0, .int (nI a1)] (z_pre (dC, dI) classes [(cI, .int), (cJ, .long)] (Xw h0 qd qs qv cI cJ (dk, hf, gn, rt, ct, sl, sm, pw, ln, lq, vq, ch)) sz)) (va_Qi (fun (r : Int32) (u : XS) => sPost (clM a1 5 0 (true, (dk, sl, sm))) hf gn rt ct pw ln lq vq ch r u) (fun u => z_at (dC, dI) classes [(cI, .int), (cJ, .long)] (va_A (Xw h0 qd qs qv cI cJ (dk, hf, gn, rt, ct, sl, sm, pw, ln, lq, vq, ch)) sz) (Xw h0 qd qs qv cI cJ u)) (va_A (Xw h0 qd qs qv cI cJ (dk, hf, gn, rt, ct, sl, sm, pw, ln, lq, vq, ch)) sz)) 0 0 (va_A (Xw h0 qd qs qv cI cJ (dk, hf, gn, rt, ct, sl, sm, pw, ln, lq, vq, ch)) sz) := by
  refine Met.ofW (cc := b_X_clearMarks) (maxL := 3) (ret := (some .boolean)) (by decide) rfl ?_
  intro p e s m args below meth c s₁ B hml hv
  obtain ⟨rfl, hsz, hP, hK, hD0⟩ := hv
  have hx := B.exec
  have hb := B.bytes
  have hr := B.returns
  have hts := fun (w : Cond) (h : w ∈ lw_U) => atoms_spec (ws := w_X_clearMarks) B.pre w (List.mem_cons_of_mem _ h)
  have hown : s.vm.findClass R_X = some m.cls := findClass_of_methodNamed B.named
  have hlocks := B.notSynchronized
  subst hsz
  have hD := hD0.self (sz := s.heap.size)
  generalize hAe : va_A (Xw h0 qd qs qv cI cJ (dk, hf, gn, rt, ct, sl, sm, pw, ln, lq, vq, ch)) s.heap.size = A at hD ⊢
  have hA : ∀ q : Nat, s.heap.size ≤ q → A q := fun q h => by rw [← hAe]; exact Or.inr h
  have hS : va_S A s.heap s.heap [] := va_S.rf
  have hP : va_P (dC, dI) classes (Xw h0 qd qs qv cI cJ (dk, hf, gn, rt, ct, sl, sm, pw, ln, lq, vq, ch)) s.heap := hP
  have hl := lv_entry ([.ref h0, .int (nI a1)]) (n := 3) (Nat.le_of_ble_eq_true rfl)
  rw [lg_entry_eq]
  generalize (lg_sl ([.ref h0, .int (nI a1)]) ++ List.replicate (3 - (lg_sl ([.ref h0, .int (nI a1)])).length) Slot.unset).toArray = ls at hl ⊢
  have hl : lv_has ls 3 [(0, .ref h0), (1, .int (nI a1))] := hl
  have loop : ∀ (j k : Nat) (d0 : Nat → Int32) (sl0 sm0 : Int32) (ls : Array Slot) (H : Heap) (locs : List Loc), k + j = 5 → lv_has ls 3 [(0, .ref h0), (1, .int (nI a1)), (2, .int (nI k))] → va_P (dC, dI) classes (Xw h0 qd qs qv cI cJ (d0, hf, gn, rt, ct, sl0, sm0, pw, ln, lq, vq, ch)) H → va_D A (Xw h0 qd qs qv cI cJ (d0, hf, gn, rt, ct, sl0, sm0, pw, ln, lq, vq, ch)) → va_S A s.heap H locs → clM a1 j k (true, (d0, sl0, sm0)) = clM a1 5 0 (true, (dk, sl, sm)) → W p l e (headSpec w_X_clearMarks ({ frames := 3, cells := 0, slots := 0, locals := 62 })).room s m ([.ref h0, .int (nI a1)].toArray) below meth c H locs 0 0 (MQ below (va_Qi (fun (r : Int32) (u : XS) => sPost (clM a1 5 0 (true, (dk, sl, sm))) hf gn rt ct pw ln lq vq ch r u) (fun u => z_at (dC, dI) classes [(cI, .int), (cJ, .long)] A (Xw h0 qd qs qv cI cJ u)) A) ([.ref h0, .int (nI a1)].toArray) s 0 0 A) (F0 m 2 ls []) := by
    intro j
    induction j with
    | zero =>
      intro k d0 sl0 sm0 ls H locs hk hl hP hD hS hF
      refine lv_iload_n hx hb d_X_clearMarks_2 rfl (lv_at hl 2 rfl) ?_
      refine lv_iconst (v := nI 5) hx hb d_X_clearMarks_3 (by decide) ?_
      refine lv_icmp_ge (tgt := 30) hx hb d_X_clearMarks_4 (by decide) (fun _ => ?_) (fun h9 => absurd ((nI_leI (by omega) (by omega)).mpr (by omega)) h9)
      refine lv_iconst (v := (1 : Int32)) hx hb d_X_clearMarks_30 (by decide) ?_
      exact W.zret hx hb hr rfl (fun t ht hW => ⟨⟨(1 : Int32), (d0, hf, gn, rt, ct, sl0, sm0, pw, ln, lq, vq, ch), rfl, ⟨_, _, _, Or.inl ⟨hF.symm, rfl, rfl⟩⟩, by rw [ht]; exact hP, va_K.moved hW.alike hK, hD⟩, hS.F ht⟩) hS.2.2 d_X_clearMarks_31
    | succ j ih =>
      intro k d0 sl0 sm0 ls H locs hk hl hP hD hS hF
      refine lv_iload_n hx hb d_X_clearMarks_2 rfl (lv_at hl 2 rfl) ?_
      refine lv_iconst (v := nI 5) hx hb d_X_clearMarks_3 (by decide) ?_
      refine lv_icmp_ge (tgt := 30) hx hb d_X_clearMarks_4 (by decide) (fun h9 => absurd h9 (fun q => absurd ((nI_leI (by omega) (by omega)).mp q) (by omega))) (fun _ => ?_)
      refine lv_aload_n hx hb d_X_clearMarks_7 rfl (lv_at hl 0 rfl) ?_
      refine lv_iload_n hx hb d_X_clearMarks_8 rfl (lv_at hl 1 rfl) ?_
      refine lv_iload_n hx hb d_X_clearMarks_9 rfl (lv_at hl 2 rfl) ?_
      refine vp_callSi (W.runS (As := [.int (nI a1), .int (nI k)]) (rest := [.ref h0]) ⟨hx, hb, hml, hown, hts⟩ (c_recordPlace l a1 k) (cwS 2 hts g_X_123 rfl rfl rfl (by decide +kernel) ⟨(Nat.le_of_ble_eq_true rfl), (Nat.le_of_ble_eq_true rfl)⟩) preEq rfl rfl hl.1 rfl (lv_room (Nat.le_of_ble_eq_true rfl)) d_X_clearMarks_10 ⟨(Nat.le_of_ble_eq_true rfl), (Nat.le_of_ble_eq_true rfl)⟩) (fun r hr0 => ?_)
      subst hr0
      refine lv_iconst (v := nI 3) hx hb d_X_clearMarks_13 (by decide) ?_
      refine lv_iadd hx hb d_X_clearMarks_14 ?_
      refine z_top (nI_add _ _) ?_
      refine lv_iconst (v := (0 : Int32)) hx hb d_X_clearMarks_15 (by decide) ?_
      refine z_calli (va_runV (C := R_X) (b := h0) (As := [.int (nI ((51 * a1 + 31 + 4 * k) + 3)), .int (0 : Int32)]) (rest := []) ⟨hx, hb, hml, hown, hts⟩ (c_storeWord l dC dI h0 qd qs qv cI cJ _ d0 hf gn rt ct sl0 sm0 pw ln lq vq ch ((51 * a1 + 31 + 4 * k) + 3) (0 : Int32) (by omega)) (cwV 2 hts g_X_140 rfl rfl rfl (by decide +kernel) ⟨(Nat.le_of_ble_eq_true rfl), (Nat.le_of_ble_eq_true rfl)⟩) (z_preV (va_recv (q0 := 0) hK hP rfl rfl) hP hK hD) rfl rfl hl.1 rfl (lv_room (Nat.le_of_ble_eq_true rfl)) d_X_clearMarks_16 ⟨(Nat.le_of_ble_eq_true rfl), (Nat.le_of_ble_eq_true rfl)⟩) hS hD hA (fun r u H locs hr0 hP hD hS => ?_)
      obtain ⟨h1, rfl, rfl⟩ | ⟨h1, rfl, rfl⟩ := hr0
      · refine lv_if_ne (tgt := 24) hx hb d_X_clearMarks_19 (by decide) (fun h9 => absurd (by decide) h9) (fun _ => ?_)
        refine lv_iconst (v := (0 : Int32)) hx hb d_X_clearMarks_22 (by decide) ?_
        exact W.zret hx hb hr rfl (fun t ht hW => ⟨⟨(0 : Int32), (d0, hf, gn, rt, ct, -1, sm0, false, 0, lq, vq, (0 : Int32)), rfl, ⟨_, _, _, Or.inr ⟨(by rw [← hF, clM, wr1_0 h1, clM_f]), rfl, rfl⟩⟩, by rw [ht]; exact hP, va_K.moved hW.alike hK, hD⟩, hS.F ht⟩) hS.2.2 d_X_clearMarks_23
      · refine lv_if_ne (tgt := 24) hx hb d_X_clearMarks_19 (by decide) (fun _ => ?_) (fun h9 => absurd h9 (by decide))
        refine lv_iinc (k := 2) hx hb d_X_clearMarks_24 hl rfl (z_inc _ 1) (by decide) rfl (fun ls hl => ?_)
        have hl : lv_has ls 3 [(2, .int (nI (k + 1))), (0, .ref h0), (1, .int (nI a1))] := hl
        refine lv_goto (tgt := 2) hx hb d_X_clearMarks_27 (by decide) ?_
        exact ih (k + 1) _ _ _ ls _ _ (by omega) (lv_sub hl [1, 2, 0] rfl) hP hD hS (by rw [← hF, clM, wr1_1 h1])
  refine lv_iconst (v := nI 0) hx hb d_X_clearMarks_0 (by decide) ?_
  refine lv_istore_n hx hb d_X_clearMarks_1 rfl hl (by decide) rfl (fun ls hl => ?_)
  have hl : lv_has ls 3 [(2, .int (nI 0)), (0, .ref h0), (1, .int (nI a1))] := hl
  exact loop 5 0 _ _ _ ls _ _ rfl (lv_sub hl [1, 2, 0] rfl) hP hD hS rfl
set_option maxHeartbeats 4000000 in
set_option maxRecDepth 100000 in
theorem c_storeSectors (l : Launch) (dC : Nat → ClassId) (dI : Nat → Nat → Nat) (h0 qd qs qv : Nat) (cI cJ : ClassId) (sz : Nat) (dk : Nat → Int32) (hf : Nat) (gn : Int32) (rt : Int32) (ct : Int32) (sl : Int32) (sm : Int32) (pw : Bool) (ln : Nat) (lq : Nat → Int32) (vq : Nat → Int64) (ch : Int32) (a1 : Nat) (g1 : Int32) (h_a : a1 < 2) (h_f : hf < 2) (h_n : ln ≤ 5) : Met l y_X_storeSectors w_X_storeSectors ({ frames := 4, cells := 0, slots := 0, locals := 94 }) (va_Pc [.ref h0, .int (nI a1), .int g1] (z_pre (dC, dI) classes [(cI, .int), (cJ, .long)] (Xw h0 qd qs qv cI cJ (dk, hf, gn, rt, ct, sl, sm, pw, ln, lq, vq, ch)) sz)) (va_Qi (fun (r : Int32) (u : XS) => sPost (ssF (fun d k => vof d hf gn rt ln lq vq k) a1 g1 8 0 (true, (dk, sl, sm))) hf gn rt ct pw ln lq vq ch r u) (fun u => z_at (dC, dI) classes [(cI, .int), (cJ, .long)] (va_A (Xw h0 qd qs qv cI cJ (dk, hf, gn, rt, ct, sl, sm, pw, ln, lq, vq, ch)) sz) (Xw h0 qd qs qv cI cJ u)) (va_A (Xw h0 qd qs qv cI cJ (dk, hf, gn, rt, ct, sl, sm, pw, ln, lq, vq, ch)) sz)) 0 0 (va_A (Xw h0 qd qs qv cI cJ (dk, hf, gn, rt, ct, sl, sm, pw, ln, lq, vq, ch)) sz) := by
  refine Met.ofW (cc := b_X_storeSectors) (maxL := 4) (ret := (some .boolean)) (by decide) rfl ?_
  intro p e s m args below meth c s₁ B hml hv
  obtain ⟨rfl, hsz, hP, hK, hD0⟩ := hv
  have hx := B.exec
  have hb := B.bytes
  have hr := B.returns
  have hts := fun (w : Cond) (h : w ∈ lw_U) => atoms_spec (ws := w_X_storeSectors) B.pre w (List.mem_cons_of_mem _ h)
  have hown : s.vm.findClass R_X = some m.cls := findClass_of_methodNamed B.named
  have hlocks := B.notSynchronized
  subst hsz
  have hD := hD0.self (sz := s.heap.size)
  generalize hAe : va_A (Xw h0 qd qs qv cI cJ (dk, hf, gn, rt, ct, sl, sm, pw, ln, lq, vq, ch)) s.heap.size = A at hD ⊢
  have hA : ∀ q : Nat, s.heap.size ≤ q → A q := fun q h => by rw [← hAe]; exact Or.inr h
  have hS : va_S A s.heap s.heap [] := va_S.rf
  have hP : va_P (dC, dI) classes (Xw h0 qd qs qv cI cJ (dk, hf, gn, rt, ct, sl, sm, pw, ln, lq, vq, ch)) s.heap := hP
  have hl := lv_entry ([.ref h0, .int (nI a1), .int g1]) (n := 4) (Nat.le_of_ble_eq_true rfl)
  rw [lg_entry_eq]
  generalize (lg_sl ([.ref h0, .int (nI a1), .int g1]) ++ List.replicate (4 - (lg_sl ([.ref h0, .int (nI a1), .int g1])).length) Slot.unset).toArray = ls at hl ⊢
  have hl : lv_has ls 4 [(0, .ref h0), (1, .int (nI a1)), (2, .int g1)] := hl
  have loop : ∀ (j k : Nat) (d0 : Nat → Int32) (sl0 sm0 : Int32) (ls : Array Slot) (H : Heap) (locs : List Loc), k + j = 8 → lv_has ls 4 [(0, .ref h0), (1, .int (nI a1)), (2, .int g1), (3, .int (nI k))] → va_P (dC, dI) classes (Xw h0 qd qs qv cI cJ (d0, hf, gn, rt, ct, sl0, sm0, pw, ln, lq, vq, ch)) H → va_D A (Xw h0 qd qs qv cI cJ (d0, hf, gn, rt, ct, sl0, sm0, pw, ln, lq, vq, ch)) → va_S A s.heap H locs → ssF (fun d k => vof d hf gn rt ln lq vq k) a1 g1 j k (true, (d0, sl0, sm0)) = ssF (fun d k => vof d hf gn rt ln lq vq k) a1 g1 8 0 (true, (dk, sl, sm)) → W p l e (headSpec w_X_storeSectors ({ frames := 4, cells := 0, slots := 0, locals := 94 })).room s m ([.ref h0, .int (nI a1), .int g1].toArray) below meth c H locs 0 0 (MQ below (va_Qi (fun (r : Int32) (u : XS) => sPost (ssF (fun d k => vof d hf gn rt ln lq vq k) a1 g1 8 0 (true, (dk, sl, sm))) hf gn rt ct pw ln lq vq ch r u) (fun u => z_at (dC, dI) classes [(cI, .int), (cJ, .long)] A (Xw h0 qd qs qv cI cJ u)) A) ([.ref h0, .int (nI a1), .int g1].toArray) s 0 0 A) (F0 m 2 ls []) := by
    intro j
    induction j with
    | zero =>
      intro k d0 sl0 sm0 ls H locs hk hl hP hD hS hF
      refine lv_iload_n hx hb d_X_storeSectors_2 rfl (lv_at hl 3 rfl) ?_
      refine lv_bipush (v := nI 8) hx hb d_X_storeSectors_3 (by decide) ?_
      refine lv_icmp_ge (tgt := 34) hx hb d_X_storeSectors_5 (by decide) (fun _ => ?_) (fun h9 => absurd ((nI_leI (by omega) (by omega)).mpr (by omega)) h9)
      refine lv_iconst (v := (1 : Int32)) hx hb d_X_storeSectors_34 (by decide) ?_
      exact W.zret hx hb hr rfl (fun t ht hW => ⟨⟨(1 : Int32), (d0, hf, gn, rt, ct, sl0, sm0, pw, ln, lq, vq, ch), rfl, ⟨_, _, _, Or.inl ⟨hF.symm, rfl, rfl⟩⟩, by rw [ht]; exact hP, va_K.moved hW.alike hK, hD⟩, hS.F ht⟩) hS.2.2 d_X_storeSectors_35
    | succ j ih =>
      intro k d0 sl0 sm0 ls H locs hk hl hP hD hS hF
      refine lv_iload_n hx hb d_X_storeSectors_2 rfl (lv_at hl 3 rfl) ?_
      refine lv_bipush (v := nI 8) hx hb d_X_storeSectors_3 (by decide) ?_
      refine lv_icmp_ge (tgt := 34) hx hb d_X_storeSectors_5 (by decide) (fun h9 => absurd h9 (fun q => absurd ((nI_leI (by omega) (by omega)).mp q) (by omega))) (fun _ => ?_)
      refine lv_aload_n hx hb d_X_storeSectors_8 rfl (lv_at hl 0 rfl) ?_
      refine lv_iload_n hx hb d_X_storeSectors_9 rfl (lv_at hl 1 rfl) ?_
      refine lv_iload_n hx hb d_X_storeSectors_10 rfl (lv_at hl 3 rfl) ?_
      refine vp_callSi (W.runS (As := [.int (nI a1), .int (nI k)]) (rest := [.ref h0]) ⟨hx, hb, hml, hown, hts⟩ (c_sectorPlace l a1 k) (cwS 2 hts g_X_103 rfl rfl rfl (by decide +kernel) ⟨(Nat.le_of_ble_eq_true rfl), (Nat.le_of_ble_eq_true rfl)⟩) preEq rfl rfl hl.1 rfl (lv_room (Nat.le_of_ble_eq_true rfl)) d_X_storeSectors_11 ⟨(Nat.le_of_ble_eq_true rfl), (Nat.le_of_ble_eq_true rfl)⟩) (fun r hr0 => ?_)
      subst hr0
      refine lv_aload_n hx hb d_X_storeSectors_14 rfl (lv_at hl 0 rfl) ?_
      refine lv_iload_n hx hb d_X_storeSectors_15 rfl (lv_at hl 3 rfl) ?_
      refine vp_callSl (W.runV (C := R_X) (b := h0) (As := [.int (nI k)]) (rest := [.int (nI (51 * a1 + 2 * k)), .ref h0]) ⟨hx, hb, hml, hown, hts⟩ (c_valueOf l dC dI h0 qd qs qv cI cJ _ d0 hf gn rt ct sl0 sm0 pw ln lq vq ch k (by omega) (by omega) (by omega)) (cwV 1 hts g_X_77 rfl rfl rfl (by decide +kernel) ⟨(Nat.le_of_ble_eq_true rfl), (Nat.le_of_ble_eq_true rfl)⟩) (z_preV (va_recv (q0 := 0) hK hP rfl rfl) hP hK hD) rfl rfl hl.1 rfl (lv_room (Nat.le_of_ble_eq_true rfl)) d_X_storeSectors_16 ⟨(Nat.le_of_ble_eq_true rfl), (Nat.le_of_ble_eq_true rfl)⟩) (fun r hr0 => ?_)
      subst hr0
      refine lv_iload_n hx hb d_X_storeSectors_19 rfl (lv_at hl 2 rfl) ?_
      refine z_calli (va_runV (C := R_X) (b := h0) (As := [.int (nI (51 * a1 + 2 * k)), .long (vof d0 hf gn rt ln lq vq k), .int g1]) (rest := []) ⟨hx, hb, hml, hown, hts⟩ (c_storeValue l dC dI h0 qd qs qv cI cJ _ d0 hf gn rt ct sl0 sm0 pw ln lq vq ch (51 * a1 + 2 * k) (vof d0 hf gn rt ln lq vq k) g1 (by omega)) (cwV 3 hts g_X_147 rfl rfl rfl (by decide +kernel) ⟨(Nat.le_of_ble_eq_true rfl), (Nat.le_of_ble_eq_true rfl)⟩) (z_preV (va_recv (q0 := 0) hK hP rfl rfl) hP hK hD) rfl rfl hl.1 rfl (lv_room (Nat.le_of_ble_eq_true rfl)) d_X_storeSectors_20 ⟨(Nat.le_of_ble_eq_true rfl), (Nat.le_of_ble_eq_true rfl)⟩) hS hD hA (fun r u H locs hr0 hP hD hS => ?_)
      obtain ⟨d1, sl1, sm1, ⟨hc1, rfl, rfl⟩ | ⟨hc1, rfl, rfl⟩⟩ := hr0
      · refine lv_if_ne (tgt := 28) hx hb d_X_storeSectors_23 (by decide) (fun _ => ?_) (fun h9 => absurd h9 (by decide))
        refine lv_iinc (k := 3) hx hb d_X_storeSectors_28 hl rfl (z_inc _ 1) (by decide) rfl (fun ls hl => ?_)
        have hl : lv_has ls 4 [(3, .int (nI (k + 1))), (0, .ref h0), (1, .int (nI a1)), (2, .int g1)] := hl
        refine lv_goto (tgt := 2) hx hb d_X_storeSectors_31 (by decide) ?_
        exact ih (k + 1) _ _ _ ls _ _ (by omega) (lv_sub hl [1, 2, 3, 0] rfl) hP hD hS (by rw [← hF, ssF, hc1])
      · refine lv_if_ne (tgt := 28) hx hb d_X_storeSectors_23 (by decide) (fun h9 => absurd (by decide) h9) (fun _ => ?_)
        refine lv_iconst (v := (0 : Int32)) hx hb d_X_storeSectors_26 (by decide) ?_
        exact W.zret hx hb hr rfl (fun t ht hW => ⟨⟨(0 : Int32), (d1, hf, gn, rt, ct, sl1, sm1, false, 0, lq, vq, (0 : Int32)), rfl, ⟨_, _, _, Or.inr ⟨(by rw [← hF, ssF, hc1, ssF_f]), rfl, rfl⟩⟩, by rw [ht]; exact hP, va_K.moved hW.alike hK, hD⟩, hS.F ht⟩) hS.2.2 d_X_storeSectors_27
  refine lv_iconst (v := nI 0) hx hb d_X_storeSectors_0 (by decide) ?_
  refine lv_istore_n hx hb d_X_storeSectors_1 rfl hl (by decide) rfl (fun ls hl => ?_)
  have hl : lv_has ls 4 [(3, .int (nI 0)), (0, .ref h0), (1, .int (nI a1)), (2, .int g1)] := hl
  exact loop 8 0 _ _ _ ls _ _ rfl (lv_sub hl [1, 2, 3, 0] rfl) hP hD hS rfl
set_option maxHeartbeats 4000000 in
set_option maxRecDepth 100000 in
theorem c_storeNodes (l : Launch) (dC : Nat → ClassId) (dI : Nat → Nat → Nat) (h0 qd qs qv : Nat) (cI cJ : ClassId) (sz : Nat) (dk : Nat → Int32) (hf : Nat) (gn : Int32) (rt : Int32) (ct : Int32) (sl : Int32) (sm : Int32) (pw : Bool) (ln : Nat) (lq : Nat → Int32) (vq : Nat → Int64) (ch : Int32) (a1 : Nat) (g1 : Int32) (h_a : a1 < 2) : Met l y_X_storeNodes w_X_storeNodes ({ frames := 3, cells := 0, slots := 0, locals := 62 }) (va_Pc [.ref h0, .int (nI a1), .int g1] (z_pre (dC, dI) classes [(cI, .int), (cJ, .long)] (Xw h0 qd qs qv cI cJ (dk, hf, gn, rt, ct, sl, sm, pw, ln, lq, vq, ch)) sz)) (va_Qi (fun (r : Int32) (u : XS) => sPost (snF a1 g1 15 (true, (dk, sl, sm))) hf gn rt ct pw ln lq vq ch r u) (fun u => z_at (dC, dI) classes [(cI, .int), (cJ, .long)] (va_A (Xw h0 qd qs qv cI cJ (dk, hf, gn, rt, ct, sl, sm, pw, ln, lq, vq, ch)) sz) (Xw h0 qd qs qv cI cJ u)) (va_A (Xw h0 qd qs qv cI cJ (dk, hf, gn, rt, ct, sl, sm, pw, ln, lq, vq, ch)) sz)) 0 0 (va_A (Xw h0 qd qs qv cI cJ (dk, hf, gn, rt, ct, sl, sm, pw, ln, lq, vq, ch)) sz) := by
  refine Met.ofW (cc := b_X_storeNodes) (maxL := 4) (ret := (some .boolean)) (by decide) rfl ?_
  intro p e s m args below meth c s₁ B hml hv
  obtain ⟨rfl, hsz, hP, hK, hD0⟩ := hv
  have hx := B.exec
  have hb := B.bytes
  have hr := B.returns
  have hts := fun (w : Cond) (h : w ∈ lw_U) => atoms_spec (ws := w_X_storeNodes) B.pre w (List.mem_cons_of_mem _ h)
  have hown : s.vm.findClass R_X = some m.cls := findClass_of_methodNamed B.named
  have hlocks := B.notSynchronized
  subst hsz
  have hD := hD0.self (sz := s.heap.size)
  generalize hAe : va_A (Xw h0 qd qs qv cI cJ (dk, hf, gn, rt, ct, sl, sm, pw, ln, lq, vq, ch)) s.heap.size = A at hD ⊢
  have hA : ∀ q : Nat, s.heap.size ≤ q → A q := fun q h => by rw [← hAe]; exact Or.inr h
  have hS : va_S A s.heap s.heap [] := va_S.rf
  have hP : va_P (dC, dI) classes (Xw h0 qd qs qv cI cJ (dk, hf, gn, rt, ct, sl, sm, pw, ln, lq, vq, ch)) s.heap := hP
  have hl := lv_entry ([.ref h0, .int (nI a1), .int g1]) (n := 4) (Nat.le_of_ble_eq_true rfl)
  rw [lg_entry_eq]
  generalize (lg_sl ([.ref h0, .int (nI a1), .int g1]) ++ List.replicate (4 - (lg_sl ([.ref h0, .int (nI a1), .int g1])).length) Slot.unset).toArray = ls at hl ⊢
  have hl : lv_has ls 4 [(0, .ref h0), (1, .int (nI a1)), (2, .int g1)] := hl
  have loop : ∀ (k : Nat) (d0 : Nat → Int32) (sl0 sm0 : Int32) (ls : Array Slot) (H : Heap) (locs : List Loc), k ≤ 15 → lv_has ls 4 [(0, .ref h0), (1, .int (nI a1)), (2, .int g1), (3, .int (nI k))] → va_P (dC, dI) classes (Xw h0 qd qs qv cI cJ (d0, hf, gn, rt, ct, sl0, sm0, pw, ln, lq, vq, ch)) H → va_D A (Xw h0 qd qs qv cI cJ (d0, hf, gn, rt, ct, sl0, sm0, pw, ln, lq, vq, ch)) → va_S A s.heap H locs → snF a1 g1 k (true, (d0, sl0, sm0)) = snF a1 g1 15 (true, (dk, sl, sm)) → W p l e (headSpec w_X_storeNodes ({ frames := 3, cells := 0, slots := 0, locals := 62 })).room s m ([.ref h0, .int (nI a1), .int g1].toArray) below meth c H locs 0 0 (MQ below (va_Qi (fun (r : Int32) (u : XS) => sPost (snF a1 g1 15 (true, (dk, sl, sm))) hf gn rt ct pw ln lq vq ch r u) (fun u => z_at (dC, dI) classes [(cI, .int), (cJ, .long)] A (Xw h0 qd qs qv cI cJ u)) A) ([.ref h0, .int (nI a1), .int g1].toArray) s 0 0 A) (F0 m 3 ls []) := by
    intro k
    induction k with
    | zero =>
      intro d0 sl0 sm0 ls H locs hk hl hP hD hS hF
      refine lv_iload_n hx hb d_X_storeNodes_3 rfl (lv_at hl 3 rfl) ?_
      refine lv_iconst (v := nI 1) hx hb d_X_storeNodes_4 (by decide) ?_
      refine lv_icmp_lt (tgt := 35) hx hb d_X_storeNodes_5 (by decide) (fun _ => ?_) (fun h9 => absurd ((nI_ltI (by omega) (by omega)).mpr (by omega)) h9)
      refine lv_iconst (v := (1 : Int32)) hx hb d_X_storeNodes_35 (by decide) ?_
      exact W.zret hx hb hr rfl (fun t ht hW => ⟨⟨(1 : Int32), (d0, hf, gn, rt, ct, sl0, sm0, pw, ln, lq, vq, ch), rfl, ⟨_, _, _, Or.inl ⟨hF.symm, rfl, rfl⟩⟩, by rw [ht]; exact hP, va_K.moved hW.alike hK, hD⟩, hS.F ht⟩) hS.2.2 d_X_storeNodes_36
    | succ k ih =>
      intro d0 sl0 sm0 ls H locs hk hl hP hD hS hF
      refine lv_iload_n hx hb d_X_storeNodes_3 rfl (lv_at hl 3 rfl) ?_
      refine lv_iconst (v := nI 1) hx hb d_X_storeNodes_4 (by decide) ?_
      refine lv_icmp_lt (tgt := 35) hx hb d_X_storeNodes_5 (by decide) (fun h9 => absurd h9 (fun q => absurd ((nI_ltI (by omega) (by omega)).mp q) (by omega))) (fun _ => ?_)
      refine lv_aload_n hx hb d_X_storeNodes_8 rfl (lv_at hl 0 rfl) ?_
      refine lv_iload_n hx hb d_X_storeNodes_9 rfl (lv_at hl 1 rfl) ?_
      refine lv_iload_n hx hb d_X_storeNodes_10 rfl (lv_at hl 3 rfl) ?_
      refine vp_callSi (W.runS (As := [.int (nI a1), .int (nI (k + 1))]) (rest := [.ref h0]) ⟨hx, hb, hml, hown, hts⟩ (c_nodePlace l a1 (k + 1)) (cwS 2 hts g_X_31 rfl rfl rfl (by decide +kernel) ⟨(Nat.le_of_ble_eq_true rfl), (Nat.le_of_ble_eq_true rfl)⟩) preEq rfl rfl hl.1 rfl (lv_room (Nat.le_of_ble_eq_true rfl)) d_X_storeNodes_11 ⟨(Nat.le_of_ble_eq_true rfl), (Nat.le_of_ble_eq_true rfl)⟩) (fun r hr0 => ?_)
      subst hr0
      refine lv_aload_n hx hb d_X_storeNodes_14 rfl (lv_at hl 0 rfl) ?_
      refine lv_iload_n hx hb d_X_storeNodes_15 rfl (lv_at hl 1 rfl) ?_
      refine lv_iload_n hx hb d_X_storeNodes_16 rfl (lv_at hl 3 rfl) ?_
      refine lv_iload_n hx hb d_X_storeNodes_17 rfl (lv_at hl 2 rfl) ?_
      refine vp_callSi (W.runV (C := R_X) (b := h0) (As := [.int (nI a1), .int (nI (k + 1)), .int g1]) (rest := [.int (nI (51 * a1 + 15 + (k + 1))), .ref h0]) ⟨hx, hb, hml, hown, hts⟩ (c_dueNode l dC dI h0 qd qs qv cI cJ _ d0 hf gn rt ct sl0 sm0 pw ln lq vq ch a1 (k + 1) g1 (by omega) (by omega)) (cwV 3 hts g_X_35 rfl rfl rfl (by decide +kernel) ⟨(Nat.le_of_ble_eq_true rfl), (Nat.le_of_ble_eq_true rfl)⟩) (z_preV (va_recv (q0 := 0) hK hP rfl rfl) hP hK hD) rfl rfl hl.1 rfl (lv_room (Nat.le_of_ble_eq_true rfl)) d_X_storeNodes_18 ⟨(Nat.le_of_ble_eq_true rfl), (Nat.le_of_ble_eq_true rfl)⟩) (fun r hr0 => ?_)
      subst hr0
      refine z_calli (va_runV (C := R_X) (b := h0) (As := [.int (nI (51 * a1 + 15 + (k + 1))), .int (due d0 a1 (k + 1) g1)]) (rest := []) ⟨hx, hb, hml, hown, hts⟩ (c_storeWord l dC dI h0 qd qs qv cI cJ _ d0 hf gn rt ct sl0 sm0 pw ln lq vq ch (51 * a1 + 15 + (k + 1)) (due d0 a1 (k + 1) g1) (by omega)) (cwV 2 hts g_X_140 rfl rfl rfl (by decide +kernel) ⟨(Nat.le_of_ble_eq_true rfl), (Nat.le_of_ble_eq_true rfl)⟩) (z_preV (va_recv (q0 := 0) hK hP rfl rfl) hP hK hD) rfl rfl hl.1 rfl (lv_room (Nat.le_of_ble_eq_true rfl)) d_X_storeNodes_21 ⟨(Nat.le_of_ble_eq_true rfl), (Nat.le_of_ble_eq_true rfl)⟩) hS hD hA (fun r u H locs hr0 hP hD hS => ?_)
      obtain ⟨h1, rfl, rfl⟩ | ⟨h1, rfl, rfl⟩ := hr0
      · refine lv_if_ne (tgt := 29) hx hb d_X_storeNodes_24 (by decide) (fun h9 => absurd (by decide) h9) (fun _ => ?_)
        refine lv_iconst (v := (0 : Int32)) hx hb d_X_storeNodes_27 (by decide) ?_
        exact W.zret hx hb hr rfl (fun t ht hW => ⟨⟨(0 : Int32), (d0, hf, gn, rt, ct, -1, sm0, false, 0, lq, vq, (0 : Int32)), rfl, ⟨_, _, _, Or.inr ⟨(by rw [← hF, snF, wr1_0 h1, snF_f]), rfl, rfl⟩⟩, by rw [ht]; exact hP, va_K.moved hW.alike hK, hD⟩, hS.F ht⟩) hS.2.2 d_X_storeNodes_28
      · refine lv_if_ne (tgt := 29) hx hb d_X_storeNodes_24 (by decide) (fun _ => ?_) (fun h9 => absurd h9 (by decide))
        refine lv_iinc (k := 3) hx hb d_X_storeNodes_29 hl rfl (z_dec _) (by decide) rfl (fun ls hl => ?_)
        have hl : lv_has ls 4 [(3, .int (nI k)), (0, .ref h0), (1, .int (nI a1)), (2, .int g1)] := hl
        refine lv_goto (tgt := 3) hx hb d_X_storeNodes_32 (by decide) ?_
        exact ih _ _ _ ls _ _ (by omega) (lv_sub hl [1, 2, 3, 0] rfl) hP hD hS (by rw [← hF, snF, wr1_1 h1])
  refine lv_bipush (v := nI 15) hx hb d_X_storeNodes_0 (by decide) ?_
  refine lv_istore_n hx hb d_X_storeNodes_2 rfl hl (by decide) rfl (fun ls hl => ?_)
  have hl : lv_has ls 4 [(3, .int (nI 15)), (0, .ref h0), (1, .int (nI a1)), (2, .int g1)] := hl
  exact loop 15 _ _ _ ls _ _ (by decide) (lv_sub hl [1, 2, 3, 0] rfl) hP hD hS rfl
end
section
set_option maxHeartbeats 4000000 in
set_option maxRecDepth 100000 in
theorem c_moveToOtherHalf (l : Launch) (dC : Nat → ClassId) (dI : Nat → Nat → Nat) (h0 qd qs qv : Nat) (cI cJ : ClassId) (sz : Nat) (dk : Nat → Int32) (hf : Nat) (gn : Int32) (rt : Int32) (ct : Int32) (sl : Int32) (sm : Int32) (pw : Bool) (ln : Nat) (lq : Nat → Int32) (vq : Nat → Int64) (ch : Int32)  (h_f : hf < 2) (h_n : ln ≤ 5) : Met l y_X_moveToOtherHalf w_X_moveToOtherHalf ({ frames := 5, cells := 0, slots := 0, locals := 117 }) (va_Pc [.ref h0] (z_pre (dC, dI) classes [(cI, .int), (cJ, .long)] (Xw h0 qd qs qv cI cJ (dk, hf, gn, rt, ct, sl, sm, pw, ln, lq, vq, ch)) sz)) (va_Qi (fun (r : Int32) (u : XS) => mvF (dk, hf, gn, rt, ct, sl, sm, pw, ln, lq, vq, ch) = (r, u) ∧ ((∃ (d1 : Nat → Int32) (sl1 sm1 : Int32), r = gn + 1 ∧ u = (d1, 1 - hf, gn + 1, d1 (51 * (1 - hf) + 15 + 1), 0, sl1, sm1, pw, 0, lq, vq, dg (dg 19088743 (d1 (51 * (1 - hf) + 15 + 1))) (gn + 1))) ∨ (r = -3 ∧ u = (dk, hf, gn, rt, ct, sl, sm, pw, ln, lq, vq, ch)) ∨ (∃ (d1 : Nat → Int32) (sl1 sm1 : Int32), r = -4 ∧ u = (d1, hf, gn, rt, ct, sl1, sm1, false, 0, lq, vq, 0)))) (fun u => z_at (dC, dI) classes [(cI, .int), (cJ, .long)] (va_A (Xw h0 qd qs qv cI cJ (dk, hf, gn, rt, ct, sl, sm, pw, ln, lq, vq, ch)) sz) (Xw h0 qd qs qv cI cJ u)) (va_A (Xw h0 qd qs qv cI cJ (dk, hf, gn, rt, ct, sl, sm, pw, ln, lq, vq, ch)) sz)) 0 0 (va_A (Xw h0 qd qs qv cI cJ (dk, hf, gn, rt, ct, sl, sm, pw, ln, lq, vq, ch)) sz) := by
  refine Met.ofW (cc := b_X_moveToOtherHalf) (maxL := 3) (ret := (some .int)) (by decide) rfl ?_
  intro p e s m args below meth c s₁ B hml hv
  obtain ⟨rfl, hsz, hP, hK, hD0⟩ := hv
  have hx := B.exec
  have hb := B.bytes
  have hr := B.returns
  have hts := fun (w : Cond) (h : w ∈ lw_U) => atoms_spec (ws := w_X_moveToOtherHalf) B.pre w (List.mem_cons_of_mem _ h)
  have hown : s.vm.findClass R_X = some m.cls := findClass_of_methodNamed B.named
  have hlocks := B.notSynchronized
  subst hsz
  have hD := hD0.self (sz := s.heap.size)
  generalize hAe : va_A (Xw h0 qd qs qv cI cJ (dk, hf, gn, rt, ct, sl, sm, pw, ln, lq, vq, ch)) s.heap.size = A at hD ⊢
  have hA : ∀ q : Nat, s.heap.size ≤ q → A q := fun q h => by rw [← hAe]; exact Or.inr h
  have hS : va_S A s.heap s.heap [] := va_S.rf
  have hP : va_P (dC, dI) classes (Xw h0 qd qs qv cI cJ (dk, hf, gn, rt, ct, sl, sm, pw, ln, lq, vq, ch)) s.heap := hP
  have hl := lv_entry ([.ref h0]) (n := 3) (Nat.le_of_ble_eq_true rfl)
  rw [lg_entry_eq]
  generalize (lg_sl ([.ref h0]) ++ List.replicate (3 - (lg_sl ([.ref h0])).length) Slot.unset).toArray = ls at hl ⊢
  have hl : lv_has ls 3 [(0, .ref h0)] := hl
  refine lv_aload_n hx hb d_X_moveToOtherHalf_0 rfl (lv_at hl 0 rfl) ?_
  refine vp_callSi (W.runV (C := R_X) (b := h0) (As := []) (rest := []) ⟨hx, hb, hml, hown, hts⟩ (c_soundSectors l dC dI h0 qd qs qv cI cJ _ dk hf gn rt ct sl sm pw ln lq vq ch (by omega) (by omega)) (cwV 0 hts g_X_91 rfl rfl rfl (by decide +kernel) ⟨(Nat.le_of_ble_eq_true rfl), (Nat.le_of_ble_eq_true rfl)⟩) (z_preV (va_recv (q0 := 0) hK hP rfl rfl) hP hK hD) rfl rfl hl.1 rfl (lv_room (Nat.le_of_ble_eq_true rfl)) d_X_moveToOtherHalf_1 ⟨(Nat.le_of_ble_eq_true rfl), (Nat.le_of_ble_eq_true rfl)⟩) (fun r hr0 => ?_)
  subst hr0
  refine lv_sipush (v := (255 : Int32)) hx hb d_X_moveToOtherHalf_4 (by decide) ?_
  refine lv_icmp_eq (tgt := 13) hx hb d_X_moveToOtherHalf_7 (by decide) (fun h1 => ?_) (fun h1 => ?_)
  · refine lv_iconst (v := nI 1) hx hb d_X_moveToOtherHalf_13 (by decide) ?_
    refine lv_aload_n hx hb d_X_moveToOtherHalf_14 rfl (lv_at hl 0 rfl) ?_
    refine va_get (D := (dC, dI)) (ci := 0) (v := .int (nI hf)) (C := R_X) (T := F_X) (N := 12) hx hb hts lay_X hown hK hP 0 rfl rfl 1 (by decide) (hts _ m_63) (fun _ h9 => h9) rfl d_X_moveToOtherHalf_15 ?_
    refine lv_isub hx hb d_X_moveToOtherHalf_18 ?_
    refine z_top (pk_sub (by omega)) ?_
    refine lv_istore_n hx hb d_X_moveToOtherHalf_19 rfl hl (by decide) rfl (fun ls hl => ?_)
    have hl : lv_has ls 3 [(1, .int (nI (1 - hf))), (0, .ref h0)] := hl
    refine lv_aload_n hx hb d_X_moveToOtherHalf_20 rfl (lv_at hl 1 rfl) ?_
    refine va_get (D := (dC, dI)) (ci := 0) (v := .int gn) (C := R_X) (T := F_X) (N := 12) hx hb hts lay_X hown hK hP 0 rfl rfl 2 (by decide) (hts _ m_64) (fun _ h9 => h9) rfl d_X_moveToOtherHalf_21 ?_
    refine lv_iconst (v := (1 : Int32)) hx hb d_X_moveToOtherHalf_24 (by decide) ?_
    refine lv_iadd hx hb d_X_moveToOtherHalf_25 ?_
    refine lv_istore_n hx hb d_X_moveToOtherHalf_26 rfl hl (by decide) rfl (fun ls hl => ?_)
    have hl : lv_has ls 3 [(2, .int (gn + (1 : Int32))), (1, .int (nI (1 - hf))), (0, .ref h0)] := hl
    refine lv_aload_n hx hb d_X_moveToOtherHalf_27 rfl (lv_at hl 2 rfl) ?_
    refine lv_iload_n hx hb d_X_moveToOtherHalf_28 rfl (lv_at hl 1 rfl) ?_
    refine z_calli (va_runV (C := R_X) (b := h0) (As := [.int (nI (1 - hf))]) (rest := []) ⟨hx, hb, hml, hown, hts⟩ (c_clearMarks l dC dI h0 qd qs qv cI cJ _ dk hf gn rt ct sl sm pw ln lq vq ch (1 - hf) (by omega)) (cwV 1 hts g_X_151 rfl rfl rfl (by decide +kernel) ⟨(Nat.le_of_ble_eq_true rfl), (Nat.le_of_ble_eq_true rfl)⟩) (z_preV (va_recv (q0 := 0) hK hP rfl rfl) hP hK hD) rfl rfl hl.1 rfl (lv_room (Nat.le_of_ble_eq_true rfl)) d_X_moveToOtherHalf_29 ⟨(Nat.le_of_ble_eq_true rfl), (Nat.le_of_ble_eq_true rfl)⟩) hS hD hA (fun r u H locs hr0 hP hD hS => ?_)
    obtain ⟨d2, sl2, sm2, ⟨hc2, rfl, rfl⟩ | ⟨hc2, rfl, rfl⟩⟩ := hr0
    · refine lv_if_eq (tgt := 73) hx hb d_X_moveToOtherHalf_32 (by decide) (fun h9 => absurd h9 (by decide)) (fun _ => ?_)
      refine lv_aload_n hx hb d_X_moveToOtherHalf_35 rfl (lv_at hl 2 rfl) ?_
      refine lv_iload_n hx hb d_X_moveToOtherHalf_36 rfl (lv_at hl 1 rfl) ?_
      refine lv_iload_n hx hb d_X_moveToOtherHalf_37 rfl (lv_at hl 0 rfl) ?_
      refine z_calli (va_runV (C := R_X) (b := h0) (As := [.int (nI (1 - hf)), .int (gn + (1 : Int32))]) (rest := []) ⟨hx, hb, hml, hown, hts⟩ (c_storeSectors l dC dI h0 qd qs qv cI cJ _ d2 hf gn rt ct sl2 sm2 pw ln lq vq ch (1 - hf) (gn + (1 : Int32)) (by omega) (by omega) (by omega)) (cwV 2 hts g_X_154 rfl rfl rfl (by decide +kernel) ⟨(Nat.le_of_ble_eq_true rfl), (Nat.le_of_ble_eq_true rfl)⟩) (z_preV (va_recv (q0 := 0) hK hP rfl rfl) hP hK hD) rfl rfl hl.1 rfl (lv_room (Nat.le_of_ble_eq_true rfl)) d_X_moveToOtherHalf_38 ⟨(Nat.le_of_ble_eq_true rfl), (Nat.le_of_ble_eq_true rfl)⟩) hS hD hA (fun r u H locs hr0 hP hD hS => ?_)
      obtain ⟨d3, sl3, sm3, ⟨hc3, rfl, rfl⟩ | ⟨hc3, rfl, rfl⟩⟩ := hr0
      · refine lv_if_eq (tgt := 73) hx hb d_X_moveToOtherHalf_41 (by decide) (fun h9 => absurd h9 (by decide)) (fun _ => ?_)
        refine lv_aload_n hx hb d_X_moveToOtherHalf_44 rfl (lv_at hl 2 rfl) ?_
        refine lv_iload_n hx hb d_X_moveToOtherHalf_45 rfl (lv_at hl 1 rfl) ?_
        refine lv_iload_n hx hb d_X_moveToOtherHalf_46 rfl (lv_at hl 0 rfl) ?_
        refine z_calli (va_runV (C := R_X) (b := h0) (As := [.int (nI (1 - hf)), .int (gn + (1 : Int32))]) (rest := []) ⟨hx, hb, hml, hown, hts⟩ (c_storeNodes l dC dI h0 qd qs qv cI cJ _ d3 hf gn rt ct sl3 sm3 pw ln lq vq ch (1 - hf) (gn + (1 : Int32)) (by omega)) (cwV 2 hts g_X_157 rfl rfl rfl (by decide +kernel) ⟨(Nat.le_of_ble_eq_true rfl), (Nat.le_of_ble_eq_true rfl)⟩) (z_preV (va_recv (q0 := 0) hK hP rfl rfl) hP hK hD) rfl rfl hl.1 rfl (lv_room (Nat.le_of_ble_eq_true rfl)) d_X_moveToOtherHalf_47 ⟨(Nat.le_of_ble_eq_true rfl), (Nat.le_of_ble_eq_true rfl)⟩) hS hD hA (fun r u H locs hr0 hP hD hS => ?_)
        obtain ⟨d4, sl4, sm4, ⟨hc4, rfl, rfl⟩ | ⟨hc4, rfl, rfl⟩⟩ := hr0
        · refine lv_if_eq (tgt := 73) hx hb d_X_moveToOtherHalf_50 (by decide) (fun h9 => absurd h9 (by decide)) (fun _ => ?_)
          refine lv_aload_n hx hb d_X_moveToOtherHalf_53 rfl (lv_at hl 2 rfl) ?_
          refine lv_iload_n hx hb d_X_moveToOtherHalf_54 rfl (lv_at hl 1 rfl) ?_
          refine lv_iload_n hx hb d_X_moveToOtherHalf_55 rfl (lv_at hl 0 rfl) ?_
          refine lv_aload_n hx hb d_X_moveToOtherHalf_56 rfl (lv_at hl 2 rfl) ?_
          refine va_get (D := (dC, dI)) (ci := 0) (v := .ref qd) (C := R_X) (T := F_X) (N := 12) hx hb hts lay_X hown hK hP 0 rfl rfl 0 (by decide) (hts _ m_62) (fun _ h9 => h9) rfl d_X_moveToOtherHalf_57 ?_
          refine lv_iload_n hx hb d_X_moveToOtherHalf_60 rfl (lv_at hl 1 rfl) ?_
          refine lv_iconst (v := nI 1) hx hb d_X_moveToOtherHalf_61 (by decide) ?_
          refine vp_callSi (W.runS (As := [.int (nI (1 - hf)), .int (nI 1)]) (rest := [.ref qd, .int (gn + (1 : Int32)), .int (nI (1 - hf)), .ref h0]) ⟨hx, hb, hml, hown, hts⟩ (c_nodePlace l (1 - hf) 1) (cwS 2 hts g_X_31 rfl rfl rfl (by decide +kernel) ⟨(Nat.le_of_ble_eq_true rfl), (Nat.le_of_ble_eq_true rfl)⟩) preEq rfl rfl hl.1 rfl (lv_room (Nat.le_of_ble_eq_true rfl)) d_X_moveToOtherHalf_62 ⟨(Nat.le_of_ble_eq_true rfl), (Nat.le_of_ble_eq_true rfl)⟩) (fun r hr0 => ?_)
          subst hr0
          refine z_iald hx hb hK hP 1 0 rfl rfl (by omega) (by decide) d_X_moveToOtherHalf_65 ?_
          refine lv_iconst (v := (0 : Int32)) hx hb d_X_moveToOtherHalf_66 (by decide) ?_
          refine z_calli (va_runV (C := R_X) (b := h0) (As := [.int (nI (1 - hf)), .int (gn + (1 : Int32)), .int (d4 (51 * (1 - hf) + 15 + 1)), .int (0 : Int32)]) (rest := []) ⟨hx, hb, hml, hown, hts⟩ (c_changeSeal l dC dI h0 qd qs qv cI cJ _ d4 hf gn rt ct sl4 sm4 pw ln lq vq ch (1 - hf) (gn + (1 : Int32)) (d4 (51 * (1 - hf) + 15 + 1)) (0 : Int32)) (cwV 4 hts g_X_84 rfl rfl rfl (by decide +kernel) ⟨(Nat.le_of_ble_eq_true rfl), (Nat.le_of_ble_eq_true rfl)⟩) (z_preV (va_recv (q0 := 0) hK hP rfl rfl) hP hK hD) rfl rfl hl.1 rfl (lv_room (Nat.le_of_ble_eq_true rfl)) d_X_moveToOtherHalf_67 ⟨(Nat.le_of_ble_eq_true rfl), (Nat.le_of_ble_eq_true rfl)⟩) hS hD hA (fun r u H locs hr0 hP hD hS => ?_)
          obtain ⟨h5, rfl, rfl⟩ | ⟨h5, rfl, rfl⟩ := hr0
          · refine lv_if_ne (tgt := 76) hx hb d_X_moveToOtherHalf_70 (by decide) (fun h9 => absurd (by decide) h9) (fun _ => ?_)
            refine lv_bipush (v := (-4 : Int32)) hx hb d_X_moveToOtherHalf_73 (by decide) ?_
            exact W.iret hx hb hr (fun t ht hW => ⟨⟨(-4 : Int32), (d4, hf, gn, rt, ct, -1, sm4, false, 0, lq, vq, (0 : Int32)), rfl, ⟨mvF_cut h1 (by rw [cpC, hc2, hc3, hc4]; exact st1_0 h5), Or.inr (Or.inr ⟨_, _, _, rfl, rfl⟩)⟩, by rw [ht]; exact hP, va_K.moved hW.alike hK, hD⟩, hS.F ht⟩) hS.2.2 d_X_moveToOtherHalf_75
          · refine lv_if_ne (tgt := 76) hx hb d_X_moveToOtherHalf_70 (by decide) (fun _ => ?_) (fun h9 => absurd h9 (by decide))
            refine lv_aload_n hx hb d_X_moveToOtherHalf_76 rfl (lv_at hl 2 rfl) ?_
            refine z_callv (va_runV (C := R_X) (b := h0) (As := []) (rest := []) ⟨hx, hb, hml, hown, hts⟩ (c_beginList l dC dI h0 qd qs qv cI cJ _ d4 (1 - hf) (gn + (1 : Int32)) (d4 (51 * (1 - hf) + 15 + 1)) (0 : Int32) (dec1 sl4) (sm4 + 1) pw ln lq vq ch ) (cwV 0 hts g_X_120 rfl rfl rfl (by decide +kernel) ⟨(Nat.le_of_ble_eq_true rfl), (Nat.le_of_ble_eq_true rfl)⟩) (z_preV (va_recv (q0 := 0) hK hP rfl rfl) hP hK hD) rfl rfl hl.1 rfl (lv_room (Nat.le_of_ble_eq_true rfl)) d_X_moveToOtherHalf_77 ⟨(Nat.le_of_ble_eq_true rfl), (Nat.le_of_ble_eq_true rfl)⟩) hS hD hA (fun u H locs hr0 hP hD hS => ?_)
            subst hr0
            refine lv_iload_n hx hb d_X_moveToOtherHalf_80 rfl (lv_at hl 0 rfl) ?_
            exact W.iret hx hb hr (fun t ht hW => ⟨⟨gn + (1 : Int32), (d4, 1 - hf, gn + (1 : Int32), d4 (51 * (1 - hf) + 15 + 1), (0 : Int32), dec1 sl4, sm4 + 1, pw, 0, lq, vq, dg (dg 19088743 (d4 (51 * (1 - hf) + 15 + 1))) (gn + (1 : Int32))), rfl, ⟨mvF_ok h1 (by rw [cpC, hc2, hc3, hc4]; exact st1_1 h5), Or.inl ⟨_, _, _, rfl, rfl⟩⟩, by rw [ht]; exact hP, va_K.moved hW.alike hK, hD⟩, hS.F ht⟩) hS.2.2 d_X_moveToOtherHalf_81
        · refine lv_if_eq (tgt := 73) hx hb d_X_moveToOtherHalf_50 (by decide) (fun _ => ?_) (fun h9 => absurd (by decide) h9)
          refine lv_bipush (v := (-4 : Int32)) hx hb d_X_moveToOtherHalf_73 (by decide) ?_
          exact W.iret hx hb hr (fun t ht hW => ⟨⟨(-4 : Int32), (d4, hf, gn, rt, ct, sl4, sm4, false, 0, lq, vq, (0 : Int32)), rfl, ⟨mvF_cut h1 (by rw [cpC, hc2, hc3, hc4]; first | (simp only [ssF_f, snF_f]; rfl) | rfl), Or.inr (Or.inr ⟨_, _, _, rfl, rfl⟩)⟩, by rw [ht]; exact hP, va_K.moved hW.alike hK, hD⟩, hS.F ht⟩) hS.2.2 d_X_moveToOtherHalf_75
      · refine lv_if_eq (tgt := 73) hx hb d_X_moveToOtherHalf_41 (by decide) (fun _ => ?_) (fun h9 => absurd (by decide) h9)
        refine lv_bipush (v := (-4 : Int32)) hx hb d_X_moveToOtherHalf_73 (by decide) ?_
        exact W.iret hx hb hr (fun t ht hW => ⟨⟨(-4 : Int32), (d3, hf, gn, rt, ct, sl3, sm3, false, 0, lq, vq, (0 : Int32)), rfl, ⟨mvF_cut h1 (by rw [cpC, hc2, hc3]; first | (simp only [ssF_f, snF_f]; rfl) | rfl), Or.inr (Or.inr ⟨_, _, _, rfl, rfl⟩)⟩, by rw [ht]; exact hP, va_K.moved hW.alike hK, hD⟩, hS.F ht⟩) hS.2.2 d_X_moveToOtherHalf_75
    · refine lv_if_eq (tgt := 73) hx hb d_X_moveToOtherHalf_32 (by decide) (fun _ => ?_) (fun h9 => absurd (by decide) h9)
      refine lv_bipush (v := (-4 : Int32)) hx hb d_X_moveToOtherHalf_73 (by decide) ?_
      exact W.iret hx hb hr (fun t ht hW => ⟨⟨(-4 : Int32), (d2, hf, gn, rt, ct, sl2, sm2, false, 0, lq, vq, (0 : Int32)), rfl, ⟨mvF_cut h1 (by rw [cpC, hc2]; first | (simp only [ssF_f, snF_f]; rfl) | rfl), Or.inr (Or.inr ⟨_, _, _, rfl, rfl⟩)⟩, by rw [ht]; exact hP, va_K.moved hW.alike hK, hD⟩, hS.F ht⟩) hS.2.2 d_X_moveToOtherHalf_75
  · refine lv_bipush (v := (-3 : Int32)) hx hb d_X_moveToOtherHalf_10 (by decide) ?_
    exact W.iret hx hb hr (fun t ht hW => ⟨⟨(-3 : Int32), (dk, hf, gn, rt, ct, sl, sm, pw, ln, lq, vq, ch), rfl, ⟨mvF_no h1, Or.inr (Or.inl ⟨rfl, rfl⟩)⟩, by rw [ht]; exact hP, va_K.moved hW.alike hK, hD⟩, hS.F ht⟩) hS.2.2 d_X_moveToOtherHalf_12
set_option maxHeartbeats 4000000 in
set_option maxRecDepth 100000 in
theorem c_mount (l : Launch) (dC : Nat → ClassId) (dI : Nat → Nat → Nat) (h0 qd qs qv : Nat) (cI cJ : ClassId) (sz : Nat) (dk : Nat → Int32) (hf : Nat) (gn : Int32) (rt : Int32) (ct : Int32) (sl : Int32) (sm : Int32) (pw : Bool) (ln : Nat) (lq : Nat → Int32) (vq : Nat → Int64) (ch : Int32)  (h_f : hf < 2) : Met l y_X_mount w_X_mount ({ frames := 4, cells := 0, slots := 0, locals := 95 }) (va_Pc [.ref h0] (z_pre (dC, dI) classes [(cI, .int), (cJ, .long)] (Xw h0 qd qs qv cI cJ (dk, hf, gn, rt, ct, sl, sm, pw, ln, lq, vq, ch)) sz)) (va_Qi (fun (r : Int32) (u : XS) => ∃ (n1 : Nat) (lq1 : Nat → Int32) (vq1 : Nat → Int64) (ch1 : Int32), tj dk hf gn 5 0 lq vq (dg (dg 19088743 rt) gn) = (n1, lq1, vq1, ch1) ∧ n1 ≤ 5 ∧ ((ct ≤ nI n1 ∧ r = nI n1 ∧ u = (dk, hf, gn, rt, ct, sl, sm, true, n1, lq1, vq1, ch1)) ∨ (¬ ct ≤ nI n1 ∧ r = -3 ∧ u = (dk, hf, gn, rt, ct, sl, sm, false, 0, lq1, vq1, 0)))) (fun u => z_at (dC, dI) classes [(cI, .int), (cJ, .long)] (va_A (Xw h0 qd qs qv cI cJ (dk, hf, gn, rt, ct, sl, sm, pw, ln, lq, vq, ch)) sz) (Xw h0 qd qs qv cI cJ u)) (va_A (Xw h0 qd qs qv cI cJ (dk, hf, gn, rt, ct, sl, sm, pw, ln, lq, vq, ch)) sz)) 0 0 (va_A (Xw h0 qd qs qv cI cJ (dk, hf, gn, rt, ct, sl, sm, pw, ln, lq, vq, ch)) sz) := by
  refine Met.ofW (cc := b_X_mount) (maxL := 1) (ret := (some .int)) (by decide) rfl ?_
  intro p e s m args below meth c s₁ B hml hv
  obtain ⟨rfl, hsz, hP, hK, hD0⟩ := hv
  have hx := B.exec
  have hb := B.bytes
  have hr := B.returns
  have hts := fun (w : Cond) (h : w ∈ lw_U) => atoms_spec (ws := w_X_mount) B.pre w (List.mem_cons_of_mem _ h)
  have hown : s.vm.findClass R_X = some m.cls := findClass_of_methodNamed B.named
  have hlocks := B.notSynchronized
  subst hsz
  have hD := hD0.self (sz := s.heap.size)
  generalize hAe : va_A (Xw h0 qd qs qv cI cJ (dk, hf, gn, rt, ct, sl, sm, pw, ln, lq, vq, ch)) s.heap.size = A at hD ⊢
  have hA : ∀ q : Nat, s.heap.size ≤ q → A q := fun q h => by rw [← hAe]; exact Or.inr h
  have hS : va_S A s.heap s.heap [] := va_S.rf
  have hP : va_P (dC, dI) classes (Xw h0 qd qs qv cI cJ (dk, hf, gn, rt, ct, sl, sm, pw, ln, lq, vq, ch)) s.heap := hP
  have hl := lv_entry ([.ref h0]) (n := 1) (Nat.le_of_ble_eq_true rfl)
  rw [lg_entry_eq]
  generalize (lg_sl ([.ref h0]) ++ List.replicate (1 - (lg_sl ([.ref h0])).length) Slot.unset).toArray = ls at hl ⊢
  have hl : lv_has ls 1 [(0, .ref h0)] := hl
  refine lv_aload_n hx hb d_X_mount_0 rfl (lv_at hl 0 rfl) ?_
  refine z_callv (va_runV (C := R_X) (b := h0) (As := []) (rest := []) ⟨hx, hb, hml, hown, hts⟩ (c_takeJournal l dC dI h0 qd qs qv cI cJ _ dk hf gn rt ct sl sm pw ln lq vq ch (by omega)) (cwV 0 hts g_X_41 rfl rfl rfl (by decide +kernel) ⟨(Nat.le_of_ble_eq_true rfl), (Nat.le_of_ble_eq_true rfl)⟩) (z_preV (va_recv (q0 := 0) hK hP rfl rfl) hP hK hD) rfl rfl hl.1 rfl (lv_room (Nat.le_of_ble_eq_true rfl)) d_X_mount_1 ⟨(Nat.le_of_ble_eq_true rfl), (Nat.le_of_ble_eq_true rfl)⟩) hS hD hA (fun u H locs hr0 hP hD hS => ?_)
  obtain ⟨n1, lq1, vq1, ch1, hj1, hn1, rfl⟩ := hr0
  refine lv_aload_n hx hb d_X_mount_4 rfl (lv_at hl 0 rfl) ?_
  refine va_get (D := (dC, dI)) (ci := 0) (v := .int (nI n1)) (C := R_X) (T := F_X) (N := 12) hx hb hts lay_X hown hK hP 0 rfl rfl 8 (by decide) (hts _ m_70) (fun _ h9 => h9) rfl d_X_mount_5 ?_
  refine lv_aload_n hx hb d_X_mount_8 rfl (lv_at hl 0 rfl) ?_
  refine va_get (D := (dC, dI)) (ci := 0) (v := .int ct) (C := R_X) (T := F_X) (N := 12) hx hb hts lay_X hown hK hP 0 rfl rfl 4 (by decide) (hts _ m_66) (fun _ h9 => h9) rfl d_X_mount_9 ?_
  refine lv_icmp_ge (tgt := 22) hx hb d_X_mount_12 (by decide) (fun h2 => ?_) (fun h2 => ?_)
  · refine lv_aload_n hx hb d_X_mount_22 rfl (lv_at hl 0 rfl) ?_
    refine lv_iconst (v := (1 : Int32)) hx hb d_X_mount_23 (by decide) ?_
    refine va_put (D := (dC, dI)) (ci := 0) (v := .int (1 : Int32)) (ty := .boolean) (C := R_X) (T := F_X) (N := 12) hx hb hts lay_X t_X t_X_ok n_X hown hK hP hD hS 0 rfl rfl 7 (by decide) (hts _ m_69) (fun _ h9 => h9) rfl (by decide +kernel) rfl rfl (Nat.le_of_ble_eq_true rfl) d_X_mount_24 (fun H locs hP hD hS => ?_)
    have hP : va_P (dC, dI) classes (Xw h0 qd qs qv cI cJ (dk, hf, gn, rt, ct, sl, sm, true, n1, lq1, vq1, ch1)) H := hP
    have hD : va_D A (Xw h0 qd qs qv cI cJ (dk, hf, gn, rt, ct, sl, sm, true, n1, lq1, vq1, ch1)) := hD
    refine lv_aload_n hx hb d_X_mount_27 rfl (lv_at hl 0 rfl) ?_
    refine va_get (D := (dC, dI)) (ci := 0) (v := .int (nI n1)) (C := R_X) (T := F_X) (N := 12) hx hb hts lay_X hown hK hP 0 rfl rfl 8 (by decide) (hts _ m_70) (fun _ h9 => h9) rfl d_X_mount_28 ?_
    exact W.iret hx hb hr (fun t ht hW => ⟨⟨nI n1, (dk, hf, gn, rt, ct, sl, sm, true, n1, lq1, vq1, ch1), rfl, ⟨_, _, _, _, hj1, hn1, Or.inl ⟨h2, rfl, rfl⟩⟩, by rw [ht]; exact hP, va_K.moved hW.alike hK, hD⟩, hS.F ht⟩) hS.2.2 d_X_mount_31
  · refine lv_aload_n hx hb d_X_mount_15 rfl (lv_at hl 0 rfl) ?_
    refine z_callv (va_runV (C := R_X) (b := h0) (As := []) (rest := []) ⟨hx, hb, hml, hown, hts⟩ (c_forget l dC dI h0 qd qs qv cI cJ _ dk hf gn rt ct sl sm pw n1 lq1 vq1 ch1 ) (cwV 0 hts g_X_50 rfl rfl rfl (by decide +kernel) ⟨(Nat.le_of_ble_eq_true rfl), (Nat.le_of_ble_eq_true rfl)⟩) (z_preV (va_recv (q0 := 0) hK hP rfl rfl) hP hK hD) rfl rfl hl.1 rfl (lv_room (Nat.le_of_ble_eq_true rfl)) d_X_mount_16 ⟨(Nat.le_of_ble_eq_true rfl), (Nat.le_of_ble_eq_true rfl)⟩) hS hD hA (fun u H locs hr0 hP hD hS => ?_)
    subst hr0
    refine lv_bipush (v := (-3 : Int32)) hx hb d_X_mount_19 (by decide) ?_
    exact W.iret hx hb hr (fun t ht hW => ⟨⟨(-3 : Int32), (dk, hf, gn, rt, ct, sl, sm, false, 0, lq1, vq1, (0 : Int32)), rfl, ⟨_, _, _, _, hj1, hn1, Or.inr ⟨h2, rfl, rfl⟩⟩, by rw [ht]; exact hP, va_K.moved hW.alike hK, hD⟩, hS.F ht⟩) hS.2.2 d_X_mount_21
set_option maxHeartbeats 4000000 in
set_option maxRecDepth 100000 in
theorem c_arm (l : Launch) (dC : Nat → ClassId) (dI : Nat → Nat → Nat) (h0 qd qs qv : Nat) (cI cJ : ClassId) (sz : Nat) (dk : Nat → Int32) (hf : Nat) (gn : Int32) (rt : Int32) (ct : Int32) (sl : Int32) (sm : Int32) (pw : Bool) (ln : Nat) (lq : Nat → Int32) (vq : Nat → Int64) (ch : Int32) (x0 : Int32)  : Met l y_X_arm w_X_arm ({ frames := 0, cells := 0, slots := 0, locals := 0 }) (va_Pc [.ref h0, .int x0] (z_pre (dC, dI) classes [(cI, .int), (cJ, .long)] (Xw h0 qd qs qv cI cJ (dk, hf, gn, rt, ct, sl, sm, pw, ln, lq, vq, ch)) sz)) (va_Qi (fun (r : Int32) (u : XS) => (0 ≤ x0 ∧ r = 1 ∧ u = (dk, hf, gn, rt, ct, x0, sm, pw, ln, lq, vq, ch)) ∨ (¬ 0 ≤ x0 ∧ r = 0 ∧ u = (dk, hf, gn, rt, ct, sl, sm, pw, ln, lq, vq, ch))) (fun u => z_at (dC, dI) classes [(cI, .int), (cJ, .long)] (va_A (Xw h0 qd qs qv cI cJ (dk, hf, gn, rt, ct, sl, sm, pw, ln, lq, vq, ch)) sz) (Xw h0 qd qs qv cI cJ u)) (va_A (Xw h0 qd qs qv cI cJ (dk, hf, gn, rt, ct, sl, sm, pw, ln, lq, vq, ch)) sz)) 0 0 (va_A (Xw h0 qd qs qv cI cJ (dk, hf, gn, rt, ct, sl, sm, pw, ln, lq, vq, ch)) sz) := by
  refine Met.ofW (cc := b_X_arm) (maxL := 2) (ret := (some .boolean)) (by decide) rfl ?_
  intro p e s m args below meth c s₁ B hml hv
  obtain ⟨rfl, hsz, hP, hK, hD0⟩ := hv
  have hx := B.exec
  have hb := B.bytes
  have hr := B.returns
  have hts := fun (w : Cond) (h : w ∈ lw_U) => atoms_spec (ws := w_X_arm) B.pre w (List.mem_cons_of_mem _ h)
  have hown : s.vm.findClass R_X = some m.cls := findClass_of_methodNamed B.named
  have hlocks := B.notSynchronized
  subst hsz
  have hD := hD0.self (sz := s.heap.size)
  generalize hAe : va_A (Xw h0 qd qs qv cI cJ (dk, hf, gn, rt, ct, sl, sm, pw, ln, lq, vq, ch)) s.heap.size = A at hD ⊢
  have hA : ∀ q : Nat, s.heap.size ≤ q → A q := fun q h => by rw [← hAe]; exact Or.inr h
  have hS : va_S A s.heap s.heap [] := va_S.rf
  have hP : va_P (dC, dI) classes (Xw h0 qd qs qv cI cJ (dk, hf, gn, rt, ct, sl, sm, pw, ln, lq, vq, ch)) s.heap := hP
  have hl := lv_entry ([.ref h0, .int x0]) (n := 2) (Nat.le_of_ble_eq_true rfl)
  rw [lg_entry_eq]
  generalize (lg_sl ([.ref h0, .int x0]) ++ List.replicate (2 - (lg_sl ([.ref h0, .int x0])).length) Slot.unset).toArray = ls at hl ⊢
  have hl : lv_has ls 2 [(0, .ref h0), (1, .int x0)] := hl
  refine lv_iload_n hx hb d_X_arm_0 rfl (lv_at hl 1 rfl) ?_
  refine lv_if_ge (tgt := 6) hx hb d_X_arm_1 (by decide) (fun h1 => ?_) (fun h1 => ?_)
  · refine lv_aload_n hx hb d_X_arm_6 rfl (lv_at hl 0 rfl) ?_
    refine lv_iload_n hx hb d_X_arm_7 rfl (lv_at hl 1 rfl) ?_
    refine va_put (D := (dC, dI)) (ci := 0) (v := .int x0) (ty := .int) (C := R_X) (T := F_X) (N := 12) hx hb hts lay_X t_X t_X_ok n_X hown hK hP hD hS 0 rfl rfl 5 (by decide) (hts _ m_67) (fun _ h9 => h9) rfl (by decide +kernel) rfl rfl (Nat.le_of_ble_eq_true rfl) d_X_arm_8 (fun H locs hP hD hS => ?_)
    have hP : va_P (dC, dI) classes (Xw h0 qd qs qv cI cJ (dk, hf, gn, rt, ct, x0, sm, pw, ln, lq, vq, ch)) H := hP
    have hD : va_D A (Xw h0 qd qs qv cI cJ (dk, hf, gn, rt, ct, x0, sm, pw, ln, lq, vq, ch)) := hD
    refine lv_iconst (v := (1 : Int32)) hx hb d_X_arm_11 (by decide) ?_
    exact W.zret hx hb hr rfl (fun t ht hW => ⟨⟨(1 : Int32), (dk, hf, gn, rt, ct, x0, sm, pw, ln, lq, vq, ch), rfl, Or.inl ⟨h1, rfl, rfl⟩, by rw [ht]; exact hP, va_K.moved hW.alike hK, hD⟩, hS.F ht⟩) hS.2.2 d_X_arm_12
  · refine lv_iconst (v := (0 : Int32)) hx hb d_X_arm_4 (by decide) ?_
    exact W.zret hx hb hr rfl (fun t ht hW => ⟨⟨(0 : Int32), (dk, hf, gn, rt, ct, sl, sm, pw, ln, lq, vq, ch), rfl, Or.inr ⟨h1, rfl, rfl⟩, by rw [ht]; exact hP, va_K.moved hW.alike hK, hD⟩, hS.F ht⟩) hS.2.2 d_X_arm_5
set_option maxHeartbeats 4000000 in
set_option maxRecDepth 100000 in
theorem c_isOn (l : Launch) (dC : Nat → ClassId) (dI : Nat → Nat → Nat) (h0 qd qs qv : Nat) (cI cJ : ClassId) (sz : Nat) (dk : Nat → Int32) (hf : Nat) (gn : Int32) (rt : Int32) (ct : Int32) (sl : Int32) (sm : Int32) (pw : Bool) (ln : Nat) (lq : Nat → Int32) (vq : Nat → Int64) (ch : Int32)   : Met l y_X_isOn w_X_isOn ({ frames := 0, cells := 0, slots := 0, locals := 0 }) (va_Pc [.ref h0] (z_pre (dC, dI) classes [(cI, .int), (cJ, .long)] (Xw h0 qd qs qv cI cJ (dk, hf, gn, rt, ct, sl, sm, pw, ln, lq, vq, ch)) sz)) (vp_Si (fun r => r = bI pw)) 0 0 (fun _ => False) := by
  refine Met.ofW (cc := b_X_isOn) (maxL := 1) (ret := (some .boolean)) (by decide) rfl ?_
  intro p e s m args below meth c s₁ B hml hv
  obtain ⟨rfl, hsz, hP, hK, hD0⟩ := hv
  have hx := B.exec
  have hb := B.bytes
  have hr := B.returns
  have hts := fun (w : Cond) (h : w ∈ lw_U) => atoms_spec (ws := w_X_isOn) B.pre w (List.mem_cons_of_mem _ h)
  have hown : s.vm.findClass R_X = some m.cls := findClass_of_methodNamed B.named
  have hlocks := B.notSynchronized
  subst hsz
  have hD := hD0
  have hl := lv_entry ([.ref h0]) (n := 1) (Nat.le_of_ble_eq_true rfl)
  rw [lg_entry_eq]
  generalize (lg_sl ([.ref h0]) ++ List.replicate (1 - (lg_sl ([.ref h0])).length) Slot.unset).toArray = ls at hl ⊢
  have hl : lv_has ls 1 [(0, .ref h0)] := hl
  refine lv_aload_n hx hb d_X_isOn_0 rfl (lv_at hl 0 rfl) ?_
  refine va_get (D := (dC, dI)) (ci := 0) (v := .int (bI pw)) (C := R_X) (T := F_X) (N := 12) hx hb hts lay_X hown hK hP 0 rfl rfl 7 (by decide) (hts _ m_69) (fun _ h9 => h9) rfl d_X_isOn_1 ?_
  exact W.zret hx hb hr (by cases pw <;> rfl) (fun t ht hW => ⟨_, rfl, rfl, ht⟩) (fun q h => by cases h) d_X_isOn_4
set_option maxHeartbeats 4000000 in
set_option maxRecDepth 100000 in
theorem c_write (l : Launch) (dC : Nat → ClassId) (dI : Nat → Nat → Nat) (h0 qd qs qv : Nat) (cI cJ : ClassId) (sz : Nat) (dk : Nat → Int32) (hf : Nat) (gn : Int32) (rt : Int32) (ct : Int32) (sl : Int32) (sm : Int32) (pw : Bool) (ln : Nat) (lq : Nat → Int32) (vq : Nat → Int64) (ch : Int32) (x0 : Int32) (v0 : Int64) (h_f : hf < 2) (h_n : ln ≤ 5) : Met l y_X_write w_X_write ({ frames := 6, cells := 0, slots := 0, locals := 139 }) (va_Pc [.ref h0, .int x0, .long v0] (z_pre (dC, dI) classes [(cI, .int), (cJ, .long)] (Xw h0 qd qs qv cI cJ (dk, hf, gn, rt, ct, sl, sm, pw, ln, lq, vq, ch)) sz)) (va_Qi (fun (r : Int32) (u : XS) => (r, u) = wrF (dk, hf, gn, rt, ct, sl, sm, pw, ln, lq, vq, ch) x0 v0) (fun u => z_at (dC, dI) classes [(cI, .int), (cJ, .long)] (va_A (Xw h0 qd qs qv cI cJ (dk, hf, gn, rt, ct, sl, sm, pw, ln, lq, vq, ch)) sz) (Xw h0 qd qs qv cI cJ u)) (va_A (Xw h0 qd qs qv cI cJ (dk, hf, gn, rt, ct, sl, sm, pw, ln, lq, vq, ch)) sz)) 0 0 (va_A (Xw h0 qd qs qv cI cJ (dk, hf, gn, rt, ct, sl, sm, pw, ln, lq, vq, ch)) sz) := by
  refine Met.ofW (cc := b_X_write) (maxL := 5) (ret := (some .int)) (by decide) rfl ?_
  intro p e s m args below meth c s₁ B hml hv
  obtain ⟨rfl, hsz, hP, hK, hD0⟩ := hv
  have hx := B.exec
  have hb := B.bytes
  have hr := B.returns
  have hts := fun (w : Cond) (h : w ∈ lw_U) => atoms_spec (ws := w_X_write) B.pre w (List.mem_cons_of_mem _ h)
  have hown : s.vm.findClass R_X = some m.cls := findClass_of_methodNamed B.named
  have hlocks := B.notSynchronized
  subst hsz
  have hD := hD0.self (sz := s.heap.size)
  generalize hAe : va_A (Xw h0 qd qs qv cI cJ (dk, hf, gn, rt, ct, sl, sm, pw, ln, lq, vq, ch)) s.heap.size = A at hD ⊢
  have hA : ∀ q : Nat, s.heap.size ≤ q → A q := fun q h => by rw [← hAe]; exact Or.inr h
  have hS : va_S A s.heap s.heap [] := va_S.rf
  have hP : va_P (dC, dI) classes (Xw h0 qd qs qv cI cJ (dk, hf, gn, rt, ct, sl, sm, pw, ln, lq, vq, ch)) s.heap := hP
  have hl := lv_entry ([.ref h0, .int x0, .long v0]) (n := 5) (Nat.le_of_ble_eq_true rfl)
  rw [lg_entry_eq]
  generalize (lg_sl ([.ref h0, .int x0, .long v0]) ++ List.replicate (5 - (lg_sl ([.ref h0, .int x0, .long v0])).length) Slot.unset).toArray = ls at hl ⊢
  have hl : lv_has ls 5 [(0, .ref h0), (1, .int x0), (2, .long v0)] := hl
  cases pw with
  | false =>
    refine lv_aload_n hx hb d_X_write_0 rfl (lv_at hl 0 rfl) ?_
    refine va_get (D := (dC, dI)) (ci := 0) (v := .int (bI false)) (C := R_X) (T := F_X) (N := 12) hx hb hts lay_X hown hK hP 0 rfl rfl 7 (by decide) (hts _ m_69) (fun _ h9 => h9) rfl d_X_write_1 ?_
    refine lv_if_ne (tgt := 9) hx hb d_X_write_4 (by decide) (fun h9 => absurd (by decide) h9) (fun _ => ?_)
    refine lv_iconst (v := (-1 : Int32)) hx hb d_X_write_7 (by decide) ?_
    exact W.iret hx hb hr (fun t ht hW => ⟨⟨(-1 : Int32), (dk, hf, gn, rt, ct, sl, sm, false, ln, lq, vq, ch), rfl, rfl, by rw [ht]; exact hP, va_K.moved hW.alike hK, hD⟩, hS.F ht⟩) hS.2.2 d_X_write_8
  | true =>
    refine lv_aload_n hx hb d_X_write_0 rfl (lv_at hl 0 rfl) ?_
    refine va_get (D := (dC, dI)) (ci := 0) (v := .int (bI true)) (C := R_X) (T := F_X) (N := 12) hx hb hts lay_X hown hK hP 0 rfl rfl 7 (by decide) (hts _ m_69) (fun _ h9 => h9) rfl d_X_write_1 ?_
    refine lv_if_ne (tgt := 9) hx hb d_X_write_4 (by decide) (fun _ => ?_) (fun h9 => absurd h9 (by decide))
    refine lv_iload_n hx hb d_X_write_9 rfl (lv_at hl 1 rfl) ?_
    refine vp_callSi (W.runS (As := [.int x0]) (rest := []) ⟨hx, hb, hml, hown, hts⟩ (c_isSector l x0) (cwS 1 hts g_X_57 rfl rfl rfl (by decide +kernel) ⟨(Nat.le_of_ble_eq_true rfl), (Nat.le_of_ble_eq_true rfl)⟩) preEq rfl rfl hl.1 rfl (lv_room (Nat.le_of_ble_eq_true rfl)) d_X_write_10 ⟨(Nat.le_of_ble_eq_true rfl), (Nat.le_of_ble_eq_true rfl)⟩) (fun r hr0 => ?_)
    subst hr0
    refine lv_if_eq (tgt := 22) hx hb d_X_write_13 (by decide) (fun h1 => ?_) (fun h1 => ?_)
    · refine lv_bipush (v := (-2 : Int32)) hx hb d_X_write_22 (by decide) ?_
      exact W.iret hx hb hr (fun t ht hW => ⟨⟨(-2 : Int32), (dk, hf, gn, rt, ct, sl, sm, true, ln, lq, vq, ch), rfl, (by simp only [wrF, srF]; simp [*]), by rw [ht]; exact hP, va_K.moved hW.alike hK, hD⟩, hS.F ht⟩) hS.2.2 d_X_write_24
    · refine lv_lload_n hx hb d_X_write_16 rfl (lv_at hl 2 rfl) ?_
      refine lv_lconst (v := 0) hx hb d_X_write_17 (by decide) ?_
      refine W.lcmp hx hb d_X_write_18 ?_
      refine lv_if_ge (tgt := 25) hx hb d_X_write_19 (by decide) (fun h2 => ?_) (fun h2 => ?_)
      · refine lv_aload_n hx hb d_X_write_25 rfl (lv_at hl 0 rfl) ?_
        refine va_get (D := (dC, dI)) (ci := 0) (v := .int (nI ln)) (C := R_X) (T := F_X) (N := 12) hx hb hts lay_X hown hK hP 0 rfl rfl 8 (by decide) (hts _ m_70) (fun _ h9 => h9) rfl d_X_write_26 ?_
        refine lv_iconst (v := nI 5) hx hb d_X_write_29 (by decide) ?_
        refine lv_icmp_lt (tgt := 47) hx hb d_X_write_30 (by decide) (fun h3 => ?_) (fun h3 => ?_)
        · have h3 : ln < 5 := (nI_ltI (by omega) (by omega)).mp h3
          refine lv_aload_n hx hb d_X_write_47 rfl (lv_at hl 0 rfl) ?_
          refine lv_iload_n hx hb d_X_write_48 rfl (lv_at hl 1 rfl) ?_
          refine lv_lload_n hx hb d_X_write_49 rfl (lv_at hl 2 rfl) ?_
          refine z_calli (va_runV (C := R_X) (b := h0) (As := [.int x0, .long v0]) (rest := []) ⟨hx, hb, hml, hown, hts⟩ (c_storeRecord l dC dI h0 qd qs qv cI cJ _ dk hf gn rt ct sl sm true ln lq vq ch x0 v0 (by omega) (by omega)) (cwV 2 hts g_X_65 rfl rfl rfl (by decide +kernel) ⟨(Nat.le_of_ble_eq_true rfl), (Nat.le_of_ble_eq_true rfl)⟩) (z_preV (va_recv (q0 := 0) hK hP rfl rfl) hP hK hD) rfl rfl hl.1 rfl (lv_room (Nat.le_of_ble_eq_true rfl)) d_X_write_50 ⟨(Nat.le_of_ble_eq_true rfl), (Nat.le_of_ble_eq_true rfl)⟩) hS hD hA (fun r u H locs hr0 hP hD hS => ?_)
          obtain ⟨d4, sl4, sm4, ⟨hc4, rfl, rfl⟩ | ⟨hc4, rfl, rfl⟩⟩ := hr0
          · refine lv_if_ne (tgt := 59) hx hb d_X_write_53 (by decide) (fun _ => ?_) (fun h9 => absurd h9 (by decide))
            refine lv_aload_n hx hb d_X_write_59 rfl (lv_at hl 0 rfl) ?_
            refine lv_iload_n hx hb d_X_write_60 rfl (lv_at hl 1 rfl) ?_
            refine lv_lload_n hx hb d_X_write_61 rfl (lv_at hl 2 rfl) ?_
            refine z_callv (va_runV (C := R_X) (b := h0) (As := [.int x0, .long v0]) (rest := []) ⟨hx, hb, hml, hown, hts⟩ (c_addToList l dC dI h0 qd qs qv cI cJ _ d4 hf gn rt ct sl4 sm4 true ln lq vq (chn ch (wv1 (wr1 (true, (dk, sl, sm)) (51 * hf + 31 + 4 * ln) (enc x0 (nI (51 * hf + 31 + 4 * ln)) gn)) ((51 * hf + 31 + 4 * ln) + 1) v0 gn).2.1 (51 * hf + 31 + 4 * ln)) x0 v0 (by omega)) (cwV 2 hts g_X_69 rfl rfl rfl (by decide +kernel) ⟨(Nat.le_of_ble_eq_true rfl), (Nat.le_of_ble_eq_true rfl)⟩) (z_preV (va_recv (q0 := 0) hK hP rfl rfl) hP hK hD) rfl rfl hl.1 rfl (lv_room (Nat.le_of_ble_eq_true rfl)) d_X_write_62 ⟨(Nat.le_of_ble_eq_true rfl), (Nat.le_of_ble_eq_true rfl)⟩) hS hD hA (fun u H locs hr0 hP hD hS => ?_)
            subst hr0
            refine lv_aload_n hx hb d_X_write_65 rfl (lv_at hl 0 rfl) ?_
            refine va_get (D := (dC, dI)) (ci := 0) (v := .int (nI (ln + 1))) (C := R_X) (T := F_X) (N := 12) hx hb hts lay_X hown hK hP 0 rfl rfl 8 (by decide) (hts _ m_70) (fun _ h9 => h9) rfl d_X_write_66 ?_
            exact W.iret hx hb hr (fun t ht hW => ⟨⟨nI (ln + 1), (d4, hf, gn, rt, ct, sl4, sm4, true, ln + 1, upd lq ln x0, vp_updL vq ln v0, chn ch (wv1 (wr1 (true, (dk, sl, sm)) (51 * hf + 31 + 4 * ln) (enc x0 (nI (51 * hf + 31 + 4 * ln)) gn)) ((51 * hf + 31 + 4 * ln) + 1) v0 gn).2.1 (51 * hf + 31 + 4 * ln)), rfl, (by simp only [wrF, srF]; simp [*]), by rw [ht]; exact hP, va_K.moved hW.alike hK, hD⟩, hS.F ht⟩) hS.2.2 d_X_write_69
          · refine lv_if_ne (tgt := 59) hx hb d_X_write_53 (by decide) (fun h9 => absurd (by decide) h9) (fun _ => ?_)
            refine lv_bipush (v := (-4 : Int32)) hx hb d_X_write_56 (by decide) ?_
            exact W.iret hx hb hr (fun t ht hW => ⟨⟨(-4 : Int32), (d4, hf, gn, rt, ct, sl4, sm4, false, 0, lq, vq, (0 : Int32)), rfl, (by simp only [wrF, srF]; simp [*]), by rw [ht]; exact hP, va_K.moved hW.alike hK, hD⟩, hS.F ht⟩) hS.2.2 d_X_write_58
        · have h3 : ¬ ln < 5 := fun q => h3 ((nI_ltI (by omega) (by omega)).mpr q)
          refine lv_aload_n hx hb d_X_write_33 rfl (lv_at hl 0 rfl) ?_
          refine z_calli (va_runV (C := R_X) (b := h0) (As := []) (rest := []) ⟨hx, hb, hml, hown, hts⟩ (c_moveToOtherHalf l dC dI h0 qd qs qv cI cJ _ dk hf gn rt ct sl sm true ln lq vq ch (by omega) (by omega)) (cwV 0 hts g_X_61 rfl rfl rfl (by decide +kernel) ⟨(Nat.le_of_ble_eq_true rfl), (Nat.le_of_ble_eq_true rfl)⟩) (z_preV (va_recv (q0 := 0) hK hP rfl rfl) hP hK hD) rfl rfl hl.1 rfl (lv_room (Nat.le_of_ble_eq_true rfl)) d_X_write_34 ⟨(Nat.le_of_ble_eq_true rfl), (Nat.le_of_ble_eq_true rfl)⟩) hS hD hA (fun r u H locs hr0 hP hD hS => ?_)
          obtain ⟨hm5, ⟨d5, sl5, sm5, rfl, rfl⟩ | ⟨rfl, rfl⟩ | ⟨d5, sl5, sm5, rfl, rfl⟩⟩ := hr0
          · refine lv_istore hx hb d_X_write_37 hl (by decide) rfl (fun ls hl => ?_)
            have hl : lv_has ls 5 [(4, .int (gn + 1)), (0, .ref h0), (1, .int x0), (2, .long v0)] := hl
            refine lv_iload hx hb d_X_write_39 (lv_at hl 0 rfl) ?_
            refine lv_if_ge (tgt := 47) hx hb d_X_write_41 (by decide) (fun h6 => ?_) (fun h6 => ?_)
            · refine lv_aload_n hx hb d_X_write_47 rfl (lv_at hl 1 rfl) ?_
              refine lv_iload_n hx hb d_X_write_48 rfl (lv_at hl 2 rfl) ?_
              refine lv_lload_n hx hb d_X_write_49 rfl (lv_at hl 3 rfl) ?_
              refine z_calli (va_runV (C := R_X) (b := h0) (As := [.int x0, .long v0]) (rest := []) ⟨hx, hb, hml, hown, hts⟩ (c_storeRecord l dC dI h0 qd qs qv cI cJ _ d5 (1 - hf) (gn + 1) (d5 (51 * (1 - hf) + 15 + 1)) (0 : Int32) sl5 sm5 true 0 lq vq (dg (dg 19088743 (d5 (51 * (1 - hf) + 15 + 1))) (gn + 1)) x0 v0 (by omega) (by omega)) (cwV 2 hts g_X_65 rfl rfl rfl (by decide +kernel) ⟨(Nat.le_of_ble_eq_true rfl), (Nat.le_of_ble_eq_true rfl)⟩) (z_preV (va_recv (q0 := 0) hK hP rfl rfl) hP hK hD) rfl rfl hl.1 rfl (lv_room (Nat.le_of_ble_eq_true rfl)) d_X_write_50 ⟨(Nat.le_of_ble_eq_true rfl), (Nat.le_of_ble_eq_true rfl)⟩) hS hD hA (fun r u H locs hr0 hP hD hS => ?_)
              obtain ⟨d7, sl7, sm7, ⟨hc7, rfl, rfl⟩ | ⟨hc7, rfl, rfl⟩⟩ := hr0
              · refine lv_if_ne (tgt := 59) hx hb d_X_write_53 (by decide) (fun _ => ?_) (fun h9 => absurd h9 (by decide))
                refine lv_aload_n hx hb d_X_write_59 rfl (lv_at hl 1 rfl) ?_
                refine lv_iload_n hx hb d_X_write_60 rfl (lv_at hl 2 rfl) ?_
                refine lv_lload_n hx hb d_X_write_61 rfl (lv_at hl 3 rfl) ?_
                refine z_callv (va_runV (C := R_X) (b := h0) (As := [.int x0, .long v0]) (rest := []) ⟨hx, hb, hml, hown, hts⟩ (c_addToList l dC dI h0 qd qs qv cI cJ _ d7 (1 - hf) (gn + 1) (d5 (51 * (1 - hf) + 15 + 1)) (0 : Int32) sl7 sm7 true 0 lq vq (chn (dg (dg 19088743 (d5 (51 * (1 - hf) + 15 + 1))) (gn + 1)) (wv1 (wr1 (true, (d5, sl5, sm5)) (51 * (1 - hf) + 31 + 4 * 0) (enc x0 (nI (51 * (1 - hf) + 31 + 4 * 0)) (gn + 1))) ((51 * (1 - hf) + 31 + 4 * 0) + 1) v0 (gn + 1)).2.1 (51 * (1 - hf) + 31 + 4 * 0)) x0 v0 (by omega)) (cwV 2 hts g_X_69 rfl rfl rfl (by decide +kernel) ⟨(Nat.le_of_ble_eq_true rfl), (Nat.le_of_ble_eq_true rfl)⟩) (z_preV (va_recv (q0 := 0) hK hP rfl rfl) hP hK hD) rfl rfl hl.1 rfl (lv_room (Nat.le_of_ble_eq_true rfl)) d_X_write_62 ⟨(Nat.le_of_ble_eq_true rfl), (Nat.le_of_ble_eq_true rfl)⟩) hS hD hA (fun u H locs hr0 hP hD hS => ?_)
                subst hr0
                refine lv_aload_n hx hb d_X_write_65 rfl (lv_at hl 1 rfl) ?_
                refine va_get (D := (dC, dI)) (ci := 0) (v := .int (nI 1)) (C := R_X) (T := F_X) (N := 12) hx hb hts lay_X hown hK hP 0 rfl rfl 8 (by decide) (hts _ m_70) (fun _ h9 => h9) rfl d_X_write_66 ?_
                exact W.iret hx hb hr (fun t ht hW => ⟨⟨nI 1, (d7, 1 - hf, gn + 1, d5 (51 * (1 - hf) + 15 + 1), (0 : Int32), sl7, sm7, true, 1, upd lq 0 x0, vp_updL vq 0 v0, chn (dg (dg 19088743 (d5 (51 * (1 - hf) + 15 + 1))) (gn + 1)) (wv1 (wr1 (true, (d5, sl5, sm5)) (51 * (1 - hf) + 31 + 4 * 0) (enc x0 (nI (51 * (1 - hf) + 31 + 4 * 0)) (gn + 1))) ((51 * (1 - hf) + 31 + 4 * 0) + 1) v0 (gn + 1)).2.1 (51 * (1 - hf) + 31 + 4 * 0)), rfl, (by simp only [wrF, srF]; simp [*]), by rw [ht]; exact hP, va_K.moved hW.alike hK, hD⟩, hS.F ht⟩) hS.2.2 d_X_write_69
              · refine lv_if_ne (tgt := 59) hx hb d_X_write_53 (by decide) (fun h9 => absurd (by decide) h9) (fun _ => ?_)
                refine lv_bipush (v := (-4 : Int32)) hx hb d_X_write_56 (by decide) ?_
                exact W.iret hx hb hr (fun t ht hW => ⟨⟨(-4 : Int32), (d7, 1 - hf, gn + 1, d5 (51 * (1 - hf) + 15 + 1), (0 : Int32), sl7, sm7, false, 0, lq, vq, (0 : Int32)), rfl, (by simp only [wrF, srF]; simp [*]), by rw [ht]; exact hP, va_K.moved hW.alike hK, hD⟩, hS.F ht⟩) hS.2.2 d_X_write_58
            · refine lv_iload hx hb d_X_write_44 (lv_at hl 0 rfl) ?_
              exact W.iret hx hb hr (fun t ht hW => ⟨⟨gn + 1, (d5, 1 - hf, gn + 1, d5 (51 * (1 - hf) + 15 + 1), (0 : Int32), sl5, sm5, true, 0, lq, vq, dg (dg 19088743 (d5 (51 * (1 - hf) + 15 + 1))) (gn + 1)), rfl, (by simp only [wrF, srF]; simp [*]), by rw [ht]; exact hP, va_K.moved hW.alike hK, hD⟩, hS.F ht⟩) hS.2.2 d_X_write_46
          · refine lv_istore hx hb d_X_write_37 hl (by decide) rfl (fun ls hl => ?_)
            have hl : lv_has ls 5 [(4, .int (-3)), (0, .ref h0), (1, .int x0), (2, .long v0)] := hl
            refine lv_iload hx hb d_X_write_39 (lv_at hl 0 rfl) ?_
            refine lv_if_ge (tgt := 47) hx hb d_X_write_41 (by decide) (fun h9 => absurd h9 (by decide)) (fun _ => ?_)
            refine lv_iload hx hb d_X_write_44 (lv_at hl 0 rfl) ?_
            exact W.iret hx hb hr (fun t ht hW => ⟨⟨-3, (dk, hf, gn, rt, ct, sl, sm, true, ln, lq, vq, ch), rfl, (by simp only [wrF, srF]; simp [*]), by rw [ht]; exact hP, va_K.moved hW.alike hK, hD⟩, hS.F ht⟩) hS.2.2 d_X_write_46
          · refine lv_istore hx hb d_X_write_37 hl (by decide) rfl (fun ls hl => ?_)
            have hl : lv_has ls 5 [(4, .int (-4)), (0, .ref h0), (1, .int x0), (2, .long v0)] := hl
            refine lv_iload hx hb d_X_write_39 (lv_at hl 0 rfl) ?_
            refine lv_if_ge (tgt := 47) hx hb d_X_write_41 (by decide) (fun h9 => absurd h9 (by decide)) (fun _ => ?_)
            refine lv_iload hx hb d_X_write_44 (lv_at hl 0 rfl) ?_
            exact W.iret hx hb hr (fun t ht hW => ⟨⟨-4, (d5, hf, gn, rt, ct, sl5, sm5, false, 0, lq, vq, (0 : Int32)), rfl, (by simp only [wrF, srF]; simp [*]), by rw [ht]; exact hP, va_K.moved hW.alike hK, hD⟩, hS.F ht⟩) hS.2.2 d_X_write_46
      · refine lv_bipush (v := (-2 : Int32)) hx hb d_X_write_22 (by decide) ?_
        exact W.iret hx hb hr (fun t ht hW => ⟨⟨(-2 : Int32), (dk, hf, gn, rt, ct, sl, sm, true, ln, lq, vq, ch), rfl, (by simp only [wrF, srF]; simp [*]), by rw [ht]; exact hP, va_K.moved hW.alike hK, hD⟩, hS.F ht⟩) hS.2.2 d_X_write_24
set_option maxHeartbeats 4000000 in
set_option maxRecDepth 100000 in
theorem c_read (l : Launch) (dC : Nat → ClassId) (dI : Nat → Nat → Nat) (h0 qd qs qv : Nat) (cI cJ : ClassId) (sz : Nat) (dk : Nat → Int32) (hf : Nat) (gn : Int32) (rt : Int32) (ct : Int32) (sl : Int32) (sm : Int32) (pw : Bool) (ln : Nat) (lq : Nat → Int32) (vq : Nat → Int64) (ch : Int32) (x0 : Int32) (h_f : hf < 2) (h_n : ln ≤ 5) : Met l y_X_read w_X_read ({ frames := 4, cells := 0, slots := 0, locals := 94 }) (va_Pc [.ref h0, .int x0] (z_pre (dC, dI) classes [(cI, .int), (cJ, .long)] (Xw h0 qd qs qv cI cJ (dk, hf, gn, rt, ct, sl, sm, pw, ln, lq, vq, ch)) sz)) (vp_Sl (fun r => r = (if pw = true then (if isIn 8 x0 = 0 then -2 else vof dk hf gn rt ln lq vq x0.toNatClampNeg) else -1))) 0 0 (fun _ => False) := by
  refine Met.ofW (cc := b_X_read) (maxL := 2) (ret := (some .long)) (by decide) rfl ?_
  intro p e s m args below meth c s₁ B hml hv
  obtain ⟨rfl, hsz, hP, hK, hD0⟩ := hv
  have hx := B.exec
  have hb := B.bytes
  have hr := B.returns
  have hts := fun (w : Cond) (h : w ∈ lw_U) => atoms_spec (ws := w_X_read) B.pre w (List.mem_cons_of_mem _ h)
  have hown : s.vm.findClass R_X = some m.cls := findClass_of_methodNamed B.named
  have hlocks := B.notSynchronized
  subst hsz
  have hD := hD0
  have hl := lv_entry ([.ref h0, .int x0]) (n := 2) (Nat.le_of_ble_eq_true rfl)
  rw [lg_entry_eq]
  generalize (lg_sl ([.ref h0, .int x0]) ++ List.replicate (2 - (lg_sl ([.ref h0, .int x0])).length) Slot.unset).toArray = ls at hl ⊢
  have hl : lv_has ls 2 [(0, .ref h0), (1, .int x0)] := hl
  cases pw with
  | false =>
    refine lv_aload_n hx hb d_X_read_0 rfl (lv_at hl 0 rfl) ?_
    refine va_get (D := (dC, dI)) (ci := 0) (v := .int (bI false)) (C := R_X) (T := F_X) (N := 12) hx hb hts lay_X hown hK hP 0 rfl rfl 7 (by decide) (hts _ m_69) (fun _ h9 => h9) rfl d_X_read_1 ?_
    refine lv_if_ne (tgt := 11) hx hb d_X_read_4 (by decide) (fun h9 => absurd (by decide) h9) (fun _ => ?_)
    refine lv_ldc2 (v := -1) hx hb hown (hts _ m_210) d_X_read_7 ?_
    exact W.lret hx hb hr (fun t ht hW => ⟨_, rfl, rfl, ht⟩) (fun q h => by cases h) d_X_read_10
  | true =>
    by_cases h8 : isIn 8 x0 = 0
    · refine lv_aload_n hx hb d_X_read_0 rfl (lv_at hl 0 rfl) ?_
      refine va_get (D := (dC, dI)) (ci := 0) (v := .int (bI true)) (C := R_X) (T := F_X) (N := 12) hx hb hts lay_X hown hK hP 0 rfl rfl 7 (by decide) (hts _ m_69) (fun _ h9 => h9) rfl d_X_read_1 ?_
      refine lv_if_ne (tgt := 11) hx hb d_X_read_4 (by decide) (fun _ => ?_) (fun h9 => absurd h9 (by decide))
      refine lv_iload_n hx hb d_X_read_11 rfl (lv_at hl 1 rfl) ?_
      refine vp_callSi (W.runS (As := [.int x0]) (rest := []) ⟨hx, hb, hml, hown, hts⟩ (c_isSector l x0) (cwS 1 hts g_X_57 rfl rfl rfl (by decide +kernel) ⟨(Nat.le_of_ble_eq_true rfl), (Nat.le_of_ble_eq_true rfl)⟩) preEq rfl rfl hl.1 rfl (lv_room (Nat.le_of_ble_eq_true rfl)) d_X_read_12 ⟨(Nat.le_of_ble_eq_true rfl), (Nat.le_of_ble_eq_true rfl)⟩) (fun r hr0 => ?_)
      subst hr0
      refine lv_if_ne (tgt := 22) hx hb d_X_read_15 (by decide) (fun h9 => absurd h8 h9) (fun _ => ?_)
      refine lv_ldc2 (v := -2) hx hb hown (hts _ m_211) d_X_read_18 ?_
      exact W.lret hx hb hr (fun t ht hW => ⟨_, rfl, (by rw [if_pos rfl, if_pos h8]), ht⟩) (fun q h => by cases h) d_X_read_21
    · obtain ⟨j, hj, rfl⟩ := isIn_of (n := 8) h8 rfl (by decide)
      refine lv_aload_n hx hb d_X_read_0 rfl (lv_at hl 0 rfl) ?_
      refine va_get (D := (dC, dI)) (ci := 0) (v := .int (bI true)) (C := R_X) (T := F_X) (N := 12) hx hb hts lay_X hown hK hP 0 rfl rfl 7 (by decide) (hts _ m_69) (fun _ h9 => h9) rfl d_X_read_1 ?_
      refine lv_if_ne (tgt := 11) hx hb d_X_read_4 (by decide) (fun _ => ?_) (fun h9 => absurd h9 (by decide))
      refine lv_iload_n hx hb d_X_read_11 rfl (lv_at hl 1 rfl) ?_
      refine vp_callSi (W.runS (As := [.int (nI j)]) (rest := []) ⟨hx, hb, hml, hown, hts⟩ (c_isSector l (nI j)) (cwS 1 hts g_X_57 rfl rfl rfl (by decide +kernel) ⟨(Nat.le_of_ble_eq_true rfl), (Nat.le_of_ble_eq_true rfl)⟩) preEq rfl rfl hl.1 rfl (lv_room (Nat.le_of_ble_eq_true rfl)) d_X_read_12 ⟨(Nat.le_of_ble_eq_true rfl), (Nat.le_of_ble_eq_true rfl)⟩) (fun r hr0 => ?_)
      subst hr0
      refine lv_if_ne (tgt := 22) hx hb d_X_read_15 (by decide) (fun _ => ?_) (fun h9 => absurd h9 h8)
      refine lv_aload_n hx hb d_X_read_22 rfl (lv_at hl 0 rfl) ?_
      refine lv_iload_n hx hb d_X_read_23 rfl (lv_at hl 1 rfl) ?_
      refine vp_callSl (W.runV (C := R_X) (b := h0) (As := [.int (nI j)]) (rest := []) ⟨hx, hb, hml, hown, hts⟩ (c_valueOf l dC dI h0 qd qs qv cI cJ _ dk hf gn rt ct sl sm true ln lq vq ch j (by omega) (by omega) (by omega)) (cwV 1 hts g_X_77 rfl rfl rfl (by decide +kernel) ⟨(Nat.le_of_ble_eq_true rfl), (Nat.le_of_ble_eq_true rfl)⟩) (z_preV (va_recv (q0 := 0) hK hP rfl rfl) hP hK hD) rfl rfl hl.1 rfl (lv_room (Nat.le_of_ble_eq_true rfl)) d_X_read_24 ⟨(Nat.le_of_ble_eq_true rfl), (Nat.le_of_ble_eq_true rfl)⟩) (fun r hr0 => ?_)
      subst hr0
      exact W.lret hx hb hr (fun t ht hW => ⟨_, rfl, (by rw [if_pos rfl, if_neg h8, nI_clamp (by omega)]), ht⟩) (fun q h => by cases h) d_X_read_27
set_option maxHeartbeats 4000000 in
set_option maxRecDepth 100000 in
theorem c_sync (l : Launch) (dC : Nat → ClassId) (dI : Nat → Nat → Nat) (h0 qd qs qv : Nat) (cI cJ : ClassId) (sz : Nat) (dk : Nat → Int32) (hf : Nat) (gn : Int32) (rt : Int32) (ct : Int32) (sl : Int32) (sm : Int32) (pw : Bool) (ln : Nat) (lq : Nat → Int32) (vq : Nat → Int64) (ch : Int32)   : Met l y_X_sync w_X_sync ({ frames := 3, cells := 0, slots := 0, locals := 64 }) (va_Pc [.ref h0] (z_pre (dC, dI) classes [(cI, .int), (cJ, .long)] (Xw h0 qd qs qv cI cJ (dk, hf, gn, rt, ct, sl, sm, pw, ln, lq, vq, ch)) sz)) (va_Qi (fun (r : Int32) (u : XS) => (pw = false ∧ r = -1 ∧ u = (dk, hf, gn, rt, ct, sl, sm, pw, ln, lq, vq, ch)) ∨ (pw = true ∧ sl = 0 ∧ r = -4 ∧ u = (dk, hf, gn, rt, ct, -1, sm, false, 0, lq, vq, 0)) ∨ (pw = true ∧ ¬ sl = 0 ∧ r = nI ln ∧ u = (dk, hf, gn, rt, nI ln, dec1 sl, sm + 1, pw, ln, lq, vq, ch))) (fun u => z_at (dC, dI) classes [(cI, .int), (cJ, .long)] (va_A (Xw h0 qd qs qv cI cJ (dk, hf, gn, rt, ct, sl, sm, pw, ln, lq, vq, ch)) sz) (Xw h0 qd qs qv cI cJ u)) (va_A (Xw h0 qd qs qv cI cJ (dk, hf, gn, rt, ct, sl, sm, pw, ln, lq, vq, ch)) sz)) 0 0 (va_A (Xw h0 qd qs qv cI cJ (dk, hf, gn, rt, ct, sl, sm, pw, ln, lq, vq, ch)) sz) := by
  refine Met.ofW (cc := b_X_sync) (maxL := 1) (ret := (some .int)) (by decide) rfl ?_
  intro p e s m args below meth c s₁ B hml hv
  obtain ⟨rfl, hsz, hP, hK, hD0⟩ := hv
  have hx := B.exec
  have hb := B.bytes
  have hr := B.returns
  have hts := fun (w : Cond) (h : w ∈ lw_U) => atoms_spec (ws := w_X_sync) B.pre w (List.mem_cons_of_mem _ h)
  have hown : s.vm.findClass R_X = some m.cls := findClass_of_methodNamed B.named
  have hlocks := B.notSynchronized
  subst hsz
  have hD := hD0.self (sz := s.heap.size)
  generalize hAe : va_A (Xw h0 qd qs qv cI cJ (dk, hf, gn, rt, ct, sl, sm, pw, ln, lq, vq, ch)) s.heap.size = A at hD ⊢
  have hA : ∀ q : Nat, s.heap.size ≤ q → A q := fun q h => by rw [← hAe]; exact Or.inr h
  have hS : va_S A s.heap s.heap [] := va_S.rf
  have hP : va_P (dC, dI) classes (Xw h0 qd qs qv cI cJ (dk, hf, gn, rt, ct, sl, sm, pw, ln, lq, vq, ch)) s.heap := hP
  have hl := lv_entry ([.ref h0]) (n := 1) (Nat.le_of_ble_eq_true rfl)
  rw [lg_entry_eq]
  generalize (lg_sl ([.ref h0]) ++ List.replicate (1 - (lg_sl ([.ref h0])).length) Slot.unset).toArray = ls at hl ⊢
  have hl : lv_has ls 1 [(0, .ref h0)] := hl
  cases pw with
  | false =>
    refine lv_aload_n hx hb d_X_sync_0 rfl (lv_at hl 0 rfl) ?_
    refine va_get (D := (dC, dI)) (ci := 0) (v := .int (bI false)) (C := R_X) (T := F_X) (N := 12) hx hb hts lay_X hown hK hP 0 rfl rfl 7 (by decide) (hts _ m_69) (fun _ h9 => h9) rfl d_X_sync_1 ?_
    refine lv_if_ne (tgt := 9) hx hb d_X_sync_4 (by decide) (fun h9 => absurd (by decide) h9) (fun _ => ?_)
    refine lv_iconst (v := (-1 : Int32)) hx hb d_X_sync_7 (by decide) ?_
    exact W.iret hx hb hr (fun t ht hW => ⟨⟨(-1 : Int32), (dk, hf, gn, rt, ct, sl, sm, false, ln, lq, vq, ch), rfl, Or.inl ⟨rfl, rfl, rfl⟩, by rw [ht]; exact hP, va_K.moved hW.alike hK, hD⟩, hS.F ht⟩) hS.2.2 d_X_sync_8
  | true =>
    refine lv_aload_n hx hb d_X_sync_0 rfl (lv_at hl 0 rfl) ?_
    refine va_get (D := (dC, dI)) (ci := 0) (v := .int (bI true)) (C := R_X) (T := F_X) (N := 12) hx hb hts lay_X hown hK hP 0 rfl rfl 7 (by decide) (hts _ m_69) (fun _ h9 => h9) rfl d_X_sync_1 ?_
    refine lv_if_ne (tgt := 9) hx hb d_X_sync_4 (by decide) (fun _ => ?_) (fun h9 => absurd h9 (by decide))
    refine lv_aload_n hx hb d_X_sync_9 rfl (lv_at hl 0 rfl) ?_
    refine lv_aload_n hx hb d_X_sync_10 rfl (lv_at hl 0 rfl) ?_
    refine va_get (D := (dC, dI)) (ci := 0) (v := .int (nI hf)) (C := R_X) (T := F_X) (N := 12) hx hb hts lay_X hown hK hP 0 rfl rfl 1 (by decide) (hts _ m_63) (fun _ h9 => h9) rfl d_X_sync_11 ?_
    refine lv_aload_n hx hb d_X_sync_14 rfl (lv_at hl 0 rfl) ?_
    refine va_get (D := (dC, dI)) (ci := 0) (v := .int gn) (C := R_X) (T := F_X) (N := 12) hx hb hts lay_X hown hK hP 0 rfl rfl 2 (by decide) (hts _ m_64) (fun _ h9 => h9) rfl d_X_sync_15 ?_
    refine lv_aload_n hx hb d_X_sync_18 rfl (lv_at hl 0 rfl) ?_
    refine va_get (D := (dC, dI)) (ci := 0) (v := .int rt) (C := R_X) (T := F_X) (N := 12) hx hb hts lay_X hown hK hP 0 rfl rfl 3 (by decide) (hts _ m_65) (fun _ h9 => h9) rfl d_X_sync_19 ?_
    refine lv_aload_n hx hb d_X_sync_22 rfl (lv_at hl 0 rfl) ?_
    refine va_get (D := (dC, dI)) (ci := 0) (v := .int (nI ln)) (C := R_X) (T := F_X) (N := 12) hx hb hts lay_X hown hK hP 0 rfl rfl 8 (by decide) (hts _ m_70) (fun _ h9 => h9) rfl d_X_sync_23 ?_
    refine z_calli (va_runV (C := R_X) (b := h0) (As := [.int (nI hf), .int gn, .int rt, .int (nI ln)]) (rest := []) ⟨hx, hb, hml, hown, hts⟩ (c_changeSeal l dC dI h0 qd qs qv cI cJ _ dk hf gn rt ct sl sm true ln lq vq ch hf gn rt (nI ln)) (cwV 4 hts g_X_84 rfl rfl rfl (by decide +kernel) ⟨(Nat.le_of_ble_eq_true rfl), (Nat.le_of_ble_eq_true rfl)⟩) (z_preV (va_recv (q0 := 0) hK hP rfl rfl) hP hK hD) rfl rfl hl.1 rfl (lv_room (Nat.le_of_ble_eq_true rfl)) d_X_sync_26 ⟨(Nat.le_of_ble_eq_true rfl), (Nat.le_of_ble_eq_true rfl)⟩) hS hD hA (fun r u H locs hr0 hP hD hS => ?_)
    obtain ⟨h1, rfl, rfl⟩ | ⟨h1, rfl, rfl⟩ := hr0
    · refine lv_if_ne (tgt := 35) hx hb d_X_sync_29 (by decide) (fun h9 => absurd (by decide) h9) (fun _ => ?_)
      refine lv_bipush (v := (-4 : Int32)) hx hb d_X_sync_32 (by decide) ?_
      exact W.iret hx hb hr (fun t ht hW => ⟨⟨(-4 : Int32), (dk, hf, gn, rt, ct, -1, sm, false, 0, lq, vq, (0 : Int32)), rfl, Or.inr (Or.inl ⟨rfl, h1, rfl, rfl⟩), by rw [ht]; exact hP, va_K.moved hW.alike hK, hD⟩, hS.F ht⟩) hS.2.2 d_X_sync_34
    · refine lv_if_ne (tgt := 35) hx hb d_X_sync_29 (by decide) (fun _ => ?_) (fun h9 => absurd h9 (by decide))
      refine lv_aload_n hx hb d_X_sync_35 rfl (lv_at hl 0 rfl) ?_
      refine va_get (D := (dC, dI)) (ci := 0) (v := .int (nI ln)) (C := R_X) (T := F_X) (N := 12) hx hb hts lay_X hown hK hP 0 rfl rfl 8 (by decide) (hts _ m_70) (fun _ h9 => h9) rfl d_X_sync_36 ?_
      exact W.iret hx hb hr (fun t ht hW => ⟨⟨nI ln, (dk, hf, gn, rt, nI ln, dec1 sl, sm + 1, true, ln, lq, vq, ch), rfl, Or.inr (Or.inr ⟨rfl, h1, rfl, rfl⟩), by rw [ht]; exact hP, va_K.moved hW.alike hK, hD⟩, hS.F ht⟩) hS.2.2 d_X_sync_39
set_option maxHeartbeats 4000000 in
set_option maxRecDepth 100000 in
theorem c_checkpoint (l : Launch) (dC : Nat → ClassId) (dI : Nat → Nat → Nat) (h0 qd qs qv : Nat) (cI cJ : ClassId) (sz : Nat) (dk : Nat → Int32) (hf : Nat) (gn : Int32) (rt : Int32) (ct : Int32) (sl : Int32) (sm : Int32) (pw : Bool) (ln : Nat) (lq : Nat → Int32) (vq : Nat → Int64) (ch : Int32)  (h_f : hf < 2) (h_n : ln ≤ 5) : Met l y_X_checkpoint w_X_checkpoint ({ frames := 6, cells := 0, slots := 0, locals := 139 }) (va_Pc [.ref h0] (z_pre (dC, dI) classes [(cI, .int), (cJ, .long)] (Xw h0 qd qs qv cI cJ (dk, hf, gn, rt, ct, sl, sm, pw, ln, lq, vq, ch)) sz)) (va_Qi (fun (r : Int32) (u : XS) => (pw = false ∧ r = -1 ∧ u = (dk, hf, gn, rt, ct, sl, sm, pw, ln, lq, vq, ch)) ∨ (pw = true ∧ mvF (dk, hf, gn, rt, ct, sl, sm, pw, ln, lq, vq, ch) = (r, u))) (fun u => z_at (dC, dI) classes [(cI, .int), (cJ, .long)] (va_A (Xw h0 qd qs qv cI cJ (dk, hf, gn, rt, ct, sl, sm, pw, ln, lq, vq, ch)) sz) (Xw h0 qd qs qv cI cJ u)) (va_A (Xw h0 qd qs qv cI cJ (dk, hf, gn, rt, ct, sl, sm, pw, ln, lq, vq, ch)) sz)) 0 0 (va_A (Xw h0 qd qs qv cI cJ (dk, hf, gn, rt, ct, sl, sm, pw, ln, lq, vq, ch)) sz) := by
  refine Met.ofW (cc := b_X_checkpoint) (maxL := 1) (ret := (some .int)) (by decide) rfl ?_
  intro p e s m args below meth c s₁ B hml hv
  obtain ⟨rfl, hsz, hP, hK, hD0⟩ := hv
  have hx := B.exec
  have hb := B.bytes
  have hr := B.returns
  have hts := fun (w : Cond) (h : w ∈ lw_U) => atoms_spec (ws := w_X_checkpoint) B.pre w (List.mem_cons_of_mem _ h)
  have hown : s.vm.findClass R_X = some m.cls := findClass_of_methodNamed B.named
  have hlocks := B.notSynchronized
  subst hsz
  have hD := hD0.self (sz := s.heap.size)
  generalize hAe : va_A (Xw h0 qd qs qv cI cJ (dk, hf, gn, rt, ct, sl, sm, pw, ln, lq, vq, ch)) s.heap.size = A at hD ⊢
  have hA : ∀ q : Nat, s.heap.size ≤ q → A q := fun q h => by rw [← hAe]; exact Or.inr h
  have hS : va_S A s.heap s.heap [] := va_S.rf
  have hP : va_P (dC, dI) classes (Xw h0 qd qs qv cI cJ (dk, hf, gn, rt, ct, sl, sm, pw, ln, lq, vq, ch)) s.heap := hP
  have hl := lv_entry ([.ref h0]) (n := 1) (Nat.le_of_ble_eq_true rfl)
  rw [lg_entry_eq]
  generalize (lg_sl ([.ref h0]) ++ List.replicate (1 - (lg_sl ([.ref h0])).length) Slot.unset).toArray = ls at hl ⊢
  have hl : lv_has ls 1 [(0, .ref h0)] := hl
  cases pw with
  | false =>
    refine lv_aload_n hx hb d_X_checkpoint_0 rfl (lv_at hl 0 rfl) ?_
    refine va_get (D := (dC, dI)) (ci := 0) (v := .int (bI false)) (C := R_X) (T := F_X) (N := 12) hx hb hts lay_X hown hK hP 0 rfl rfl 7 (by decide) (hts _ m_69) (fun _ h9 => h9) rfl d_X_checkpoint_1 ?_
    refine lv_if_ne (tgt := 9) hx hb d_X_checkpoint_4 (by decide) (fun h9 => absurd (by decide) h9) (fun _ => ?_)
    refine lv_iconst (v := (-1 : Int32)) hx hb d_X_checkpoint_7 (by decide) ?_
    exact W.iret hx hb hr (fun t ht hW => ⟨⟨(-1 : Int32), (dk, hf, gn, rt, ct, sl, sm, false, ln, lq, vq, ch), rfl, Or.inl ⟨rfl, rfl, rfl⟩, by rw [ht]; exact hP, va_K.moved hW.alike hK, hD⟩, hS.F ht⟩) hS.2.2 d_X_checkpoint_8
  | true =>
    refine lv_aload_n hx hb d_X_checkpoint_0 rfl (lv_at hl 0 rfl) ?_
    refine va_get (D := (dC, dI)) (ci := 0) (v := .int (bI true)) (C := R_X) (T := F_X) (N := 12) hx hb hts lay_X hown hK hP 0 rfl rfl 7 (by decide) (hts _ m_69) (fun _ h9 => h9) rfl d_X_checkpoint_1 ?_
    refine lv_if_ne (tgt := 9) hx hb d_X_checkpoint_4 (by decide) (fun _ => ?_) (fun h9 => absurd h9 (by decide))
    refine lv_aload_n hx hb d_X_checkpoint_9 rfl (lv_at hl 0 rfl) ?_
    refine z_calli (va_runV (C := R_X) (b := h0) (As := []) (rest := []) ⟨hx, hb, hml, hown, hts⟩ (c_moveToOtherHalf l dC dI h0 qd qs qv cI cJ _ dk hf gn rt ct sl sm true ln lq vq ch (by omega) (by omega)) (cwV 0 hts g_X_61 rfl rfl rfl (by decide +kernel) ⟨(Nat.le_of_ble_eq_true rfl), (Nat.le_of_ble_eq_true rfl)⟩) (z_preV (va_recv (q0 := 0) hK hP rfl rfl) hP hK hD) rfl rfl hl.1 rfl (lv_room (Nat.le_of_ble_eq_true rfl)) d_X_checkpoint_10 ⟨(Nat.le_of_ble_eq_true rfl), (Nat.le_of_ble_eq_true rfl)⟩) hS hD hA (fun r u H locs hr0 hP hD hS => ?_)
    obtain ⟨hm1, ⟨d1, sl1, sm1, rfl, rfl⟩ | ⟨rfl, rfl⟩ | ⟨d1, sl1, sm1, rfl, rfl⟩⟩ := hr0
    · exact W.iret hx hb hr (fun t ht hW => ⟨⟨gn + 1, (d1, 1 - hf, gn + 1, d1 (51 * (1 - hf) + 15 + 1), (0 : Int32), sl1, sm1, true, 0, lq, vq, dg (dg 19088743 (d1 (51 * (1 - hf) + 15 + 1))) (gn + 1)), rfl, Or.inr ⟨rfl, hm1⟩, by rw [ht]; exact hP, va_K.moved hW.alike hK, hD⟩, hS.F ht⟩) hS.2.2 d_X_checkpoint_13
    · exact W.iret hx hb hr (fun t ht hW => ⟨⟨-3, (dk, hf, gn, rt, ct, sl, sm, true, ln, lq, vq, ch), rfl, Or.inr ⟨rfl, hm1⟩, by rw [ht]; exact hP, va_K.moved hW.alike hK, hD⟩, hS.F ht⟩) hS.2.2 d_X_checkpoint_13
    · exact W.iret hx hb hr (fun t ht hW => ⟨⟨-4, (d1, hf, gn, rt, ct, sl1, sm1, false, 0, lq, vq, (0 : Int32)), rfl, Or.inr ⟨rfl, hm1⟩, by rw [ht]; exact hP, va_K.moved hW.alike hK, hD⟩, hS.F ht⟩) hS.2.2 d_X_checkpoint_13
set_option maxHeartbeats 4000000 in
set_option maxRecDepth 100000 in
theorem c_alter (l : Launch) (dC : Nat → ClassId) (dI : Nat → Nat → Nat) (h0 qd qs qv : Nat) (cI cJ : ClassId) (sz : Nat) (dk : Nat → Int32) (hf : Nat) (gn : Int32) (rt : Int32) (ct : Int32) (sl : Int32) (sm : Int32) (pw : Bool) (ln : Nat) (lq : Nat → Int32) (vq : Nat → Int64) (ch : Int32) (x0 y0 : Int32)  : Met l y_X_alter w_X_alter ({ frames := 1, cells := 0, slots := 0, locals := 20 }) (va_Pc [.ref h0, .int x0, .int y0] (z_pre (dC, dI) classes [(cI, .int), (cJ, .long)] (Xw h0 qd qs qv cI cJ (dk, hf, gn, rt, ct, sl, sm, pw, ln, lq, vq, ch)) sz)) (va_Qi (fun (r : Int32) (u : XS) => (isIn 102 x0 = 0 ∧ r = 0 ∧ u = (dk, hf, gn, rt, ct, sl, sm, pw, ln, lq, vq, ch)) ∨ (¬ isIn 102 x0 = 0 ∧ r = 1 ∧ u = (upd dk x0.toNatClampNeg (dk x0.toNatClampNeg ^^^ y0), hf, gn, rt, ct, sl, sm, pw, ln, lq, vq, ch))) (fun u => z_at (dC, dI) classes [(cI, .int), (cJ, .long)] (va_A (Xw h0 qd qs qv cI cJ (dk, hf, gn, rt, ct, sl, sm, pw, ln, lq, vq, ch)) sz) (Xw h0 qd qs qv cI cJ u)) (va_A (Xw h0 qd qs qv cI cJ (dk, hf, gn, rt, ct, sl, sm, pw, ln, lq, vq, ch)) sz)) 0 0 (va_A (Xw h0 qd qs qv cI cJ (dk, hf, gn, rt, ct, sl, sm, pw, ln, lq, vq, ch)) sz) := by
  refine Met.ofW (cc := b_X_alter) (maxL := 3) (ret := (some .boolean)) (by decide) rfl ?_
  intro p e s m args below meth c s₁ B hml hv
  obtain ⟨rfl, hsz, hP, hK, hD0⟩ := hv
  have hx := B.exec
  have hb := B.bytes
  have hr := B.returns
  have hts := fun (w : Cond) (h : w ∈ lw_U) => atoms_spec (ws := w_X_alter) B.pre w (List.mem_cons_of_mem _ h)
  have hown : s.vm.findClass R_X = some m.cls := findClass_of_methodNamed B.named
  have hlocks := B.notSynchronized
  subst hsz
  have hD := hD0.self (sz := s.heap.size)
  generalize hAe : va_A (Xw h0 qd qs qv cI cJ (dk, hf, gn, rt, ct, sl, sm, pw, ln, lq, vq, ch)) s.heap.size = A at hD ⊢
  have hA : ∀ q : Nat, s.heap.size ≤ q → A q := fun q h => by rw [← hAe]; exact Or.inr h
  have hS : va_S A s.heap s.heap [] := va_S.rf
  have hP : va_P (dC, dI) classes (Xw h0 qd qs qv cI cJ (dk, hf, gn, rt, ct, sl, sm, pw, ln, lq, vq, ch)) s.heap := hP
  have hl := lv_entry ([.ref h0, .int x0, .int y0]) (n := 3) (Nat.le_of_ble_eq_true rfl)
  rw [lg_entry_eq]
  generalize (lg_sl ([.ref h0, .int x0, .int y0]) ++ List.replicate (3 - (lg_sl ([.ref h0, .int x0, .int y0])).length) Slot.unset).toArray = ls at hl ⊢
  have hl : lv_has ls 3 [(0, .ref h0), (1, .int x0), (2, .int y0)] := hl
  by_cases h8 : isIn 102 x0 = 0
  · refine lv_iload_n hx hb d_X_alter_0 rfl (lv_at hl 1 rfl) ?_
    refine vp_callSi (W.runS (As := [.int x0]) (rest := []) ⟨hx, hb, hml, hown, hts⟩ (c_isPlace l x0) (cwS 1 hts g_X_88 rfl rfl rfl (by decide +kernel) ⟨(Nat.le_of_ble_eq_true rfl), (Nat.le_of_ble_eq_true rfl)⟩) preEq rfl rfl hl.1 rfl (lv_room (Nat.le_of_ble_eq_true rfl)) d_X_alter_1 ⟨(Nat.le_of_ble_eq_true rfl), (Nat.le_of_ble_eq_true rfl)⟩) (fun r hr0 => ?_)
    subst hr0
    refine lv_if_ne (tgt := 9) hx hb d_X_alter_4 (by decide) (fun h9 => absurd h8 h9) (fun _ => ?_)
    refine lv_iconst (v := (0 : Int32)) hx hb d_X_alter_7 (by decide) ?_
    exact W.zret hx hb hr rfl (fun t ht hW => ⟨⟨(0 : Int32), (dk, hf, gn, rt, ct, sl, sm, pw, ln, lq, vq, ch), rfl, Or.inl ⟨h8, rfl, rfl⟩, by rw [ht]; exact hP, va_K.moved hW.alike hK, hD⟩, hS.F ht⟩) hS.2.2 d_X_alter_8
  · obtain ⟨j, hj, rfl⟩ := isIn_of (n := 102) h8 rfl (by decide)
    refine lv_iload_n hx hb d_X_alter_0 rfl (lv_at hl 1 rfl) ?_
    refine vp_callSi (W.runS (As := [.int (nI j)]) (rest := []) ⟨hx, hb, hml, hown, hts⟩ (c_isPlace l (nI j)) (cwS 1 hts g_X_88 rfl rfl rfl (by decide +kernel) ⟨(Nat.le_of_ble_eq_true rfl), (Nat.le_of_ble_eq_true rfl)⟩) preEq rfl rfl hl.1 rfl (lv_room (Nat.le_of_ble_eq_true rfl)) d_X_alter_1 ⟨(Nat.le_of_ble_eq_true rfl), (Nat.le_of_ble_eq_true rfl)⟩) (fun r hr0 => ?_)
    subst hr0
    refine lv_if_ne (tgt := 9) hx hb d_X_alter_4 (by decide) (fun _ => ?_) (fun h9 => absurd h9 h8)
    refine lv_aload_n hx hb d_X_alter_9 rfl (lv_at hl 0 rfl) ?_
    refine va_get (D := (dC, dI)) (ci := 0) (v := .ref qd) (C := R_X) (T := F_X) (N := 12) hx hb hts lay_X hown hK hP 0 rfl rfl 0 (by decide) (hts _ m_62) (fun _ h9 => h9) rfl d_X_alter_10 ?_
    refine lv_iload_n hx hb d_X_alter_13 rfl (lv_at hl 1 rfl) ?_
    refine lv_dup2_11 hx hb d_X_alter_14 rfl rfl ?_
    refine z_iald hx hb hK hP 1 0 rfl rfl (by omega) (by decide) d_X_alter_15 ?_
    refine lv_iload_n hx hb d_X_alter_16 rfl (lv_at hl 2 rfl) ?_
    refine lv_ixor hx hb d_X_alter_17 ?_
    refine z_iast hx hb hK hP hD hS 1 0 rfl rfl (by omega) (by decide) d_X_alter_18 (fun H locs hP hD hS => ?_)
    have hP : va_P (dC, dI) classes (Xw h0 qd qs qv cI cJ (upd dk j ((dk j) ^^^ y0), hf, gn, rt, ct, sl, sm, pw, ln, lq, vq, ch)) H := hP
    have hD : va_D A (Xw h0 qd qs qv cI cJ (upd dk j ((dk j) ^^^ y0), hf, gn, rt, ct, sl, sm, pw, ln, lq, vq, ch)) := hD
    refine lv_iconst (v := (1 : Int32)) hx hb d_X_alter_19 (by decide) ?_
    exact W.zret hx hb hr rfl (fun t ht hW => ⟨⟨(1 : Int32), (upd dk j ((dk j) ^^^ y0), hf, gn, rt, ct, sl, sm, pw, ln, lq, vq, ch), rfl, Or.inr ⟨h8, rfl, (by rw [nI_clamp (by omega)])⟩, by rw [ht]; exact hP, va_K.moved hW.alike hK, hD⟩, hS.F ht⟩) hS.2.2 d_X_alter_20
set_option maxHeartbeats 4000000 in
set_option maxRecDepth 100000 in
theorem c_peek (l : Launch) (dC : Nat → ClassId) (dI : Nat → Nat → Nat) (h0 qd qs qv : Nat) (cI cJ : ClassId) (sz : Nat) (dk : Nat → Int32) (hf : Nat) (gn : Int32) (rt : Int32) (ct : Int32) (sl : Int32) (sm : Int32) (pw : Bool) (ln : Nat) (lq : Nat → Int32) (vq : Nat → Int64) (ch : Int32) (x0 : Int32)  : Met l y_X_peek w_X_peek ({ frames := 1, cells := 0, slots := 0, locals := 20 }) (va_Pc [.ref h0, .int x0] (z_pre (dC, dI) classes [(cI, .int), (cJ, .long)] (Xw h0 qd qs qv cI cJ (dk, hf, gn, rt, ct, sl, sm, pw, ln, lq, vq, ch)) sz)) (vp_Si (fun r => r = (if isIn 102 x0 = 0 then 0 else dk x0.toNatClampNeg))) 0 0 (fun _ => False) := by
  refine Met.ofW (cc := b_X_peek) (maxL := 2) (ret := (some .int)) (by decide) rfl ?_
  intro p e s m args below meth c s₁ B hml hv
  obtain ⟨rfl, hsz, hP, hK, hD0⟩ := hv
  have hx := B.exec
  have hb := B.bytes
  have hr := B.returns
  have hts := fun (w : Cond) (h : w ∈ lw_U) => atoms_spec (ws := w_X_peek) B.pre w (List.mem_cons_of_mem _ h)
  have hown : s.vm.findClass R_X = some m.cls := findClass_of_methodNamed B.named
  have hlocks := B.notSynchronized
  subst hsz
  have hD := hD0
  have hl := lv_entry ([.ref h0, .int x0]) (n := 2) (Nat.le_of_ble_eq_true rfl)
  rw [lg_entry_eq]
  generalize (lg_sl ([.ref h0, .int x0]) ++ List.replicate (2 - (lg_sl ([.ref h0, .int x0])).length) Slot.unset).toArray = ls at hl ⊢
  have hl : lv_has ls 2 [(0, .ref h0), (1, .int x0)] := hl
  by_cases h8 : isIn 102 x0 = 0
  · refine lv_iload_n hx hb d_X_peek_0 rfl (lv_at hl 1 rfl) ?_
    refine vp_callSi (W.runS (As := [.int x0]) (rest := []) ⟨hx, hb, hml, hown, hts⟩ (c_isPlace l x0) (cwS 1 hts g_X_88 rfl rfl rfl (by decide +kernel) ⟨(Nat.le_of_ble_eq_true rfl), (Nat.le_of_ble_eq_true rfl)⟩) preEq rfl rfl hl.1 rfl (lv_room (Nat.le_of_ble_eq_true rfl)) d_X_peek_1 ⟨(Nat.le_of_ble_eq_true rfl), (Nat.le_of_ble_eq_true rfl)⟩) (fun r hr0 => ?_)
    subst hr0
    refine lv_if_eq (tgt := 16) hx hb d_X_peek_4 (by decide) (fun _ => ?_) (fun h9 => absurd h8 h9)
    refine lv_iconst (v := (0 : Int32)) hx hb d_X_peek_16 (by decide) ?_
    exact W.iret hx hb hr (fun t ht hW => ⟨_, rfl, (by rw [if_pos h8]), ht⟩) (fun q h => by cases h) d_X_peek_17
  · obtain ⟨j, hj, rfl⟩ := isIn_of (n := 102) h8 rfl (by decide)
    refine lv_iload_n hx hb d_X_peek_0 rfl (lv_at hl 1 rfl) ?_
    refine vp_callSi (W.runS (As := [.int (nI j)]) (rest := []) ⟨hx, hb, hml, hown, hts⟩ (c_isPlace l (nI j)) (cwS 1 hts g_X_88 rfl rfl rfl (by decide +kernel) ⟨(Nat.le_of_ble_eq_true rfl), (Nat.le_of_ble_eq_true rfl)⟩) preEq rfl rfl hl.1 rfl (lv_room (Nat.le_of_ble_eq_true rfl)) d_X_peek_1 ⟨(Nat.le_of_ble_eq_true rfl), (Nat.le_of_ble_eq_true rfl)⟩) (fun r hr0 => ?_)
    subst hr0
    refine lv_if_eq (tgt := 16) hx hb d_X_peek_4 (by decide) (fun h9 => absurd h9 h8) (fun _ => ?_)
    refine lv_aload_n hx hb d_X_peek_7 rfl (lv_at hl 0 rfl) ?_
    refine va_get (D := (dC, dI)) (ci := 0) (v := .ref qd) (C := R_X) (T := F_X) (N := 12) hx hb hts lay_X hown hK hP 0 rfl rfl 0 (by decide) (hts _ m_62) (fun _ h9 => h9) rfl d_X_peek_8 ?_
    refine lv_iload_n hx hb d_X_peek_11 rfl (lv_at hl 1 rfl) ?_
    refine z_iald hx hb hK hP 1 0 rfl rfl (by omega) (by decide) d_X_peek_12 ?_
    refine lv_goto (tgt := 17) hx hb d_X_peek_13 (by decide) ?_
    exact W.iret hx hb hr (fun t ht hW => ⟨_, rfl, (by rw [if_neg h8, nI_clamp (by omega)]), ht⟩) (fun q h => by cases h) d_X_peek_17
set_option maxHeartbeats 4000000 in
set_option maxRecDepth 100000 in
theorem c_seal (l : Launch) (dC : Nat → ClassId) (dI : Nat → Nat → Nat) (h0 qd qs qv : Nat) (cI cJ : ClassId) (sz : Nat) (dk : Nat → Int32) (hf : Nat) (gn : Int32) (rt : Int32) (ct : Int32) (sl : Int32) (sm : Int32) (pw : Bool) (ln : Nat) (lq : Nat → Int32) (vq : Nat → Int64) (ch : Int32) (x0 : Int32)  : Met l y_X_seal w_X_seal ({ frames := 0, cells := 0, slots := 0, locals := 0 }) (va_Pc [.ref h0, .int x0] (z_pre (dC, dI) classes [(cI, .int), (cJ, .long)] (Xw h0 qd qs qv cI cJ (dk, hf, gn, rt, ct, sl, sm, pw, ln, lq, vq, ch)) sz)) (vp_Si (fun r => r = (if x0 = 0 then nI hf else if x0 = 1 then gn else if x0 = 2 then rt else if x0 = 3 then ct else 0))) 0 0 (fun _ => False) := by
  refine Met.ofW (cc := b_X_seal) (maxL := 2) (ret := (some .int)) (by decide) rfl ?_
  intro p e s m args below meth c s₁ B hml hv
  obtain ⟨rfl, hsz, hP, hK, hD0⟩ := hv
  have hx := B.exec
  have hb := B.bytes
  have hr := B.returns
  have hts := fun (w : Cond) (h : w ∈ lw_U) => atoms_spec (ws := w_X_seal) B.pre w (List.mem_cons_of_mem _ h)
  have hown : s.vm.findClass R_X = some m.cls := findClass_of_methodNamed B.named
  have hlocks := B.notSynchronized
  subst hsz
  have hD := hD0
  have hl := lv_entry ([.ref h0, .int x0]) (n := 2) (Nat.le_of_ble_eq_true rfl)
  rw [lg_entry_eq]
  generalize (lg_sl ([.ref h0, .int x0]) ++ List.replicate (2 - (lg_sl ([.ref h0, .int x0])).length) Slot.unset).toArray = ls at hl ⊢
  have hl : lv_has ls 2 [(0, .ref h0), (1, .int x0)] := hl
  refine lv_iload_n hx hb d_X_seal_0 rfl (lv_at hl 1 rfl) ?_
  by_cases hk0 : x0 = 0
  · subst hk0
    refine lv_tableIn (tgt := 32) hx hb d_X_seal_1 (by decide) (by decide) rfl (by decide) ?_
    refine lv_aload_n hx hb d_X_seal_32 rfl (lv_at hl 0 rfl) ?_
    refine va_get (D := (dC, dI)) (ci := 0) (v := .int (nI hf)) (C := R_X) (T := F_X) (N := 12) hx hb hts lay_X hown hK hP 0 rfl rfl 1 (by decide) (hts _ m_63) (fun _ h9 => h9) rfl d_X_seal_33 ?_
    exact W.iret hx hb hr (fun t ht hW => ⟨_, rfl, rfl, ht⟩) (fun q h => by cases h) d_X_seal_36
  by_cases hk1 : x0 = 1
  · subst hk1
    refine lv_tableIn (tgt := 37) hx hb d_X_seal_1 (by decide) (by decide) rfl (by decide) ?_
    refine lv_aload_n hx hb d_X_seal_37 rfl (lv_at hl 0 rfl) ?_
    refine va_get (D := (dC, dI)) (ci := 0) (v := .int gn) (C := R_X) (T := F_X) (N := 12) hx hb hts lay_X hown hK hP 0 rfl rfl 2 (by decide) (hts _ m_64) (fun _ h9 => h9) rfl d_X_seal_38 ?_
    exact W.iret hx hb hr (fun t ht hW => ⟨_, rfl, rfl, ht⟩) (fun q h => by cases h) d_X_seal_41
  by_cases hk2 : x0 = 2
  · subst hk2
    refine lv_tableIn (tgt := 42) hx hb d_X_seal_1 (by decide) (by decide) rfl (by decide) ?_
    refine lv_aload_n hx hb d_X_seal_42 rfl (lv_at hl 0 rfl) ?_
    refine va_get (D := (dC, dI)) (ci := 0) (v := .int rt) (C := R_X) (T := F_X) (N := 12) hx hb hts lay_X hown hK hP 0 rfl rfl 3 (by decide) (hts _ m_65) (fun _ h9 => h9) rfl d_X_seal_43 ?_
    exact W.iret hx hb hr (fun t ht hW => ⟨_, rfl, rfl, ht⟩) (fun q h => by cases h) d_X_seal_46
  by_cases hk3 : x0 = 3
  · subst hk3
    refine lv_tableIn (tgt := 47) hx hb d_X_seal_1 (by decide) (by decide) rfl (by decide) ?_
    refine lv_aload_n hx hb d_X_seal_47 rfl (lv_at hl 0 rfl) ?_
    refine va_get (D := (dC, dI)) (ci := 0) (v := .int ct) (C := R_X) (T := F_X) (N := 12) hx hb hts lay_X hown hK hP 0 rfl rfl 4 (by decide) (hts _ m_66) (fun _ h9 => h9) rfl d_X_seal_48 ?_
    exact W.iret hx hb hr (fun t ht hW => ⟨_, rfl, rfl, ht⟩) (fun q h => by cases h) d_X_seal_51
  refine lv_tableOut (tgt := 52) hx hb d_X_seal_1 (z_out4 hk0 hk1 hk2 hk3) (by decide) ?_
  refine lv_iconst (v := (0 : Int32)) hx hb d_X_seal_52 (by decide) ?_
  exact W.iret hx hb hr (fun t ht hW => ⟨_, rfl, (by rw [if_neg hk0, if_neg hk1, if_neg hk2, if_neg hk3]), ht⟩) (fun q h => by cases h) d_X_seal_53
set_option maxHeartbeats 4000000 in
set_option maxRecDepth 100000 in
theorem c_writes (l : Launch) (dC : Nat → ClassId) (dI : Nat → Nat → Nat) (h0 qd qs qv : Nat) (cI cJ : ClassId) (sz : Nat) (dk : Nat → Int32) (hf : Nat) (gn : Int32) (rt : Int32) (ct : Int32) (sl : Int32) (sm : Int32) (pw : Bool) (ln : Nat) (lq : Nat → Int32) (vq : Nat → Int64) (ch : Int32)   : Met l y_X_writes w_X_writes ({ frames := 0, cells := 0, slots := 0, locals := 0 }) (va_Pc [.ref h0] (z_pre (dC, dI) classes [(cI, .int), (cJ, .long)] (Xw h0 qd qs qv cI cJ (dk, hf, gn, rt, ct, sl, sm, pw, ln, lq, vq, ch)) sz)) (vp_Si (fun r => r = (if pw = true then nI ln else -1))) 0 0 (fun _ => False) := by
  refine Met.ofW (cc := b_X_writes) (maxL := 1) (ret := (some .int)) (by decide) rfl ?_
  intro p e s m args below meth c s₁ B hml hv
  obtain ⟨rfl, hsz, hP, hK, hD0⟩ := hv
  have hx := B.exec
  have hb := B.bytes
  have hr := B.returns
  have hts := fun (w : Cond) (h : w ∈ lw_U) => atoms_spec (ws := w_X_writes) B.pre w (List.mem_cons_of_mem _ h)
  have hown : s.vm.findClass R_X = some m.cls := findClass_of_methodNamed B.named
  have hlocks := B.notSynchronized
  subst hsz
  have hD := hD0
  have hl := lv_entry ([.ref h0]) (n := 1) (Nat.le_of_ble_eq_true rfl)
  rw [lg_entry_eq]
  generalize (lg_sl ([.ref h0]) ++ List.replicate (1 - (lg_sl ([.ref h0])).length) Slot.unset).toArray = ls at hl ⊢
  have hl : lv_has ls 1 [(0, .ref h0)] := hl
  cases pw with
  | false =>
    refine lv_aload_n hx hb d_X_writes_0 rfl (lv_at hl 0 rfl) ?_
    refine va_get (D := (dC, dI)) (ci := 0) (v := .int (bI false)) (C := R_X) (T := F_X) (N := 12) hx hb hts lay_X hown hK hP 0 rfl rfl 7 (by decide) (hts _ m_69) (fun _ h9 => h9) rfl d_X_writes_1 ?_
    refine lv_if_eq (tgt := 14) hx hb d_X_writes_4 (by decide) (fun _ => ?_) (fun h9 => absurd (by decide) h9)
    refine lv_iconst (v := (-1 : Int32)) hx hb d_X_writes_14 (by decide) ?_
    exact W.iret hx hb hr (fun t ht hW => ⟨_, rfl, rfl, ht⟩) (fun q h => by cases h) d_X_writes_15
  | true =>
    refine lv_aload_n hx hb d_X_writes_0 rfl (lv_at hl 0 rfl) ?_
    refine va_get (D := (dC, dI)) (ci := 0) (v := .int (bI true)) (C := R_X) (T := F_X) (N := 12) hx hb hts lay_X hown hK hP 0 rfl rfl 7 (by decide) (hts _ m_69) (fun _ h9 => h9) rfl d_X_writes_1 ?_
    refine lv_if_eq (tgt := 14) hx hb d_X_writes_4 (by decide) (fun h9 => absurd h9 (by decide)) (fun _ => ?_)
    refine lv_aload_n hx hb d_X_writes_7 rfl (lv_at hl 0 rfl) ?_
    refine va_get (D := (dC, dI)) (ci := 0) (v := .int (nI ln)) (C := R_X) (T := F_X) (N := 12) hx hb hts lay_X hown hK hP 0 rfl rfl 8 (by decide) (hts _ m_70) (fun _ h9 => h9) rfl d_X_writes_8 ?_
    refine lv_goto (tgt := 15) hx hb d_X_writes_11 (by decide) ?_
    exact W.iret hx hb hr (fun t ht hW => ⟨_, rfl, rfl, ht⟩) (fun q h => by cases h) d_X_writes_15
set_option maxHeartbeats 4000000 in
set_option maxRecDepth 100000 in
theorem c_sound (l : Launch) (dC : Nat → ClassId) (dI : Nat → Nat → Nat) (h0 qd qs qv : Nat) (cI cJ : ClassId) (sz : Nat) (dk : Nat → Int32) (hf : Nat) (gn : Int32) (rt : Int32) (ct : Int32) (sl : Int32) (sm : Int32) (pw : Bool) (ln : Nat) (lq : Nat → Int32) (vq : Nat → Int64) (ch : Int32)  (h_f : hf < 2) (h_n : ln ≤ 5) : Met l y_X_sound w_X_sound ({ frames := 5, cells := 0, slots := 0, locals := 116 }) (va_Pc [.ref h0] (z_pre (dC, dI) classes [(cI, .int), (cJ, .long)] (Xw h0 qd qs qv cI cJ (dk, hf, gn, rt, ct, sl, sm, pw, ln, lq, vq, ch)) sz)) (vp_Si (fun r => r = (if pw = true then sndF (vof dk hf gn rt ln lq vq) 8 0 0 else -1))) 0 0 (fun _ => False) := by
  refine Met.ofW (cc := b_X_sound) (maxL := 1) (ret := (some .int)) (by decide) rfl ?_
  intro p e s m args below meth c s₁ B hml hv
  obtain ⟨rfl, hsz, hP, hK, hD0⟩ := hv
  have hx := B.exec
  have hb := B.bytes
  have hr := B.returns
  have hts := fun (w : Cond) (h : w ∈ lw_U) => atoms_spec (ws := w_X_sound) B.pre w (List.mem_cons_of_mem _ h)
  have hown : s.vm.findClass R_X = some m.cls := findClass_of_methodNamed B.named
  have hlocks := B.notSynchronized
  subst hsz
  have hD := hD0
  have hl := lv_entry ([.ref h0]) (n := 1) (Nat.le_of_ble_eq_true rfl)
  rw [lg_entry_eq]
  generalize (lg_sl ([.ref h0]) ++ List.replicate (1 - (lg_sl ([.ref h0])).length) Slot.unset).toArray = ls at hl ⊢
  have hl : lv_has ls 1 [(0, .ref h0)] := hl
  cases pw with
  | false =>
    refine lv_aload_n hx hb d_X_sound_0 rfl (lv_at hl 0 rfl) ?_
    refine va_get (D := (dC, dI)) (ci := 0) (v := .int (bI false)) (C := R_X) (T := F_X) (N := 12) hx hb hts lay_X hown hK hP 0 rfl rfl 7 (by decide) (hts _ m_69) (fun _ h9 => h9) rfl d_X_sound_1 ?_
    refine lv_if_eq (tgt := 14) hx hb d_X_sound_4 (by decide) (fun _ => ?_) (fun h9 => absurd (by decide) h9)
    refine lv_iconst (v := (-1 : Int32)) hx hb d_X_sound_14 (by decide) ?_
    exact W.iret hx hb hr (fun t ht hW => ⟨_, rfl, rfl, ht⟩) (fun q h => by cases h) d_X_sound_15
  | true =>
    refine lv_aload_n hx hb d_X_sound_0 rfl (lv_at hl 0 rfl) ?_
    refine va_get (D := (dC, dI)) (ci := 0) (v := .int (bI true)) (C := R_X) (T := F_X) (N := 12) hx hb hts lay_X hown hK hP 0 rfl rfl 7 (by decide) (hts _ m_69) (fun _ h9 => h9) rfl d_X_sound_1 ?_
    refine lv_if_eq (tgt := 14) hx hb d_X_sound_4 (by decide) (fun h9 => absurd h9 (by decide)) (fun _ => ?_)
    refine lv_aload_n hx hb d_X_sound_7 rfl (lv_at hl 0 rfl) ?_
    refine vp_callSi (W.runV (C := R_X) (b := h0) (As := []) (rest := []) ⟨hx, hb, hml, hown, hts⟩ (c_soundSectors l dC dI h0 qd qs qv cI cJ _ dk hf gn rt ct sl sm true ln lq vq ch (by omega) (by omega)) (cwV 0 hts g_X_91 rfl rfl rfl (by decide +kernel) ⟨(Nat.le_of_ble_eq_true rfl), (Nat.le_of_ble_eq_true rfl)⟩) (z_preV (va_recv (q0 := 0) hK hP rfl rfl) hP hK hD) rfl rfl hl.1 rfl (lv_room (Nat.le_of_ble_eq_true rfl)) d_X_sound_8 ⟨(Nat.le_of_ble_eq_true rfl), (Nat.le_of_ble_eq_true rfl)⟩) (fun r hr0 => ?_)
    subst hr0
    refine lv_goto (tgt := 15) hx hb d_X_sound_11 (by decide) ?_
    exact W.iret hx hb hr (fun t ht hW => ⟨_, rfl, rfl, ht⟩) (fun q h => by cases h) d_X_sound_15
set_option maxHeartbeats 4000000 in
set_option maxRecDepth 100000 in
theorem c_steps (l : Launch) (dC : Nat → ClassId) (dI : Nat → Nat → Nat) (h0 qd qs qv : Nat) (cI cJ : ClassId) (sz : Nat) (dk : Nat → Int32) (hf : Nat) (gn : Int32) (rt : Int32) (ct : Int32) (sl : Int32) (sm : Int32) (pw : Bool) (ln : Nat) (lq : Nat → Int32) (vq : Nat → Int64) (ch : Int32)   : Met l y_X_steps w_X_steps ({ frames := 0, cells := 0, slots := 0, locals := 0 }) (va_Pc [.ref h0] (z_pre (dC, dI) classes [(cI, .int), (cJ, .long)] (Xw h0 qd qs qv cI cJ (dk, hf, gn, rt, ct, sl, sm, pw, ln, lq, vq, ch)) sz)) (vp_Si (fun r => r = sm)) 0 0 (fun _ => False) := by
  refine Met.ofW (cc := b_X_steps) (maxL := 1) (ret := (some .int)) (by decide) rfl ?_
  intro p e s m args below meth c s₁ B hml hv
  obtain ⟨rfl, hsz, hP, hK, hD0⟩ := hv
  have hx := B.exec
  have hb := B.bytes
  have hr := B.returns
  have hts := fun (w : Cond) (h : w ∈ lw_U) => atoms_spec (ws := w_X_steps) B.pre w (List.mem_cons_of_mem _ h)
  have hown : s.vm.findClass R_X = some m.cls := findClass_of_methodNamed B.named
  have hlocks := B.notSynchronized
  subst hsz
  have hD := hD0
  have hl := lv_entry ([.ref h0]) (n := 1) (Nat.le_of_ble_eq_true rfl)
  rw [lg_entry_eq]
  generalize (lg_sl ([.ref h0]) ++ List.replicate (1 - (lg_sl ([.ref h0])).length) Slot.unset).toArray = ls at hl ⊢
  have hl : lv_has ls 1 [(0, .ref h0)] := hl
  refine lv_aload_n hx hb d_X_steps_0 rfl (lv_at hl 0 rfl) ?_
  refine va_get (D := (dC, dI)) (ci := 0) (v := .int sm) (C := R_X) (T := F_X) (N := 12) hx hb hts lay_X hown hK hP 0 rfl rfl 6 (by decide) (hts _ m_68) (fun _ h9 => h9) rfl d_X_steps_1 ?_
  exact W.iret hx hb hr (fun t ht hW => ⟨_, rfl, rfl, ht⟩) (fun q h => by cases h) d_X_steps_4
end
section
set_option maxHeartbeats 4000000 in
set_option maxRecDepth 100000 in
theorem c_init (l : Launch) (dC : Nat → ClassId) (dI : Nat → Nat → Nat) (h0 sz : Nat) : Met l y_X_init w_X_init ({ frames := 2, cells := 3, slots := 112, locals := 47 }) (va_Pc [.ref h0] (z_pre (dC, dI) classes [] [(h0, .inr (0, [.null, .int 0, .int 0, .int 0, .int 0, .int 0, .int 0, .int 0, .int 0, .null, .null, .int 0]))] sz)) (va_Qv (fun (_ : Nat × Nat × Nat × ClassId × ClassId) => True) (fun (z : Nat × Nat × Nat × ClassId × ClassId) => z_at (dC, dI) classes [(z.2.2.2.1, .int), (z.2.2.2.2, .long)] (va_A [(h0, .inr (0, [.null, .int 0, .int 0, .int 0, .int 0, .int 0, .int 0, .int 0, .int 0, .null, .null, .int 0]))] sz) (Xw h0 z.1 z.2.1 z.2.2.1 z.2.2.2.1 z.2.2.2.2 iniX)) (va_A [(h0, .inr (0, [.null, .int 0, .int 0, .int 0, .int 0, .int 0, .int 0, .int 0, .int 0, .null, .null, .int 0]))] sz)) 3 112 (va_A [(h0, .inr (0, [.null, .int 0, .int 0, .int 0, .int 0, .int 0, .int 0, .int 0, .int 0, .null, .null, .int 0]))] sz) := by
  refine Met.ofW (cc := b_X_init) (maxL := 2) (ret := none) (by decide) rfl ?_
  intro p e s m args below meth c s₁ B hml hv
  obtain ⟨rfl, hsz, hP, hK, hD0⟩ := hv
  have hx := B.exec
  have hb := B.bytes
  have hr := B.returns
  have hts := fun (w : Cond) (h : w ∈ lw_U) => atoms_spec (ws := w_X_init) B.pre w (List.mem_cons_of_mem _ h)
  have hown : s.vm.findClass R_X = some m.cls := findClass_of_methodNamed B.named
  have hlocks := B.notSynchronized
  have hin : meth.name = "<init>" := (name_of_methodNamed B.named B.method).1
  subst hsz
  have hD := hD0.self (sz := s.heap.size)
  generalize hAe : va_A [(h0, .inr (0, [.null, .int 0, .int 0, .int 0, .int 0, .int 0, .int 0, .int 0, .int 0, .null, .null, .int 0]))] s.heap.size = A at hD ⊢
  have hA : ∀ q : Nat, s.heap.size ≤ q → A q := fun q h => by rw [← hAe]; exact Or.inr h
  have hS : va_S A s.heap s.heap [] := va_S.rf
  have hP : va_P (dC, dI) classes [(h0, .inr (0, [.null, .int 0, .int 0, .int 0, .int 0, .int 0, .int 0, .int 0, .int 0, .null, .null, .int 0]))] s.heap := hP
  have hl := lv_entry ([.ref h0]) (n := 2) (Nat.le_of_ble_eq_true rfl)
  rw [lg_entry_eq]
  generalize (lg_sl ([.ref h0]) ++ List.replicate (2 - (lg_sl ([.ref h0])).length) Slot.unset).toArray = ls at hl ⊢
  have hl : lv_has ls 2 [(0, .ref h0)] := hl
  refine lv_aload_n hx hb d_X_init_0 rfl (lv_at hl 0 rfl) ?_
  refine W.objInit hx hb hown (hts _ m_40) (hts _ m_41) (hts _ m_42) rfl (by rw [hml]; exact hl.1) rfl d_X_init_1 (Nat.le_of_ble_eq_true rfl) (Nat.le_of_ble_eq_true rfl) ?_
  refine W.eq (g2 := F0 m 4 ls []) rfl ?_
  refine lv_aload_n hx hb d_X_init_4 rfl (lv_at hl 0 rfl) ?_
  refine lv_bipush (v := 102) hx hb d_X_init_5 (by decide) ?_
  refine va_newa (atype := .int) (a0 := (102, .inl (fun _ => 0))) (N' := 102) hx hb (hts _ m_99) rfl hK hP hD hS hA (fun _ => rfl) (by decide) (by decide) (by decide) (Nat.le_of_ble_eq_true rfl) (Nat.le_of_ble_eq_true rfl) d_X_init_7 (fun qd cqd H hK hP hD hS => ?_)
  have hP : va_P (dC, dI) classes [(h0, .inr (0, [.null, .int 0, .int 0, .int 0, .int 0, .int 0, .int 0, .int 0, .int 0, .null, .null, .int 0])), (qd, .inl (cqd, (102, .inl (fun _ => 0))))] H := hP
  have hD : va_D A [(h0, .inr (0, [.null, .int 0, .int 0, .int 0, .int 0, .int 0, .int 0, .int 0, .int 0, .null, .null, .int 0])), (qd, .inl (cqd, (102, .inl (fun _ => 0))))] := hD
  have hK : va_K (dC, dI) classes [(cqd, .int)] s := hK
  refine W.widen (k := 1) (n := 102) (by omega) (by omega) ?_
  refine va_putF (D := (dC, dI)) (ci := 0) (v := .ref qd) (ty := .array .int) (C := R_X) (T := F_X) (N := 12) hx hb hts lay_X t_X t_X_ok n_X hown hK hP hD hS 0 rfl rfl 0 (by decide) (hts _ m_62) (fun _ h9 => h9) rfl hin rfl (by decide +kernel) rfl rfl (Nat.le_of_ble_eq_true rfl) d_X_init_9 (fun H locs hP hD hS => ?_)
  have hP : va_P (dC, dI) classes [(h0, .inr (0, [.ref qd, .int 0, .int 0, .int 0, .int 0, .int 0, .int 0, .int 0, .int 0, .null, .null, .int 0])), (qd, .inl (cqd, (102, .inl (fun _ => 0))))] H := hP
  have hD : va_D A [(h0, .inr (0, [.ref qd, .int 0, .int 0, .int 0, .int 0, .int 0, .int 0, .int 0, .int 0, .null, .null, .int 0])), (qd, .inl (cqd, (102, .inl (fun _ => 0))))] := hD
  refine lv_aload_n hx hb d_X_init_12 rfl (lv_at hl 0 rfl) ?_
  refine lv_iconst (v := 5) hx hb d_X_init_13 (by decide) ?_
  refine va_newa (atype := .int) (a0 := (5, .inl (fun _ => 0))) (N' := 5) hx hb (hts _ m_99) rfl hK hP hD hS hA (fun _ => rfl) (by decide) (by decide) (by decide) (Nat.le_of_ble_eq_true rfl) (Nat.le_of_ble_eq_true rfl) d_X_init_14 (fun qs cqs H hK hP hD hS => ?_)
  have hP : va_P (dC, dI) classes [(h0, .inr (0, [.ref qd, .int 0, .int 0, .int 0, .int 0, .int 0, .int 0, .int 0, .int 0, .null, .null, .int 0])), (qd, .inl (cqd, (102, .inl (fun _ => 0)))), (qs, .inl (cqs, (5, .inl (fun _ => 0))))] H := hP
  have hD : va_D A [(h0, .inr (0, [.ref qd, .int 0, .int 0, .int 0, .int 0, .int 0, .int 0, .int 0, .int 0, .null, .null, .int 0])), (qd, .inl (cqd, (102, .inl (fun _ => 0)))), (qs, .inl (cqs, (5, .inl (fun _ => 0))))] := hD
  have hK : va_K (dC, dI) classes [(cqd, .int), (cqs, .int)] s := hK
  refine W.widen (k := 2) (n := 107) (by omega) (by omega) ?_
  refine va_putF (D := (dC, dI)) (ci := 0) (v := .ref qs) (ty := .array .int) (C := R_X) (T := F_X) (N := 12) hx hb hts lay_X t_X t_X_ok n_X hown hK hP hD hS 0 rfl rfl 9 (by decide) (hts _ m_71) (fun _ h9 => h9) rfl hin rfl (by decide +kernel) rfl rfl (Nat.le_of_ble_eq_true rfl) d_X_init_16 (fun H locs hP hD hS => ?_)
  have hP : va_P (dC, dI) classes [(h0, .inr (0, [.ref qd, .int 0, .int 0, .int 0, .int 0, .int 0, .int 0, .int 0, .int 0, .ref qs, .null, .int 0])), (qd, .inl (cqd, (102, .inl (fun _ => 0)))), (qs, .inl (cqs, (5, .inl (fun _ => 0))))] H := hP
  have hD : va_D A [(h0, .inr (0, [.ref qd, .int 0, .int 0, .int 0, .int 0, .int 0, .int 0, .int 0, .int 0, .ref qs, .null, .int 0])), (qd, .inl (cqd, (102, .inl (fun _ => 0)))), (qs, .inl (cqs, (5, .inl (fun _ => 0))))] := hD
  refine lv_aload_n hx hb d_X_init_19 rfl (lv_at hl 0 rfl) ?_
  refine lv_iconst (v := 5) hx hb d_X_init_20 (by decide) ?_
  refine va_newa (atype := .long) (a0 := (5, .inr (.inl (fun _ => 0)))) (N' := 5) hx hb (hts _ m_100) rfl hK hP hD hS hA (fun _ => rfl) (by decide) (by decide) (by decide) (Nat.le_of_ble_eq_true rfl) (Nat.le_of_ble_eq_true rfl) d_X_init_21 (fun qv cqv H hK hP hD hS => ?_)
  have hP : va_P (dC, dI) classes [(h0, .inr (0, [.ref qd, .int 0, .int 0, .int 0, .int 0, .int 0, .int 0, .int 0, .int 0, .ref qs, .null, .int 0])), (qd, .inl (cqd, (102, .inl (fun _ => 0)))), (qs, .inl (cqs, (5, .inl (fun _ => 0)))), (qv, .inl (cqv, (5, .inr (.inl (fun _ => 0)))))] H := hP
  have hD : va_D A [(h0, .inr (0, [.ref qd, .int 0, .int 0, .int 0, .int 0, .int 0, .int 0, .int 0, .int 0, .ref qs, .null, .int 0])), (qd, .inl (cqd, (102, .inl (fun _ => 0)))), (qs, .inl (cqs, (5, .inl (fun _ => 0)))), (qv, .inl (cqv, (5, .inr (.inl (fun _ => 0)))))] := hD
  have hK : va_K (dC, dI) classes [(cqd, .int), (cqs, .int), (cqv, .long)] s := hK
  refine W.widen (k := 3) (n := 112) (by omega) (by omega) ?_
  refine va_putF (D := (dC, dI)) (ci := 0) (v := .ref qv) (ty := .array .long) (C := R_X) (T := F_X) (N := 12) hx hb hts lay_X t_X t_X_ok n_X hown hK hP hD hS 0 rfl rfl 10 (by decide) (hts _ m_72) (fun _ h9 => h9) rfl hin rfl (by decide +kernel) rfl rfl (Nat.le_of_ble_eq_true rfl) d_X_init_23 (fun H locs hP hD hS => ?_)
  have hP : va_P (dC, dI) classes [(h0, .inr (0, [.ref qd, .int 0, .int 0, .int 0, .int 0, .int 0, .int 0, .int 0, .int 0, .ref qs, .ref qv, .int 0])), (qd, .inl (cqd, (102, .inl (fun _ => 0)))), (qs, .inl (cqs, (5, .inl (fun _ => 0)))), (qv, .inl (cqv, (5, .inr (.inl (fun _ => 0)))))] H := hP
  have hD : va_D A [(h0, .inr (0, [.ref qd, .int 0, .int 0, .int 0, .int 0, .int 0, .int 0, .int 0, .int 0, .ref qs, .ref qv, .int 0])), (qd, .inl (cqd, (102, .inl (fun _ => 0)))), (qs, .inl (cqs, (5, .inl (fun _ => 0)))), (qv, .inl (cqv, (5, .inr (.inl (fun _ => 0)))))] := hD
  have hcc : cqs = cqd := Option.some.inj (((hK.2 1 _ rfl).2 : s.vm.findClass _ = some cqs).symm.trans ((hK.2 0 _ rfl).2 : s.vm.findClass _ = some cqd))
  subst cqs
  have hK : va_K (dC, dI) classes [(cqd, .int), (cqv, .long)] s := hK.sub [0, 2] rfl
  generalize cqd = cI at hK hP hD
  generalize cqv = cJ at hK hP hD
  have hP : va_P (dC, dI) classes (Xw h0 qd qs qv cI cJ (fun _ => 0, 0, 0, 0, 0, 0, 0, false, 0, fun _ => 0, fun _ => 0, 0)) H := hP
  have hD : va_D A (Xw h0 qd qs qv cI cJ (fun _ => 0, 0, 0, 0, 0, 0, 0, false, 0, fun _ => 0, fun _ => 0, 0)) := hD
  have loop2 : ∀ (k : Nat) (d0 : Nat → Int32) (ls : Array Slot) (H : Heap) (locs : List Loc), k ≤ 15 → lv_has ls 2 [(0, .ref h0), (1, .int (nI k))] → va_P (dC, dI) classes (Xw h0 qd qs qv cI cJ (d0, 0, 1, 0, 0, -1, 0, false, 0, fun _ => 0, fun _ => 0, 0)) H → va_D A (Xw h0 qd qs qv cI cJ (d0, 0, 1, 0, 0, -1, 0, false, 0, fun _ => 0, fun _ => 0, 0)) → va_S A s.heap H locs → ini2 k d0 = iniD → W p l e (headSpec w_X_init ({ frames := 2, cells := 3, slots := 112, locals := 47 })).room s m ([.ref h0].toArray) below meth c H locs 3 112 (MQ below (va_Qv (fun (_ : Nat × Nat × Nat × ClassId × ClassId) => True) (fun (z : Nat × Nat × Nat × ClassId × ClassId) => z_at (dC, dI) classes [(z.2.2.2.1, .int), (z.2.2.2.2, .long)] A (Xw h0 z.1 z.2.1 z.2.2.1 z.2.2.2.1 z.2.2.2.2 iniX)) A) ([.ref h0].toArray) s 3 112 A) (F0 m 68 ls []) := by
    intro k
    induction k with
    | zero =>
      intro d0 ls H locs hk hl hP hD hS hF
      have hF : d0 = iniD := hF
      subst hF
      refine lv_iload_n hx hb d_X_init_68 rfl (lv_at hl 1 rfl) ?_
      refine lv_iconst (v := nI 1) hx hb d_X_init_69 (by decide) ?_
      refine lv_icmp_lt (tgt := 99) hx hb d_X_init_70 (by decide) (fun _ => ?_) (fun h9 => absurd ((nI_ltI (by omega) (by omega)).mpr (by omega)) h9)
      refine lv_aload_n hx hb d_X_init_99 rfl (lv_at hl 0 rfl) ?_
      refine lv_aload_n hx hb d_X_init_100 rfl (lv_at hl 0 rfl) ?_
      refine va_get (D := (dC, dI)) (ci := 0) (v := .ref qd) (C := R_X) (T := F_X) (N := 12) hx hb hts lay_X hown hK hP 0 rfl rfl 0 (by decide) (hts _ m_62) (fun _ h9 => h9) rfl d_X_init_101 ?_
      refine lv_iconst (v := nI 0) hx hb d_X_init_104 (by decide) ?_
      refine lv_iconst (v := nI 1) hx hb d_X_init_105 (by decide) ?_
      refine vp_callSi (W.runS (As := [.int (nI 0), .int (nI 1)]) (rest := [.ref qd, .ref h0]) ⟨hx, hb, hml, hown, hts⟩ (c_nodePlace l 0 1) (cwS 2 hts g_X_31 rfl rfl rfl (by decide +kernel) ⟨(Nat.le_of_ble_eq_true rfl), (Nat.le_of_ble_eq_true rfl)⟩) preEq rfl rfl hl.1 rfl (lv_room (Nat.le_of_ble_eq_true rfl)) d_X_init_106 ⟨(Nat.le_of_ble_eq_true rfl), (Nat.le_of_ble_eq_true rfl)⟩) (fun r hr0 => ?_)
      subst hr0
      refine z_iald hx hb hK hP 1 0 rfl rfl (by omega) (by decide) d_X_init_109 ?_
      refine va_put (D := (dC, dI)) (ci := 0) (v := .int (iniD (51 * 0 + 15 + 1))) (ty := .int) (C := R_X) (T := F_X) (N := 12) hx hb hts lay_X t_X t_X_ok n_X hown hK hP hD hS 0 rfl rfl 3 (by decide) (hts _ m_65) (fun _ h9 => h9) rfl (by decide +kernel) rfl rfl (Nat.le_of_ble_eq_true rfl) d_X_init_110 (fun H locs hP hD hS => ?_)
      have hP : va_P (dC, dI) classes (Xw h0 qd qs qv cI cJ (iniD, 0, 1, iniD (51 * 0 + 15 + 1), 0, -1, 0, false, 0, (fun _ => 0), (fun _ => 0), 0)) H := hP
      have hD : va_D A (Xw h0 qd qs qv cI cJ (iniD, 0, 1, iniD (51 * 0 + 15 + 1), 0, -1, 0, false, 0, (fun _ => 0), (fun _ => 0), 0)) := hD
      exact W.vret hx hb hr (fun t ht hW => ⟨⟨(qd, qs, qv, cI, cJ), rfl, trivial, by rw [ht]; exact hP, va_K.moved hW.alike hK, hD⟩, hS.F ht⟩) hS.2.2 d_X_init_113
    | succ k ih =>
      intro d0 ls H locs hk hl hP hD hS hF
      refine lv_iload_n hx hb d_X_init_68 rfl (lv_at hl 1 rfl) ?_
      refine lv_iconst (v := nI 1) hx hb d_X_init_69 (by decide) ?_
      refine lv_icmp_lt (tgt := 99) hx hb d_X_init_70 (by decide) (fun h9 => absurd h9 (fun q => absurd ((nI_ltI (by omega) (by omega)).mp q) (by omega))) (fun _ => ?_)
      refine lv_aload_n hx hb d_X_init_73 rfl (lv_at hl 0 rfl) ?_
      refine va_get (D := (dC, dI)) (ci := 0) (v := .ref qd) (C := R_X) (T := F_X) (N := 12) hx hb hts lay_X hown hK hP 0 rfl rfl 0 (by decide) (hts _ m_62) (fun _ h9 => h9) rfl d_X_init_74 ?_
      refine lv_iconst (v := nI 0) hx hb d_X_init_77 (by decide) ?_
      refine lv_iload_n hx hb d_X_init_78 rfl (lv_at hl 1 rfl) ?_
      refine vp_callSi (W.runS (As := [.int (nI 0), .int (nI (k + 1))]) (rest := [.ref qd]) ⟨hx, hb, hml, hown, hts⟩ (c_nodePlace l 0 (k + 1)) (cwS 2 hts g_X_31 rfl rfl rfl (by decide +kernel) ⟨(Nat.le_of_ble_eq_true rfl), (Nat.le_of_ble_eq_true rfl)⟩) preEq rfl rfl hl.1 rfl (lv_room (Nat.le_of_ble_eq_true rfl)) d_X_init_79 ⟨(Nat.le_of_ble_eq_true rfl), (Nat.le_of_ble_eq_true rfl)⟩) (fun r hr0 => ?_)
      subst hr0
      refine lv_aload_n hx hb d_X_init_82 rfl (lv_at hl 0 rfl) ?_
      refine lv_iconst (v := nI 0) hx hb d_X_init_83 (by decide) ?_
      refine lv_iload_n hx hb d_X_init_84 rfl (lv_at hl 1 rfl) ?_
      refine lv_aload_n hx hb d_X_init_85 rfl (lv_at hl 0 rfl) ?_
      refine va_get (D := (dC, dI)) (ci := 0) (v := .int 1) (C := R_X) (T := F_X) (N := 12) hx hb hts lay_X hown hK hP 0 rfl rfl 2 (by decide) (hts _ m_64) (fun _ h9 => h9) rfl d_X_init_86 ?_
      refine vp_callSi (W.runV (C := R_X) (b := h0) (As := [.int (nI 0), .int (nI (k + 1)), .int 1]) (rest := [.int (nI (51 * 0 + 15 + (k + 1))), .ref qd]) ⟨hx, hb, hml, hown, hts⟩ (c_dueNode l dC dI h0 qd qs qv cI cJ _ d0 0 1 0 0 (-1) 0 false 0 (fun _ => 0) (fun _ => 0) 0 0 (k + 1) 1 (by omega) (by omega)) (cwV 3 hts g_X_35 rfl rfl rfl (by decide +kernel) ⟨(Nat.le_of_ble_eq_true rfl), (Nat.le_of_ble_eq_true rfl)⟩) (z_preV (va_recv (q0 := 0) hK hP rfl rfl) hP hK hD) rfl rfl hl.1 rfl (lv_room (Nat.le_of_ble_eq_true rfl)) d_X_init_89 ⟨(Nat.le_of_ble_eq_true rfl), (Nat.le_of_ble_eq_true rfl)⟩) (fun r hr0 => ?_)
      subst hr0
      refine z_iast hx hb hK hP hD hS 1 0 rfl rfl (by omega) (by decide) d_X_init_92 (fun H locs hP hD hS => ?_)
      have hP : va_P (dC, dI) classes (Xw h0 qd qs qv cI cJ (upd d0 (51 * 0 + 15 + (k + 1)) (due d0 0 (k + 1) 1), 0, 1, 0, 0, -1, 0, false, 0, (fun _ => 0), (fun _ => 0), 0)) H := hP
      have hD : va_D A (Xw h0 qd qs qv cI cJ (upd d0 (51 * 0 + 15 + (k + 1)) (due d0 0 (k + 1) 1), 0, 1, 0, 0, -1, 0, false, 0, (fun _ => 0), (fun _ => 0), 0)) := hD
      refine lv_iinc (k := 1) hx hb d_X_init_93 hl rfl (z_dec _) (by decide) rfl (fun ls hl => ?_)
      have hl : lv_has ls 2 [(1, .int (nI k)), (0, .ref h0)] := hl
      refine lv_goto (tgt := 68) hx hb d_X_init_96 (by decide) ?_
      exact ih _ ls _ _ (by omega) (lv_sub hl [1, 0] rfl) hP hD hS hF
  have loop1 : ∀ (j k : Nat) (d0 : Nat → Int32) (ls : Array Slot) (H : Heap) (locs : List Loc), k + j = 16 → lv_has ls 2 [(0, .ref h0), (1, .int (nI k))] → va_P (dC, dI) classes (Xw h0 qd qs qv cI cJ (d0, 0, 1, 0, 0, -1, 0, false, 0, fun _ => 0, fun _ => 0, 0)) H → va_D A (Xw h0 qd qs qv cI cJ (d0, 0, 1, 0, 0, -1, 0, false, 0, fun _ => 0, fun _ => 0, 0)) → va_S A s.heap H locs → ini1 j k d0 = ini1 16 0 (fun _ => 0) → W p l e (headSpec w_X_init ({ frames := 2, cells := 3, slots := 112, locals := 47 })).room s m ([.ref h0].toArray) below meth c H locs 3 112 (MQ below (va_Qv (fun (_ : Nat × Nat × Nat × ClassId × ClassId) => True) (fun (z : Nat × Nat × Nat × ClassId × ClassId) => z_at (dC, dI) classes [(z.2.2.2.1, .int), (z.2.2.2.2, .long)] A (Xw h0 z.1 z.2.1 z.2.2.1 z.2.2.2.1 z.2.2.2.2 iniX)) A) ([.ref h0].toArray) s 3 112 A) (F0 m 38 ls []) := by
    intro j
    induction j with
    | zero =>
      intro k d0 ls H locs hk hl hP hD hS hF
      have hF : d0 = ini1 16 0 (fun _ => 0) := hF
      refine lv_iload_n hx hb d_X_init_38 rfl (lv_at hl 1 rfl) ?_
      refine lv_bipush (v := nI 16) hx hb d_X_init_39 (by decide) ?_
      refine lv_icmp_ge (tgt := 65) hx hb d_X_init_41 (by decide) (fun _ => ?_) (fun h9 => absurd ((nI_leI (by omega) (by omega)).mpr (by omega)) h9)
      refine lv_bipush (v := nI 15) hx hb d_X_init_65 (by decide) ?_
      refine lv_istore_n hx hb d_X_init_67 rfl hl (by decide) rfl (fun ls hl => ?_)
      have hl : lv_has ls 2 [(1, .int (nI 15)), (0, .ref h0)] := hl
      exact loop2 15 _ ls _ _ (by decide) (lv_sub hl [1, 0] rfl) hP hD hS (by rw [iniD, hF])
    | succ j ih =>
      intro k d0 ls H locs hk hl hP hD hS hF
      refine lv_iload_n hx hb d_X_init_38 rfl (lv_at hl 1 rfl) ?_
      refine lv_bipush (v := nI 16) hx hb d_X_init_39 (by decide) ?_
      refine lv_icmp_ge (tgt := 65) hx hb d_X_init_41 (by decide) (fun h9 => absurd h9 (fun q => absurd ((nI_leI (by omega) (by omega)).mp q) (by omega))) (fun _ => ?_)
      refine lv_aload_n hx hb d_X_init_44 rfl (lv_at hl 0 rfl) ?_
      refine va_get (D := (dC, dI)) (ci := 0) (v := .ref qd) (C := R_X) (T := F_X) (N := 12) hx hb hts lay_X hown hK hP 0 rfl rfl 0 (by decide) (hts _ m_62) (fun _ h9 => h9) rfl d_X_init_45 ?_
      refine lv_iload_n hx hb d_X_init_48 rfl (lv_at hl 1 rfl) ?_
      refine lv_iconst (v := (0 : Int32)) hx hb d_X_init_49 (by decide) ?_
      refine lv_iload_n hx hb d_X_init_50 rfl (lv_at hl 1 rfl) ?_
      refine lv_aload_n hx hb d_X_init_51 rfl (lv_at hl 0 rfl) ?_
      refine va_get (D := (dC, dI)) (ci := 0) (v := .int 1) (C := R_X) (T := F_X) (N := 12) hx hb hts lay_X hown hK hP 0 rfl rfl 2 (by decide) (hts _ m_64) (fun _ h9 => h9) rfl d_X_init_52 ?_
      refine vp_callSi (W.runS (As := [.int (0 : Int32), .int (nI k), .int 1]) (rest := [.int (nI k), .ref qd]) ⟨hx, hb, hml, hown, hts⟩ (c_encipher l (0 : Int32) (nI k) 1) (cwS 3 hts g_X_27 rfl rfl rfl (by decide +kernel) ⟨(Nat.le_of_ble_eq_true rfl), (Nat.le_of_ble_eq_true rfl)⟩) preEq rfl rfl hl.1 rfl (lv_room (Nat.le_of_ble_eq_true rfl)) d_X_init_55 ⟨(Nat.le_of_ble_eq_true rfl), (Nat.le_of_ble_eq_true rfl)⟩) (fun r hr0 => ?_)
      subst hr0
      refine z_iast hx hb hK hP hD hS 1 0 rfl rfl (by omega) (by decide) d_X_init_58 (fun H locs hP hD hS => ?_)
      have hP : va_P (dC, dI) classes (Xw h0 qd qs qv cI cJ (upd d0 k (enc (0 : Int32) (nI k) 1), 0, 1, 0, 0, -1, 0, false, 0, (fun _ => 0), (fun _ => 0), 0)) H := hP
      have hD : va_D A (Xw h0 qd qs qv cI cJ (upd d0 k (enc (0 : Int32) (nI k) 1), 0, 1, 0, 0, -1, 0, false, 0, (fun _ => 0), (fun _ => 0), 0)) := hD
      refine lv_iinc (k := 1) hx hb d_X_init_59 hl rfl (z_inc _ 1) (by decide) rfl (fun ls hl => ?_)
      have hl : lv_has ls 2 [(1, .int (nI (k + 1))), (0, .ref h0)] := hl
      refine lv_goto (tgt := 38) hx hb d_X_init_62 (by decide) ?_
      exact ih (k + 1) _ ls _ _ (by omega) (lv_sub hl [1, 0] rfl) hP hD hS hF
  refine lv_aload_n hx hb d_X_init_26 rfl (lv_at hl 0 rfl) ?_
  refine lv_iconst (v := (-1 : Int32)) hx hb d_X_init_27 (by decide) ?_
  refine va_put (D := (dC, dI)) (ci := 0) (v := .int (-1 : Int32)) (ty := .int) (C := R_X) (T := F_X) (N := 12) hx hb hts lay_X t_X t_X_ok n_X hown hK hP hD hS 0 rfl rfl 5 (by decide) (hts _ m_67) (fun _ h9 => h9) rfl (by decide +kernel) rfl rfl (Nat.le_of_ble_eq_true rfl) d_X_init_28 (fun H locs hP hD hS => ?_)
  have hP : va_P (dC, dI) classes (Xw h0 qd qs qv cI cJ ((fun _ => 0), 0, 0, 0, 0, (-1 : Int32), 0, false, 0, (fun _ => 0), (fun _ => 0), 0)) H := hP
  have hD : va_D A (Xw h0 qd qs qv cI cJ ((fun _ => 0), 0, 0, 0, 0, (-1 : Int32), 0, false, 0, (fun _ => 0), (fun _ => 0), 0)) := hD
  refine lv_aload_n hx hb d_X_init_31 rfl (lv_at hl 0 rfl) ?_
  refine lv_iconst (v := (1 : Int32)) hx hb d_X_init_32 (by decide) ?_
  refine va_put (D := (dC, dI)) (ci := 0) (v := .int (1 : Int32)) (ty := .int) (C := R_X) (T := F_X) (N := 12) hx hb hts lay_X t_X t_X_ok n_X hown hK hP hD hS 0 rfl rfl 2 (by decide) (hts _ m_64) (fun _ h9 => h9) rfl (by decide +kernel) rfl rfl (Nat.le_of_ble_eq_true rfl) d_X_init_33 (fun H locs hP hD hS => ?_)
  have hP : va_P (dC, dI) classes (Xw h0 qd qs qv cI cJ ((fun _ => 0), 0, (1 : Int32), 0, 0, (-1 : Int32), 0, false, 0, (fun _ => 0), (fun _ => 0), 0)) H := hP
  have hD : va_D A (Xw h0 qd qs qv cI cJ ((fun _ => 0), 0, (1 : Int32), 0, 0, (-1 : Int32), 0, false, 0, (fun _ => 0), (fun _ => 0), 0)) := hD
  refine lv_iconst (v := nI 0) hx hb d_X_init_36 (by decide) ?_
  refine lv_istore_n hx hb d_X_init_37 rfl hl (by decide) rfl (fun ls hl => ?_)
  have hl : lv_has ls 2 [(1, .int (nI 0)), (0, .ref h0)] := hl
  exact loop1 16 0 _ ls _ _ rfl (lv_sub hl [1, 0] rfl) hP hD hS rfl
end
section
/-! The reference's pure words: its state is a tuple
(disk, half, generation, root, count, power, armed, steps, cut, listed, link, sectorOf, valueOf, has, node). -/
noncomputable def ndA (d : Nat → Int32) (h : Nat) (g : Int32) : Nat → Nat → (Nat → Int32) → (Nat → Int32)
  | 0, _, n => n
  | j + 1, k, n => ndA d h g j (k + 1) (upd n (8 + k) (dg (dg (8 * g + nI k) (d (51 * h + 2 * k))) (d (51 * h + 2 * k + 1))))
noncomputable def ndB : Nat → (Nat → Int32) → (Nat → Int32)
  | 0, n => n
  | k + 1, n => ndB k (upd n (k + 1) (dg (n (2 * (k + 1))) (n (2 * (k + 1) + 1))))
noncomputable def chM (d : Nat → Int32) (h : Nat) : Nat → Nat → Int32 → Int32
  | 0, _, x => x
  | j + 1, k, x => chM d h j (k + 1) (chn x d (51 * h + 31 + 4 * k))
theorem chM_1 (d : Nat → Int32) (h j k : Nat) (x : Int32) : chM d h (j + 1) k x = chM d h j (k + 1) (chn x d (51 * h + 31 + 4 * k)) := by rw [chM]
theorem chM_0 (d : Nat → Int32) (h k : Nat) (x : Int32) : chM d h 0 k x = x := by rw [chM]
theorem chM_g (d : Nat → Int32) (h : Nat) : ∀ (n k : Nat) (x : Int32), chM d h (n + 1) k x = chn (chM d h n k x) d (51 * h + 31 + 4 * (k + n)) := by
  intro n
  induction n with
  | zero => intro k x; rw [chM_1, chM_0, chM_0]; rfl
  | succ n ih =>
    intro k x
    rw [chM_1, ih (k + 1), chM_1 d h n k, show k + 1 + n = k + (n + 1) by omega]
theorem chM_s (d : Nat → Int32) (h n : Nat) (x : Int32) : chM d h (n + 1) 0 x = chn (chM d h n 0 x) d (51 * h + 31 + 4 * n) := by
  rw [chM_g, Nat.zero_add]
theorem isIn_no {N x : Int32} (h1 : ¬ x < 0) (h2 : ¬ N ≤ x) : ¬ isIn N x = 0 := by
  unfold isIn; rw [if_neg h1, if_neg h2]; decide
theorem isIn_lo {N x : Int32} (h1 : x < 0) : isIn N x = 0 := by
  unfold isIn; rw [if_pos h1]
theorem isIn_hi {N x : Int32} (h2 : N ≤ x) : isIn N x = 0 := by
  unfold isIn; by_cases h1 : x < 0
  · rw [if_pos h1]
  · rw [if_neg h1, if_pos h2]
theorem z_gt {x : Int32} {n : Nat} (hn : n + 1 < 2 ^ 31) : nI n < x ↔ nI (n + 1) ≤ x := by
  rw [Int32.lt_iff_toInt_lt, Int32.le_iff_toInt_le, nI_toInt (by omega), nI_toInt hn]; omega
/-- how many records are good -/
noncomputable def gct (d : Nat → Int32) (h : Nat) (g x : Int32) : Nat → Nat → Nat
  | 0, k => k
  | j + 1, k => if jgood d h g (chM d h k 0 x) k then gct d h g x j (k + 1) else k
theorem due_leaf (d : Nat → Int32) (h s : Nat) (g : Int32) : due d h (8 + s) g = dg (dg (8 * g + nI s) (d (51 * h + 2 * s))) (d (51 * h + 2 * s + 1)) := by
  unfold due; rw [if_pos (by omega), show 8 + s - 8 = s by omega]
theorem z_x1 : ∀ k, k < 16 → (k % 2 = 0 → k ^^^ 1 = k + 1) ∧ (¬ k % 2 = 0 → k ^^^ 1 = k - 1) := by decide
/-- what a sector has but for the list; -1: nothing -/
noncomputable def vlkM (d : Nat → Int32) (h : Nat) (g rt : Int32) (s : Nat) : Int64 :=
  if rabove d h g s = rt then (if enc (d (51 * h + 2 * s)) (nI (51 * h + 2 * s)) g < 0 then -1 else vat d g (51 * h + 2 * s)) else -1
noncomputable def vofM (d : Nat → Int32) (h : Nat) (g rt : Int32) (n : Nat) (ls : Nat → Int32) (lv : Nat → Int64) (s : Nat) : Int64 :=
  match lkp ls lv (nI s) n with
  | some v => v
  | none => vlkM d h g rt s
noncomputable def sndM (f : Nat → Int64) : Nat → Nat → Int32 → Int32
  | 0, _, acc => acc
  | j + 1, k, acc => sndM f j (k + 1) (if lg_cmp (f k) 0 < 0 then acc else acc ||| ((1 : Int32) <<< (nI k &&& 31)))
/-- all sectors have something -/
noncomputable def alB (f : Nat → Int64) : Nat → Nat → Bool → Bool
  | 0, _, b => b
  | j + 1, k, b => alB f j (k + 1) (b && !decide (lg_cmp (f k) 0 < 0))
theorem z_hi (v : Int64) : (v >>> ((32 : Int32).toInt64 &&& 63)).toInt32 = hiW v := by
  apply Int32.toBitVec_inj.mp
  have e1 : (((32 : Int32).toInt64 &&& 63).toBitVec.smod 64).toNat = 32 := by decide
  have e2 : (UInt64.mod ((32 : Int32).toInt64.toUInt64 &&& Int64.toUInt64 63) 64).toBitVec.toNat = 32 := by decide
  show BitVec.signExtend 32 (v.toBitVec.sshiftRight (((32 : Int32).toInt64 &&& 63).toBitVec.smod 64).toNat) = BitVec.signExtend 32 (v.toBitVec >>> (UInt64.mod ((32 : Int32).toInt64.toUInt64 &&& Int64.toUInt64 63) 64).toBitVec.toNat)
  rw [e1, e2]
  apply BitVec.eq_of_getLsbD_eq
  intro i hi
  have h64 : ¬ 64 ≤ i := by omega
  rw [BitVec.getLsbD_signExtend, BitVec.getLsbD_signExtend, if_pos (by omega), if_pos (by omega), BitVec.getLsbD_sshiftRight, BitVec.getLsbD_ushiftRight, if_pos (by omega)]
  simp [hi, h64]
abbrev MS : Type := (Nat → Int32) × Nat × Int32 × Int32 × Int32 × Bool × Int32 × Int32 × Bool × Nat × Int32 × (Nat → Int32) × (Nat → Int64) × (Nat → Int64) × (Nat → Int32)
/-- the state in a chain of steps: q says whether it still runs, and (disk, armed, steps) -/
abbrev mS (q : Bool × M3) (hf : Nat) (gn rt ct : Int32) (pw : Bool) (ln : Nat) (lk : Int32) (lq : Nat → Int32) (vq hs : Nat → Int64) (nd : Nat → Int32) : MS :=
  (q.2.1, hf, gn, rt, ct, (q.1 && pw), q.2.2.1, q.2.2.2, (!q.1), cond q.1 ln 0, lk, lq, vq, hs, nd)
abbrev Mw (h0 qd qs qv qh qn : Nat) (cI cJ : ClassId) (u : MS) : va_W :=
  match u with
  | (dk, hf, gn, rt, ct, pw, sl, sm, cu, ln, lk, lq, vq, hs, nd) =>
    [(h0, .inr (1, [.ref qd, .int (nI hf), .int gn, .int rt, .int ct, .int (bI pw), .int sl, .int sm, .int (bI cu), .int (nI ln), .int lk, .ref qs, .ref qv, .ref qh, .ref qn])),
     (qd, .inl (cI, (102, .inl dk))), (qs, .inl (cI, (5, .inl lq))), (qv, .inl (cJ, (5, .inr (.inl vq)))), (qh, .inl (cJ, (8, .inr (.inl hs)))), (qn, .inl (cI, (16, .inl nd)))]
theorem wr1_t {q : Bool × M3} {d : Nat → Int32} {sl sm : Int32} {p : Nat} {w : Int32} (h : st1 q = (true, (d, sl, sm))) : wr1 q p w = (true, (upd d p w, sl, sm)) := by
  obtain ⟨_ | _, d0, sl0, sm0⟩ := q
  · exact absurd (congrArg Prod.fst h) (by simp [st1])
  · by_cases h0 : sl0 = 0
    · rw [st1_0 h0] at h; exact absurd (congrArg Prod.fst h) (by simp)
    · rw [st1_1 h0] at h; rw [wr1_1 h0]; cases h; rfl
theorem wr1_n {q : Bool × M3} {r : M3} {p : Nat} {w : Int32} (h : st1 q = (false, r)) : wr1 q p w = (false, r) := by
  obtain ⟨_ | _, d0, sl0, sm0⟩ := q
  · exact h
  · by_cases h0 : sl0 = 0
    · rw [st1_0 h0] at h; rw [wr1_0 h0]; exact h
    · rw [st1_1 h0] at h; exact absurd (congrArg Prod.fst h) (by simp)
/-- the nodes, from the last to the first -/
noncomputable def msn (nd : Nat → Int32) (h : Nat) : Nat → Bool × M3 → Bool × M3
  | 0, q => q
  | k + 1, q => msn nd h k (wr1 q (51 * h + 15 + (k + 1)) (nd (k + 1)))
noncomputable def mQ2 (f : Nat → Int64) (o : Nat) (g : Int32) (q : Bool × M3) : Bool × M3 := ssF (fun _ k => f k) o g 8 0 (clM o 5 0 q)
noncomputable def mND (f : Nat → Int64) (o : Nat) (g : Int32) (q : Bool × M3) (nd : Nat → Int32) : Nat → Int32 := ndB 7 (ndA (mQ2 f o g q).2.1 o g 8 0 nd)
noncomputable def mQ4 (f : Nat → Int64) (o : Nat) (g : Int32) (q : Bool × M3) (nd : Nat → Int32) : Bool × M3 := msn (mND f o g q nd) o 15 (mQ2 f o g q)
/-- change() from a state with cut = false -/
noncomputable def chgP (dk : Nat → Int32) (hf : Nat) (gn rt ct : Int32) (pw : Bool) (sl sm : Int32) (ln : Nat) (lk : Int32) (lq : Nat → Int32) (vq hs : Nat → Int64) (nd : Nat → Int32) (r : Int32) (u : MS) : Prop :=
  (alB (vofM dk hf gn rt ln lq vq) 8 0 true = false ∧ r = -3 ∧ ∃ hs1 : Nat → Int64, u = (dk, hf, gn, rt, ct, pw, sl, sm, false, ln, lk, lq, vq, hs1, nd)) ∨
  (alB (vofM dk hf gn rt ln lq vq) 8 0 true = true ∧ ∃ (hs1 : Nat → Int64) (nd1 d1 : Nat → Int32) (sl1 sm1 : Int32), nd1 = mND (vofM dk hf gn rt ln lq vq) (1 - hf) (gn + 1) (true, (dk, sl, sm)) nd ∧
    ((st1 (mQ4 (vofM dk hf gn rt ln lq vq) (1 - hf) (gn + 1) (true, (dk, sl, sm)) nd) = (true, (d1, sl1, sm1)) ∧ r = 0 ∧ u = (d1, 1 - hf, gn + 1, nd1 1, 0, pw, sl1, sm1, false, 0, dg (dg 19088743 (nd1 1)) (gn + 1), lq, vq, hs1, nd1)) ∨
     (st1 (mQ4 (vofM dk hf gn rt ln lq vq) (1 - hf) (gn + 1) (true, (dk, sl, sm)) nd) = (false, (d1, sl1, sm1)) ∧ r = -4 ∧ ∃ lk1 : Int32, u = (d1, hf, gn, rt, ct, false, sl1, sm1, true, 0, lk1, lq, vq, hs1, nd1))))
/-- a record's four steps -/
noncomputable def srM (q : Bool × M3) (p : Nat) (x : Int32) (v : Int64) (g lk : Int32) : Bool × M3 :=
  wr1 (wr1 (wr1 (wr1 q p (enc x (nI p) g)) (p + 1) (enc (hiW v) (nI (p + 1)) g)) (p + 2) (enc (loW v) (nI (p + 2)) g)) (p + 3) (dg (dg (dg lk (enc x (nI p) g)) (enc (hiW v) (nI (p + 1)) g)) (enc (loW v) (nI (p + 2)) g) ||| 1)
noncomputable def srP (dk : Nat → Int32) (hf : Nat) (gn rt ct : Int32) (pw : Bool) (sl sm : Int32) (ln : Nat) (lk : Int32) (lq : Nat → Int32) (vq hs : Nat → Int64) (nd : Nat → Int32) (x : Int32) (v : Int64) (r : Int32) (u : MS) : Prop :=
  ∃ (d1 : Nat → Int32) (sl1 sm1 : Int32),
    (srM (true, (dk, sl, sm)) (51 * hf + 31 + 4 * ln) x v gn lk = (true, (d1, sl1, sm1)) ∧ r = nI (ln + 1) ∧ u = (d1, hf, gn, rt, ct, pw, sl1, sm1, false, ln + 1, dg (dg (dg lk (enc x (nI (51 * hf + 31 + 4 * ln)) gn)) (enc (hiW v) (nI (51 * hf + 31 + 4 * ln + 1)) gn)) (enc (loW v) (nI (51 * hf + 31 + 4 * ln + 2)) gn), upd lq ln x, vp_updL vq ln v, hs, nd)) ∨
    (srM (true, (dk, sl, sm)) (51 * hf + 31 + 4 * ln) x v gn lk = (false, (d1, sl1, sm1)) ∧ r = -4 ∧ u = (d1, hf, gn, rt, ct, false, sl1, sm1, true, 0, lk, lq, vq, hs, nd))
noncomputable def srQ (u0 : MS) (x : Int32) (v : Int64) (r : Int32) (u : MS) : Prop :=
  match u0 with
  | (dk, hf, gn, rt, ct, pw, sl, sm, _, ln, lk, lq, vq, hs, nd) => srP dk hf gn rt ct pw sl sm ln lk lq vq hs nd x v r u
theorem z_le7 {x : Int32} (h : x ≤ 7) : ¬ (8 : Int32) ≤ x := fun q => by
  rw [Int32.le_iff_toInt_le] at h q
  have e7 : (7 : Int32).toInt = 7 := by decide
  have e8 : (8 : Int32).toInt = 8 := by decide
  omega
theorem z_gt7 {x : Int32} (h : ¬ (7 : Int32) < x) : ¬ (8 : Int32) ≤ x := fun q => h ((z_gt (n := 7) (by decide)).mpr q)
theorem z_pt2 {f : Nat → Int32} {lq : Nat → Int32} {k : Nat} {vq u : Nat → Int64} (h : ∀ i, i < k → lq i = f i ∧ vq i = u i) : ∀ i, i < k + 1 → upd lq k (f k) i = f i ∧ vp_updL vq k (u k) i = u i := by
  intro i hi
  by_cases e : i = k
  · subst e; exact ⟨pk_us, pk_uLs⟩
  · rw [pk_un e, pk_uLn e]; exact h i (by omega)
theorem z_hh {f hs : Nat → Int64} {k : Nat} (h : ∀ i, i < k → hs i = f i) : ∀ i, i < k + 1 → vp_updL hs k (f k) i = f i := by
  intro i hi
  by_cases e : i = k
  · subst e; exact pk_uLs
  · rw [pk_uLn e]; exact h i (by omega)
/-- the reference's new object -/
noncomputable def inM1 : Nat → Nat → (Nat → Int32) → (Nat → Int32)
  | 0, _, d => d
  | j + 1, k, d => inM1 j (k + 1) (upd d k (dg (dg 19088743 1) (nI k)))
noncomputable def inM2 (nd : Nat → Int32) : Nat → Nat → (Nat → Int32) → (Nat → Int32)
  | 0, _, d => d
  | j + 1, k, d => inM2 nd j (k + 1) (upd d (15 + k) (nd k))
noncomputable def iniN : Nat → Int32 := ndB 7 (ndA (inM1 16 0 (fun _ => 0)) 0 1 8 0 (fun _ => 0))
noncomputable def iniMD : Nat → Int32 := inM2 iniN 15 1 (inM1 16 0 (fun _ => 0))
noncomputable def iniM (hs : Nat → Int64) : MS := (iniMD, 0, 1, iniN 1, 0, false, -1, 0, false, 0, 0, fun _ => 0, fun _ => 0, hs, iniN)
end
section
set_option maxHeartbeats 4000000 in
set_option maxRecDepth 100000 in
theorem mc_digest (l : Launch) (a b : Int32) : Met l y_M_digest w_M_digest ({ frames := 0, cells := 0, slots := 0, locals := 0 }) (fun v _ => v = [.int a, .int b].toArray) (vp_Si (fun r => r = dg a b)) 0 0 (fun _ => False) := by
  refine Met.ofW (cc := b_M_digest) (maxL := 4) (ret := (some .int)) (by decide) rfl ?_
  intro p e s m args below meth c s₁ B hml hv
  obtain rfl := hv
  have hx := B.exec
  have hb := B.bytes
  have hr := B.returns
  have hts := fun (w : Cond) (h : w ∈ lw_U) => atoms_spec (ws := w_M_digest) B.pre w (List.mem_cons_of_mem _ h)
  have hown : s.vm.findClass R_M = some m.cls := findClass_of_methodNamed B.named
  have hlocks := B.notSynchronized
  have hl := lv_entry ([.int a, .int b]) (n := 4) (Nat.le_of_ble_eq_true rfl)
  rw [lg_entry_eq]
  generalize (lg_sl ([.int a, .int b]) ++ List.replicate (4 - (lg_sl ([.int a, .int b])).length) Slot.unset).toArray = ls at hl ⊢
  have hl : lv_has ls 4 [(0, .int a), (1, .int b)] := hl
  refine lv_iload_n hx hb d_M_digest_0 rfl (lv_at hl 1 rfl) ?_
  refine lv_bipush (v := (9 : Int32)) hx hb d_M_digest_1 (by decide) ?_
  refine lv_ishl hx hb d_M_digest_3 ?_
  refine lv_iload_n hx hb d_M_digest_4 rfl (lv_at hl 1 rfl) ?_
  refine lv_bipush (v := (23 : Int32)) hx hb d_M_digest_5 (by decide) ?_
  refine lv_iushr hx hb d_M_digest_7 rfl ?_
  refine lv_ior hx hb d_M_digest_8 ?_
  refine lv_istore_n hx hb d_M_digest_9 rfl hl (by decide) rfl (fun ls hl => ?_)
  have hl : lv_has ls 4 [(2, .int ((b <<< ((9 : Int32) &&& 31)) ||| ((b.toUInt32 >>> ((23 : Int32).toUInt32 &&& Int32.toUInt32 31)).toInt32))), (0, .int a), (1, .int b)] := hl
  refine lv_iload_n hx hb d_M_digest_10 rfl (lv_at hl 1 rfl) ?_
  refine lv_ldc (v := 668265263) hx hb hown (hts _ m_260) d_M_digest_11 ?_
  refine lv_iadd hx hb d_M_digest_13 ?_
  refine lv_iload_n hx hb d_M_digest_14 rfl (lv_at hl 0 rfl) ?_
  refine lv_ixor hx hb d_M_digest_15 ?_
  refine lv_ldc (v := -1640531527) hx hb hown (hts _ m_261) d_M_digest_16 ?_
  refine lv_imul hx hb d_M_digest_18 ?_
  refine lv_istore_n hx hb d_M_digest_19 rfl hl (by decide) rfl (fun ls hl => ?_)
  have hl : lv_has ls 4 [(3, .int (((a + (668265263 : Int32)) ^^^ ((b <<< ((9 : Int32) &&& 31)) ||| ((b.toUInt32 >>> ((23 : Int32).toUInt32 &&& Int32.toUInt32 31)).toInt32))) * (-1640531527 : Int32))), (2, .int ((b <<< ((9 : Int32) &&& 31)) ||| ((b.toUInt32 >>> ((23 : Int32).toUInt32 &&& Int32.toUInt32 31)).toInt32))), (0, .int a), (1, .int b)] := hl
  refine lv_iload_n hx hb d_M_digest_20 rfl (lv_at hl 0 rfl) ?_
  refine lv_iload_n hx hb d_M_digest_21 rfl (lv_at hl 0 rfl) ?_
  refine lv_bipush (v := (15 : Int32)) hx hb d_M_digest_22 (by decide) ?_
  refine lv_iushr hx hb d_M_digest_24 rfl ?_
  refine lv_ixor hx hb d_M_digest_25 ?_
  exact W.iret hx hb hr (fun t ht hW => ⟨_, rfl, (by rw [dg_eq]; rfl), ht⟩) (fun q h => by cases h) d_M_digest_26
set_option maxHeartbeats 4000000 in
set_option maxRecDepth 100000 in
theorem mc_key (l : Launch) (g0 p0 : Int32) : Met l y_M_key w_M_key ({ frames := 1, cells := 0, slots := 0, locals := 23 }) (fun v _ => v = [.int g0, .int p0].toArray) (vp_Si (fun r => r = dg (dg 19088743 g0) p0)) 0 0 (fun _ => False) := by
  refine Met.ofW (cc := b_M_key) (maxL := 2) (ret := (some .int)) (by decide) rfl ?_
  intro p e s m args below meth c s₁ B hml hv
  obtain rfl := hv
  have hx := B.exec
  have hb := B.bytes
  have hr := B.returns
  have hts := fun (w : Cond) (h : w ∈ lw_U) => atoms_spec (ws := w_M_key) B.pre w (List.mem_cons_of_mem _ h)
  have hown : s.vm.findClass R_M = some m.cls := findClass_of_methodNamed B.named
  have hlocks := B.notSynchronized
  have hl := lv_entry ([.int g0, .int p0]) (n := 2) (Nat.le_of_ble_eq_true rfl)
  rw [lg_entry_eq]
  generalize (lg_sl ([.int g0, .int p0]) ++ List.replicate (2 - (lg_sl ([.int g0, .int p0])).length) Slot.unset).toArray = ls at hl ⊢
  have hl : lv_has ls 2 [(0, .int g0), (1, .int p0)] := hl
  refine lv_ldc (v := 19088743) hx hb hown (hts _ m_256) d_M_key_0 ?_
  refine lv_iload_n hx hb d_M_key_2 rfl (lv_at hl 0 rfl) ?_
  refine vp_callSi (W.runS (As := [.int (19088743 : Int32), .int g0]) (rest := []) ⟨hx, hb, hml, hown, hts⟩ (mc_digest l (19088743 : Int32) g0) (cwS 2 hts g_M_47 rfl rfl rfl (by decide +kernel) ⟨(Nat.le_of_ble_eq_true rfl), (Nat.le_of_ble_eq_true rfl)⟩) preEq rfl rfl hl.1 rfl (lv_room (Nat.le_of_ble_eq_true rfl)) d_M_key_3 ⟨(Nat.le_of_ble_eq_true rfl), (Nat.le_of_ble_eq_true rfl)⟩) (fun r hr0 => ?_)
  subst hr0
  refine lv_iload_n hx hb d_M_key_6 rfl (lv_at hl 1 rfl) ?_
  refine vp_callSi (W.runS (As := [.int (dg (19088743 : Int32) g0), .int p0]) (rest := []) ⟨hx, hb, hml, hown, hts⟩ (mc_digest l (dg (19088743 : Int32) g0) p0) (cwS 2 hts g_M_47 rfl rfl rfl (by decide +kernel) ⟨(Nat.le_of_ble_eq_true rfl), (Nat.le_of_ble_eq_true rfl)⟩) preEq rfl rfl hl.1 rfl (lv_room (Nat.le_of_ble_eq_true rfl)) d_M_key_7 ⟨(Nat.le_of_ble_eq_true rfl), (Nat.le_of_ble_eq_true rfl)⟩) (fun r hr0 => ?_)
  subst hr0
  exact W.iret hx hb hr (fun t ht hW => ⟨_, rfl, rfl, ht⟩) (fun q h => by cases h) d_M_key_10
set_option maxHeartbeats 4000000 in
set_option maxRecDepth 100000 in
theorem mc_joined (l : Launch) (a b : Int32) : Met l y_M_joined w_M_joined ({ frames := 0, cells := 0, slots := 0, locals := 0 }) (fun v _ => v = [.int a, .int b].toArray) (vp_Sl (fun r => r = joinW a b)) 0 0 (fun _ => False) := by
  refine Met.ofW (cc := b_M_joined) (maxL := 2) (ret := (some .long)) (by decide) rfl ?_
  intro p e s m args below meth c s₁ B hml hv
  obtain rfl := hv
  have hx := B.exec
  have hb := B.bytes
  have hr := B.returns
  have hts := fun (w : Cond) (h : w ∈ lw_U) => atoms_spec (ws := w_M_joined) B.pre w (List.mem_cons_of_mem _ h)
  have hown : s.vm.findClass R_M = some m.cls := findClass_of_methodNamed B.named
  have hlocks := B.notSynchronized
  have hl := lv_entry ([.int a, .int b]) (n := 2) (Nat.le_of_ble_eq_true rfl)
  rw [lg_entry_eq]
  generalize (lg_sl ([.int a, .int b]) ++ List.replicate (2 - (lg_sl ([.int a, .int b])).length) Slot.unset).toArray = ls at hl ⊢
  have hl : lv_has ls 2 [(0, .int a), (1, .int b)] := hl
  refine lv_iload_n hx hb d_M_joined_0 rfl (lv_at hl 0 rfl) ?_
  refine lv_i2l hx hb d_M_joined_1 rfl ?_
  refine lv_bipush (v := (32 : Int32)) hx hb d_M_joined_2 (by decide) ?_
  refine lv_lshl hx hb d_M_joined_4 rfl ?_
  refine lv_iload_n hx hb d_M_joined_5 rfl (lv_at hl 1 rfl) ?_
  refine lv_i2l hx hb d_M_joined_6 rfl ?_
  refine lv_ldc2 (v := 4294967295) hx hb hown (hts _ m_351) d_M_joined_7 ?_
  refine lv_land hx hb d_M_joined_10 ?_
  refine lv_lor hx hb d_M_joined_11 ?_
  exact W.lret hx hb hr (fun t ht hW => ⟨_, rfl, rfl, ht⟩) (fun q h => by cases h) d_M_joined_12
set_option maxHeartbeats 4000000 in
set_option maxRecDepth 100000 in
theorem mc_place (l : Launch) (x : Int32) : Met l y_M_place w_M_place ({ frames := 0, cells := 0, slots := 0, locals := 0 }) (fun v _ => v = [.int x].toArray) (vp_Si (fun r => r = isIn 102 x)) 0 0 (fun _ => False) := by
  refine Met.ofW (cc := b_M_place) (maxL := 1) (ret := (some .boolean)) (by decide) rfl ?_
  intro p e s m args below meth c s₁ B hml hv
  obtain rfl := hv
  have hx := B.exec
  have hb := B.bytes
  have hr := B.returns
  have hts := fun (w : Cond) (h : w ∈ lw_U) => atoms_spec (ws := w_M_place) B.pre w (List.mem_cons_of_mem _ h)
  have hown : s.vm.findClass R_M = some m.cls := findClass_of_methodNamed B.named
  have hlocks := B.notSynchronized
  have hl := lv_entry ([.int x]) (n := 1) (Nat.le_of_ble_eq_true rfl)
  rw [lg_entry_eq]
  generalize (lg_sl ([.int x]) ++ List.replicate (1 - (lg_sl ([.int x])).length) Slot.unset).toArray = ls at hl ⊢
  have hl : lv_has ls 1 [(0, .int x)] := hl
  refine lv_iload_n hx hb d_M_place_0 rfl (lv_at hl 0 rfl) ?_
  refine lv_if_lt (tgt := 14) hx hb d_M_place_1 (by decide) (fun h1 => ?_) (fun h1 => ?_)
  · refine lv_iconst (v := (0 : Int32)) hx hb d_M_place_14 (by decide) ?_
    exact W.zret hx hb hr rfl (fun t ht hW => ⟨_, rfl, (by simp only [isIn]; simp [*]), ht⟩) (fun q h => by cases h) d_M_place_15
  · refine lv_iload_n hx hb d_M_place_4 rfl (lv_at hl 0 rfl) ?_
    refine lv_bipush (v := (101 : Int32)) hx hb d_M_place_5 (by decide) ?_
    refine lv_icmp_gt (tgt := 14) hx hb d_M_place_7 (by decide) (fun h2 => ?_) (fun h2 => ?_)
    · have h2 : (102 : Int32) ≤ x := (z_gt (n := 101) (by decide)).mp h2
      refine lv_iconst (v := (0 : Int32)) hx hb d_M_place_14 (by decide) ?_
      exact W.zret hx hb hr rfl (fun t ht hW => ⟨_, rfl, (by simp only [isIn]; simp [*]), ht⟩) (fun q h => by cases h) d_M_place_15
    · have h2 : ¬ (102 : Int32) ≤ x := fun q => h2 ((z_gt (n := 101) (by decide)).mpr q)
      refine lv_iconst (v := (1 : Int32)) hx hb d_M_place_10 (by decide) ?_
      refine lv_goto (tgt := 15) hx hb d_M_place_11 (by decide) ?_
      exact W.zret hx hb hr rfl (fun t ht hW => ⟨_, rfl, (by simp only [isIn]; simp [*]), ht⟩) (fun q h => by cases h) d_M_place_15
end
section
set_option maxHeartbeats 4000000 in
set_option maxRecDepth 100000 in
theorem mc_clear (l : Launch) (dC : Nat → ClassId) (dI : Nat → Nat → Nat) (h0 qd qs qv qh qn : Nat) (cI cJ : ClassId) (sz : Nat) (dk : Nat → Int32) (hf : Nat) (gn : Int32) (rt : Int32) (ct : Int32) (pw : Bool) (sl : Int32) (sm : Int32) (cu : Bool) (ln : Nat) (lk : Int32) (lq : Nat → Int32) (vq : Nat → Int64) (hs : Nat → Int64) (nd : Nat → Int32) (pp : Nat) (g0 : Int32) (h_p : pp < 102) : Met l y_M_clear w_M_clear ({ frames := 2, cells := 0, slots := 0, locals := 44 }) (va_Pc [.ref h0, .int (nI pp), .int g0] (z_pre (dC, dI) classes [(cI, .int), (cJ, .long)] (Mw h0 qd qs qv qh qn cI cJ (dk, hf, gn, rt, ct, pw, sl, sm, cu, ln, lk, lq, vq, hs, nd)) sz)) (vp_Si (fun r => r = enc (dk pp) (nI pp) g0)) 0 0 (fun _ => False) := by
  refine Met.ofW (cc := b_M_clear) (maxL := 3) (ret := (some .int)) (by decide) rfl ?_
  intro p e s m args below meth c s₁ B hml hv
  obtain ⟨rfl, hsz, hP, hK, hD0⟩ := hv
  have hx := B.exec
  have hb := B.bytes
  have hr := B.returns
  have hts := fun (w : Cond) (h : w ∈ lw_U) => atoms_spec (ws := w_M_clear) B.pre w (List.mem_cons_of_mem _ h)
  have hown : s.vm.findClass R_M = some m.cls := findClass_of_methodNamed B.named
  have hlocks := B.notSynchronized
  subst hsz
  have hD := hD0
  have hl := lv_entry ([.ref h0, .int (nI pp), .int g0]) (n := 3) (Nat.le_of_ble_eq_true rfl)
  rw [lg_entry_eq]
  generalize (lg_sl ([.ref h0, .int (nI pp), .int g0]) ++ List.replicate (3 - (lg_sl ([.ref h0, .int (nI pp), .int g0])).length) Slot.unset).toArray = ls at hl ⊢
  have hl : lv_has ls 3 [(0, .ref h0), (1, .int (nI pp)), (2, .int g0)] := hl
  refine lv_aload_n hx hb d_M_clear_0 rfl (lv_at hl 0 rfl) ?_
  refine va_get (D := (dC, dI)) (ci := 1) (v := .ref qd) (C := R_M) (T := F_M) (N := 15) hx hb hts lay_M hown hK hP 0 rfl rfl 0 (by decide) (hts _ m_270) (fun _ h9 => h9) rfl d_M_clear_1 ?_
  refine lv_iload_n hx hb d_M_clear_4 rfl (lv_at hl 1 rfl) ?_
  refine z_iald hx hb hK hP 1 0 rfl rfl (by omega) (by decide) d_M_clear_5 ?_
  refine lv_iload_n hx hb d_M_clear_6 rfl (lv_at hl 2 rfl) ?_
  refine lv_iload_n hx hb d_M_clear_7 rfl (lv_at hl 1 rfl) ?_
  refine vp_callSi (W.runS (As := [.int g0, .int (nI pp)]) (rest := [.int (dk pp)]) ⟨hx, hb, hml, hown, hts⟩ (mc_key l g0 (nI pp)) (cwS 2 hts g_M_33 rfl rfl rfl (by decide +kernel) ⟨(Nat.le_of_ble_eq_true rfl), (Nat.le_of_ble_eq_true rfl)⟩) preEq rfl rfl hl.1 rfl (lv_room (Nat.le_of_ble_eq_true rfl)) d_M_clear_8 ⟨(Nat.le_of_ble_eq_true rfl), (Nat.le_of_ble_eq_true rfl)⟩) (fun r hr0 => ?_)
  subst hr0
  refine lv_ixor hx hb d_M_clear_11 ?_
  exact W.iret hx hb hr (fun t ht hW => ⟨_, rfl, rfl, ht⟩) (fun q h => by cases h) d_M_clear_12
set_option maxHeartbeats 4000000 in
set_option maxRecDepth 100000 in
theorem mc_leaf (l : Launch) (dC : Nat → ClassId) (dI : Nat → Nat → Nat) (h0 qd qs qv qh qn : Nat) (cI cJ : ClassId) (sz : Nat) (dk : Nat → Int32) (hf : Nat) (gn : Int32) (rt : Int32) (ct : Int32) (pw : Bool) (sl : Int32) (sm : Int32) (cu : Bool) (ln : Nat) (lk : Int32) (lq : Nat → Int32) (vq : Nat → Int64) (hs : Nat → Int64) (nd : Nat → Int32) (s0 g0 c0 d0 : Int32)  : Met l y_M_leaf w_M_leaf ({ frames := 1, cells := 0, slots := 0, locals := 23 }) (va_Pc [.ref h0, .int s0, .int g0, .int c0, .int d0] (z_pre (dC, dI) classes [(cI, .int), (cJ, .long)] (Mw h0 qd qs qv qh qn cI cJ (dk, hf, gn, rt, ct, pw, sl, sm, cu, ln, lk, lq, vq, hs, nd)) sz)) (vp_Si (fun r => r = dg (dg (8 * g0 + s0) c0) d0)) 0 0 (fun _ => False) := by
  refine Met.ofW (cc := b_M_leaf) (maxL := 6) (ret := (some .int)) (by decide) rfl ?_
  intro p e s m args below meth c s₁ B hml hv
  obtain ⟨rfl, hsz, hP, hK, hD0⟩ := hv
  have hx := B.exec
  have hb := B.bytes
  have hr := B.returns
  have hts := fun (w : Cond) (h : w ∈ lw_U) => atoms_spec (ws := w_M_leaf) B.pre w (List.mem_cons_of_mem _ h)
  have hown : s.vm.findClass R_M = some m.cls := findClass_of_methodNamed B.named
  have hlocks := B.notSynchronized
  subst hsz
  have hD := hD0
  have hl := lv_entry ([.ref h0, .int s0, .int g0, .int c0, .int d0]) (n := 6) (Nat.le_of_ble_eq_true rfl)
  rw [lg_entry_eq]
  generalize (lg_sl ([.ref h0, .int s0, .int g0, .int c0, .int d0]) ++ List.replicate (6 - (lg_sl ([.ref h0, .int s0, .int g0, .int c0, .int d0])).length) Slot.unset).toArray = ls at hl ⊢
  have hl : lv_has ls 6 [(0, .ref h0), (1, .int s0), (2, .int g0), (3, .int c0), (4, .int d0)] := hl
  refine lv_bipush (v := (8 : Int32)) hx hb d_M_leaf_0 (by decide) ?_
  refine lv_iload_n hx hb d_M_leaf_2 rfl (lv_at hl 2 rfl) ?_
  refine lv_imul hx hb d_M_leaf_3 ?_
  refine lv_iload_n hx hb d_M_leaf_4 rfl (lv_at hl 1 rfl) ?_
  refine lv_iadd hx hb d_M_leaf_5 ?_
  refine lv_iload_n hx hb d_M_leaf_6 rfl (lv_at hl 3 rfl) ?_
  refine vp_callSi (W.runS (As := [.int (((8 : Int32) * g0) + s0), .int c0]) (rest := []) ⟨hx, hb, hml, hown, hts⟩ (mc_digest l (((8 : Int32) * g0) + s0) c0) (cwS 2 hts g_M_47 rfl rfl rfl (by decide +kernel) ⟨(Nat.le_of_ble_eq_true rfl), (Nat.le_of_ble_eq_true rfl)⟩) preEq rfl rfl hl.1 rfl (lv_room (Nat.le_of_ble_eq_true rfl)) d_M_leaf_7 ⟨(Nat.le_of_ble_eq_true rfl), (Nat.le_of_ble_eq_true rfl)⟩) (fun r hr0 => ?_)
  subst hr0
  refine lv_istore hx hb d_M_leaf_10 hl (by decide) rfl (fun ls hl => ?_)
  have hl : lv_has ls 6 [(5, .int (dg (((8 : Int32) * g0) + s0) c0)), (0, .ref h0), (1, .int s0), (2, .int g0), (3, .int c0), (4, .int d0)] := hl
  refine lv_iload hx hb d_M_leaf_12 (lv_at hl 0 rfl) ?_
  refine lv_iload hx hb d_M_leaf_14 (lv_at hl 5 rfl) ?_
  refine vp_callSi (W.runS (As := [.int (dg (((8 : Int32) * g0) + s0) c0), .int d0]) (rest := []) ⟨hx, hb, hml, hown, hts⟩ (mc_digest l (dg (((8 : Int32) * g0) + s0) c0) d0) (cwS 2 hts g_M_47 rfl rfl rfl (by decide +kernel) ⟨(Nat.le_of_ble_eq_true rfl), (Nat.le_of_ble_eq_true rfl)⟩) preEq rfl rfl hl.1 rfl (lv_room (Nat.le_of_ble_eq_true rfl)) d_M_leaf_16 ⟨(Nat.le_of_ble_eq_true rfl), (Nat.le_of_ble_eq_true rfl)⟩) (fun r hr0 => ?_)
  subst hr0
  exact W.iret hx hb hr (fun t ht hW => ⟨_, rfl, rfl, ht⟩) (fun q h => by cases h) d_M_leaf_19
set_option maxHeartbeats 4000000 in
set_option maxRecDepth 100000 in
theorem mc_entryAt (l : Launch) (dC : Nat → ClassId) (dI : Nat → Nat → Nat) (h0 qd qs qv qh qn : Nat) (cI cJ : ClassId) (sz : Nat) (dk : Nat → Int32) (hf : Nat) (gn : Int32) (rt : Int32) (ct : Int32) (pw : Bool) (sl : Int32) (sm : Int32) (cu : Bool) (ln : Nat) (lk : Int32) (lq : Nat → Int32) (vq : Nat → Int64) (hs : Nat → Int64) (nd : Nat → Int32) (kk : Nat)  : Met l y_M_entryAt w_M_entryAt ({ frames := 0, cells := 0, slots := 0, locals := 0 }) (va_Pc [.ref h0, .int (nI kk)] (z_pre (dC, dI) classes [(cI, .int), (cJ, .long)] (Mw h0 qd qs qv qh qn cI cJ (dk, hf, gn, rt, ct, pw, sl, sm, cu, ln, lk, lq, vq, hs, nd)) sz)) (vp_Si (fun r => r = nI (51 * hf + 31 + 4 * kk))) 0 0 (fun _ => False) := by
  refine Met.ofW (cc := b_M_entryAt) (maxL := 2) (ret := (some .int)) (by decide) rfl ?_
  intro p e s m args below meth c s₁ B hml hv
  obtain ⟨rfl, hsz, hP, hK, hD0⟩ := hv
  have hx := B.exec
  have hb := B.bytes
  have hr := B.returns
  have hts := fun (w : Cond) (h : w ∈ lw_U) => atoms_spec (ws := w_M_entryAt) B.pre w (List.mem_cons_of_mem _ h)
  have hown : s.vm.findClass R_M = some m.cls := findClass_of_methodNamed B.named
  have hlocks := B.notSynchronized
  subst hsz
  have hD := hD0
  have hl := lv_entry ([.ref h0, .int (nI kk)]) (n := 2) (Nat.le_of_ble_eq_true rfl)
  rw [lg_entry_eq]
  generalize (lg_sl ([.ref h0, .int (nI kk)]) ++ List.replicate (2 - (lg_sl ([.ref h0, .int (nI kk)])).length) Slot.unset).toArray = ls at hl ⊢
  have hl : lv_has ls 2 [(0, .ref h0), (1, .int (nI kk))] := hl
  refine lv_bipush (v := nI 51) hx hb d_M_entryAt_0 (by decide) ?_
  refine lv_aload_n hx hb d_M_entryAt_2 rfl (lv_at hl 0 rfl) ?_
  refine va_get (D := (dC, dI)) (ci := 1) (v := .int (nI hf)) (C := R_M) (T := F_M) (N := 15) hx hb hts lay_M hown hK hP 0 rfl rfl 1 (by decide) (hts _ m_271) (fun _ h9 => h9) rfl d_M_entryAt_3 ?_
  refine lv_imul hx hb d_M_entryAt_6 ?_
  refine z_top (pk_mul _ _) ?_
  refine lv_bipush (v := nI 31) hx hb d_M_entryAt_7 (by decide) ?_
  refine lv_iadd hx hb d_M_entryAt_9 ?_
  refine z_top (nI_add _ _) ?_
  refine lv_iconst (v := nI 4) hx hb d_M_entryAt_10 (by decide) ?_
  refine lv_iload_n hx hb d_M_entryAt_11 rfl (lv_at hl 1 rfl) ?_
  refine lv_imul hx hb d_M_entryAt_12 ?_
  refine z_top (pk_mul _ _) ?_
  refine lv_iadd hx hb d_M_entryAt_13 ?_
  refine z_top (nI_add _ _) ?_
  exact W.iret hx hb hr (fun t ht hW => ⟨_, rfl, rfl, ht⟩) (fun q h => by cases h) d_M_entryAt_14
set_option maxHeartbeats 4000000 in
set_option maxRecDepth 100000 in
theorem mc_chain (l : Launch) (dC : Nat → ClassId) (dI : Nat → Nat → Nat) (h0 qd qs qv qh qn : Nat) (cI cJ : ClassId) (sz : Nat) (dk : Nat → Int32) (hf : Nat) (gn : Int32) (rt : Int32) (ct : Int32) (pw : Bool) (sl : Int32) (sm : Int32) (cu : Bool) (ln : Nat) (lk : Int32) (lq : Nat → Int32) (vq : Nat → Int64) (hs : Nat → Int64) (nd : Nat → Int32) (nn : Nat) (h_f : hf < 2) (h_n : nn ≤ 5) : Met l y_M_chain w_M_chain ({ frames := 1, cells := 0, slots := 0, locals := 23 }) (va_Pc [.ref h0, .int (nI nn)] (z_pre (dC, dI) classes [(cI, .int), (cJ, .long)] (Mw h0 qd qs qv qh qn cI cJ (dk, hf, gn, rt, ct, pw, sl, sm, cu, ln, lk, lq, vq, hs, nd)) sz)) (vp_Si (fun r => r = chM dk hf nn 0 (dg (dg 19088743 rt) gn))) 0 0 (fun _ => False) := by
  refine Met.ofW (cc := b_M_chain) (maxL := 5) (ret := (some .int)) (by decide) rfl ?_
  intro p e s m args below meth c s₁ B hml hv
  obtain ⟨rfl, hsz, hP, hK, hD0⟩ := hv
  have hx := B.exec
  have hb := B.bytes
  have hr := B.returns
  have hts := fun (w : Cond) (h : w ∈ lw_U) => atoms_spec (ws := w_M_chain) B.pre w (List.mem_cons_of_mem _ h)
  have hown : s.vm.findClass R_M = some m.cls := findClass_of_methodNamed B.named
  have hlocks := B.notSynchronized
  subst hsz
  have hD := hD0
  have hl := lv_entry ([.ref h0, .int (nI nn)]) (n := 5) (Nat.le_of_ble_eq_true rfl)
  rw [lg_entry_eq]
  generalize (lg_sl ([.ref h0, .int (nI nn)]) ++ List.replicate (5 - (lg_sl ([.ref h0, .int (nI nn)])).length) Slot.unset).toArray = ls at hl ⊢
  have hl : lv_has ls 5 [(0, .ref h0), (1, .int (nI nn))] := hl
  have loop : ∀ (j k : Nat) (x : Int32) (ls : Array Slot), k + j = nn → lv_has ls 5 [(0, .ref h0), (1, .int (nI nn)), (2, .int x), (3, .int (nI k))] → chM dk hf j k x = chM dk hf nn 0 (dg (dg 19088743 rt) gn) → W p l e (headSpec w_M_chain ({ frames := 1, cells := 0, slots := 0, locals := 23 })).room s m ([.ref h0, .int (nI nn)].toArray) below meth c s.heap [] 0 0 (MQ below (vp_Si (fun r => r = chM dk hf nn 0 (dg (dg 19088743 rt) gn))) ([.ref h0, .int (nI nn)].toArray) s 0 0 (fun _ => False)) (F0 m 19 ls []) := by
    intro j
    induction j with
    | zero =>
      intro k x ls hk hl hF
      refine lv_iload_n hx hb d_M_chain_19 rfl (lv_at hl 3 rfl) ?_
      refine lv_iload_n hx hb d_M_chain_20 rfl (lv_at hl 1 rfl) ?_
      refine lv_icmp_ge (tgt := 77) hx hb d_M_chain_21 (by decide) (fun _ => ?_) (fun h9 => absurd ((nI_leI (by omega) (by omega)).mpr (by omega)) h9)
      refine lv_iload_n hx hb d_M_chain_77 rfl (lv_at hl 2 rfl) ?_
      exact W.iret hx hb hr (fun t ht hW => ⟨_, rfl, hF, ht⟩) (fun q h => by cases h) d_M_chain_78
    | succ j ih =>
      intro k x ls hk hl hF
      refine lv_iload_n hx hb d_M_chain_19 rfl (lv_at hl 3 rfl) ?_
      refine lv_iload_n hx hb d_M_chain_20 rfl (lv_at hl 1 rfl) ?_
      refine lv_icmp_ge (tgt := 77) hx hb d_M_chain_21 (by decide) (fun h9 => absurd h9 (fun q => absurd ((nI_leI (by omega) (by omega)).mp q) (by omega))) (fun _ => ?_)
      refine lv_aload_n hx hb d_M_chain_24 rfl (lv_at hl 0 rfl) ?_
      refine lv_iload_n hx hb d_M_chain_25 rfl (lv_at hl 3 rfl) ?_
      refine vp_callSi (W.runV (C := R_M) (b := h0) (As := [.int (nI k)]) (rest := []) ⟨hx, hb, hml, hown, hts⟩ (mc_entryAt l dC dI h0 qd qs qv qh qn cI cJ _ dk hf gn rt ct pw sl sm cu ln lk lq vq hs nd k) (cwV 1 hts g_M_79 rfl rfl rfl (by decide +kernel) ⟨(Nat.le_of_ble_eq_true rfl), (Nat.le_of_ble_eq_true rfl)⟩) (z_preV (va_recv (q0 := 0) hK hP rfl rfl) hP hK hD) rfl rfl hl.1 rfl (lv_room (Nat.le_of_ble_eq_true rfl)) d_M_chain_26 ⟨(Nat.le_of_ble_eq_true rfl), (Nat.le_of_ble_eq_true rfl)⟩) (fun r hr0 => ?_)
      subst hr0
      refine lv_istore hx hb d_M_chain_29 hl (by decide) rfl (fun ls hl => ?_)
      have hl : lv_has ls 5 [(4, .int (nI (51 * hf + 31 + 4 * k))), (0, .ref h0), (1, .int (nI nn)), (2, .int x), (3, .int (nI k))] := hl
      refine lv_iload_n hx hb d_M_chain_31 rfl (lv_at hl 3 rfl) ?_
      refine lv_aload_n hx hb d_M_chain_32 rfl (lv_at hl 1 rfl) ?_
      refine va_get (D := (dC, dI)) (ci := 1) (v := .ref qd) (C := R_M) (T := F_M) (N := 15) hx hb hts lay_M hown hK hP 0 rfl rfl 0 (by decide) (hts _ m_270) (fun _ h9 => h9) rfl d_M_chain_33 ?_
      refine lv_iload hx hb d_M_chain_36 (lv_at hl 0 rfl) ?_
      refine z_iald hx hb hK hP 1 0 rfl rfl (by omega) (by decide) d_M_chain_38 ?_
      refine vp_callSi (W.runS (As := [.int x, .int (dk (51 * hf + 31 + 4 * k))]) (rest := []) ⟨hx, hb, hml, hown, hts⟩ (mc_digest l x (dk (51 * hf + 31 + 4 * k))) (cwS 2 hts g_M_47 rfl rfl rfl (by decide +kernel) ⟨(Nat.le_of_ble_eq_true rfl), (Nat.le_of_ble_eq_true rfl)⟩) preEq rfl rfl hl.1 rfl (lv_room (Nat.le_of_ble_eq_true rfl)) d_M_chain_39 ⟨(Nat.le_of_ble_eq_true rfl), (Nat.le_of_ble_eq_true rfl)⟩) (fun r hr0 => ?_)
      subst hr0
      refine lv_istore_n hx hb d_M_chain_42 rfl hl (by decide) rfl (fun ls hl => ?_)
      have hl : lv_has ls 5 [(2, .int (dg x (dk (51 * hf + 31 + 4 * k)))), (4, .int (nI (51 * hf + 31 + 4 * k))), (0, .ref h0), (1, .int (nI nn)), (3, .int (nI k))] := hl
      refine lv_iload_n hx hb d_M_chain_43 rfl (lv_at hl 0 rfl) ?_
      refine lv_aload_n hx hb d_M_chain_44 rfl (lv_at hl 2 rfl) ?_
      refine va_get (D := (dC, dI)) (ci := 1) (v := .ref qd) (C := R_M) (T := F_M) (N := 15) hx hb hts lay_M hown hK hP 0 rfl rfl 0 (by decide) (hts _ m_270) (fun _ h9 => h9) rfl d_M_chain_45 ?_
      refine lv_iload hx hb d_M_chain_48 (lv_at hl 1 rfl) ?_
      refine lv_iconst (v := nI 1) hx hb d_M_chain_50 (by decide) ?_
      refine lv_iadd hx hb d_M_chain_51 ?_
      refine z_top (nI_add _ _) ?_
      refine z_iald hx hb hK hP 1 0 rfl rfl (by omega) (by decide) d_M_chain_52 ?_
      refine vp_callSi (W.runS (As := [.int (dg x (dk (51 * hf + 31 + 4 * k))), .int (dk ((51 * hf + 31 + 4 * k) + 1))]) (rest := []) ⟨hx, hb, hml, hown, hts⟩ (mc_digest l (dg x (dk (51 * hf + 31 + 4 * k))) (dk ((51 * hf + 31 + 4 * k) + 1))) (cwS 2 hts g_M_47 rfl rfl rfl (by decide +kernel) ⟨(Nat.le_of_ble_eq_true rfl), (Nat.le_of_ble_eq_true rfl)⟩) preEq rfl rfl hl.1 rfl (lv_room (Nat.le_of_ble_eq_true rfl)) d_M_chain_53 ⟨(Nat.le_of_ble_eq_true rfl), (Nat.le_of_ble_eq_true rfl)⟩) (fun r hr0 => ?_)
      subst hr0
      refine lv_istore_n hx hb d_M_chain_56 rfl hl (by decide) rfl (fun ls hl => ?_)
      have hl : lv_has ls 5 [(2, .int (dg (dg x (dk (51 * hf + 31 + 4 * k))) (dk ((51 * hf + 31 + 4 * k) + 1)))), (4, .int (nI (51 * hf + 31 + 4 * k))), (0, .ref h0), (1, .int (nI nn)), (3, .int (nI k))] := hl
      refine lv_iload_n hx hb d_M_chain_57 rfl (lv_at hl 0 rfl) ?_
      refine lv_aload_n hx hb d_M_chain_58 rfl (lv_at hl 2 rfl) ?_
      refine va_get (D := (dC, dI)) (ci := 1) (v := .ref qd) (C := R_M) (T := F_M) (N := 15) hx hb hts lay_M hown hK hP 0 rfl rfl 0 (by decide) (hts _ m_270) (fun _ h9 => h9) rfl d_M_chain_59 ?_
      refine lv_iload hx hb d_M_chain_62 (lv_at hl 1 rfl) ?_
      refine lv_iconst (v := nI 2) hx hb d_M_chain_64 (by decide) ?_
      refine lv_iadd hx hb d_M_chain_65 ?_
      refine z_top (nI_add _ _) ?_
      refine z_iald hx hb hK hP 1 0 rfl rfl (by omega) (by decide) d_M_chain_66 ?_
      refine vp_callSi (W.runS (As := [.int (dg (dg x (dk (51 * hf + 31 + 4 * k))) (dk ((51 * hf + 31 + 4 * k) + 1))), .int (dk ((51 * hf + 31 + 4 * k) + 2))]) (rest := []) ⟨hx, hb, hml, hown, hts⟩ (mc_digest l (dg (dg x (dk (51 * hf + 31 + 4 * k))) (dk ((51 * hf + 31 + 4 * k) + 1))) (dk ((51 * hf + 31 + 4 * k) + 2))) (cwS 2 hts g_M_47 rfl rfl rfl (by decide +kernel) ⟨(Nat.le_of_ble_eq_true rfl), (Nat.le_of_ble_eq_true rfl)⟩) preEq rfl rfl hl.1 rfl (lv_room (Nat.le_of_ble_eq_true rfl)) d_M_chain_67 ⟨(Nat.le_of_ble_eq_true rfl), (Nat.le_of_ble_eq_true rfl)⟩) (fun r hr0 => ?_)
      subst hr0
      refine lv_istore_n hx hb d_M_chain_70 rfl hl (by decide) rfl (fun ls hl => ?_)
      have hl : lv_has ls 5 [(2, .int (dg (dg (dg x (dk (51 * hf + 31 + 4 * k))) (dk ((51 * hf + 31 + 4 * k) + 1))) (dk ((51 * hf + 31 + 4 * k) + 2)))), (4, .int (nI (51 * hf + 31 + 4 * k))), (0, .ref h0), (1, .int (nI nn)), (3, .int (nI k))] := hl
      refine lv_iinc (k := 4) hx hb d_M_chain_71 hl rfl (z_inc _ 1) (by decide) rfl (fun ls hl => ?_)
      have hl : lv_has ls 5 [(3, .int (nI (k + 1))), (2, .int (dg (dg (dg x (dk (51 * hf + 31 + 4 * k))) (dk ((51 * hf + 31 + 4 * k) + 1))) (dk ((51 * hf + 31 + 4 * k) + 2)))), (4, .int (nI (51 * hf + 31 + 4 * k))), (0, .ref h0), (1, .int (nI nn))] := hl
      refine lv_goto (tgt := 19) hx hb d_M_chain_74 (by decide) ?_
      exact ih (k + 1) _ ls (by omega) (lv_sub hl [3, 4, 1, 0] rfl) hF
  refine lv_ldc (v := 19088743) hx hb hown (hts _ m_256) d_M_chain_0 ?_
  refine lv_aload_n hx hb d_M_chain_2 rfl (lv_at hl 0 rfl) ?_
  refine va_get (D := (dC, dI)) (ci := 1) (v := .int rt) (C := R_M) (T := F_M) (N := 15) hx hb hts lay_M hown hK hP 0 rfl rfl 3 (by decide) (hts _ m_273) (fun _ h9 => h9) rfl d_M_chain_3 ?_
  refine vp_callSi (W.runS (As := [.int (19088743 : Int32), .int rt]) (rest := []) ⟨hx, hb, hml, hown, hts⟩ (mc_digest l (19088743 : Int32) rt) (cwS 2 hts g_M_47 rfl rfl rfl (by decide +kernel) ⟨(Nat.le_of_ble_eq_true rfl), (Nat.le_of_ble_eq_true rfl)⟩) preEq rfl rfl hl.1 rfl (lv_room (Nat.le_of_ble_eq_true rfl)) d_M_chain_6 ⟨(Nat.le_of_ble_eq_true rfl), (Nat.le_of_ble_eq_true rfl)⟩) (fun r hr0 => ?_)
  subst hr0
  refine lv_aload_n hx hb d_M_chain_9 rfl (lv_at hl 0 rfl) ?_
  refine va_get (D := (dC, dI)) (ci := 1) (v := .int gn) (C := R_M) (T := F_M) (N := 15) hx hb hts lay_M hown hK hP 0 rfl rfl 2 (by decide) (hts _ m_272) (fun _ h9 => h9) rfl d_M_chain_10 ?_
  refine vp_callSi (W.runS (As := [.int (dg (19088743 : Int32) rt), .int gn]) (rest := []) ⟨hx, hb, hml, hown, hts⟩ (mc_digest l (dg (19088743 : Int32) rt) gn) (cwS 2 hts g_M_47 rfl rfl rfl (by decide +kernel) ⟨(Nat.le_of_ble_eq_true rfl), (Nat.le_of_ble_eq_true rfl)⟩) preEq rfl rfl hl.1 rfl (lv_room (Nat.le_of_ble_eq_true rfl)) d_M_chain_13 ⟨(Nat.le_of_ble_eq_true rfl), (Nat.le_of_ble_eq_true rfl)⟩) (fun r hr0 => ?_)
  subst hr0
  refine lv_istore_n hx hb d_M_chain_16 rfl hl (by decide) rfl (fun ls hl => ?_)
  have hl : lv_has ls 5 [(2, .int (dg (dg (19088743 : Int32) rt) gn)), (0, .ref h0), (1, .int (nI nn))] := hl
  refine lv_iconst (v := nI 0) hx hb d_M_chain_17 (by decide) ?_
  refine lv_istore_n hx hb d_M_chain_18 rfl hl (by decide) rfl (fun ls hl => ?_)
  have hl : lv_has ls 5 [(3, .int (nI 0)), (2, .int (dg (dg (19088743 : Int32) rt) gn)), (0, .ref h0), (1, .int (nI nn))] := hl
  exact loop nn 0 _ ls (by omega) (lv_sub hl [2, 3, 1, 0] rfl) rfl
set_option maxHeartbeats 4000000 in
set_option maxRecDepth 100000 in
theorem mc_recorded (l : Launch) (dC : Nat → ClassId) (dI : Nat → Nat → Nat) (h0 qd qs qv qh qn : Nat) (cI cJ : ClassId) (sz : Nat) (dk : Nat → Int32) (hf : Nat) (gn : Int32) (rt : Int32) (ct : Int32) (pw : Bool) (sl : Int32) (sm : Int32) (cu : Bool) (ln : Nat) (lk : Int32) (lq : Nat → Int32) (vq : Nat → Int64) (hs : Nat → Int64) (nd : Nat → Int32) (kk : Nat) (h_f : hf < 2) (h_k : kk < 5) : Met l y_M_recorded w_M_recorded ({ frames := 3, cells := 0, slots := 0, locals := 66 }) (va_Pc [.ref h0, .int (nI kk)] (z_pre (dC, dI) classes [(cI, .int), (cJ, .long)] (Mw h0 qd qs qv qh qn cI cJ (dk, hf, gn, rt, ct, pw, sl, sm, cu, ln, lk, lq, vq, hs, nd)) sz)) (vp_Sl (fun r => r = vat dk gn (51 * hf + 31 + 4 * kk + 1))) 0 0 (fun _ => False) := by
  refine Met.ofW (cc := b_M_recorded) (maxL := 5) (ret := (some .long)) (by decide) rfl ?_
  intro p e s m args below meth c s₁ B hml hv
  obtain ⟨rfl, hsz, hP, hK, hD0⟩ := hv
  have hx := B.exec
  have hb := B.bytes
  have hr := B.returns
  have hts := fun (w : Cond) (h : w ∈ lw_U) => atoms_spec (ws := w_M_recorded) B.pre w (List.mem_cons_of_mem _ h)
  have hown : s.vm.findClass R_M = some m.cls := findClass_of_methodNamed B.named
  have hlocks := B.notSynchronized
  subst hsz
  have hD := hD0
  have hl := lv_entry ([.ref h0, .int (nI kk)]) (n := 5) (Nat.le_of_ble_eq_true rfl)
  rw [lg_entry_eq]
  generalize (lg_sl ([.ref h0, .int (nI kk)]) ++ List.replicate (5 - (lg_sl ([.ref h0, .int (nI kk)])).length) Slot.unset).toArray = ls at hl ⊢
  have hl : lv_has ls 5 [(0, .ref h0), (1, .int (nI kk))] := hl
  refine lv_aload_n hx hb d_M_recorded_0 rfl (lv_at hl 0 rfl) ?_
  refine lv_iload_n hx hb d_M_recorded_1 rfl (lv_at hl 1 rfl) ?_
  refine vp_callSi (W.runV (C := R_M) (b := h0) (As := [.int (nI kk)]) (rest := []) ⟨hx, hb, hml, hown, hts⟩ (mc_entryAt l dC dI h0 qd qs qv qh qn cI cJ _ dk hf gn rt ct pw sl sm cu ln lk lq vq hs nd kk) (cwV 1 hts g_M_79 rfl rfl rfl (by decide +kernel) ⟨(Nat.le_of_ble_eq_true rfl), (Nat.le_of_ble_eq_true rfl)⟩) (z_preV (va_recv (q0 := 0) hK hP rfl rfl) hP hK hD) rfl rfl hl.1 rfl (lv_room (Nat.le_of_ble_eq_true rfl)) d_M_recorded_2 ⟨(Nat.le_of_ble_eq_true rfl), (Nat.le_of_ble_eq_true rfl)⟩) (fun r hr0 => ?_)
  subst hr0
  refine lv_istore_n hx hb d_M_recorded_5 rfl hl (by decide) rfl (fun ls hl => ?_)
  have hl : lv_has ls 5 [(2, .int (nI (51 * hf + 31 + 4 * kk))), (0, .ref h0), (1, .int (nI kk))] := hl
  refine lv_aload_n hx hb d_M_recorded_6 rfl (lv_at hl 1 rfl) ?_
  refine lv_iload_n hx hb d_M_recorded_7 rfl (lv_at hl 0 rfl) ?_
  refine lv_iconst (v := nI 1) hx hb d_M_recorded_8 (by decide) ?_
  refine lv_iadd hx hb d_M_recorded_9 ?_
  refine z_top (nI_add _ _) ?_
  refine lv_aload_n hx hb d_M_recorded_10 rfl (lv_at hl 1 rfl) ?_
  refine va_get (D := (dC, dI)) (ci := 1) (v := .int gn) (C := R_M) (T := F_M) (N := 15) hx hb hts lay_M hown hK hP 0 rfl rfl 2 (by decide) (hts _ m_272) (fun _ h9 => h9) rfl d_M_recorded_11 ?_
  refine vp_callSi (W.runV (C := R_M) (b := h0) (As := [.int (nI ((51 * hf + 31 + 4 * kk) + 1)), .int gn]) (rest := []) ⟨hx, hb, hml, hown, hts⟩ (mc_clear l dC dI h0 qd qs qv qh qn cI cJ _ dk hf gn rt ct pw sl sm cu ln lk lq vq hs nd ((51 * hf + 31 + 4 * kk) + 1) gn (by omega)) (cwV 2 hts g_M_83 rfl rfl rfl (by decide +kernel) ⟨(Nat.le_of_ble_eq_true rfl), (Nat.le_of_ble_eq_true rfl)⟩) (z_preV (va_recv (q0 := 0) hK hP rfl rfl) hP hK hD) rfl rfl hl.1 rfl (lv_room (Nat.le_of_ble_eq_true rfl)) d_M_recorded_14 ⟨(Nat.le_of_ble_eq_true rfl), (Nat.le_of_ble_eq_true rfl)⟩) (fun r hr0 => ?_)
  subst hr0
  refine lv_istore_n hx hb d_M_recorded_17 rfl hl (by decide) rfl (fun ls hl => ?_)
  have hl : lv_has ls 5 [(3, .int (enc (dk ((51 * hf + 31 + 4 * kk) + 1)) (nI ((51 * hf + 31 + 4 * kk) + 1)) gn)), (2, .int (nI (51 * hf + 31 + 4 * kk))), (0, .ref h0), (1, .int (nI kk))] := hl
  refine lv_aload_n hx hb d_M_recorded_18 rfl (lv_at hl 2 rfl) ?_
  refine lv_iload_n hx hb d_M_recorded_19 rfl (lv_at hl 1 rfl) ?_
  refine lv_iconst (v := nI 2) hx hb d_M_recorded_20 (by decide) ?_
  refine lv_iadd hx hb d_M_recorded_21 ?_
  refine z_top (nI_add _ _) ?_
  refine lv_aload_n hx hb d_M_recorded_22 rfl (lv_at hl 2 rfl) ?_
  refine va_get (D := (dC, dI)) (ci := 1) (v := .int gn) (C := R_M) (T := F_M) (N := 15) hx hb hts lay_M hown hK hP 0 rfl rfl 2 (by decide) (hts _ m_272) (fun _ h9 => h9) rfl d_M_recorded_23 ?_
  refine vp_callSi (W.runV (C := R_M) (b := h0) (As := [.int (nI ((51 * hf + 31 + 4 * kk) + 2)), .int gn]) (rest := []) ⟨hx, hb, hml, hown, hts⟩ (mc_clear l dC dI h0 qd qs qv qh qn cI cJ _ dk hf gn rt ct pw sl sm cu ln lk lq vq hs nd ((51 * hf + 31 + 4 * kk) + 2) gn (by omega)) (cwV 2 hts g_M_83 rfl rfl rfl (by decide +kernel) ⟨(Nat.le_of_ble_eq_true rfl), (Nat.le_of_ble_eq_true rfl)⟩) (z_preV (va_recv (q0 := 0) hK hP rfl rfl) hP hK hD) rfl rfl hl.1 rfl (lv_room (Nat.le_of_ble_eq_true rfl)) d_M_recorded_26 ⟨(Nat.le_of_ble_eq_true rfl), (Nat.le_of_ble_eq_true rfl)⟩) (fun r hr0 => ?_)
  subst hr0
  refine lv_istore hx hb d_M_recorded_29 hl (by decide) rfl (fun ls hl => ?_)
  have hl : lv_has ls 5 [(4, .int (enc (dk ((51 * hf + 31 + 4 * kk) + 2)) (nI ((51 * hf + 31 + 4 * kk) + 2)) gn)), (3, .int (enc (dk ((51 * hf + 31 + 4 * kk) + 1)) (nI ((51 * hf + 31 + 4 * kk) + 1)) gn)), (2, .int (nI (51 * hf + 31 + 4 * kk))), (0, .ref h0), (1, .int (nI kk))] := hl
  refine lv_iload_n hx hb d_M_recorded_31 rfl (lv_at hl 1 rfl) ?_
  refine lv_iload hx hb d_M_recorded_32 (lv_at hl 0 rfl) ?_
  refine vp_callSl (W.runS (As := [.int (enc (dk ((51 * hf + 31 + 4 * kk) + 1)) (nI ((51 * hf + 31 + 4 * kk) + 1)) gn), .int (enc (dk ((51 * hf + 31 + 4 * kk) + 2)) (nI ((51 * hf + 31 + 4 * kk) + 2)) gn)]) (rest := []) ⟨hx, hb, hml, hown, hts⟩ (mc_joined l (enc (dk ((51 * hf + 31 + 4 * kk) + 1)) (nI ((51 * hf + 31 + 4 * kk) + 1)) gn) (enc (dk ((51 * hf + 31 + 4 * kk) + 2)) (nI ((51 * hf + 31 + 4 * kk) + 2)) gn)) (cwS 2 hts g_M_86 rfl rfl rfl (by decide +kernel) ⟨(Nat.le_of_ble_eq_true rfl), (Nat.le_of_ble_eq_true rfl)⟩) preEq rfl rfl hl.1 rfl (lv_room (Nat.le_of_ble_eq_true rfl)) d_M_recorded_34 ⟨(Nat.le_of_ble_eq_true rfl), (Nat.le_of_ble_eq_true rfl)⟩) (fun r hr0 => ?_)
  subst hr0
  exact W.lret hx hb hr (fun t ht hW => ⟨_, rfl, rfl, ht⟩) (fun q h => by cases h) d_M_recorded_37
set_option maxHeartbeats 4000000 in
set_option maxRecDepth 100000 in
theorem mc_due (l : Launch) (dC : Nat → ClassId) (dI : Nat → Nat → Nat) (h0 qd qs qv qh qn : Nat) (cI cJ : ClassId) (sz : Nat) (dk : Nat → Int32) (hf : Nat) (gn : Int32) (rt : Int32) (ct : Int32) (pw : Bool) (sl : Int32) (sm : Int32) (cu : Bool) (ln : Nat) (lk : Int32) (lq : Nat → Int32) (vq : Nat → Int64) (hs : Nat → Int64) (nd : Nat → Int32) (kk : Nat) (h_f : hf < 2) (h_k : kk < 5) : Met l y_M_due w_M_due ({ frames := 4, cells := 0, slots := 0, locals := 90 }) (va_Pc [.ref h0, .int (nI kk)] (z_pre (dC, dI) classes [(cI, .int), (cJ, .long)] (Mw h0 qd qs qv qh qn cI cJ (dk, hf, gn, rt, ct, pw, sl, sm, cu, ln, lk, lq, vq, hs, nd)) sz)) (vp_Si (fun r => r = (if jgood dk hf gn (chM dk hf kk 0 (dg (dg 19088743 rt) gn)) kk then 1 else 0))) 0 0 (fun _ => False) := by
  refine Met.ofW (cc := b_M_due) (maxL := 3) (ret := (some .boolean)) (by decide) rfl ?_
  intro p e s m args below meth c s₁ B hml hv
  obtain ⟨rfl, hsz, hP, hK, hD0⟩ := hv
  have hx := B.exec
  have hb := B.bytes
  have hr := B.returns
  have hts := fun (w : Cond) (h : w ∈ lw_U) => atoms_spec (ws := w_M_due) B.pre w (List.mem_cons_of_mem _ h)
  have hown : s.vm.findClass R_M = some m.cls := findClass_of_methodNamed B.named
  have hlocks := B.notSynchronized
  subst hsz
  have hD := hD0
  have hl := lv_entry ([.ref h0, .int (nI kk)]) (n := 3) (Nat.le_of_ble_eq_true rfl)
  rw [lg_entry_eq]
  generalize (lg_sl ([.ref h0, .int (nI kk)]) ++ List.replicate (3 - (lg_sl ([.ref h0, .int (nI kk)])).length) Slot.unset).toArray = ls at hl ⊢
  have hl : lv_has ls 3 [(0, .ref h0), (1, .int (nI kk))] := hl
  refine lv_aload_n hx hb d_M_due_0 rfl (lv_at hl 0 rfl) ?_
  refine lv_aload_n hx hb d_M_due_1 rfl (lv_at hl 0 rfl) ?_
  refine lv_iload_n hx hb d_M_due_2 rfl (lv_at hl 1 rfl) ?_
  refine vp_callSi (W.runV (C := R_M) (b := h0) (As := [.int (nI kk)]) (rest := [.ref h0]) ⟨hx, hb, hml, hown, hts⟩ (mc_entryAt l dC dI h0 qd qs qv qh qn cI cJ _ dk hf gn rt ct pw sl sm cu ln lk lq vq hs nd kk) (cwV 1 hts g_M_79 rfl rfl rfl (by decide +kernel) ⟨(Nat.le_of_ble_eq_true rfl), (Nat.le_of_ble_eq_true rfl)⟩) (z_preV (va_recv (q0 := 0) hK hP rfl rfl) hP hK hD) rfl rfl hl.1 rfl (lv_room (Nat.le_of_ble_eq_true rfl)) d_M_due_3 ⟨(Nat.le_of_ble_eq_true rfl), (Nat.le_of_ble_eq_true rfl)⟩) (fun r hr0 => ?_)
  subst hr0
  refine lv_aload_n hx hb d_M_due_6 rfl (lv_at hl 0 rfl) ?_
  refine va_get (D := (dC, dI)) (ci := 1) (v := .int gn) (C := R_M) (T := F_M) (N := 15) hx hb hts lay_M hown hK hP 0 rfl rfl 2 (by decide) (hts _ m_272) (fun _ h9 => h9) rfl d_M_due_7 ?_
  refine vp_callSi (W.runV (C := R_M) (b := h0) (As := [.int (nI (51 * hf + 31 + 4 * kk)), .int gn]) (rest := []) ⟨hx, hb, hml, hown, hts⟩ (mc_clear l dC dI h0 qd qs qv qh qn cI cJ _ dk hf gn rt ct pw sl sm cu ln lk lq vq hs nd (51 * hf + 31 + 4 * kk) gn (by omega)) (cwV 2 hts g_M_83 rfl rfl rfl (by decide +kernel) ⟨(Nat.le_of_ble_eq_true rfl), (Nat.le_of_ble_eq_true rfl)⟩) (z_preV (va_recv (q0 := 0) hK hP rfl rfl) hP hK hD) rfl rfl hl.1 rfl (lv_room (Nat.le_of_ble_eq_true rfl)) d_M_due_10 ⟨(Nat.le_of_ble_eq_true rfl), (Nat.le_of_ble_eq_true rfl)⟩) (fun r hr0 => ?_)
  subst hr0
  refine lv_istore_n hx hb d_M_due_13 rfl hl (by decide) rfl (fun ls hl => ?_)
  have hl : lv_has ls 3 [(2, .int (enc (dk (51 * hf + 31 + 4 * kk)) (nI (51 * hf + 31 + 4 * kk)) gn)), (0, .ref h0), (1, .int (nI kk))] := hl
  refine lv_aload_n hx hb d_M_due_14 rfl (lv_at hl 1 rfl) ?_
  refine va_get (D := (dC, dI)) (ci := 1) (v := .ref qd) (C := R_M) (T := F_M) (N := 15) hx hb hts lay_M hown hK hP 0 rfl rfl 0 (by decide) (hts _ m_270) (fun _ h9 => h9) rfl d_M_due_15 ?_
  refine lv_aload_n hx hb d_M_due_18 rfl (lv_at hl 1 rfl) ?_
  refine lv_iload_n hx hb d_M_due_19 rfl (lv_at hl 2 rfl) ?_
  refine vp_callSi (W.runV (C := R_M) (b := h0) (As := [.int (nI kk)]) (rest := [.ref qd]) ⟨hx, hb, hml, hown, hts⟩ (mc_entryAt l dC dI h0 qd qs qv qh qn cI cJ _ dk hf gn rt ct pw sl sm cu ln lk lq vq hs nd kk) (cwV 1 hts g_M_79 rfl rfl rfl (by decide +kernel) ⟨(Nat.le_of_ble_eq_true rfl), (Nat.le_of_ble_eq_true rfl)⟩) (z_preV (va_recv (q0 := 0) hK hP rfl rfl) hP hK hD) rfl rfl hl.1 rfl (lv_room (Nat.le_of_ble_eq_true rfl)) d_M_due_20 ⟨(Nat.le_of_ble_eq_true rfl), (Nat.le_of_ble_eq_true rfl)⟩) (fun r hr0 => ?_)
  subst hr0
  refine lv_iconst (v := nI 3) hx hb d_M_due_23 (by decide) ?_
  refine lv_iadd hx hb d_M_due_24 ?_
  refine z_top (nI_add _ _) ?_
  refine z_iald hx hb hK hP 1 0 rfl rfl (by omega) (by decide) d_M_due_25 ?_
  refine lv_aload_n hx hb d_M_due_26 rfl (lv_at hl 1 rfl) ?_
  refine lv_iload_n hx hb d_M_due_27 rfl (lv_at hl 2 rfl) ?_
  refine lv_iconst (v := nI 1) hx hb d_M_due_28 (by decide) ?_
  refine lv_iadd hx hb d_M_due_29 ?_
  refine z_top (nI_add _ _) ?_
  refine vp_callSi (W.runV (C := R_M) (b := h0) (As := [.int (nI (kk + 1))]) (rest := [.int (dk ((51 * hf + 31 + 4 * kk) + 3))]) ⟨hx, hb, hml, hown, hts⟩ (mc_chain l dC dI h0 qd qs qv qh qn cI cJ _ dk hf gn rt ct pw sl sm cu ln lk lq vq hs nd (kk + 1) (by omega) (by omega)) (cwV 1 hts g_M_90 rfl rfl rfl (by decide +kernel) ⟨(Nat.le_of_ble_eq_true rfl), (Nat.le_of_ble_eq_true rfl)⟩) (z_preV (va_recv (q0 := 0) hK hP rfl rfl) hP hK hD) rfl rfl hl.1 rfl (lv_room (Nat.le_of_ble_eq_true rfl)) d_M_due_30 ⟨(Nat.le_of_ble_eq_true rfl), (Nat.le_of_ble_eq_true rfl)⟩) (fun r hr0 => ?_)
  subst hr0
  refine lv_iconst (v := (1 : Int32)) hx hb d_M_due_33 (by decide) ?_
  refine lv_ior hx hb d_M_due_34 ?_
  refine lv_icmp_ne (tgt := 62) hx hb d_M_due_35 (by decide) (fun h1 => ?_) (fun h1 => ?_)
  · refine lv_iconst (v := (0 : Int32)) hx hb d_M_due_62 (by decide) ?_
    exact W.zret hx hb hr rfl (fun t ht hW => ⟨_, rfl, (by rw [if_neg (fun q => h1 (by rw [chM_s]; exact q.1))]), ht⟩) (fun q h => by cases h) d_M_due_63
  · refine lv_iload_n hx hb d_M_due_38 rfl (lv_at hl 0 rfl) ?_
    refine lv_if_lt (tgt := 62) hx hb d_M_due_39 (by decide) (fun h2 => ?_) (fun h2 => ?_)
    · refine lv_iconst (v := (0 : Int32)) hx hb d_M_due_62 (by decide) ?_
      exact W.zret hx hb hr rfl (fun t ht hW => ⟨_, rfl, (by rw [if_neg (fun q => q.2.1 (isIn_lo h2))]), ht⟩) (fun q h => by cases h) d_M_due_63
    · refine lv_iload_n hx hb d_M_due_42 rfl (lv_at hl 0 rfl) ?_
      refine lv_bipush (v := (8 : Int32)) hx hb d_M_due_43 (by decide) ?_
      refine lv_icmp_ge (tgt := 62) hx hb d_M_due_45 (by decide) (fun h3 => ?_) (fun h3 => ?_)
      · refine lv_iconst (v := (0 : Int32)) hx hb d_M_due_62 (by decide) ?_
        exact W.zret hx hb hr rfl (fun t ht hW => ⟨_, rfl, (by rw [if_neg (fun q => q.2.1 (isIn_hi h3))]), ht⟩) (fun q h => by cases h) d_M_due_63
      · refine lv_aload_n hx hb d_M_due_48 rfl (lv_at hl 1 rfl) ?_
        refine lv_iload_n hx hb d_M_due_49 rfl (lv_at hl 2 rfl) ?_
        refine vp_callSl (W.runV (C := R_M) (b := h0) (As := [.int (nI kk)]) (rest := []) ⟨hx, hb, hml, hown, hts⟩ (mc_recorded l dC dI h0 qd qs qv qh qn cI cJ _ dk hf gn rt ct pw sl sm cu ln lk lq vq hs nd kk (by omega) (by omega)) (cwV 1 hts g_M_93 rfl rfl rfl (by decide +kernel) ⟨(Nat.le_of_ble_eq_true rfl), (Nat.le_of_ble_eq_true rfl)⟩) (z_preV (va_recv (q0 := 0) hK hP rfl rfl) hP hK hD) rfl rfl hl.1 rfl (lv_room (Nat.le_of_ble_eq_true rfl)) d_M_due_50 ⟨(Nat.le_of_ble_eq_true rfl), (Nat.le_of_ble_eq_true rfl)⟩) (fun r hr0 => ?_)
        subst hr0
        refine lv_lconst (v := 0) hx hb d_M_due_53 (by decide) ?_
        refine W.lcmp hx hb d_M_due_54 ?_
        refine lv_if_lt (tgt := 62) hx hb d_M_due_55 (by decide) (fun h4 => ?_) (fun h4 => ?_)
        · refine lv_iconst (v := (0 : Int32)) hx hb d_M_due_62 (by decide) ?_
          exact W.zret hx hb hr rfl (fun t ht hW => ⟨_, rfl, (by rw [if_neg (fun q => z_nn2 h4 q.2.2)]), ht⟩) (fun q h => by cases h) d_M_due_63
        · refine lv_iconst (v := (1 : Int32)) hx hb d_M_due_58 (by decide) ?_
          refine lv_goto (tgt := 63) hx hb d_M_due_59 (by decide) ?_
          exact W.zret hx hb hr rfl (fun t ht hW => ⟨_, rfl, (by rw [if_pos ⟨by rw [← chM_s]; exact h1, isIn_no h2 h3, z_nn h4⟩]), ht⟩) (fun q h => by cases h) d_M_due_63
set_option maxHeartbeats 4000000 in
set_option maxRecDepth 100000 in
theorem mc_looked (l : Launch) (dC : Nat → ClassId) (dI : Nat → Nat → Nat) (h0 qd qs qv qh qn : Nat) (cI cJ : ClassId) (sz : Nat) (dk : Nat → Int32) (hf : Nat) (gn : Int32) (rt : Int32) (ct : Int32) (pw : Bool) (sl : Int32) (sm : Int32) (cu : Bool) (ln : Nat) (lk : Int32) (lq : Nat → Int32) (vq : Nat → Int64) (hs : Nat → Int64) (nd : Nat → Int32) (sc : Nat) (h_f : hf < 2) (h_s : sc < 8) : Met l y_M_looked w_M_looked ({ frames := 3, cells := 0, slots := 0, locals := 66 }) (va_Pc [.ref h0, .int (nI sc)] (z_pre (dC, dI) classes [(cI, .int), (cJ, .long)] (Mw h0 qd qs qv qh qn cI cJ (dk, hf, gn, rt, ct, pw, sl, sm, cu, ln, lk, lq, vq, hs, nd)) sz)) (vp_Sl (fun r => r = vlkM dk hf gn rt sc)) 0 0 (fun _ => False) := by
  refine Met.ofW (cc := b_M_looked) (maxL := 6) (ret := (some .long)) (by decide) rfl ?_
  intro p e s m args below meth c s₁ B hml hv
  obtain ⟨rfl, hsz, hP, hK, hD0⟩ := hv
  have hx := B.exec
  have hb := B.bytes
  have hr := B.returns
  have hts := fun (w : Cond) (h : w ∈ lw_U) => atoms_spec (ws := w_M_looked) B.pre w (List.mem_cons_of_mem _ h)
  have hown : s.vm.findClass R_M = some m.cls := findClass_of_methodNamed B.named
  have hlocks := B.notSynchronized
  subst hsz
  have hD := hD0
  have hl := lv_entry ([.ref h0, .int (nI sc)]) (n := 6) (Nat.le_of_ble_eq_true rfl)
  rw [lg_entry_eq]
  generalize (lg_sl ([.ref h0, .int (nI sc)]) ++ List.replicate (6 - (lg_sl ([.ref h0, .int (nI sc)])).length) Slot.unset).toArray = ls at hl ⊢
  have hl : lv_has ls 6 [(0, .ref h0), (1, .int (nI sc))] := hl
  have loop : ∀ (f k : Nat) (x : Int32) (ls : Array Slot), k ≤ f → k < 16 → lv_has ls 6 [(0, .ref h0), (2, .int (nI (51 * hf + 2 * sc))), (3, .int x), (4, .int (nI k))] → rup dk hf f k x = rabove dk hf gn sc → W p l e (headSpec w_M_looked ({ frames := 3, cells := 0, slots := 0, locals := 66 })).room s m ([.ref h0, .int (nI sc)].toArray) below meth c s.heap [] 0 0 (MQ below (vp_Sl (fun r => r = vlkM dk hf gn rt sc)) ([.ref h0, .int (nI sc)].toArray) s 0 0 (fun _ => False)) (F0 m 42 ls []) := by
    intro f
    induction f with
    | zero =>
      intro k x ls hf0 hk16 hl hF
      have hF2 : x = rabove dk hf gn sc := hF
      refine lv_iload hx hb d_M_looked_42 (lv_at hl 3 rfl) ?_
      refine lv_iconst (v := nI 1) hx hb d_M_looked_44 (by decide) ?_
      refine lv_icmp_le (tgt := 116) hx hb d_M_looked_45 (by decide) (fun _ => ?_) (fun h9 => absurd ((nI_leI (by omega) (by omega)).mpr (by omega)) h9)
      refine lv_aload_n hx hb d_M_looked_116 rfl (lv_at hl 0 rfl) ?_
      refine lv_iload_n hx hb d_M_looked_117 rfl (lv_at hl 1 rfl) ?_
      refine lv_aload_n hx hb d_M_looked_118 rfl (lv_at hl 0 rfl) ?_
      refine va_get (D := (dC, dI)) (ci := 1) (v := .int gn) (C := R_M) (T := F_M) (N := 15) hx hb hts lay_M hown hK hP 0 rfl rfl 2 (by decide) (hts _ m_272) (fun _ h9 => h9) rfl d_M_looked_119 ?_
      refine vp_callSi (W.runV (C := R_M) (b := h0) (As := [.int (nI (51 * hf + 2 * sc)), .int gn]) (rest := []) ⟨hx, hb, hml, hown, hts⟩ (mc_clear l dC dI h0 qd qs qv qh qn cI cJ _ dk hf gn rt ct pw sl sm cu ln lk lq vq hs nd (51 * hf + 2 * sc) gn (by omega)) (cwV 2 hts g_M_83 rfl rfl rfl (by decide +kernel) ⟨(Nat.le_of_ble_eq_true rfl), (Nat.le_of_ble_eq_true rfl)⟩) (z_preV (va_recv (q0 := 0) hK hP rfl rfl) hP hK hD) rfl rfl hl.1 rfl (lv_room (Nat.le_of_ble_eq_true rfl)) d_M_looked_122 ⟨(Nat.le_of_ble_eq_true rfl), (Nat.le_of_ble_eq_true rfl)⟩) (fun r hr0 => ?_)
      subst hr0
      refine lv_istore hx hb d_M_looked_125 hl (by decide) rfl (fun ls hl => ?_)
      have hl : lv_has ls 6 [(4, .int (enc (dk (51 * hf + 2 * sc)) (nI (51 * hf + 2 * sc)) gn)), (0, .ref h0), (2, .int (nI (51 * hf + 2 * sc))), (3, .int x)] := hl
      refine lv_aload_n hx hb d_M_looked_127 rfl (lv_at hl 1 rfl) ?_
      refine lv_iload_n hx hb d_M_looked_128 rfl (lv_at hl 2 rfl) ?_
      refine lv_iconst (v := nI 1) hx hb d_M_looked_129 (by decide) ?_
      refine lv_iadd hx hb d_M_looked_130 ?_
      refine z_top (nI_add _ _) ?_
      refine lv_aload_n hx hb d_M_looked_131 rfl (lv_at hl 1 rfl) ?_
      refine va_get (D := (dC, dI)) (ci := 1) (v := .int gn) (C := R_M) (T := F_M) (N := 15) hx hb hts lay_M hown hK hP 0 rfl rfl 2 (by decide) (hts _ m_272) (fun _ h9 => h9) rfl d_M_looked_132 ?_
      refine vp_callSi (W.runV (C := R_M) (b := h0) (As := [.int (nI ((51 * hf + 2 * sc) + 1)), .int gn]) (rest := []) ⟨hx, hb, hml, hown, hts⟩ (mc_clear l dC dI h0 qd qs qv qh qn cI cJ _ dk hf gn rt ct pw sl sm cu ln lk lq vq hs nd ((51 * hf + 2 * sc) + 1) gn (by omega)) (cwV 2 hts g_M_83 rfl rfl rfl (by decide +kernel) ⟨(Nat.le_of_ble_eq_true rfl), (Nat.le_of_ble_eq_true rfl)⟩) (z_preV (va_recv (q0 := 0) hK hP rfl rfl) hP hK hD) rfl rfl hl.1 rfl (lv_room (Nat.le_of_ble_eq_true rfl)) d_M_looked_135 ⟨(Nat.le_of_ble_eq_true rfl), (Nat.le_of_ble_eq_true rfl)⟩) (fun r hr0 => ?_)
      subst hr0
      refine lv_istore hx hb d_M_looked_138 hl (by decide) rfl (fun ls hl => ?_)
      have hl : lv_has ls 6 [(5, .int (enc (dk ((51 * hf + 2 * sc) + 1)) (nI ((51 * hf + 2 * sc) + 1)) gn)), (4, .int (enc (dk (51 * hf + 2 * sc)) (nI (51 * hf + 2 * sc)) gn)), (0, .ref h0), (2, .int (nI (51 * hf + 2 * sc))), (3, .int x)] := hl
      refine lv_iload_n hx hb d_M_looked_140 rfl (lv_at hl 4 rfl) ?_
      refine lv_aload_n hx hb d_M_looked_141 rfl (lv_at hl 2 rfl) ?_
      refine va_get (D := (dC, dI)) (ci := 1) (v := .int rt) (C := R_M) (T := F_M) (N := 15) hx hb hts lay_M hown hK hP 0 rfl rfl 3 (by decide) (hts _ m_273) (fun _ h9 => h9) rfl d_M_looked_142 ?_
      refine lv_icmp_ne (tgt := 163) hx hb d_M_looked_145 (by decide) (fun h1 => ?_) (fun h1 => ?_)
      · refine lv_ldc2 (v := -1) hx hb hown (hts _ m_356) d_M_looked_163 ?_
        exact W.lret hx hb hr (fun t ht hW => ⟨_, rfl, (by unfold vlkM; rw [if_neg (fun q => h1 (hF2.trans q))]), ht⟩) (fun q h => by cases h) d_M_looked_166
      · refine lv_iload hx hb d_M_looked_148 (lv_at hl 1 rfl) ?_
        refine lv_if_lt (tgt := 163) hx hb d_M_looked_150 (by decide) (fun h2 => ?_) (fun h2 => ?_)
        · refine lv_ldc2 (v := -1) hx hb hown (hts _ m_356) d_M_looked_163 ?_
          exact W.lret hx hb hr (fun t ht hW => ⟨_, rfl, (by unfold vlkM; rw [if_pos (hF2.symm.trans h1), if_pos h2]), ht⟩) (fun q h => by cases h) d_M_looked_166
        · refine lv_iload hx hb d_M_looked_153 (lv_at hl 1 rfl) ?_
          refine lv_iload hx hb d_M_looked_155 (lv_at hl 0 rfl) ?_
          refine vp_callSl (W.runS (As := [.int (enc (dk (51 * hf + 2 * sc)) (nI (51 * hf + 2 * sc)) gn), .int (enc (dk ((51 * hf + 2 * sc) + 1)) (nI ((51 * hf + 2 * sc) + 1)) gn)]) (rest := []) ⟨hx, hb, hml, hown, hts⟩ (mc_joined l (enc (dk (51 * hf + 2 * sc)) (nI (51 * hf + 2 * sc)) gn) (enc (dk ((51 * hf + 2 * sc) + 1)) (nI ((51 * hf + 2 * sc) + 1)) gn)) (cwS 2 hts g_M_86 rfl rfl rfl (by decide +kernel) ⟨(Nat.le_of_ble_eq_true rfl), (Nat.le_of_ble_eq_true rfl)⟩) preEq rfl rfl hl.1 rfl (lv_room (Nat.le_of_ble_eq_true rfl)) d_M_looked_157 ⟨(Nat.le_of_ble_eq_true rfl), (Nat.le_of_ble_eq_true rfl)⟩) (fun r hr0 => ?_)
          subst hr0
          refine lv_goto (tgt := 166) hx hb d_M_looked_160 (by decide) ?_
          exact W.lret hx hb hr (fun t ht hW => ⟨_, rfl, (by unfold vlkM; rw [if_pos (hF2.symm.trans h1), if_neg h2]; rfl), ht⟩) (fun q h => by cases h) d_M_looked_166
    | succ f ih =>
      intro k x ls hf0 hk16 hl hF
      by_cases hk1 : k ≤ 1
      · have hF2 : x = rabove dk hf gn sc := by rw [← hF, rup, if_pos hk1]
        refine lv_iload hx hb d_M_looked_42 (lv_at hl 3 rfl) ?_
        refine lv_iconst (v := nI 1) hx hb d_M_looked_44 (by decide) ?_
        refine lv_icmp_le (tgt := 116) hx hb d_M_looked_45 (by decide) (fun _ => ?_) (fun h9 => absurd ((nI_leI (by omega) (by omega)).mpr hk1) h9)
        refine lv_aload_n hx hb d_M_looked_116 rfl (lv_at hl 0 rfl) ?_
        refine lv_iload_n hx hb d_M_looked_117 rfl (lv_at hl 1 rfl) ?_
        refine lv_aload_n hx hb d_M_looked_118 rfl (lv_at hl 0 rfl) ?_
        refine va_get (D := (dC, dI)) (ci := 1) (v := .int gn) (C := R_M) (T := F_M) (N := 15) hx hb hts lay_M hown hK hP 0 rfl rfl 2 (by decide) (hts _ m_272) (fun _ h9 => h9) rfl d_M_looked_119 ?_
        refine vp_callSi (W.runV (C := R_M) (b := h0) (As := [.int (nI (51 * hf + 2 * sc)), .int gn]) (rest := []) ⟨hx, hb, hml, hown, hts⟩ (mc_clear l dC dI h0 qd qs qv qh qn cI cJ _ dk hf gn rt ct pw sl sm cu ln lk lq vq hs nd (51 * hf + 2 * sc) gn (by omega)) (cwV 2 hts g_M_83 rfl rfl rfl (by decide +kernel) ⟨(Nat.le_of_ble_eq_true rfl), (Nat.le_of_ble_eq_true rfl)⟩) (z_preV (va_recv (q0 := 0) hK hP rfl rfl) hP hK hD) rfl rfl hl.1 rfl (lv_room (Nat.le_of_ble_eq_true rfl)) d_M_looked_122 ⟨(Nat.le_of_ble_eq_true rfl), (Nat.le_of_ble_eq_true rfl)⟩) (fun r hr0 => ?_)
        subst hr0
        refine lv_istore hx hb d_M_looked_125 hl (by decide) rfl (fun ls hl => ?_)
        have hl : lv_has ls 6 [(4, .int (enc (dk (51 * hf + 2 * sc)) (nI (51 * hf + 2 * sc)) gn)), (0, .ref h0), (2, .int (nI (51 * hf + 2 * sc))), (3, .int x)] := hl
        refine lv_aload_n hx hb d_M_looked_127 rfl (lv_at hl 1 rfl) ?_
        refine lv_iload_n hx hb d_M_looked_128 rfl (lv_at hl 2 rfl) ?_
        refine lv_iconst (v := nI 1) hx hb d_M_looked_129 (by decide) ?_
        refine lv_iadd hx hb d_M_looked_130 ?_
        refine z_top (nI_add _ _) ?_
        refine lv_aload_n hx hb d_M_looked_131 rfl (lv_at hl 1 rfl) ?_
        refine va_get (D := (dC, dI)) (ci := 1) (v := .int gn) (C := R_M) (T := F_M) (N := 15) hx hb hts lay_M hown hK hP 0 rfl rfl 2 (by decide) (hts _ m_272) (fun _ h9 => h9) rfl d_M_looked_132 ?_
        refine vp_callSi (W.runV (C := R_M) (b := h0) (As := [.int (nI ((51 * hf + 2 * sc) + 1)), .int gn]) (rest := []) ⟨hx, hb, hml, hown, hts⟩ (mc_clear l dC dI h0 qd qs qv qh qn cI cJ _ dk hf gn rt ct pw sl sm cu ln lk lq vq hs nd ((51 * hf + 2 * sc) + 1) gn (by omega)) (cwV 2 hts g_M_83 rfl rfl rfl (by decide +kernel) ⟨(Nat.le_of_ble_eq_true rfl), (Nat.le_of_ble_eq_true rfl)⟩) (z_preV (va_recv (q0 := 0) hK hP rfl rfl) hP hK hD) rfl rfl hl.1 rfl (lv_room (Nat.le_of_ble_eq_true rfl)) d_M_looked_135 ⟨(Nat.le_of_ble_eq_true rfl), (Nat.le_of_ble_eq_true rfl)⟩) (fun r hr0 => ?_)
        subst hr0
        refine lv_istore hx hb d_M_looked_138 hl (by decide) rfl (fun ls hl => ?_)
        have hl : lv_has ls 6 [(5, .int (enc (dk ((51 * hf + 2 * sc) + 1)) (nI ((51 * hf + 2 * sc) + 1)) gn)), (4, .int (enc (dk (51 * hf + 2 * sc)) (nI (51 * hf + 2 * sc)) gn)), (0, .ref h0), (2, .int (nI (51 * hf + 2 * sc))), (3, .int x)] := hl
        refine lv_iload_n hx hb d_M_looked_140 rfl (lv_at hl 4 rfl) ?_
        refine lv_aload_n hx hb d_M_looked_141 rfl (lv_at hl 2 rfl) ?_
        refine va_get (D := (dC, dI)) (ci := 1) (v := .int rt) (C := R_M) (T := F_M) (N := 15) hx hb hts lay_M hown hK hP 0 rfl rfl 3 (by decide) (hts _ m_273) (fun _ h9 => h9) rfl d_M_looked_142 ?_
        refine lv_icmp_ne (tgt := 163) hx hb d_M_looked_145 (by decide) (fun h3 => ?_) (fun h3 => ?_)
        · refine lv_ldc2 (v := -1) hx hb hown (hts _ m_356) d_M_looked_163 ?_
          exact W.lret hx hb hr (fun t ht hW => ⟨_, rfl, (by unfold vlkM; rw [if_neg (fun q => h3 (hF2.trans q))]), ht⟩) (fun q h => by cases h) d_M_looked_166
        · refine lv_iload hx hb d_M_looked_148 (lv_at hl 1 rfl) ?_
          refine lv_if_lt (tgt := 163) hx hb d_M_looked_150 (by decide) (fun h4 => ?_) (fun h4 => ?_)
          · refine lv_ldc2 (v := -1) hx hb hown (hts _ m_356) d_M_looked_163 ?_
            exact W.lret hx hb hr (fun t ht hW => ⟨_, rfl, (by unfold vlkM; rw [if_pos (hF2.symm.trans h3), if_pos h4]), ht⟩) (fun q h => by cases h) d_M_looked_166
          · refine lv_iload hx hb d_M_looked_153 (lv_at hl 1 rfl) ?_
            refine lv_iload hx hb d_M_looked_155 (lv_at hl 0 rfl) ?_
            refine vp_callSl (W.runS (As := [.int (enc (dk (51 * hf + 2 * sc)) (nI (51 * hf + 2 * sc)) gn), .int (enc (dk ((51 * hf + 2 * sc) + 1)) (nI ((51 * hf + 2 * sc) + 1)) gn)]) (rest := []) ⟨hx, hb, hml, hown, hts⟩ (mc_joined l (enc (dk (51 * hf + 2 * sc)) (nI (51 * hf + 2 * sc)) gn) (enc (dk ((51 * hf + 2 * sc) + 1)) (nI ((51 * hf + 2 * sc) + 1)) gn)) (cwS 2 hts g_M_86 rfl rfl rfl (by decide +kernel) ⟨(Nat.le_of_ble_eq_true rfl), (Nat.le_of_ble_eq_true rfl)⟩) preEq rfl rfl hl.1 rfl (lv_room (Nat.le_of_ble_eq_true rfl)) d_M_looked_157 ⟨(Nat.le_of_ble_eq_true rfl), (Nat.le_of_ble_eq_true rfl)⟩) (fun r hr0 => ?_)
            subst hr0
            refine lv_goto (tgt := 166) hx hb d_M_looked_160 (by decide) ?_
            exact W.lret hx hb hr (fun t ht hW => ⟨_, rfl, (by unfold vlkM; rw [if_pos (hF2.symm.trans h3), if_neg h4]; rfl), ht⟩) (fun q h => by cases h) d_M_looked_166
      · by_cases hpar : k % 2 = 0
        · refine lv_iload hx hb d_M_looked_42 (lv_at hl 3 rfl) ?_
          refine lv_iconst (v := nI 1) hx hb d_M_looked_44 (by decide) ?_
          refine lv_icmp_le (tgt := 116) hx hb d_M_looked_45 (by decide) (fun h9 => absurd h9 (fun q => hk1 ((nI_leI (by omega) (by omega)).mp q))) (fun _ => ?_)
          refine lv_aload_n hx hb d_M_looked_48 rfl (lv_at hl 0 rfl) ?_
          refine va_get (D := (dC, dI)) (ci := 1) (v := .ref qd) (C := R_M) (T := F_M) (N := 15) hx hb hts lay_M hown hK hP 0 rfl rfl 0 (by decide) (hts _ m_270) (fun _ h9 => h9) rfl d_M_looked_49 ?_
          refine lv_bipush (v := nI 51) hx hb d_M_looked_52 (by decide) ?_
          refine lv_aload_n hx hb d_M_looked_54 rfl (lv_at hl 0 rfl) ?_
          refine va_get (D := (dC, dI)) (ci := 1) (v := .int (nI hf)) (C := R_M) (T := F_M) (N := 15) hx hb hts lay_M hown hK hP 0 rfl rfl 1 (by decide) (hts _ m_271) (fun _ h9 => h9) rfl d_M_looked_55 ?_
          refine lv_imul hx hb d_M_looked_58 ?_
          refine z_top (pk_mul _ _) ?_
          refine lv_bipush (v := nI 15) hx hb d_M_looked_59 (by decide) ?_
          refine lv_iadd hx hb d_M_looked_61 ?_
          refine z_top (nI_add _ _) ?_
          refine lv_iload hx hb d_M_looked_62 (lv_at hl 3 rfl) ?_
          refine lv_iconst (v := nI 2) hx hb d_M_looked_64 (by decide) ?_
          refine lv_irem hx hb d_M_looked_65 (by decide) ?_
          refine z_top (pk_rem (by omega) (by decide) (by decide)) ?_
          refine lv_if_ne (tgt := 76) hx hb d_M_looked_66 (by decide) (fun h9 => absurd (by rw [hpar]; rfl) h9) (fun _ => ?_)
          refine lv_iload hx hb d_M_looked_69 (lv_at hl 3 rfl) ?_
          refine lv_iconst (v := nI 1) hx hb d_M_looked_71 (by decide) ?_
          refine lv_iadd hx hb d_M_looked_72 ?_
          refine z_top (nI_add _ _) ?_
          refine lv_goto (tgt := 80) hx hb d_M_looked_73 (by decide) ?_
          refine lv_iadd hx hb d_M_looked_80 ?_
          refine z_top (nI_add _ _) ?_
          refine z_iald hx hb hK hP 1 0 rfl rfl (by omega) (by decide) d_M_looked_81 ?_
          refine lv_istore hx hb d_M_looked_82 hl (by decide) rfl (fun ls hl => ?_)
          have hl : lv_has ls 6 [(5, .int (dk (((51 * hf) + 15) + (k + 1)))), (0, .ref h0), (2, .int (nI (51 * hf + 2 * sc))), (3, .int x), (4, .int (nI k))] := hl
          refine lv_iload hx hb d_M_looked_84 (lv_at hl 4 rfl) ?_
          refine lv_iconst (v := nI 2) hx hb d_M_looked_86 (by decide) ?_
          refine lv_irem hx hb d_M_looked_87 (by decide) ?_
          refine z_top (pk_rem (by omega) (by decide) (by decide)) ?_
          refine lv_if_ne (tgt := 100) hx hb d_M_looked_88 (by decide) (fun h9 => absurd (by rw [hpar]; rfl) h9) (fun _ => ?_)
          refine lv_iload_n hx hb d_M_looked_91 rfl (lv_at hl 3 rfl) ?_
          refine lv_iload hx hb d_M_looked_92 (lv_at hl 0 rfl) ?_
          refine vp_callSi (W.runS (As := [.int x, .int (dk (((51 * hf) + 15) + (k + 1)))]) (rest := []) ⟨hx, hb, hml, hown, hts⟩ (mc_digest l x (dk (((51 * hf) + 15) + (k + 1)))) (cwS 2 hts g_M_47 rfl rfl rfl (by decide +kernel) ⟨(Nat.le_of_ble_eq_true rfl), (Nat.le_of_ble_eq_true rfl)⟩) preEq rfl rfl hl.1 rfl (lv_room (Nat.le_of_ble_eq_true rfl)) d_M_looked_94 ⟨(Nat.le_of_ble_eq_true rfl), (Nat.le_of_ble_eq_true rfl)⟩) (fun r hr0 => ?_)
          subst hr0
          refine lv_goto (tgt := 106) hx hb d_M_looked_97 (by decide) ?_
          refine lv_istore_n hx hb d_M_looked_106 rfl hl (by decide) rfl (fun ls hl => ?_)
          have hl : lv_has ls 6 [(3, .int (dg x (dk (((51 * hf) + 15) + (k + 1))))), (5, .int (dk (((51 * hf) + 15) + (k + 1)))), (0, .ref h0), (2, .int (nI (51 * hf + 2 * sc))), (4, .int (nI k))] := hl
          refine lv_iload hx hb d_M_looked_107 (lv_at hl 4 rfl) ?_
          refine lv_iconst (v := nI 2) hx hb d_M_looked_109 (by decide) ?_
          refine lv_idiv hx hb d_M_looked_110 (by decide) ?_
          refine z_top (pk_div (by omega) (by decide) (by decide)) ?_
          refine lv_istore hx hb d_M_looked_111 hl (by decide) rfl (fun ls hl => ?_)
          have hl : lv_has ls 6 [(4, .int (nI (k / 2))), (3, .int (dg x (dk (((51 * hf) + 15) + (k + 1))))), (5, .int (dk (((51 * hf) + 15) + (k + 1)))), (0, .ref h0), (2, .int (nI (51 * hf + 2 * sc)))] := hl
          refine lv_goto (tgt := 42) hx hb d_M_looked_113 (by decide) ?_
          exact ih (k / 2) _ ls (by omega) (by omega) (lv_sub hl [3, 4, 1, 0] rfl) (by rw [← hF, rup, if_neg hk1, if_pos hpar, (z_x1 k hk16).1 hpar])
        · refine lv_iload hx hb d_M_looked_42 (lv_at hl 3 rfl) ?_
          refine lv_iconst (v := nI 1) hx hb d_M_looked_44 (by decide) ?_
          refine lv_icmp_le (tgt := 116) hx hb d_M_looked_45 (by decide) (fun h9 => absurd h9 (fun q => hk1 ((nI_leI (by omega) (by omega)).mp q))) (fun _ => ?_)
          refine lv_aload_n hx hb d_M_looked_48 rfl (lv_at hl 0 rfl) ?_
          refine va_get (D := (dC, dI)) (ci := 1) (v := .ref qd) (C := R_M) (T := F_M) (N := 15) hx hb hts lay_M hown hK hP 0 rfl rfl 0 (by decide) (hts _ m_270) (fun _ h9 => h9) rfl d_M_looked_49 ?_
          refine lv_bipush (v := nI 51) hx hb d_M_looked_52 (by decide) ?_
          refine lv_aload_n hx hb d_M_looked_54 rfl (lv_at hl 0 rfl) ?_
          refine va_get (D := (dC, dI)) (ci := 1) (v := .int (nI hf)) (C := R_M) (T := F_M) (N := 15) hx hb hts lay_M hown hK hP 0 rfl rfl 1 (by decide) (hts _ m_271) (fun _ h9 => h9) rfl d_M_looked_55 ?_
          refine lv_imul hx hb d_M_looked_58 ?_
          refine z_top (pk_mul _ _) ?_
          refine lv_bipush (v := nI 15) hx hb d_M_looked_59 (by decide) ?_
          refine lv_iadd hx hb d_M_looked_61 ?_
          refine z_top (nI_add _ _) ?_
          refine lv_iload hx hb d_M_looked_62 (lv_at hl 3 rfl) ?_
          refine lv_iconst (v := nI 2) hx hb d_M_looked_64 (by decide) ?_
          refine lv_irem hx hb d_M_looked_65 (by decide) ?_
          refine z_top (pk_rem (by omega) (by decide) (by decide)) ?_
          refine lv_if_ne (tgt := 76) hx hb d_M_looked_66 (by decide) (fun _ => ?_) (fun h9 => absurd h9 (fun q => hpar ((nI_eq (b := 0) (by omega) (by omega)).mp q)))
          refine lv_iload hx hb d_M_looked_76 (lv_at hl 3 rfl) ?_
          refine lv_iconst (v := nI 1) hx hb d_M_looked_78 (by decide) ?_
          refine lv_isub hx hb d_M_looked_79 ?_
          refine z_top (pk_sub (by omega)) ?_
          refine lv_iadd hx hb d_M_looked_80 ?_
          refine z_top (nI_add _ _) ?_
          refine z_iald hx hb hK hP 1 0 rfl rfl (by omega) (by decide) d_M_looked_81 ?_
          refine lv_istore hx hb d_M_looked_82 hl (by decide) rfl (fun ls hl => ?_)
          have hl : lv_has ls 6 [(5, .int (dk (((51 * hf) + 15) + (k - 1)))), (0, .ref h0), (2, .int (nI (51 * hf + 2 * sc))), (3, .int x), (4, .int (nI k))] := hl
          refine lv_iload hx hb d_M_looked_84 (lv_at hl 4 rfl) ?_
          refine lv_iconst (v := nI 2) hx hb d_M_looked_86 (by decide) ?_
          refine lv_irem hx hb d_M_looked_87 (by decide) ?_
          refine z_top (pk_rem (by omega) (by decide) (by decide)) ?_
          refine lv_if_ne (tgt := 100) hx hb d_M_looked_88 (by decide) (fun _ => ?_) (fun h9 => absurd h9 (fun q => hpar ((nI_eq (b := 0) (by omega) (by omega)).mp q)))
          refine lv_iload hx hb d_M_looked_100 (lv_at hl 0 rfl) ?_
          refine lv_iload_n hx hb d_M_looked_102 rfl (lv_at hl 3 rfl) ?_
          refine vp_callSi (W.runS (As := [.int (dk (((51 * hf) + 15) + (k - 1))), .int x]) (rest := []) ⟨hx, hb, hml, hown, hts⟩ (mc_digest l (dk (((51 * hf) + 15) + (k - 1))) x) (cwS 2 hts g_M_47 rfl rfl rfl (by decide +kernel) ⟨(Nat.le_of_ble_eq_true rfl), (Nat.le_of_ble_eq_true rfl)⟩) preEq rfl rfl hl.1 rfl (lv_room (Nat.le_of_ble_eq_true rfl)) d_M_looked_103 ⟨(Nat.le_of_ble_eq_true rfl), (Nat.le_of_ble_eq_true rfl)⟩) (fun r hr0 => ?_)
          subst hr0
          refine lv_istore_n hx hb d_M_looked_106 rfl hl (by decide) rfl (fun ls hl => ?_)
          have hl : lv_has ls 6 [(3, .int (dg (dk (((51 * hf) + 15) + (k - 1))) x)), (5, .int (dk (((51 * hf) + 15) + (k - 1)))), (0, .ref h0), (2, .int (nI (51 * hf + 2 * sc))), (4, .int (nI k))] := hl
          refine lv_iload hx hb d_M_looked_107 (lv_at hl 4 rfl) ?_
          refine lv_iconst (v := nI 2) hx hb d_M_looked_109 (by decide) ?_
          refine lv_idiv hx hb d_M_looked_110 (by decide) ?_
          refine z_top (pk_div (by omega) (by decide) (by decide)) ?_
          refine lv_istore hx hb d_M_looked_111 hl (by decide) rfl (fun ls hl => ?_)
          have hl : lv_has ls 6 [(4, .int (nI (k / 2))), (3, .int (dg (dk (((51 * hf) + 15) + (k - 1))) x)), (5, .int (dk (((51 * hf) + 15) + (k - 1)))), (0, .ref h0), (2, .int (nI (51 * hf + 2 * sc)))] := hl
          refine lv_goto (tgt := 42) hx hb d_M_looked_113 (by decide) ?_
          exact ih (k / 2) _ ls (by omega) (by omega) (lv_sub hl [3, 4, 1, 0] rfl) (by rw [← hF, rup, if_neg hk1, if_neg hpar, (z_x1 k hk16).2 hpar])
  refine lv_bipush (v := nI 51) hx hb d_M_looked_0 (by decide) ?_
  refine lv_aload_n hx hb d_M_looked_2 rfl (lv_at hl 0 rfl) ?_
  refine va_get (D := (dC, dI)) (ci := 1) (v := .int (nI hf)) (C := R_M) (T := F_M) (N := 15) hx hb hts lay_M hown hK hP 0 rfl rfl 1 (by decide) (hts _ m_271) (fun _ h9 => h9) rfl d_M_looked_3 ?_
  refine lv_imul hx hb d_M_looked_6 ?_
  refine z_top (pk_mul _ _) ?_
  refine lv_iconst (v := nI 2) hx hb d_M_looked_7 (by decide) ?_
  refine lv_iload_n hx hb d_M_looked_8 rfl (lv_at hl 1 rfl) ?_
  refine lv_imul hx hb d_M_looked_9 ?_
  refine z_top (pk_mul _ _) ?_
  refine lv_iadd hx hb d_M_looked_10 ?_
  refine z_top (nI_add _ _) ?_
  refine lv_istore_n hx hb d_M_looked_11 rfl hl (by decide) rfl (fun ls hl => ?_)
  have hl : lv_has ls 6 [(2, .int (nI ((51 * hf) + (2 * sc)))), (0, .ref h0), (1, .int (nI sc))] := hl
  refine lv_aload_n hx hb d_M_looked_12 rfl (lv_at hl 1 rfl) ?_
  refine lv_iload_n hx hb d_M_looked_13 rfl (lv_at hl 2 rfl) ?_
  refine lv_aload_n hx hb d_M_looked_14 rfl (lv_at hl 1 rfl) ?_
  refine va_get (D := (dC, dI)) (ci := 1) (v := .int gn) (C := R_M) (T := F_M) (N := 15) hx hb hts lay_M hown hK hP 0 rfl rfl 2 (by decide) (hts _ m_272) (fun _ h9 => h9) rfl d_M_looked_15 ?_
  refine lv_aload_n hx hb d_M_looked_18 rfl (lv_at hl 1 rfl) ?_
  refine va_get (D := (dC, dI)) (ci := 1) (v := .ref qd) (C := R_M) (T := F_M) (N := 15) hx hb hts lay_M hown hK hP 0 rfl rfl 0 (by decide) (hts _ m_270) (fun _ h9 => h9) rfl d_M_looked_19 ?_
  refine lv_iload_n hx hb d_M_looked_22 rfl (lv_at hl 0 rfl) ?_
  refine z_iald hx hb hK hP 1 0 rfl rfl (by omega) (by decide) d_M_looked_23 ?_
  refine lv_aload_n hx hb d_M_looked_24 rfl (lv_at hl 1 rfl) ?_
  refine va_get (D := (dC, dI)) (ci := 1) (v := .ref qd) (C := R_M) (T := F_M) (N := 15) hx hb hts lay_M hown hK hP 0 rfl rfl 0 (by decide) (hts _ m_270) (fun _ h9 => h9) rfl d_M_looked_25 ?_
  refine lv_iload_n hx hb d_M_looked_28 rfl (lv_at hl 0 rfl) ?_
  refine lv_iconst (v := nI 1) hx hb d_M_looked_29 (by decide) ?_
  refine lv_iadd hx hb d_M_looked_30 ?_
  refine z_top (nI_add _ _) ?_
  refine z_iald hx hb hK hP 1 0 rfl rfl (by omega) (by decide) d_M_looked_31 ?_
  refine vp_callSi (W.runV (C := R_M) (b := h0) (As := [.int (nI sc), .int gn, .int (dk ((51 * hf) + (2 * sc))), .int (dk (((51 * hf) + (2 * sc)) + 1))]) (rest := []) ⟨hx, hb, hml, hown, hts⟩ (mc_leaf l dC dI h0 qd qs qv qh qn cI cJ _ dk hf gn rt ct pw sl sm cu ln lk lq vq hs nd (nI sc) gn (dk ((51 * hf) + (2 * sc))) (dk (((51 * hf) + (2 * sc)) + 1))) (cwV 4 hts g_M_52 rfl rfl rfl (by decide +kernel) ⟨(Nat.le_of_ble_eq_true rfl), (Nat.le_of_ble_eq_true rfl)⟩) (z_preV (va_recv (q0 := 0) hK hP rfl rfl) hP hK hD) rfl rfl hl.1 rfl (lv_room (Nat.le_of_ble_eq_true rfl)) d_M_looked_32 ⟨(Nat.le_of_ble_eq_true rfl), (Nat.le_of_ble_eq_true rfl)⟩) (fun r hr0 => ?_)
  subst hr0
  refine lv_istore_n hx hb d_M_looked_35 rfl hl (by decide) rfl (fun ls hl => ?_)
  have hl : lv_has ls 6 [(3, .int (dg (dg (8 * gn + (nI sc)) (dk ((51 * hf) + (2 * sc)))) (dk (((51 * hf) + (2 * sc)) + 1)))), (2, .int (nI ((51 * hf) + (2 * sc)))), (0, .ref h0), (1, .int (nI sc))] := hl
  refine lv_bipush (v := nI 8) hx hb d_M_looked_36 (by decide) ?_
  refine lv_iload_n hx hb d_M_looked_38 rfl (lv_at hl 3 rfl) ?_
  refine lv_iadd hx hb d_M_looked_39 ?_
  refine z_top (nI_add _ _) ?_
  refine lv_istore hx hb d_M_looked_40 hl (by decide) rfl (fun ls hl => ?_)
  have hl : lv_has ls 6 [(4, .int (nI (8 + sc))), (3, .int (dg (dg (8 * gn + (nI sc)) (dk ((51 * hf) + (2 * sc)))) (dk (((51 * hf) + (2 * sc)) + 1)))), (2, .int (nI ((51 * hf) + (2 * sc)))), (0, .ref h0), (1, .int (nI sc))] := hl
  exact loop 16 (8 + sc) _ ls (by omega) (by omega) (lv_sub hl [3, 2, 1, 0] rfl) (by unfold rabove; rw [due_leaf])
set_option maxHeartbeats 4000000 in
set_option maxRecDepth 100000 in
theorem mc_value (l : Launch) (dC : Nat → ClassId) (dI : Nat → Nat → Nat) (h0 qd qs qv qh qn : Nat) (cI cJ : ClassId) (sz : Nat) (dk : Nat → Int32) (hf : Nat) (gn : Int32) (rt : Int32) (ct : Int32) (pw : Bool) (sl : Int32) (sm : Int32) (cu : Bool) (ln : Nat) (lk : Int32) (lq : Nat → Int32) (vq : Nat → Int64) (hs : Nat → Int64) (nd : Nat → Int32) (sc : Nat) (h_f : hf < 2) (h_n : ln ≤ 5) (h_s : sc < 8) : Met l y_M_value w_M_value ({ frames := 4, cells := 0, slots := 0, locals := 91 }) (va_Pc [.ref h0, .int (nI sc)] (z_pre (dC, dI) classes [(cI, .int), (cJ, .long)] (Mw h0 qd qs qv qh qn cI cJ (dk, hf, gn, rt, ct, pw, sl, sm, cu, ln, lk, lq, vq, hs, nd)) sz)) (vp_Sl (fun r => r = vofM dk hf gn rt ln lq vq sc)) 0 0 (fun _ => False) := by
  refine Met.ofW (cc := b_M_value) (maxL := 3) (ret := (some .long)) (by decide) rfl ?_
  intro p e s m args below meth c s₁ B hml hv
  obtain ⟨rfl, hsz, hP, hK, hD0⟩ := hv
  have hx := B.exec
  have hb := B.bytes
  have hr := B.returns
  have hts := fun (w : Cond) (h : w ∈ lw_U) => atoms_spec (ws := w_M_value) B.pre w (List.mem_cons_of_mem _ h)
  have hown : s.vm.findClass R_M = some m.cls := findClass_of_methodNamed B.named
  have hlocks := B.notSynchronized
  subst hsz
  have hD := hD0
  have hl := lv_entry ([.ref h0, .int (nI sc)]) (n := 3) (Nat.le_of_ble_eq_true rfl)
  rw [lg_entry_eq]
  generalize (lg_sl ([.ref h0, .int (nI sc)]) ++ List.replicate (3 - (lg_sl ([.ref h0, .int (nI sc)])).length) Slot.unset).toArray = ls at hl ⊢
  have hl : lv_has ls 3 [(0, .ref h0), (1, .int (nI sc))] := hl
  have loop : ∀ (i : Nat) (ls : Array Slot), i ≤ ln → lv_has ls 3 [(0, .ref h0), (1, .int (nI sc)), (2, .int (nI i - 1))] → lkp lq vq (nI sc) i = lkp lq vq (nI sc) ln → W p l e (headSpec w_M_value ({ frames := 4, cells := 0, slots := 0, locals := 91 })).room s m ([.ref h0, .int (nI sc)].toArray) below meth c s.heap [] 0 0 (MQ below (vp_Sl (fun r => r = vofM dk hf gn rt ln lq vq sc)) ([.ref h0, .int (nI sc)].toArray) s 0 0 (fun _ => False)) (F0 m 7 ls []) := by
    intro i
    induction i with
    | zero =>
      intro ls hi hl hF
      refine lv_iload_n hx hb d_M_value_7 rfl (lv_at hl 2 rfl) ?_
      refine lv_if_lt (tgt := 34) hx hb d_M_value_8 (by decide) (fun _ => ?_) (fun h9 => absurd (by decide) h9)
      refine lv_aload_n hx hb d_M_value_34 rfl (lv_at hl 0 rfl) ?_
      refine lv_iload_n hx hb d_M_value_35 rfl (lv_at hl 1 rfl) ?_
      refine vp_callSl (W.runV (C := R_M) (b := h0) (As := [.int (nI sc)]) (rest := []) ⟨hx, hb, hml, hown, hts⟩ (mc_looked l dC dI h0 qd qs qv qh qn cI cJ _ dk hf gn rt ct pw sl sm cu ln lk lq vq hs nd sc (by omega) (by omega)) (cwV 1 hts g_M_106 rfl rfl rfl (by decide +kernel) ⟨(Nat.le_of_ble_eq_true rfl), (Nat.le_of_ble_eq_true rfl)⟩) (z_preV (va_recv (q0 := 0) hK hP rfl rfl) hP hK hD) rfl rfl hl.1 rfl (lv_room (Nat.le_of_ble_eq_true rfl)) d_M_value_36 ⟨(Nat.le_of_ble_eq_true rfl), (Nat.le_of_ble_eq_true rfl)⟩) (fun r hr0 => ?_)
      subst hr0
      exact W.lret hx hb hr (fun t ht hW => ⟨_, rfl, (by unfold vofM; rw [← hF, lkp]), ht⟩) (fun q h => by cases h) d_M_value_39
    | succ i ih =>
      intro ls hi hl hF
      rw [nI_pred] at hl
      refine lv_iload_n hx hb d_M_value_7 rfl (lv_at hl 2 rfl) ?_
      refine lv_if_lt (tgt := 34) hx hb d_M_value_8 (by decide) (fun h9 => absurd h9 (nI_pos (by omega))) (fun _ => ?_)
      refine lv_aload_n hx hb d_M_value_11 rfl (lv_at hl 0 rfl) ?_
      refine va_get (D := (dC, dI)) (ci := 1) (v := .ref qs) (C := R_M) (T := F_M) (N := 15) hx hb hts lay_M hown hK hP 0 rfl rfl 11 (by decide) (hts _ m_281) (fun _ h9 => h9) rfl d_M_value_12 ?_
      refine lv_iload_n hx hb d_M_value_15 rfl (lv_at hl 2 rfl) ?_
      refine z_iald hx hb hK hP 2 0 rfl rfl (by omega) (by decide) d_M_value_16 ?_
      refine lv_iload_n hx hb d_M_value_17 rfl (lv_at hl 1 rfl) ?_
      refine lv_icmp_ne (tgt := 28) hx hb d_M_value_18 (by decide) (fun h1 => ?_) (fun h1 => ?_)
      · refine lv_iinc (k := 2) hx hb d_M_value_28 hl rfl (z_dm _) (by decide) rfl (fun ls hl => ?_)
        have hl : lv_has ls 3 [(2, .int (nI i - 1)), (0, .ref h0), (1, .int (nI sc))] := hl
        refine lv_goto (tgt := 7) hx hb d_M_value_31 (by decide) ?_
        exact ih ls (by omega) (lv_sub hl [1, 2, 0] rfl) (by rw [← hF, lkp, if_neg h1])
      · refine lv_aload_n hx hb d_M_value_21 rfl (lv_at hl 0 rfl) ?_
        refine va_get (D := (dC, dI)) (ci := 1) (v := .ref qv) (C := R_M) (T := F_M) (N := 15) hx hb hts lay_M hown hK hP 0 rfl rfl 12 (by decide) (hts _ m_282) (fun _ h9 => h9) rfl d_M_value_22 ?_
        refine lv_iload_n hx hb d_M_value_25 rfl (lv_at hl 2 rfl) ?_
        refine z_lald hx hb hK hP 3 1 rfl rfl (by omega) (by decide) d_M_value_26 ?_
        exact W.lret hx hb hr (fun t ht hW => ⟨_, rfl, (by unfold vofM; rw [← hF, lkp, if_pos h1]), ht⟩) (fun q h => by cases h) d_M_value_27
  refine lv_aload_n hx hb d_M_value_0 rfl (lv_at hl 0 rfl) ?_
  refine va_get (D := (dC, dI)) (ci := 1) (v := .int (nI ln)) (C := R_M) (T := F_M) (N := 15) hx hb hts lay_M hown hK hP 0 rfl rfl 9 (by decide) (hts _ m_279) (fun _ h9 => h9) rfl d_M_value_1 ?_
  refine lv_iconst (v := (1 : Int32)) hx hb d_M_value_4 (by decide) ?_
  refine lv_isub hx hb d_M_value_5 ?_
  refine z_top rfl ?_
  refine lv_istore_n hx hb d_M_value_6 rfl hl (by decide) rfl (fun ls hl => ?_)
  have hl : lv_has ls 3 [(2, .int (nI ln - 1)), (0, .ref h0), (1, .int (nI sc))] := hl
  exact loop ln ls (Nat.le_refl _) (lv_sub hl [1, 2, 0] rfl) rfl
end
section
set_option maxHeartbeats 4000000 in
set_option maxRecDepth 100000 in
theorem mc_nodes (l : Launch) (dC : Nat → ClassId) (dI : Nat → Nat → Nat) (h0 qd qs qv qh qn : Nat) (cI cJ : ClassId) (sz : Nat) (dk : Nat → Int32) (hf : Nat) (gn : Int32) (rt : Int32) (ct : Int32) (pw : Bool) (sl : Int32) (sm : Int32) (cu : Bool) (ln : Nat) (lk : Int32) (lq : Nat → Int32) (vq : Nat → Int64) (hs : Nat → Int64) (nd : Nat → Int32) (a1 : Nat) (g1 : Int32) (h_a : a1 < 2) : Met l y_M_nodes w_M_nodes ({ frames := 2, cells := 0, slots := 0, locals := 48 }) (va_Pc [.ref h0, .int (nI a1), .int g1] (z_pre (dC, dI) classes [(cI, .int), (cJ, .long)] (Mw h0 qd qs qv qh qn cI cJ (dk, hf, gn, rt, ct, pw, sl, sm, cu, ln, lk, lq, vq, hs, nd)) sz)) (va_Qv (fun (u : MS) => u = (dk, hf, gn, rt, ct, pw, sl, sm, cu, ln, lk, lq, vq, hs, ndB 7 (ndA dk a1 g1 8 0 nd))) (fun u => z_at (dC, dI) classes [(cI, .int), (cJ, .long)] (va_A (Mw h0 qd qs qv qh qn cI cJ (dk, hf, gn, rt, ct, pw, sl, sm, cu, ln, lk, lq, vq, hs, nd)) sz) (Mw h0 qd qs qv qh qn cI cJ u)) (va_A (Mw h0 qd qs qv qh qn cI cJ (dk, hf, gn, rt, ct, pw, sl, sm, cu, ln, lk, lq, vq, hs, nd)) sz)) 0 0 (va_A (Mw h0 qd qs qv qh qn cI cJ (dk, hf, gn, rt, ct, pw, sl, sm, cu, ln, lk, lq, vq, hs, nd)) sz) := by
  refine Met.ofW (cc := b_M_nodes) (maxL := 4) (ret := none) (by decide) rfl ?_
  intro p e s m args below meth c s₁ B hml hv
  obtain ⟨rfl, hsz, hP, hK, hD0⟩ := hv
  have hx := B.exec
  have hb := B.bytes
  have hr := B.returns
  have hts := fun (w : Cond) (h : w ∈ lw_U) => atoms_spec (ws := w_M_nodes) B.pre w (List.mem_cons_of_mem _ h)
  have hown : s.vm.findClass R_M = some m.cls := findClass_of_methodNamed B.named
  have hlocks := B.notSynchronized
  subst hsz
  have hD := hD0.self (sz := s.heap.size)
  generalize hAe : va_A (Mw h0 qd qs qv qh qn cI cJ (dk, hf, gn, rt, ct, pw, sl, sm, cu, ln, lk, lq, vq, hs, nd)) s.heap.size = A at hD ⊢
  have hA : ∀ q : Nat, s.heap.size ≤ q → A q := fun q h => by rw [← hAe]; exact Or.inr h
  have hS : va_S A s.heap s.heap [] := va_S.rf
  have hP : va_P (dC, dI) classes (Mw h0 qd qs qv qh qn cI cJ (dk, hf, gn, rt, ct, pw, sl, sm, cu, ln, lk, lq, vq, hs, nd)) s.heap := hP
  have hl := lv_entry ([.ref h0, .int (nI a1), .int g1]) (n := 4) (Nat.le_of_ble_eq_true rfl)
  rw [lg_entry_eq]
  generalize (lg_sl ([.ref h0, .int (nI a1), .int g1]) ++ List.replicate (4 - (lg_sl ([.ref h0, .int (nI a1), .int g1])).length) Slot.unset).toArray = ls at hl ⊢
  have hl : lv_has ls 4 [(0, .ref h0), (1, .int (nI a1)), (2, .int g1)] := hl
  have loop2 : ∀ (k : Nat) (n0 : Nat → Int32) (ls : Array Slot) (H : Heap) (locs : List Loc), k ≤ 7 → lv_has ls 4 [(0, .ref h0), (1, .int (nI a1)), (2, .int g1), (3, .int (nI k))] → va_P (dC, dI) classes (Mw h0 qd qs qv qh qn cI cJ (dk, hf, gn, rt, ct, pw, sl, sm, cu, ln, lk, lq, vq, hs, n0)) H → va_D A (Mw h0 qd qs qv qh qn cI cJ (dk, hf, gn, rt, ct, pw, sl, sm, cu, ln, lk, lq, vq, hs, n0)) → va_S A s.heap H locs → ndB k n0 = ndB 7 (ndA dk a1 g1 8 0 nd) → W p l e (headSpec w_M_nodes ({ frames := 2, cells := 0, slots := 0, locals := 48 })).room s m ([.ref h0, .int (nI a1), .int g1].toArray) below meth c H locs 0 0 (MQ below (va_Qv (fun (u : MS) => u = (dk, hf, gn, rt, ct, pw, sl, sm, cu, ln, lk, lq, vq, hs, ndB 7 (ndA dk a1 g1 8 0 nd))) (fun u => z_at (dC, dI) classes [(cI, .int), (cJ, .long)] A (Mw h0 qd qs qv qh qn cI cJ u)) A) ([.ref h0, .int (nI a1), .int g1].toArray) s 0 0 A) (F0 m 60 ls []) := by
    intro k
    induction k with
    | zero =>
      intro n0 ls H locs hk hl hP hD hS hF
      have hF : n0 = ndB 7 (ndA dk a1 g1 8 0 nd) := hF
      refine lv_iload_n hx hb d_M_nodes_60 rfl (lv_at hl 3 rfl) ?_
      refine lv_if_le (tgt := 97) hx hb d_M_nodes_61 (by decide) (fun _ => ?_) (fun h9 => absurd (by decide) h9)
      exact W.vret hx hb hr (fun t ht hW => ⟨⟨(dk, hf, gn, rt, ct, pw, sl, sm, cu, ln, lk, lq, vq, hs, n0), rfl, (by rw [← hF]), by rw [ht]; exact hP, va_K.moved hW.alike hK, hD⟩, hS.F ht⟩) hS.2.2 d_M_nodes_97
    | succ k ih =>
      intro n0 ls H locs hk hl hP hD hS hF
      refine lv_iload_n hx hb d_M_nodes_60 rfl (lv_at hl 3 rfl) ?_
      refine lv_if_le (tgt := 97) hx hb d_M_nodes_61 (by decide) (fun h9 => absurd h9 (nI_nle (by omega) (by omega))) (fun _ => ?_)
      refine lv_aload_n hx hb d_M_nodes_64 rfl (lv_at hl 0 rfl) ?_
      refine va_get (D := (dC, dI)) (ci := 1) (v := .ref qn) (C := R_M) (T := F_M) (N := 15) hx hb hts lay_M hown hK hP 0 rfl rfl 14 (by decide) (hts _ m_284) (fun _ h9 => h9) rfl d_M_nodes_65 ?_
      refine lv_iload_n hx hb d_M_nodes_68 rfl (lv_at hl 3 rfl) ?_
      refine lv_aload_n hx hb d_M_nodes_69 rfl (lv_at hl 0 rfl) ?_
      refine va_get (D := (dC, dI)) (ci := 1) (v := .ref qn) (C := R_M) (T := F_M) (N := 15) hx hb hts lay_M hown hK hP 0 rfl rfl 14 (by decide) (hts _ m_284) (fun _ h9 => h9) rfl d_M_nodes_70 ?_
      refine lv_iconst (v := nI 2) hx hb d_M_nodes_73 (by decide) ?_
      refine lv_iload_n hx hb d_M_nodes_74 rfl (lv_at hl 3 rfl) ?_
      refine lv_imul hx hb d_M_nodes_75 ?_
      refine z_top (pk_mul _ _) ?_
      refine z_iald hx hb hK hP 5 0 rfl rfl (by omega) (by decide) d_M_nodes_76 ?_
      refine lv_aload_n hx hb d_M_nodes_77 rfl (lv_at hl 0 rfl) ?_
      refine va_get (D := (dC, dI)) (ci := 1) (v := .ref qn) (C := R_M) (T := F_M) (N := 15) hx hb hts lay_M hown hK hP 0 rfl rfl 14 (by decide) (hts _ m_284) (fun _ h9 => h9) rfl d_M_nodes_78 ?_
      refine lv_iconst (v := nI 2) hx hb d_M_nodes_81 (by decide) ?_
      refine lv_iload_n hx hb d_M_nodes_82 rfl (lv_at hl 3 rfl) ?_
      refine lv_imul hx hb d_M_nodes_83 ?_
      refine z_top (pk_mul _ _) ?_
      refine lv_iconst (v := nI 1) hx hb d_M_nodes_84 (by decide) ?_
      refine lv_iadd hx hb d_M_nodes_85 ?_
      refine z_top (nI_add _ _) ?_
      refine z_iald hx hb hK hP 5 0 rfl rfl (by omega) (by decide) d_M_nodes_86 ?_
      refine vp_callSi (W.runS (As := [.int (n0 (2 * (k + 1))), .int (n0 ((2 * (k + 1)) + 1))]) (rest := [.int (nI (k + 1)), .ref qn]) ⟨hx, hb, hml, hown, hts⟩ (mc_digest l (n0 (2 * (k + 1))) (n0 ((2 * (k + 1)) + 1))) (cwS 2 hts g_M_47 rfl rfl rfl (by decide +kernel) ⟨(Nat.le_of_ble_eq_true rfl), (Nat.le_of_ble_eq_true rfl)⟩) preEq rfl rfl hl.1 rfl (lv_room (Nat.le_of_ble_eq_true rfl)) d_M_nodes_87 ⟨(Nat.le_of_ble_eq_true rfl), (Nat.le_of_ble_eq_true rfl)⟩) (fun r hr0 => ?_)
      subst hr0
      refine z_iast hx hb hK hP hD hS 5 0 rfl rfl (by omega) (by decide) d_M_nodes_90 (fun H locs hP hD hS => ?_)
      have hP : va_P (dC, dI) classes (Mw h0 qd qs qv qh qn cI cJ (dk, hf, gn, rt, ct, pw, sl, sm, cu, ln, lk, lq, vq, hs, upd n0 (k + 1) (dg (n0 (2 * (k + 1))) (n0 ((2 * (k + 1)) + 1))))) H := hP
      have hD : va_D A (Mw h0 qd qs qv qh qn cI cJ (dk, hf, gn, rt, ct, pw, sl, sm, cu, ln, lk, lq, vq, hs, upd n0 (k + 1) (dg (n0 (2 * (k + 1))) (n0 ((2 * (k + 1)) + 1))))) := hD
      refine lv_iinc (k := 3) hx hb d_M_nodes_91 hl rfl (z_dec _) (by decide) rfl (fun ls hl => ?_)
      have hl : lv_has ls 4 [(3, .int (nI k)), (0, .ref h0), (1, .int (nI a1)), (2, .int g1)] := hl
      refine lv_goto (tgt := 60) hx hb d_M_nodes_94 (by decide) ?_
      exact ih _ ls _ _ (by omega) (lv_sub hl [1, 2, 3, 0] rfl) hP hD hS hF
  have loop1 : ∀ (j k : Nat) (n0 : Nat → Int32) (ls : Array Slot) (H : Heap) (locs : List Loc), k + j = 8 → lv_has ls 4 [(0, .ref h0), (1, .int (nI a1)), (2, .int g1), (3, .int (nI k))] → va_P (dC, dI) classes (Mw h0 qd qs qv qh qn cI cJ (dk, hf, gn, rt, ct, pw, sl, sm, cu, ln, lk, lq, vq, hs, n0)) H → va_D A (Mw h0 qd qs qv qh qn cI cJ (dk, hf, gn, rt, ct, pw, sl, sm, cu, ln, lk, lq, vq, hs, n0)) → va_S A s.heap H locs → ndA dk a1 g1 j k n0 = ndA dk a1 g1 8 0 nd → W p l e (headSpec w_M_nodes ({ frames := 2, cells := 0, slots := 0, locals := 48 })).room s m ([.ref h0, .int (nI a1), .int g1].toArray) below meth c H locs 0 0 (MQ below (va_Qv (fun (u : MS) => u = (dk, hf, gn, rt, ct, pw, sl, sm, cu, ln, lk, lq, vq, hs, ndB 7 (ndA dk a1 g1 8 0 nd))) (fun u => z_at (dC, dI) classes [(cI, .int), (cJ, .long)] A (Mw h0 qd qs qv qh qn cI cJ u)) A) ([.ref h0, .int (nI a1), .int g1].toArray) s 0 0 A) (F0 m 2 ls []) := by
    intro j
    induction j with
    | zero =>
      intro k n0 ls H locs hk hl hP hD hS hF
      have hF : n0 = ndA dk a1 g1 8 0 nd := hF
      refine lv_iload_n hx hb d_M_nodes_2 rfl (lv_at hl 3 rfl) ?_
      refine lv_bipush (v := nI 8) hx hb d_M_nodes_3 (by decide) ?_
      refine lv_icmp_ge (tgt := 57) hx hb d_M_nodes_5 (by decide) (fun _ => ?_) (fun h9 => absurd ((nI_leI (by omega) (by omega)).mpr (by omega)) h9)
      refine lv_bipush (v := nI 7) hx hb d_M_nodes_57 (by decide) ?_
      refine lv_istore_n hx hb d_M_nodes_59 rfl hl (by decide) rfl (fun ls hl => ?_)
      have hl : lv_has ls 4 [(3, .int (nI 7)), (0, .ref h0), (1, .int (nI a1)), (2, .int g1)] := hl
      exact loop2 7 _ ls _ _ (by decide) (lv_sub hl [1, 2, 3, 0] rfl) hP hD hS (by rw [hF])
    | succ j ih =>
      intro k n0 ls H locs hk hl hP hD hS hF
      refine lv_iload_n hx hb d_M_nodes_2 rfl (lv_at hl 3 rfl) ?_
      refine lv_bipush (v := nI 8) hx hb d_M_nodes_3 (by decide) ?_
      refine lv_icmp_ge (tgt := 57) hx hb d_M_nodes_5 (by decide) (fun h9 => absurd h9 (fun q => absurd ((nI_leI (by omega) (by omega)).mp q) (by omega))) (fun _ => ?_)
      refine lv_aload_n hx hb d_M_nodes_8 rfl (lv_at hl 0 rfl) ?_
      refine va_get (D := (dC, dI)) (ci := 1) (v := .ref qn) (C := R_M) (T := F_M) (N := 15) hx hb hts lay_M hown hK hP 0 rfl rfl 14 (by decide) (hts _ m_284) (fun _ h9 => h9) rfl d_M_nodes_9 ?_
      refine lv_bipush (v := nI 8) hx hb d_M_nodes_12 (by decide) ?_
      refine lv_iload_n hx hb d_M_nodes_14 rfl (lv_at hl 3 rfl) ?_
      refine lv_iadd hx hb d_M_nodes_15 ?_
      refine z_top (nI_add _ _) ?_
      refine lv_aload_n hx hb d_M_nodes_16 rfl (lv_at hl 0 rfl) ?_
      refine lv_iload_n hx hb d_M_nodes_17 rfl (lv_at hl 3 rfl) ?_
      refine lv_iload_n hx hb d_M_nodes_18 rfl (lv_at hl 2 rfl) ?_
      refine lv_aload_n hx hb d_M_nodes_19 rfl (lv_at hl 0 rfl) ?_
      refine va_get (D := (dC, dI)) (ci := 1) (v := .ref qd) (C := R_M) (T := F_M) (N := 15) hx hb hts lay_M hown hK hP 0 rfl rfl 0 (by decide) (hts _ m_270) (fun _ h9 => h9) rfl d_M_nodes_20 ?_
      refine lv_bipush (v := nI 51) hx hb d_M_nodes_23 (by decide) ?_
      refine lv_iload_n hx hb d_M_nodes_25 rfl (lv_at hl 1 rfl) ?_
      refine lv_imul hx hb d_M_nodes_26 ?_
      refine z_top (pk_mul _ _) ?_
      refine lv_iconst (v := nI 2) hx hb d_M_nodes_27 (by decide) ?_
      refine lv_iload_n hx hb d_M_nodes_28 rfl (lv_at hl 3 rfl) ?_
      refine lv_imul hx hb d_M_nodes_29 ?_
      refine z_top (pk_mul _ _) ?_
      refine lv_iadd hx hb d_M_nodes_30 ?_
      refine z_top (nI_add _ _) ?_
      refine z_iald hx hb hK hP 1 0 rfl rfl (by omega) (by decide) d_M_nodes_31 ?_
      refine lv_aload_n hx hb d_M_nodes_32 rfl (lv_at hl 0 rfl) ?_
      refine va_get (D := (dC, dI)) (ci := 1) (v := .ref qd) (C := R_M) (T := F_M) (N := 15) hx hb hts lay_M hown hK hP 0 rfl rfl 0 (by decide) (hts _ m_270) (fun _ h9 => h9) rfl d_M_nodes_33 ?_
      refine lv_bipush (v := nI 51) hx hb d_M_nodes_36 (by decide) ?_
      refine lv_iload_n hx hb d_M_nodes_38 rfl (lv_at hl 1 rfl) ?_
      refine lv_imul hx hb d_M_nodes_39 ?_
      refine z_top (pk_mul _ _) ?_
      refine lv_iconst (v := nI 2) hx hb d_M_nodes_40 (by decide) ?_
      refine lv_iload_n hx hb d_M_nodes_41 rfl (lv_at hl 3 rfl) ?_
      refine lv_imul hx hb d_M_nodes_42 ?_
      refine z_top (pk_mul _ _) ?_
      refine lv_iadd hx hb d_M_nodes_43 ?_
      refine z_top (nI_add _ _) ?_
      refine lv_iconst (v := nI 1) hx hb d_M_nodes_44 (by decide) ?_
      refine lv_iadd hx hb d_M_nodes_45 ?_
      refine z_top (nI_add _ _) ?_
      refine z_iald hx hb hK hP 1 0 rfl rfl (by omega) (by decide) d_M_nodes_46 ?_
      refine vp_callSi (W.runV (C := R_M) (b := h0) (As := [.int (nI k), .int g1, .int (dk ((51 * a1) + (2 * k))), .int (dk (((51 * a1) + (2 * k)) + 1))]) (rest := [.int (nI (8 + k)), .ref qn]) ⟨hx, hb, hml, hown, hts⟩ (mc_leaf l dC dI h0 qd qs qv qh qn cI cJ _ dk hf gn rt ct pw sl sm cu ln lk lq vq hs n0 (nI k) g1 (dk ((51 * a1) + (2 * k))) (dk (((51 * a1) + (2 * k)) + 1))) (cwV 4 hts g_M_52 rfl rfl rfl (by decide +kernel) ⟨(Nat.le_of_ble_eq_true rfl), (Nat.le_of_ble_eq_true rfl)⟩) (z_preV (va_recv (q0 := 0) hK hP rfl rfl) hP hK hD) rfl rfl hl.1 rfl (lv_room (Nat.le_of_ble_eq_true rfl)) d_M_nodes_47 ⟨(Nat.le_of_ble_eq_true rfl), (Nat.le_of_ble_eq_true rfl)⟩) (fun r hr0 => ?_)
      subst hr0
      refine z_iast hx hb hK hP hD hS 5 0 rfl rfl (by omega) (by decide) d_M_nodes_50 (fun H locs hP hD hS => ?_)
      have hP : va_P (dC, dI) classes (Mw h0 qd qs qv qh qn cI cJ (dk, hf, gn, rt, ct, pw, sl, sm, cu, ln, lk, lq, vq, hs, upd n0 (8 + k) (dg (dg (8 * g1 + (nI k)) (dk ((51 * a1) + (2 * k)))) (dk (((51 * a1) + (2 * k)) + 1))))) H := hP
      have hD : va_D A (Mw h0 qd qs qv qh qn cI cJ (dk, hf, gn, rt, ct, pw, sl, sm, cu, ln, lk, lq, vq, hs, upd n0 (8 + k) (dg (dg (8 * g1 + (nI k)) (dk ((51 * a1) + (2 * k)))) (dk (((51 * a1) + (2 * k)) + 1))))) := hD
      refine lv_iinc (k := 3) hx hb d_M_nodes_51 hl rfl (z_inc _ 1) (by decide) rfl (fun ls hl => ?_)
      have hl : lv_has ls 4 [(3, .int (nI (k + 1))), (0, .ref h0), (1, .int (nI a1)), (2, .int g1)] := hl
      refine lv_goto (tgt := 2) hx hb d_M_nodes_54 (by decide) ?_
      exact ih (k + 1) _ ls _ _ (by omega) (lv_sub hl [1, 2, 3, 0] rfl) hP hD hS hF
  refine lv_iconst (v := nI 0) hx hb d_M_nodes_0 (by decide) ?_
  refine lv_istore_n hx hb d_M_nodes_1 rfl hl (by decide) rfl (fun ls hl => ?_)
  have hl : lv_has ls 4 [(3, .int (nI 0)), (0, .ref h0), (1, .int (nI a1)), (2, .int g1)] := hl
  exact loop1 8 0 _ ls _ _ rfl (lv_sub hl [1, 2, 3, 0] rfl) hP hD hS rfl
set_option maxHeartbeats 4000000 in
set_option maxRecDepth 100000 in
theorem mc_step (l : Launch) (dC : Nat → ClassId) (dI : Nat → Nat → Nat) (h0 qd qs qv qh qn : Nat) (cI cJ : ClassId) (sz : Nat) (qq : Bool × M3) (hf : Nat) (gn : Int32) (rt : Int32) (ct : Int32) (pw : Bool) (ln : Nat) (lk : Int32) (lq : Nat → Int32) (vq : Nat → Int64) (hs : Nat → Int64) (nd : Nat → Int32)   : Met l y_M_step w_M_step ({ frames := 0, cells := 0, slots := 0, locals := 0 }) (va_Pc [.ref h0] (z_pre (dC, dI) classes [(cI, .int), (cJ, .long)] (Mw h0 qd qs qv qh qn cI cJ (mS qq hf gn rt ct pw ln lk lq vq hs nd)) sz)) (va_Qi (fun (r : Int32) (u : MS) => ∃ (d1 : Nat → Int32) (sl1 sm1 : Int32), (st1 qq = (true, (d1, sl1, sm1)) ∧ r = 1 ∧ u = (d1, hf, gn, rt, ct, pw, sl1, sm1, false, ln, lk, lq, vq, hs, nd)) ∨ (st1 qq = (false, (d1, sl1, sm1)) ∧ r = 0 ∧ u = (d1, hf, gn, rt, ct, false, sl1, sm1, true, 0, lk, lq, vq, hs, nd))) (fun u => z_at (dC, dI) classes [(cI, .int), (cJ, .long)] (va_A (Mw h0 qd qs qv qh qn cI cJ (mS qq hf gn rt ct pw ln lk lq vq hs nd)) sz) (Mw h0 qd qs qv qh qn cI cJ u)) (va_A (Mw h0 qd qs qv qh qn cI cJ (mS qq hf gn rt ct pw ln lk lq vq hs nd)) sz)) 0 0 (va_A (Mw h0 qd qs qv qh qn cI cJ (mS qq hf gn rt ct pw ln lk lq vq hs nd)) sz) := by
  refine Met.ofW (cc := b_M_step) (maxL := 1) (ret := (some .boolean)) (by decide) rfl ?_
  intro p e s m args below meth c s₁ B hml hv
  obtain ⟨rfl, hsz, hP, hK, hD0⟩ := hv
  have hx := B.exec
  have hb := B.bytes
  have hr := B.returns
  have hts := fun (w : Cond) (h : w ∈ lw_U) => atoms_spec (ws := w_M_step) B.pre w (List.mem_cons_of_mem _ h)
  have hown : s.vm.findClass R_M = some m.cls := findClass_of_methodNamed B.named
  have hlocks := B.notSynchronized
  subst hsz
  have hD := hD0.self (sz := s.heap.size)
  generalize hAe : va_A (Mw h0 qd qs qv qh qn cI cJ (mS qq hf gn rt ct pw ln lk lq vq hs nd)) s.heap.size = A at hD ⊢
  have hA : ∀ q : Nat, s.heap.size ≤ q → A q := fun q h => by rw [← hAe]; exact Or.inr h
  have hS : va_S A s.heap s.heap [] := va_S.rf
  have hP : va_P (dC, dI) classes (Mw h0 qd qs qv qh qn cI cJ (mS qq hf gn rt ct pw ln lk lq vq hs nd)) s.heap := hP
  have hl := lv_entry ([.ref h0]) (n := 1) (Nat.le_of_ble_eq_true rfl)
  rw [lg_entry_eq]
  generalize (lg_sl ([.ref h0]) ++ List.replicate (1 - (lg_sl ([.ref h0])).length) Slot.unset).toArray = ls at hl ⊢
  have hl : lv_has ls 1 [(0, .ref h0)] := hl
  obtain ⟨_ | _, dk, sl, sm⟩ := qq
  · have hP : va_P (dC, dI) classes (Mw h0 qd qs qv qh qn cI cJ (dk, hf, gn, rt, ct, false, sl, sm, true, 0, lk, lq, vq, hs, nd)) s.heap := hP
    have hD : va_D A (Mw h0 qd qs qv qh qn cI cJ (dk, hf, gn, rt, ct, false, sl, sm, true, 0, lk, lq, vq, hs, nd)) := hD
    refine lv_aload_n hx hb d_M_step_0 rfl (lv_at hl 0 rfl) ?_
    refine va_get (D := (dC, dI)) (ci := 1) (v := .int (bI true)) (C := R_M) (T := F_M) (N := 15) hx hb hts lay_M hown hK hP 0 rfl rfl 8 (by decide) (hts _ m_278) (fun _ h9 => h9) rfl d_M_step_1 ?_
    refine lv_if_eq (tgt := 9) hx hb d_M_step_4 (by decide) (fun h9 => absurd h9 (by decide)) (fun _ => ?_)
    refine lv_iconst (v := (0 : Int32)) hx hb d_M_step_7 (by decide) ?_
    exact W.zret hx hb hr rfl (fun t ht hW => ⟨⟨(0 : Int32), (dk, hf, gn, rt, ct, false, sl, sm, true, 0, lk, lq, vq, hs, nd), rfl, ⟨_, _, _, Or.inr ⟨rfl, rfl, rfl⟩⟩, by rw [ht]; exact hP, va_K.moved hW.alike hK, hD⟩, hS.F ht⟩) hS.2.2 d_M_step_8
  · have hP : va_P (dC, dI) classes (Mw h0 qd qs qv qh qn cI cJ (dk, hf, gn, rt, ct, pw, sl, sm, false, ln, lk, lq, vq, hs, nd)) s.heap := hP
    have hD : va_D A (Mw h0 qd qs qv qh qn cI cJ (dk, hf, gn, rt, ct, pw, sl, sm, false, ln, lk, lq, vq, hs, nd)) := hD
    refine lv_aload_n hx hb d_M_step_0 rfl (lv_at hl 0 rfl) ?_
    refine va_get (D := (dC, dI)) (ci := 1) (v := .int (bI false)) (C := R_M) (T := F_M) (N := 15) hx hb hts lay_M hown hK hP 0 rfl rfl 8 (by decide) (hts _ m_278) (fun _ h9 => h9) rfl d_M_step_1 ?_
    refine lv_if_eq (tgt := 9) hx hb d_M_step_4 (by decide) (fun _ => ?_) (fun h9 => absurd (by decide) h9)
    refine lv_aload_n hx hb d_M_step_9 rfl (lv_at hl 0 rfl) ?_
    refine va_get (D := (dC, dI)) (ci := 1) (v := .int sl) (C := R_M) (T := F_M) (N := 15) hx hb hts lay_M hown hK hP 0 rfl rfl 6 (by decide) (hts _ m_276) (fun _ h9 => h9) rfl d_M_step_10 ?_
    refine lv_if_ne (tgt := 38) hx hb d_M_step_13 (by decide) (fun h1 => ?_) (fun h1 => ?_)
    · refine lv_aload_n hx hb d_M_step_38 rfl (lv_at hl 0 rfl) ?_
      refine lv_aload_n hx hb d_M_step_39 rfl (lv_at hl 0 rfl) ?_
      refine va_get (D := (dC, dI)) (ci := 1) (v := .int sl) (C := R_M) (T := F_M) (N := 15) hx hb hts lay_M hown hK hP 0 rfl rfl 6 (by decide) (hts _ m_276) (fun _ h9 => h9) rfl d_M_step_40 ?_
      refine lv_if_le (tgt := 55) hx hb d_M_step_43 (by decide) (fun h2 => ?_) (fun h2 => ?_)
      · have h2 : ¬ 0 < sl := z_le0 h2
        refine lv_aload_n hx hb d_M_step_55 rfl (lv_at hl 0 rfl) ?_
        refine va_get (D := (dC, dI)) (ci := 1) (v := .int sl) (C := R_M) (T := F_M) (N := 15) hx hb hts lay_M hown hK hP 0 rfl rfl 6 (by decide) (hts _ m_276) (fun _ h9 => h9) rfl d_M_step_56 ?_
        refine va_put (D := (dC, dI)) (ci := 1) (v := .int sl) (ty := .int) (C := R_M) (T := F_M) (N := 15) hx hb hts lay_M t_M t_M_ok n_M hown hK hP hD hS 0 rfl rfl 6 (by decide) (hts _ m_276) (fun _ h9 => h9) rfl (by decide +kernel) rfl rfl (Nat.le_of_ble_eq_true rfl) d_M_step_59 (fun H locs hP hD hS => ?_)
        have hP : va_P (dC, dI) classes (Mw h0 qd qs qv qh qn cI cJ (dk, hf, gn, rt, ct, pw, sl, sm, false, ln, lk, lq, vq, hs, nd)) H := hP
        have hD : va_D A (Mw h0 qd qs qv qh qn cI cJ (dk, hf, gn, rt, ct, pw, sl, sm, false, ln, lk, lq, vq, hs, nd)) := hD
        refine lv_aload_n hx hb d_M_step_62 rfl (lv_at hl 0 rfl) ?_
        refine lv_dup hx hb d_M_step_63 rfl ?_
        refine va_get (D := (dC, dI)) (ci := 1) (v := .int sm) (C := R_M) (T := F_M) (N := 15) hx hb hts lay_M hown hK hP 0 rfl rfl 7 (by decide) (hts _ m_277) (fun _ h9 => h9) rfl d_M_step_64 ?_
        refine lv_iconst (v := (1 : Int32)) hx hb d_M_step_67 (by decide) ?_
        refine lv_iadd hx hb d_M_step_68 ?_
        refine va_put (D := (dC, dI)) (ci := 1) (v := .int (sm + (1 : Int32))) (ty := .int) (C := R_M) (T := F_M) (N := 15) hx hb hts lay_M t_M t_M_ok n_M hown hK hP hD hS 0 rfl rfl 7 (by decide) (hts _ m_277) (fun _ h9 => h9) rfl (by decide +kernel) rfl rfl (Nat.le_of_ble_eq_true rfl) d_M_step_69 (fun H locs hP hD hS => ?_)
        have hP : va_P (dC, dI) classes (Mw h0 qd qs qv qh qn cI cJ (dk, hf, gn, rt, ct, pw, sl, sm + (1 : Int32), false, ln, lk, lq, vq, hs, nd)) H := hP
        have hD : va_D A (Mw h0 qd qs qv qh qn cI cJ (dk, hf, gn, rt, ct, pw, sl, sm + (1 : Int32), false, ln, lk, lq, vq, hs, nd)) := hD
        refine lv_iconst (v := (1 : Int32)) hx hb d_M_step_72 (by decide) ?_
        exact W.zret hx hb hr rfl (fun t ht hW => ⟨⟨(1 : Int32), (dk, hf, gn, rt, ct, pw, sl, sm + (1 : Int32), false, ln, lk, lq, vq, hs, nd), rfl, ⟨_, _, _, Or.inl ⟨(by rw [st1_1 h1, dec1, if_neg h2]), rfl, rfl⟩⟩, by rw [ht]; exact hP, va_K.moved hW.alike hK, hD⟩, hS.F ht⟩) hS.2.2 d_M_step_73
      · have h2 : 0 < sl := z_nle0 h2
        refine lv_aload_n hx hb d_M_step_46 rfl (lv_at hl 0 rfl) ?_
        refine va_get (D := (dC, dI)) (ci := 1) (v := .int sl) (C := R_M) (T := F_M) (N := 15) hx hb hts lay_M hown hK hP 0 rfl rfl 6 (by decide) (hts _ m_276) (fun _ h9 => h9) rfl d_M_step_47 ?_
        refine lv_iconst (v := (1 : Int32)) hx hb d_M_step_50 (by decide) ?_
        refine lv_isub hx hb d_M_step_51 ?_
        refine lv_goto (tgt := 59) hx hb d_M_step_52 (by decide) ?_
        refine va_put (D := (dC, dI)) (ci := 1) (v := .int (sl - (1 : Int32))) (ty := .int) (C := R_M) (T := F_M) (N := 15) hx hb hts lay_M t_M t_M_ok n_M hown hK hP hD hS 0 rfl rfl 6 (by decide) (hts _ m_276) (fun _ h9 => h9) rfl (by decide +kernel) rfl rfl (Nat.le_of_ble_eq_true rfl) d_M_step_59 (fun H locs hP hD hS => ?_)
        have hP : va_P (dC, dI) classes (Mw h0 qd qs qv qh qn cI cJ (dk, hf, gn, rt, ct, pw, sl - (1 : Int32), sm, false, ln, lk, lq, vq, hs, nd)) H := hP
        have hD : va_D A (Mw h0 qd qs qv qh qn cI cJ (dk, hf, gn, rt, ct, pw, sl - (1 : Int32), sm, false, ln, lk, lq, vq, hs, nd)) := hD
        refine lv_aload_n hx hb d_M_step_62 rfl (lv_at hl 0 rfl) ?_
        refine lv_dup hx hb d_M_step_63 rfl ?_
        refine va_get (D := (dC, dI)) (ci := 1) (v := .int sm) (C := R_M) (T := F_M) (N := 15) hx hb hts lay_M hown hK hP 0 rfl rfl 7 (by decide) (hts _ m_277) (fun _ h9 => h9) rfl d_M_step_64 ?_
        refine lv_iconst (v := (1 : Int32)) hx hb d_M_step_67 (by decide) ?_
        refine lv_iadd hx hb d_M_step_68 ?_
        refine va_put (D := (dC, dI)) (ci := 1) (v := .int (sm + (1 : Int32))) (ty := .int) (C := R_M) (T := F_M) (N := 15) hx hb hts lay_M t_M t_M_ok n_M hown hK hP hD hS 0 rfl rfl 7 (by decide) (hts _ m_277) (fun _ h9 => h9) rfl (by decide +kernel) rfl rfl (Nat.le_of_ble_eq_true rfl) d_M_step_69 (fun H locs hP hD hS => ?_)
        have hP : va_P (dC, dI) classes (Mw h0 qd qs qv qh qn cI cJ (dk, hf, gn, rt, ct, pw, sl - (1 : Int32), sm + (1 : Int32), false, ln, lk, lq, vq, hs, nd)) H := hP
        have hD : va_D A (Mw h0 qd qs qv qh qn cI cJ (dk, hf, gn, rt, ct, pw, sl - (1 : Int32), sm + (1 : Int32), false, ln, lk, lq, vq, hs, nd)) := hD
        refine lv_iconst (v := (1 : Int32)) hx hb d_M_step_72 (by decide) ?_
        exact W.zret hx hb hr rfl (fun t ht hW => ⟨⟨(1 : Int32), (dk, hf, gn, rt, ct, pw, sl - (1 : Int32), sm + (1 : Int32), false, ln, lk, lq, vq, hs, nd), rfl, ⟨_, _, _, Or.inl ⟨(by rw [st1_1 h1, dec1, if_pos h2]), rfl, rfl⟩⟩, by rw [ht]; exact hP, va_K.moved hW.alike hK, hD⟩, hS.F ht⟩) hS.2.2 d_M_step_73
    · refine lv_aload_n hx hb d_M_step_16 rfl (lv_at hl 0 rfl) ?_
      refine lv_iconst (v := (-1 : Int32)) hx hb d_M_step_17 (by decide) ?_
      refine va_put (D := (dC, dI)) (ci := 1) (v := .int (-1 : Int32)) (ty := .int) (C := R_M) (T := F_M) (N := 15) hx hb hts lay_M t_M t_M_ok n_M hown hK hP hD hS 0 rfl rfl 6 (by decide) (hts _ m_276) (fun _ h9 => h9) rfl (by decide +kernel) rfl rfl (Nat.le_of_ble_eq_true rfl) d_M_step_18 (fun H locs hP hD hS => ?_)
      have hP : va_P (dC, dI) classes (Mw h0 qd qs qv qh qn cI cJ (dk, hf, gn, rt, ct, pw, (-1 : Int32), sm, false, ln, lk, lq, vq, hs, nd)) H := hP
      have hD : va_D A (Mw h0 qd qs qv qh qn cI cJ (dk, hf, gn, rt, ct, pw, (-1 : Int32), sm, false, ln, lk, lq, vq, hs, nd)) := hD
      refine lv_aload_n hx hb d_M_step_21 rfl (lv_at hl 0 rfl) ?_
      refine lv_iconst (v := (0 : Int32)) hx hb d_M_step_22 (by decide) ?_
      refine va_put (D := (dC, dI)) (ci := 1) (v := .int (0 : Int32)) (ty := .boolean) (C := R_M) (T := F_M) (N := 15) hx hb hts lay_M t_M t_M_ok n_M hown hK hP hD hS 0 rfl rfl 5 (by decide) (hts _ m_275) (fun _ h9 => h9) rfl (by decide +kernel) rfl rfl (Nat.le_of_ble_eq_true rfl) d_M_step_23 (fun H locs hP hD hS => ?_)
      have hP : va_P (dC, dI) classes (Mw h0 qd qs qv qh qn cI cJ (dk, hf, gn, rt, ct, false, (-1 : Int32), sm, false, ln, lk, lq, vq, hs, nd)) H := hP
      have hD : va_D A (Mw h0 qd qs qv qh qn cI cJ (dk, hf, gn, rt, ct, false, (-1 : Int32), sm, false, ln, lk, lq, vq, hs, nd)) := hD
      refine lv_aload_n hx hb d_M_step_26 rfl (lv_at hl 0 rfl) ?_
      refine lv_iconst (v := nI 0) hx hb d_M_step_27 (by decide) ?_
      refine va_put (D := (dC, dI)) (ci := 1) (v := .int (nI 0)) (ty := .int) (C := R_M) (T := F_M) (N := 15) hx hb hts lay_M t_M t_M_ok n_M hown hK hP hD hS 0 rfl rfl 9 (by decide) (hts _ m_279) (fun _ h9 => h9) rfl (by decide +kernel) rfl rfl (Nat.le_of_ble_eq_true rfl) d_M_step_28 (fun H locs hP hD hS => ?_)
      have hP : va_P (dC, dI) classes (Mw h0 qd qs qv qh qn cI cJ (dk, hf, gn, rt, ct, false, (-1 : Int32), sm, false, 0, lk, lq, vq, hs, nd)) H := hP
      have hD : va_D A (Mw h0 qd qs qv qh qn cI cJ (dk, hf, gn, rt, ct, false, (-1 : Int32), sm, false, 0, lk, lq, vq, hs, nd)) := hD
      refine lv_aload_n hx hb d_M_step_31 rfl (lv_at hl 0 rfl) ?_
      refine lv_iconst (v := (1 : Int32)) hx hb d_M_step_32 (by decide) ?_
      refine va_put (D := (dC, dI)) (ci := 1) (v := .int (1 : Int32)) (ty := .boolean) (C := R_M) (T := F_M) (N := 15) hx hb hts lay_M t_M t_M_ok n_M hown hK hP hD hS 0 rfl rfl 8 (by decide) (hts _ m_278) (fun _ h9 => h9) rfl (by decide +kernel) rfl rfl (Nat.le_of_ble_eq_true rfl) d_M_step_33 (fun H locs hP hD hS => ?_)
      have hP : va_P (dC, dI) classes (Mw h0 qd qs qv qh qn cI cJ (dk, hf, gn, rt, ct, false, (-1 : Int32), sm, true, 0, lk, lq, vq, hs, nd)) H := hP
      have hD : va_D A (Mw h0 qd qs qv qh qn cI cJ (dk, hf, gn, rt, ct, false, (-1 : Int32), sm, true, 0, lk, lq, vq, hs, nd)) := hD
      refine lv_iconst (v := (0 : Int32)) hx hb d_M_step_36 (by decide) ?_
      exact W.zret hx hb hr rfl (fun t ht hW => ⟨⟨(0 : Int32), (dk, hf, gn, rt, ct, false, (-1 : Int32), sm, true, 0, lk, lq, vq, hs, nd), rfl, ⟨_, _, _, Or.inr ⟨st1_0 h1, rfl, rfl⟩⟩, by rw [ht]; exact hP, va_K.moved hW.alike hK, hD⟩, hS.F ht⟩) hS.2.2 d_M_step_37
set_option maxHeartbeats 4000000 in
set_option maxRecDepth 100000 in
theorem mc_put (l : Launch) (dC : Nat → ClassId) (dI : Nat → Nat → Nat) (h0 qd qs qv qh qn : Nat) (cI cJ : ClassId) (sz : Nat) (qq : Bool × M3) (hf : Nat) (gn : Int32) (rt : Int32) (ct : Int32) (pw : Bool) (ln : Nat) (lk : Int32) (lq : Nat → Int32) (vq : Nat → Int64) (hs : Nat → Int64) (nd : Nat → Int32) (pp : Nat) (w0 : Int32) (h_p : pp < 102) : Met l y_M_put w_M_put ({ frames := 1, cells := 0, slots := 0, locals := 20 }) (va_Pc [.ref h0, .int (nI pp), .int w0] (z_pre (dC, dI) classes [(cI, .int), (cJ, .long)] (Mw h0 qd qs qv qh qn cI cJ (mS qq hf gn rt ct pw ln lk lq vq hs nd)) sz)) (va_Qv (fun (u : MS) => ∃ q1 : Bool × M3, q1 = wr1 qq pp w0 ∧ u = mS q1 hf gn rt ct pw ln lk lq vq hs nd) (fun u => z_at (dC, dI) classes [(cI, .int), (cJ, .long)] (va_A (Mw h0 qd qs qv qh qn cI cJ (mS qq hf gn rt ct pw ln lk lq vq hs nd)) sz) (Mw h0 qd qs qv qh qn cI cJ u)) (va_A (Mw h0 qd qs qv qh qn cI cJ (mS qq hf gn rt ct pw ln lk lq vq hs nd)) sz)) 0 0 (va_A (Mw h0 qd qs qv qh qn cI cJ (mS qq hf gn rt ct pw ln lk lq vq hs nd)) sz) := by
  refine Met.ofW (cc := b_M_put) (maxL := 3) (ret := none) (by decide) rfl ?_
  intro p e s m args below meth c s₁ B hml hv
  obtain ⟨rfl, hsz, hP, hK, hD0⟩ := hv
  have hx := B.exec
  have hb := B.bytes
  have hr := B.returns
  have hts := fun (w : Cond) (h : w ∈ lw_U) => atoms_spec (ws := w_M_put) B.pre w (List.mem_cons_of_mem _ h)
  have hown : s.vm.findClass R_M = some m.cls := findClass_of_methodNamed B.named
  have hlocks := B.notSynchronized
  subst hsz
  have hD := hD0.self (sz := s.heap.size)
  generalize hAe : va_A (Mw h0 qd qs qv qh qn cI cJ (mS qq hf gn rt ct pw ln lk lq vq hs nd)) s.heap.size = A at hD ⊢
  have hA : ∀ q : Nat, s.heap.size ≤ q → A q := fun q h => by rw [← hAe]; exact Or.inr h
  have hS : va_S A s.heap s.heap [] := va_S.rf
  have hP : va_P (dC, dI) classes (Mw h0 qd qs qv qh qn cI cJ (mS qq hf gn rt ct pw ln lk lq vq hs nd)) s.heap := hP
  have hl := lv_entry ([.ref h0, .int (nI pp), .int w0]) (n := 3) (Nat.le_of_ble_eq_true rfl)
  rw [lg_entry_eq]
  generalize (lg_sl ([.ref h0, .int (nI pp), .int w0]) ++ List.replicate (3 - (lg_sl ([.ref h0, .int (nI pp), .int w0])).length) Slot.unset).toArray = ls at hl ⊢
  have hl : lv_has ls 3 [(0, .ref h0), (1, .int (nI pp)), (2, .int w0)] := hl
  refine lv_aload_n hx hb d_M_put_0 rfl (lv_at hl 0 rfl) ?_
  refine z_calli (va_runV (C := R_M) (b := h0) (As := []) (rest := []) ⟨hx, hb, hml, hown, hts⟩ (mc_step l dC dI h0 qd qs qv qh qn cI cJ _ qq hf gn rt ct pw ln lk lq vq hs nd ) (cwV 0 hts g_M_69 rfl rfl rfl (by decide +kernel) ⟨(Nat.le_of_ble_eq_true rfl), (Nat.le_of_ble_eq_true rfl)⟩) (z_preV (va_recv (q0 := 0) hK hP rfl rfl) hP hK hD) rfl rfl hl.1 rfl (lv_room (Nat.le_of_ble_eq_true rfl)) d_M_put_1 ⟨(Nat.le_of_ble_eq_true rfl), (Nat.le_of_ble_eq_true rfl)⟩) hS hD hA (fun r u H locs hr0 hP hD hS => ?_)
  obtain ⟨d1, sl1, sm1, ⟨hc1, rfl, rfl⟩ | ⟨hc1, rfl, rfl⟩⟩ := hr0
  · refine lv_if_eq (tgt := 14) hx hb d_M_put_4 (by decide) (fun h9 => absurd h9 (by decide)) (fun _ => ?_)
    refine lv_aload_n hx hb d_M_put_7 rfl (lv_at hl 0 rfl) ?_
    refine va_get (D := (dC, dI)) (ci := 1) (v := .ref qd) (C := R_M) (T := F_M) (N := 15) hx hb hts lay_M hown hK hP 0 rfl rfl 0 (by decide) (hts _ m_270) (fun _ h9 => h9) rfl d_M_put_8 ?_
    refine lv_iload_n hx hb d_M_put_11 rfl (lv_at hl 1 rfl) ?_
    refine lv_iload_n hx hb d_M_put_12 rfl (lv_at hl 2 rfl) ?_
    refine z_iast hx hb hK hP hD hS 1 0 rfl rfl (by omega) (by decide) d_M_put_13 (fun H locs hP hD hS => ?_)
    have hP : va_P (dC, dI) classes (Mw h0 qd qs qv qh qn cI cJ (upd d1 pp w0, hf, gn, rt, ct, pw, sl1, sm1, false, ln, lk, lq, vq, hs, nd)) H := hP
    have hD : va_D A (Mw h0 qd qs qv qh qn cI cJ (upd d1 pp w0, hf, gn, rt, ct, pw, sl1, sm1, false, ln, lk, lq, vq, hs, nd)) := hD
    exact W.vret hx hb hr (fun t ht hW => ⟨⟨(upd d1 pp w0, hf, gn, rt, ct, pw, sl1, sm1, false, ln, lk, lq, vq, hs, nd), rfl, ⟨_, (wr1_t hc1).symm, rfl⟩, by rw [ht]; exact hP, va_K.moved hW.alike hK, hD⟩, hS.F ht⟩) hS.2.2 d_M_put_14
  · refine lv_if_eq (tgt := 14) hx hb d_M_put_4 (by decide) (fun _ => ?_) (fun h9 => absurd (by decide) h9)
    exact W.vret hx hb hr (fun t ht hW => ⟨⟨(d1, hf, gn, rt, ct, false, sl1, sm1, true, 0, lk, lq, vq, hs, nd), rfl, ⟨_, (wr1_n hc1).symm, rfl⟩, by rw [ht]; exact hP, va_K.moved hW.alike hK, hD⟩, hS.F ht⟩) hS.2.2 d_M_put_14
set_option maxHeartbeats 4000000 in
set_option maxRecDepth 100000 in
theorem mc_changeSeal (l : Launch) (dC : Nat → ClassId) (dI : Nat → Nat → Nat) (h0 qd qs qv qh qn : Nat) (cI cJ : ClassId) (sz : Nat) (qq : Bool × M3) (hf : Nat) (gn : Int32) (rt : Int32) (ct : Int32) (pw : Bool) (ln : Nat) (lk : Int32) (lq : Nat → Int32) (vq : Nat → Int64) (hs : Nat → Int64) (nd : Nat → Int32) (a1 : Nat) (b1 c1 e1 : Int32)  : Met l y_M_changeSeal w_M_changeSeal ({ frames := 1, cells := 0, slots := 0, locals := 20 }) (va_Pc [.ref h0, .int (nI a1), .int b1, .int c1, .int e1] (z_pre (dC, dI) classes [(cI, .int), (cJ, .long)] (Mw h0 qd qs qv qh qn cI cJ (mS qq hf gn rt ct pw ln lk lq vq hs nd)) sz)) (va_Qv (fun (u : MS) => ∃ (d1 : Nat → Int32) (sl1 sm1 : Int32), (st1 qq = (true, (d1, sl1, sm1)) ∧ u = (d1, a1, b1, c1, e1, pw, sl1, sm1, false, ln, lk, lq, vq, hs, nd)) ∨ (st1 qq = (false, (d1, sl1, sm1)) ∧ u = (d1, hf, gn, rt, ct, false, sl1, sm1, true, 0, lk, lq, vq, hs, nd))) (fun u => z_at (dC, dI) classes [(cI, .int), (cJ, .long)] (va_A (Mw h0 qd qs qv qh qn cI cJ (mS qq hf gn rt ct pw ln lk lq vq hs nd)) sz) (Mw h0 qd qs qv qh qn cI cJ u)) (va_A (Mw h0 qd qs qv qh qn cI cJ (mS qq hf gn rt ct pw ln lk lq vq hs nd)) sz)) 0 0 (va_A (Mw h0 qd qs qv qh qn cI cJ (mS qq hf gn rt ct pw ln lk lq vq hs nd)) sz) := by
  refine Met.ofW (cc := b_M_changeSeal) (maxL := 5) (ret := none) (by decide) rfl ?_
  intro p e s m args below meth c s₁ B hml hv
  obtain ⟨rfl, hsz, hP, hK, hD0⟩ := hv
  have hx := B.exec
  have hb := B.bytes
  have hr := B.returns
  have hts := fun (w : Cond) (h : w ∈ lw_U) => atoms_spec (ws := w_M_changeSeal) B.pre w (List.mem_cons_of_mem _ h)
  have hown : s.vm.findClass R_M = some m.cls := findClass_of_methodNamed B.named
  have hlocks := B.notSynchronized
  subst hsz
  have hD := hD0.self (sz := s.heap.size)
  generalize hAe : va_A (Mw h0 qd qs qv qh qn cI cJ (mS qq hf gn rt ct pw ln lk lq vq hs nd)) s.heap.size = A at hD ⊢
  have hA : ∀ q : Nat, s.heap.size ≤ q → A q := fun q h => by rw [← hAe]; exact Or.inr h
  have hS : va_S A s.heap s.heap [] := va_S.rf
  have hP : va_P (dC, dI) classes (Mw h0 qd qs qv qh qn cI cJ (mS qq hf gn rt ct pw ln lk lq vq hs nd)) s.heap := hP
  have hl := lv_entry ([.ref h0, .int (nI a1), .int b1, .int c1, .int e1]) (n := 5) (Nat.le_of_ble_eq_true rfl)
  rw [lg_entry_eq]
  generalize (lg_sl ([.ref h0, .int (nI a1), .int b1, .int c1, .int e1]) ++ List.replicate (5 - (lg_sl ([.ref h0, .int (nI a1), .int b1, .int c1, .int e1])).length) Slot.unset).toArray = ls at hl ⊢
  have hl : lv_has ls 5 [(0, .ref h0), (1, .int (nI a1)), (2, .int b1), (3, .int c1), (4, .int e1)] := hl
  refine lv_aload_n hx hb d_M_changeSeal_0 rfl (lv_at hl 0 rfl) ?_
  refine z_calli (va_runV (C := R_M) (b := h0) (As := []) (rest := []) ⟨hx, hb, hml, hown, hts⟩ (mc_step l dC dI h0 qd qs qv qh qn cI cJ _ qq hf gn rt ct pw ln lk lq vq hs nd ) (cwV 0 hts g_M_69 rfl rfl rfl (by decide +kernel) ⟨(Nat.le_of_ble_eq_true rfl), (Nat.le_of_ble_eq_true rfl)⟩) (z_preV (va_recv (q0 := 0) hK hP rfl rfl) hP hK hD) rfl rfl hl.1 rfl (lv_room (Nat.le_of_ble_eq_true rfl)) d_M_changeSeal_1 ⟨(Nat.le_of_ble_eq_true rfl), (Nat.le_of_ble_eq_true rfl)⟩) hS hD hA (fun r u H locs hr0 hP hD hS => ?_)
  obtain ⟨d1, sl1, sm1, ⟨hc1, rfl, rfl⟩ | ⟨hc1, rfl, rfl⟩⟩ := hr0
  · refine lv_if_eq (tgt := 28) hx hb d_M_changeSeal_4 (by decide) (fun h9 => absurd h9 (by decide)) (fun _ => ?_)
    refine lv_aload_n hx hb d_M_changeSeal_7 rfl (lv_at hl 0 rfl) ?_
    refine lv_iload_n hx hb d_M_changeSeal_8 rfl (lv_at hl 1 rfl) ?_
    refine va_put (D := (dC, dI)) (ci := 1) (v := .int (nI a1)) (ty := .int) (C := R_M) (T := F_M) (N := 15) hx hb hts lay_M t_M t_M_ok n_M hown hK hP hD hS 0 rfl rfl 1 (by decide) (hts _ m_271) (fun _ h9 => h9) rfl (by decide +kernel) rfl rfl (Nat.le_of_ble_eq_true rfl) d_M_changeSeal_9 (fun H locs hP hD hS => ?_)
    have hP : va_P (dC, dI) classes (Mw h0 qd qs qv qh qn cI cJ (d1, a1, gn, rt, ct, pw, sl1, sm1, false, ln, lk, lq, vq, hs, nd)) H := hP
    have hD : va_D A (Mw h0 qd qs qv qh qn cI cJ (d1, a1, gn, rt, ct, pw, sl1, sm1, false, ln, lk, lq, vq, hs, nd)) := hD
    refine lv_aload_n hx hb d_M_changeSeal_12 rfl (lv_at hl 0 rfl) ?_
    refine lv_iload_n hx hb d_M_changeSeal_13 rfl (lv_at hl 2 rfl) ?_
    refine va_put (D := (dC, dI)) (ci := 1) (v := .int b1) (ty := .int) (C := R_M) (T := F_M) (N := 15) hx hb hts lay_M t_M t_M_ok n_M hown hK hP hD hS 0 rfl rfl 2 (by decide) (hts _ m_272) (fun _ h9 => h9) rfl (by decide +kernel) rfl rfl (Nat.le_of_ble_eq_true rfl) d_M_changeSeal_14 (fun H locs hP hD hS => ?_)
    have hP : va_P (dC, dI) classes (Mw h0 qd qs qv qh qn cI cJ (d1, a1, b1, rt, ct, pw, sl1, sm1, false, ln, lk, lq, vq, hs, nd)) H := hP
    have hD : va_D A (Mw h0 qd qs qv qh qn cI cJ (d1, a1, b1, rt, ct, pw, sl1, sm1, false, ln, lk, lq, vq, hs, nd)) := hD
    refine lv_aload_n hx hb d_M_changeSeal_17 rfl (lv_at hl 0 rfl) ?_
    refine lv_iload_n hx hb d_M_changeSeal_18 rfl (lv_at hl 3 rfl) ?_
    refine va_put (D := (dC, dI)) (ci := 1) (v := .int c1) (ty := .int) (C := R_M) (T := F_M) (N := 15) hx hb hts lay_M t_M t_M_ok n_M hown hK hP hD hS 0 rfl rfl 3 (by decide) (hts _ m_273) (fun _ h9 => h9) rfl (by decide +kernel) rfl rfl (Nat.le_of_ble_eq_true rfl) d_M_changeSeal_19 (fun H locs hP hD hS => ?_)
    have hP : va_P (dC, dI) classes (Mw h0 qd qs qv qh qn cI cJ (d1, a1, b1, c1, ct, pw, sl1, sm1, false, ln, lk, lq, vq, hs, nd)) H := hP
    have hD : va_D A (Mw h0 qd qs qv qh qn cI cJ (d1, a1, b1, c1, ct, pw, sl1, sm1, false, ln, lk, lq, vq, hs, nd)) := hD
    refine lv_aload_n hx hb d_M_changeSeal_22 rfl (lv_at hl 0 rfl) ?_
    refine lv_iload hx hb d_M_changeSeal_23 (lv_at hl 4 rfl) ?_
    refine va_put (D := (dC, dI)) (ci := 1) (v := .int e1) (ty := .int) (C := R_M) (T := F_M) (N := 15) hx hb hts lay_M t_M t_M_ok n_M hown hK hP hD hS 0 rfl rfl 4 (by decide) (hts _ m_274) (fun _ h9 => h9) rfl (by decide +kernel) rfl rfl (Nat.le_of_ble_eq_true rfl) d_M_changeSeal_25 (fun H locs hP hD hS => ?_)
    have hP : va_P (dC, dI) classes (Mw h0 qd qs qv qh qn cI cJ (d1, a1, b1, c1, e1, pw, sl1, sm1, false, ln, lk, lq, vq, hs, nd)) H := hP
    have hD : va_D A (Mw h0 qd qs qv qh qn cI cJ (d1, a1, b1, c1, e1, pw, sl1, sm1, false, ln, lk, lq, vq, hs, nd)) := hD
    exact W.vret hx hb hr (fun t ht hW => ⟨⟨(d1, a1, b1, c1, e1, pw, sl1, sm1, false, ln, lk, lq, vq, hs, nd), rfl, ⟨_, _, _, Or.inl ⟨hc1, rfl⟩⟩, by rw [ht]; exact hP, va_K.moved hW.alike hK, hD⟩, hS.F ht⟩) hS.2.2 d_M_changeSeal_28
  · refine lv_if_eq (tgt := 28) hx hb d_M_changeSeal_4 (by decide) (fun _ => ?_) (fun h9 => absurd (by decide) h9)
    exact W.vret hx hb hr (fun t ht hW => ⟨⟨(d1, hf, gn, rt, ct, false, sl1, sm1, true, 0, lk, lq, vq, hs, nd), rfl, ⟨_, _, _, Or.inr ⟨hc1, rfl⟩⟩, by rw [ht]; exact hP, va_K.moved hW.alike hK, hD⟩, hS.F ht⟩) hS.2.2 d_M_changeSeal_28
end
section
set_option maxHeartbeats 1000000 in
set_option maxRecDepth 100000 in
theorem mc_arm (l : Launch) (dC : Nat → ClassId) (dI : Nat → Nat → Nat) (h0 qd qs qv qh qn : Nat) (cI cJ : ClassId) (sz : Nat) (dk : Nat → Int32) (hf : Nat) (gn : Int32) (rt : Int32) (ct : Int32) (pw : Bool) (sl : Int32) (sm : Int32) (cu : Bool) (ln : Nat) (lk : Int32) (lq : Nat → Int32) (vq : Nat → Int64) (hs : Nat → Int64) (nd : Nat → Int32) (x0 : Int32)  : Met l y_M_arm w_M_arm ({ frames := 0, cells := 0, slots := 0, locals := 0 }) (va_Pc [.ref h0, .int x0] (z_pre (dC, dI) classes [(cI, .int), (cJ, .long)] (Mw h0 qd qs qv qh qn cI cJ (dk, hf, gn, rt, ct, pw, sl, sm, cu, ln, lk, lq, vq, hs, nd)) sz)) (va_Qi (fun (r : Int32) (u : MS) => (0 ≤ x0 ∧ r = 1 ∧ u = (dk, hf, gn, rt, ct, pw, x0, sm, cu, ln, lk, lq, vq, hs, nd)) ∨ (¬ 0 ≤ x0 ∧ r = 0 ∧ u = (dk, hf, gn, rt, ct, pw, sl, sm, cu, ln, lk, lq, vq, hs, nd))) (fun u => z_at (dC, dI) classes [(cI, .int), (cJ, .long)] (va_A (Mw h0 qd qs qv qh qn cI cJ (dk, hf, gn, rt, ct, pw, sl, sm, cu, ln, lk, lq, vq, hs, nd)) sz) (Mw h0 qd qs qv qh qn cI cJ u)) (va_A (Mw h0 qd qs qv qh qn cI cJ (dk, hf, gn, rt, ct, pw, sl, sm, cu, ln, lk, lq, vq, hs, nd)) sz)) 0 0 (va_A (Mw h0 qd qs qv qh qn cI cJ (dk, hf, gn, rt, ct, pw, sl, sm, cu, ln, lk, lq, vq, hs, nd)) sz) := by
  refine Met.ofW (cc := b_M_arm) (maxL := 2) (ret := (some .boolean)) (by decide) rfl ?_
  intro p e s m args below meth c s₁ B hml hv
  obtain ⟨rfl, hsz, hP, hK, hD0⟩ := hv
  have hx := B.exec
  have hb := B.bytes
  have hr := B.returns
  have hts := fun (w : Cond) (h : w ∈ lw_U) => atoms_spec (ws := w_M_arm) B.pre w (List.mem_cons_of_mem _ h)
  have hown : s.vm.findClass R_M = some m.cls := findClass_of_methodNamed B.named
  have hlocks := B.notSynchronized
  subst hsz
  have hD := hD0.self (sz := s.heap.size)
  generalize hAe : va_A (Mw h0 qd qs qv qh qn cI cJ (dk, hf, gn, rt, ct, pw, sl, sm, cu, ln, lk, lq, vq, hs, nd)) s.heap.size = A at hD ⊢
  have hA : ∀ q : Nat, s.heap.size ≤ q → A q := fun q h => by rw [← hAe]; exact Or.inr h
  have hS : va_S A s.heap s.heap [] := va_S.rf
  have hP : va_P (dC, dI) classes (Mw h0 qd qs qv qh qn cI cJ (dk, hf, gn, rt, ct, pw, sl, sm, cu, ln, lk, lq, vq, hs, nd)) s.heap := hP
  have hl := lv_entry ([.ref h0, .int x0]) (n := 2) (Nat.le_of_ble_eq_true rfl)
  rw [lg_entry_eq]
  generalize (lg_sl ([.ref h0, .int x0]) ++ List.replicate (2 - (lg_sl ([.ref h0, .int x0])).length) Slot.unset).toArray = ls at hl ⊢
  have hl : lv_has ls 2 [(0, .ref h0), (1, .int x0)] := hl
  refine lv_iload_n hx hb d_M_arm_0 rfl (lv_at hl 1 rfl) ?_
  refine lv_if_ge (tgt := 6) hx hb d_M_arm_1 (by decide) (fun h1 => ?_) (fun h1 => ?_)
  · refine lv_aload_n hx hb d_M_arm_6 rfl (lv_at hl 0 rfl) ?_
    refine lv_iload_n hx hb d_M_arm_7 rfl (lv_at hl 1 rfl) ?_
    refine va_put (D := (dC, dI)) (ci := 1) (v := .int x0) (ty := .int) (C := R_M) (T := F_M) (N := 15) hx hb hts lay_M t_M t_M_ok n_M hown hK hP hD hS 0 rfl rfl 6 (by decide) (hts _ m_276) (fun _ h9 => h9) rfl (by decide +kernel) rfl rfl (Nat.le_of_ble_eq_true rfl) d_M_arm_8 (fun H locs hP hD hS => ?_)
    have hP : va_P (dC, dI) classes (Mw h0 qd qs qv qh qn cI cJ (dk, hf, gn, rt, ct, pw, x0, sm, cu, ln, lk, lq, vq, hs, nd)) H := hP
    have hD : va_D A (Mw h0 qd qs qv qh qn cI cJ (dk, hf, gn, rt, ct, pw, x0, sm, cu, ln, lk, lq, vq, hs, nd)) := hD
    refine lv_iconst (v := (1 : Int32)) hx hb d_M_arm_11 (by decide) ?_
    exact W.zret hx hb hr rfl (fun t ht hW => ⟨⟨(1 : Int32), (dk, hf, gn, rt, ct, pw, x0, sm, cu, ln, lk, lq, vq, hs, nd), rfl, Or.inl ⟨h1, rfl, rfl⟩, by rw [ht]; exact hP, va_K.moved hW.alike hK, hD⟩, hS.F ht⟩) hS.2.2 d_M_arm_12
  · refine lv_iconst (v := (0 : Int32)) hx hb d_M_arm_4 (by decide) ?_
    exact W.zret hx hb hr rfl (fun t ht hW => ⟨⟨(0 : Int32), (dk, hf, gn, rt, ct, pw, sl, sm, cu, ln, lk, lq, vq, hs, nd), rfl, Or.inr ⟨h1, rfl, rfl⟩, by rw [ht]; exact hP, va_K.moved hW.alike hK, hD⟩, hS.F ht⟩) hS.2.2 d_M_arm_5
set_option maxHeartbeats 1000000 in
set_option maxRecDepth 100000 in
theorem mc_isOn (l : Launch) (dC : Nat → ClassId) (dI : Nat → Nat → Nat) (h0 qd qs qv qh qn : Nat) (cI cJ : ClassId) (sz : Nat) (dk : Nat → Int32) (hf : Nat) (gn : Int32) (rt : Int32) (ct : Int32) (pw : Bool) (sl : Int32) (sm : Int32) (cu : Bool) (ln : Nat) (lk : Int32) (lq : Nat → Int32) (vq : Nat → Int64) (hs : Nat → Int64) (nd : Nat → Int32)   : Met l y_M_isOn w_M_isOn ({ frames := 0, cells := 0, slots := 0, locals := 0 }) (va_Pc [.ref h0] (z_pre (dC, dI) classes [(cI, .int), (cJ, .long)] (Mw h0 qd qs qv qh qn cI cJ (dk, hf, gn, rt, ct, pw, sl, sm, cu, ln, lk, lq, vq, hs, nd)) sz)) (vp_Si (fun r => r = bI pw)) 0 0 (fun _ => False) := by
  refine Met.ofW (cc := b_M_isOn) (maxL := 1) (ret := (some .boolean)) (by decide) rfl ?_
  intro p e s m args below meth c s₁ B hml hv
  obtain ⟨rfl, hsz, hP, hK, hD0⟩ := hv
  have hx := B.exec
  have hb := B.bytes
  have hr := B.returns
  have hts := fun (w : Cond) (h : w ∈ lw_U) => atoms_spec (ws := w_M_isOn) B.pre w (List.mem_cons_of_mem _ h)
  have hown : s.vm.findClass R_M = some m.cls := findClass_of_methodNamed B.named
  have hlocks := B.notSynchronized
  subst hsz
  have hD := hD0
  have hl := lv_entry ([.ref h0]) (n := 1) (Nat.le_of_ble_eq_true rfl)
  rw [lg_entry_eq]
  generalize (lg_sl ([.ref h0]) ++ List.replicate (1 - (lg_sl ([.ref h0])).length) Slot.unset).toArray = ls at hl ⊢
  have hl : lv_has ls 1 [(0, .ref h0)] := hl
  refine lv_aload_n hx hb d_M_isOn_0 rfl (lv_at hl 0 rfl) ?_
  refine va_get (D := (dC, dI)) (ci := 1) (v := .int (bI pw)) (C := R_M) (T := F_M) (N := 15) hx hb hts lay_M hown hK hP 0 rfl rfl 5 (by decide) (hts _ m_275) (fun _ h9 => h9) rfl d_M_isOn_1 ?_
  exact W.zret hx hb hr (by cases pw <;> rfl) (fun t ht hW => ⟨_, rfl, rfl, ht⟩) (fun q h => by cases h) d_M_isOn_4
set_option maxHeartbeats 1000000 in
set_option maxRecDepth 100000 in
theorem mc_mount (l : Launch) (dC : Nat → ClassId) (dI : Nat → Nat → Nat) (h0 qd qs qv qh qn : Nat) (cI cJ : ClassId) (sz : Nat) (dk : Nat → Int32) (hf : Nat) (gn : Int32) (rt : Int32) (ct : Int32) (pw : Bool) (sl : Int32) (sm : Int32) (cu : Bool) (ln : Nat) (lk : Int32) (lq : Nat → Int32) (vq : Nat → Int64) (hs : Nat → Int64) (nd : Nat → Int32)  (h_f : hf < 2) : Met l y_M_mount w_M_mount ({ frames := 5, cells := 0, slots := 0, locals := 112 }) (va_Pc [.ref h0] (z_pre (dC, dI) classes [(cI, .int), (cJ, .long)] (Mw h0 qd qs qv qh qn cI cJ (dk, hf, gn, rt, ct, pw, sl, sm, cu, ln, lk, lq, vq, hs, nd)) sz)) (va_Qi (fun (r : Int32) (u : MS) => ∃ (n1 : Nat), gct dk hf gn (dg (dg 19088743 rt) gn) 5 0 = n1 ∧ n1 ≤ 5 ∧ ((ct ≤ nI n1 ∧ r = nI n1 ∧ ∃ (lq1 : Nat → Int32) (vq1 : Nat → Int64), (∀ i, i < n1 → lq1 i = enc (dk (51 * hf + 31 + 4 * i)) (nI (51 * hf + 31 + 4 * i)) gn ∧ vq1 i = vat dk gn (51 * hf + 31 + 4 * i + 1)) ∧ u = (dk, hf, gn, rt, ct, true, sl, sm, cu, n1, chM dk hf n1 0 (dg (dg 19088743 rt) gn), lq1, vq1, hs, nd)) ∨ (¬ ct ≤ nI n1 ∧ r = -3 ∧ u = (dk, hf, gn, rt, ct, false, sl, sm, cu, 0, lk, lq, vq, hs, nd)))) (fun u => z_at (dC, dI) classes [(cI, .int), (cJ, .long)] (va_A (Mw h0 qd qs qv qh qn cI cJ (dk, hf, gn, rt, ct, pw, sl, sm, cu, ln, lk, lq, vq, hs, nd)) sz) (Mw h0 qd qs qv qh qn cI cJ u)) (va_A (Mw h0 qd qs qv qh qn cI cJ (dk, hf, gn, rt, ct, pw, sl, sm, cu, ln, lk, lq, vq, hs, nd)) sz)) 0 0 (va_A (Mw h0 qd qs qv qh qn cI cJ (dk, hf, gn, rt, ct, pw, sl, sm, cu, ln, lk, lq, vq, hs, nd)) sz) := by
  refine Met.ofW (cc := b_M_mount) (maxL := 3) (ret := (some .int)) (by decide) rfl ?_
  intro p e s m args below meth c s₁ B hml hv
  obtain ⟨rfl, hsz, hP, hK, hD0⟩ := hv
  have hx := B.exec
  have hb := B.bytes
  have hr := B.returns
  have hts := fun (w : Cond) (h : w ∈ lw_U) => atoms_spec (ws := w_M_mount) B.pre w (List.mem_cons_of_mem _ h)
  have hown : s.vm.findClass R_M = some m.cls := findClass_of_methodNamed B.named
  have hlocks := B.notSynchronized
  subst hsz
  have hD := hD0.self (sz := s.heap.size)
  generalize hAe : va_A (Mw h0 qd qs qv qh qn cI cJ (dk, hf, gn, rt, ct, pw, sl, sm, cu, ln, lk, lq, vq, hs, nd)) s.heap.size = A at hD ⊢
  have hA : ∀ q : Nat, s.heap.size ≤ q → A q := fun q h => by rw [← hAe]; exact Or.inr h
  have hS : va_S A s.heap s.heap [] := va_S.rf
  have hP : va_P (dC, dI) classes (Mw h0 qd qs qv qh qn cI cJ (dk, hf, gn, rt, ct, pw, sl, sm, cu, ln, lk, lq, vq, hs, nd)) s.heap := hP
  have hl := lv_entry ([.ref h0]) (n := 3) (Nat.le_of_ble_eq_true rfl)
  rw [lg_entry_eq]
  generalize (lg_sl ([.ref h0]) ++ List.replicate (3 - (lg_sl ([.ref h0])).length) Slot.unset).toArray = ls at hl ⊢
  have hl : lv_has ls 3 [(0, .ref h0)] := hl
  have loop2 : ∀ (n1 : Nat), gct dk hf gn (dg (dg 19088743 rt) gn) 5 0 = n1 → n1 ≤ 5 → ct ≤ nI n1 → ∀ (j k : Nat) (lq1 : Nat → Int32) (vq1 : Nat → Int64) (ls : Array Slot) (H : Heap) (locs : List Loc), k + j = n1 → (∀ i, i < k → lq1 i = enc (dk (51 * hf + 31 + 4 * i)) (nI (51 * hf + 31 + 4 * i)) gn ∧ vq1 i = vat dk gn (51 * hf + 31 + 4 * i + 1)) → lv_has ls 3 [(0, .ref h0), (1, .int (nI n1)), (2, .int (nI k))] → va_P (dC, dI) classes (Mw h0 qd qs qv qh qn cI cJ (dk, hf, gn, rt, ct, true, sl, sm, cu, 0, lk, lq1, vq1, hs, nd)) H → va_D A (Mw h0 qd qs qv qh qn cI cJ (dk, hf, gn, rt, ct, true, sl, sm, cu, 0, lk, lq1, vq1, hs, nd)) → va_S A s.heap H locs → W p l e (headSpec w_M_mount ({ frames := 5, cells := 0, slots := 0, locals := 112 })).room s m ([.ref h0].toArray) below meth c H locs 0 0 (MQ below (va_Qi (fun (r : Int32) (u : MS) => ∃ (n1 : Nat), gct dk hf gn (dg (dg 19088743 rt) gn) 5 0 = n1 ∧ n1 ≤ 5 ∧ ((ct ≤ nI n1 ∧ r = nI n1 ∧ ∃ (lq1 : Nat → Int32) (vq1 : Nat → Int64), (∀ i, i < n1 → lq1 i = enc (dk (51 * hf + 31 + 4 * i)) (nI (51 * hf + 31 + 4 * i)) gn ∧ vq1 i = vat dk gn (51 * hf + 31 + 4 * i + 1)) ∧ u = (dk, hf, gn, rt, ct, true, sl, sm, cu, n1, chM dk hf n1 0 (dg (dg 19088743 rt) gn), lq1, vq1, hs, nd)) ∨ (¬ ct ≤ nI n1 ∧ r = -3 ∧ u = (dk, hf, gn, rt, ct, false, sl, sm, cu, 0, lk, lq, vq, hs, nd)))) (fun u => z_at (dC, dI) classes [(cI, .int), (cJ, .long)] A (Mw h0 qd qs qv qh qn cI cJ u)) A) ([.ref h0].toArray) s 0 0 A) (F0 m 49 ls []) := by
    intro n1 hg hn1 hct j
    induction j with
    | zero =>
      intro k lq1 vq1 ls H locs hk hpt hl hP hD hS
      have hkn : k = n1 := by omega
      subst hkn
      refine lv_iload_n hx hb d_M_mount_49 rfl (lv_at hl 2 rfl) ?_
      refine lv_iload_n hx hb d_M_mount_50 rfl (lv_at hl 1 rfl) ?_
      refine lv_icmp_ge (tgt := 90) hx hb d_M_mount_51 (by decide) (fun _ => ?_) (fun h9 => absurd ((nI_leI (by omega) (by omega)).mpr (by omega)) h9)
      refine lv_aload_n hx hb d_M_mount_90 rfl (lv_at hl 0 rfl) ?_
      refine lv_iload_n hx hb d_M_mount_91 rfl (lv_at hl 1 rfl) ?_
      refine va_put (D := (dC, dI)) (ci := 1) (v := .int (nI k)) (ty := .int) (C := R_M) (T := F_M) (N := 15) hx hb hts lay_M t_M t_M_ok n_M hown hK hP hD hS 0 rfl rfl 9 (by decide) (hts _ m_279) (fun _ h9 => h9) rfl (by decide +kernel) rfl rfl (Nat.le_of_ble_eq_true rfl) d_M_mount_92 (fun H locs hP hD hS => ?_)
      have hP : va_P (dC, dI) classes (Mw h0 qd qs qv qh qn cI cJ (dk, hf, gn, rt, ct, true, sl, sm, cu, k, lk, lq1, vq1, hs, nd)) H := hP
      have hD : va_D A (Mw h0 qd qs qv qh qn cI cJ (dk, hf, gn, rt, ct, true, sl, sm, cu, k, lk, lq1, vq1, hs, nd)) := hD
      refine lv_aload_n hx hb d_M_mount_95 rfl (lv_at hl 0 rfl) ?_
      refine lv_aload_n hx hb d_M_mount_96 rfl (lv_at hl 0 rfl) ?_
      refine lv_iload_n hx hb d_M_mount_97 rfl (lv_at hl 1 rfl) ?_
      refine vp_callSi (W.runV (C := R_M) (b := h0) (As := [.int (nI k)]) (rest := [.ref h0]) ⟨hx, hb, hml, hown, hts⟩ (mc_chain l dC dI h0 qd qs qv qh qn cI cJ _ dk hf gn rt ct true sl sm cu k lk lq1 vq1 hs nd k (by omega) (by omega)) (cwV 1 hts g_M_90 rfl rfl rfl (by decide +kernel) ⟨(Nat.le_of_ble_eq_true rfl), (Nat.le_of_ble_eq_true rfl)⟩) (z_preV (va_recv (q0 := 0) hK hP rfl rfl) hP hK hD) rfl rfl hl.1 rfl (lv_room (Nat.le_of_ble_eq_true rfl)) d_M_mount_98 ⟨(Nat.le_of_ble_eq_true rfl), (Nat.le_of_ble_eq_true rfl)⟩) (fun r hr0 => ?_)
      subst hr0
      refine va_put (D := (dC, dI)) (ci := 1) (v := .int (chM dk hf k 0 (dg (dg 19088743 rt) gn))) (ty := .int) (C := R_M) (T := F_M) (N := 15) hx hb hts lay_M t_M t_M_ok n_M hown hK hP hD hS 0 rfl rfl 10 (by decide) (hts _ m_280) (fun _ h9 => h9) rfl (by decide +kernel) rfl rfl (Nat.le_of_ble_eq_true rfl) d_M_mount_101 (fun H locs hP hD hS => ?_)
      have hP : va_P (dC, dI) classes (Mw h0 qd qs qv qh qn cI cJ (dk, hf, gn, rt, ct, true, sl, sm, cu, k, chM dk hf k 0 (dg (dg 19088743 rt) gn), lq1, vq1, hs, nd)) H := hP
      have hD : va_D A (Mw h0 qd qs qv qh qn cI cJ (dk, hf, gn, rt, ct, true, sl, sm, cu, k, chM dk hf k 0 (dg (dg 19088743 rt) gn), lq1, vq1, hs, nd)) := hD
      refine lv_iload_n hx hb d_M_mount_104 rfl (lv_at hl 1 rfl) ?_
      exact W.iret hx hb hr (fun t ht hW => ⟨⟨nI k, (dk, hf, gn, rt, ct, true, sl, sm, cu, k, chM dk hf k 0 (dg (dg 19088743 rt) gn), lq1, vq1, hs, nd), rfl, ⟨_, hg, hn1, Or.inl ⟨hct, rfl, _, _, hpt, rfl⟩⟩, by rw [ht]; exact hP, va_K.moved hW.alike hK, hD⟩, hS.F ht⟩) hS.2.2 d_M_mount_105
    | succ j ih =>
      intro k lq1 vq1 ls H locs hk hpt hl hP hD hS
      refine lv_iload_n hx hb d_M_mount_49 rfl (lv_at hl 2 rfl) ?_
      refine lv_iload_n hx hb d_M_mount_50 rfl (lv_at hl 1 rfl) ?_
      refine lv_icmp_ge (tgt := 90) hx hb d_M_mount_51 (by decide) (fun h9 => absurd h9 (fun q => absurd ((nI_leI (by omega) (by omega)).mp q) (by omega))) (fun _ => ?_)
      refine lv_aload_n hx hb d_M_mount_54 rfl (lv_at hl 0 rfl) ?_
      refine va_get (D := (dC, dI)) (ci := 1) (v := .ref qs) (C := R_M) (T := F_M) (N := 15) hx hb hts lay_M hown hK hP 0 rfl rfl 11 (by decide) (hts _ m_281) (fun _ h9 => h9) rfl d_M_mount_55 ?_
      refine lv_iload_n hx hb d_M_mount_58 rfl (lv_at hl 2 rfl) ?_
      refine lv_aload_n hx hb d_M_mount_59 rfl (lv_at hl 0 rfl) ?_
      refine lv_aload_n hx hb d_M_mount_60 rfl (lv_at hl 0 rfl) ?_
      refine lv_iload_n hx hb d_M_mount_61 rfl (lv_at hl 2 rfl) ?_
      refine vp_callSi (W.runV (C := R_M) (b := h0) (As := [.int (nI k)]) (rest := [.ref h0, .int (nI k), .ref qs]) ⟨hx, hb, hml, hown, hts⟩ (mc_entryAt l dC dI h0 qd qs qv qh qn cI cJ _ dk hf gn rt ct true sl sm cu 0 lk lq1 vq1 hs nd k) (cwV 1 hts g_M_79 rfl rfl rfl (by decide +kernel) ⟨(Nat.le_of_ble_eq_true rfl), (Nat.le_of_ble_eq_true rfl)⟩) (z_preV (va_recv (q0 := 0) hK hP rfl rfl) hP hK hD) rfl rfl hl.1 rfl (lv_room (Nat.le_of_ble_eq_true rfl)) d_M_mount_62 ⟨(Nat.le_of_ble_eq_true rfl), (Nat.le_of_ble_eq_true rfl)⟩) (fun r hr0 => ?_)
      subst hr0
      refine lv_aload_n hx hb d_M_mount_65 rfl (lv_at hl 0 rfl) ?_
      refine va_get (D := (dC, dI)) (ci := 1) (v := .int gn) (C := R_M) (T := F_M) (N := 15) hx hb hts lay_M hown hK hP 0 rfl rfl 2 (by decide) (hts _ m_272) (fun _ h9 => h9) rfl d_M_mount_66 ?_
      refine vp_callSi (W.runV (C := R_M) (b := h0) (As := [.int (nI (51 * hf + 31 + 4 * k)), .int gn]) (rest := [.int (nI k), .ref qs]) ⟨hx, hb, hml, hown, hts⟩ (mc_clear l dC dI h0 qd qs qv qh qn cI cJ _ dk hf gn rt ct true sl sm cu 0 lk lq1 vq1 hs nd (51 * hf + 31 + 4 * k) gn (by omega)) (cwV 2 hts g_M_83 rfl rfl rfl (by decide +kernel) ⟨(Nat.le_of_ble_eq_true rfl), (Nat.le_of_ble_eq_true rfl)⟩) (z_preV (va_recv (q0 := 0) hK hP rfl rfl) hP hK hD) rfl rfl hl.1 rfl (lv_room (Nat.le_of_ble_eq_true rfl)) d_M_mount_69 ⟨(Nat.le_of_ble_eq_true rfl), (Nat.le_of_ble_eq_true rfl)⟩) (fun r hr0 => ?_)
      subst hr0
      refine z_iast hx hb hK hP hD hS 2 0 rfl rfl (by omega) (by decide) d_M_mount_72 (fun H locs hP hD hS => ?_)
      have hP : va_P (dC, dI) classes (Mw h0 qd qs qv qh qn cI cJ (dk, hf, gn, rt, ct, true, sl, sm, cu, 0, lk, upd lq1 k (enc (dk (51 * hf + 31 + 4 * k)) (nI (51 * hf + 31 + 4 * k)) gn), vq1, hs, nd)) H := hP
      have hD : va_D A (Mw h0 qd qs qv qh qn cI cJ (dk, hf, gn, rt, ct, true, sl, sm, cu, 0, lk, upd lq1 k (enc (dk (51 * hf + 31 + 4 * k)) (nI (51 * hf + 31 + 4 * k)) gn), vq1, hs, nd)) := hD
      refine lv_aload_n hx hb d_M_mount_73 rfl (lv_at hl 0 rfl) ?_
      refine va_get (D := (dC, dI)) (ci := 1) (v := .ref qv) (C := R_M) (T := F_M) (N := 15) hx hb hts lay_M hown hK hP 0 rfl rfl 12 (by decide) (hts _ m_282) (fun _ h9 => h9) rfl d_M_mount_74 ?_
      refine lv_iload_n hx hb d_M_mount_77 rfl (lv_at hl 2 rfl) ?_
      refine lv_aload_n hx hb d_M_mount_78 rfl (lv_at hl 0 rfl) ?_
      refine lv_iload_n hx hb d_M_mount_79 rfl (lv_at hl 2 rfl) ?_
      refine vp_callSl (W.runV (C := R_M) (b := h0) (As := [.int (nI k)]) (rest := [.int (nI k), .ref qv]) ⟨hx, hb, hml, hown, hts⟩ (mc_recorded l dC dI h0 qd qs qv qh qn cI cJ _ dk hf gn rt ct true sl sm cu 0 lk (upd lq1 k (enc (dk (51 * hf + 31 + 4 * k)) (nI (51 * hf + 31 + 4 * k)) gn)) vq1 hs nd k (by omega) (by omega)) (cwV 1 hts g_M_93 rfl rfl rfl (by decide +kernel) ⟨(Nat.le_of_ble_eq_true rfl), (Nat.le_of_ble_eq_true rfl)⟩) (z_preV (va_recv (q0 := 0) hK hP rfl rfl) hP hK hD) rfl rfl hl.1 rfl (lv_room (Nat.le_of_ble_eq_true rfl)) d_M_mount_80 ⟨(Nat.le_of_ble_eq_true rfl), (Nat.le_of_ble_eq_true rfl)⟩) (fun r hr0 => ?_)
      subst hr0
      refine z_last hx hb hK hP hD hS 3 1 rfl rfl (by omega) (by decide) d_M_mount_83 (fun H locs hP hD hS => ?_)
      have hP : va_P (dC, dI) classes (Mw h0 qd qs qv qh qn cI cJ (dk, hf, gn, rt, ct, true, sl, sm, cu, 0, lk, upd lq1 k (enc (dk (51 * hf + 31 + 4 * k)) (nI (51 * hf + 31 + 4 * k)) gn), vp_updL vq1 k (vat dk gn (51 * hf + 31 + 4 * k + 1)), hs, nd)) H := hP
      have hD : va_D A (Mw h0 qd qs qv qh qn cI cJ (dk, hf, gn, rt, ct, true, sl, sm, cu, 0, lk, upd lq1 k (enc (dk (51 * hf + 31 + 4 * k)) (nI (51 * hf + 31 + 4 * k)) gn), vp_updL vq1 k (vat dk gn (51 * hf + 31 + 4 * k + 1)), hs, nd)) := hD
      refine lv_iinc (k := 2) hx hb d_M_mount_84 hl rfl (z_inc _ 1) (by decide) rfl (fun ls hl => ?_)
      have hl : lv_has ls 3 [(2, .int (nI (k + 1))), (0, .ref h0), (1, .int (nI n1))] := hl
      refine lv_goto (tgt := 49) hx hb d_M_mount_87 (by decide) ?_
      exact ih (k + 1) _ _ ls _ _ (by omega) (z_pt2 hpt) (lv_sub hl [1, 2, 0] rfl) hP hD hS
  have rest : ∀ (n1 : Nat) (ls : Array Slot), gct dk hf gn (dg (dg 19088743 rt) gn) 5 0 = n1 → n1 ≤ 5 → lv_has ls 3 [(0, .ref h0), (1, .int (nI n1))] → W p l e (headSpec w_M_mount ({ frames := 5, cells := 0, slots := 0, locals := 112 })).room s m ([.ref h0].toArray) below meth c s.heap [] 0 0 (MQ below (va_Qi (fun (r : Int32) (u : MS) => ∃ (n1 : Nat), gct dk hf gn (dg (dg 19088743 rt) gn) 5 0 = n1 ∧ n1 ≤ 5 ∧ ((ct ≤ nI n1 ∧ r = nI n1 ∧ ∃ (lq1 : Nat → Int32) (vq1 : Nat → Int64), (∀ i, i < n1 → lq1 i = enc (dk (51 * hf + 31 + 4 * i)) (nI (51 * hf + 31 + 4 * i)) gn ∧ vq1 i = vat dk gn (51 * hf + 31 + 4 * i + 1)) ∧ u = (dk, hf, gn, rt, ct, true, sl, sm, cu, n1, chM dk hf n1 0 (dg (dg 19088743 rt) gn), lq1, vq1, hs, nd)) ∨ (¬ ct ≤ nI n1 ∧ r = -3 ∧ u = (dk, hf, gn, rt, ct, false, sl, sm, cu, 0, lk, lq, vq, hs, nd)))) (fun u => z_at (dC, dI) classes [(cI, .int), (cJ, .long)] A (Mw h0 qd qs qv qh qn cI cJ u)) A) ([.ref h0].toArray) s 0 0 A) (F0 m 21 ls []) := by
    intro n1 ls hg hn1 hl
    refine lv_aload_n hx hb d_M_mount_21 rfl (lv_at hl 0 rfl) ?_
    refine lv_iconst (v := nI 0) hx hb d_M_mount_22 (by decide) ?_
    refine va_put (D := (dC, dI)) (ci := 1) (v := .int (nI 0)) (ty := .int) (C := R_M) (T := F_M) (N := 15) hx hb hts lay_M t_M t_M_ok n_M hown hK hP hD hS 0 rfl rfl 9 (by decide) (hts _ m_279) (fun _ h9 => h9) rfl (by decide +kernel) rfl rfl (Nat.le_of_ble_eq_true rfl) d_M_mount_23 (fun H locs hP hD hS => ?_)
    have hP : va_P (dC, dI) classes (Mw h0 qd qs qv qh qn cI cJ (dk, hf, gn, rt, ct, pw, sl, sm, cu, 0, lk, lq, vq, hs, nd)) H := hP
    have hD : va_D A (Mw h0 qd qs qv qh qn cI cJ (dk, hf, gn, rt, ct, pw, sl, sm, cu, 0, lk, lq, vq, hs, nd)) := hD
    refine lv_iload_n hx hb d_M_mount_26 rfl (lv_at hl 1 rfl) ?_
    refine lv_aload_n hx hb d_M_mount_27 rfl (lv_at hl 0 rfl) ?_
    refine va_get (D := (dC, dI)) (ci := 1) (v := .int ct) (C := R_M) (T := F_M) (N := 15) hx hb hts lay_M hown hK hP 0 rfl rfl 4 (by decide) (hts _ m_274) (fun _ h9 => h9) rfl d_M_mount_28 ?_
    refine lv_icmp_ge (tgt := 42) hx hb d_M_mount_31 (by decide) (fun h1 => ?_) (fun h1 => ?_)
    · refine lv_aload_n hx hb d_M_mount_42 rfl (lv_at hl 0 rfl) ?_
      refine lv_iconst (v := (1 : Int32)) hx hb d_M_mount_43 (by decide) ?_
      refine va_put (D := (dC, dI)) (ci := 1) (v := .int (1 : Int32)) (ty := .boolean) (C := R_M) (T := F_M) (N := 15) hx hb hts lay_M t_M t_M_ok n_M hown hK hP hD hS 0 rfl rfl 5 (by decide) (hts _ m_275) (fun _ h9 => h9) rfl (by decide +kernel) rfl rfl (Nat.le_of_ble_eq_true rfl) d_M_mount_44 (fun H locs hP hD hS => ?_)
      have hP : va_P (dC, dI) classes (Mw h0 qd qs qv qh qn cI cJ (dk, hf, gn, rt, ct, true, sl, sm, cu, 0, lk, lq, vq, hs, nd)) H := hP
      have hD : va_D A (Mw h0 qd qs qv qh qn cI cJ (dk, hf, gn, rt, ct, true, sl, sm, cu, 0, lk, lq, vq, hs, nd)) := hD
      refine lv_iconst (v := nI 0) hx hb d_M_mount_47 (by decide) ?_
      refine lv_istore_n hx hb d_M_mount_48 rfl hl (by decide) rfl (fun ls hl => ?_)
      have hl : lv_has ls 3 [(2, .int (nI 0)), (0, .ref h0), (1, .int (nI n1))] := hl
      exact loop2 n1 hg hn1 h1 n1 0 _ _ ls _ _ (by omega) (fun i hi => absurd hi (by omega)) (lv_sub hl [1, 2, 0] rfl) hP hD hS
    · refine lv_aload_n hx hb d_M_mount_34 rfl (lv_at hl 0 rfl) ?_
      refine lv_iconst (v := (0 : Int32)) hx hb d_M_mount_35 (by decide) ?_
      refine va_put (D := (dC, dI)) (ci := 1) (v := .int (0 : Int32)) (ty := .boolean) (C := R_M) (T := F_M) (N := 15) hx hb hts lay_M t_M t_M_ok n_M hown hK hP hD hS 0 rfl rfl 5 (by decide) (hts _ m_275) (fun _ h9 => h9) rfl (by decide +kernel) rfl rfl (Nat.le_of_ble_eq_true rfl) d_M_mount_36 (fun H locs hP hD hS => ?_)
      have hP : va_P (dC, dI) classes (Mw h0 qd qs qv qh qn cI cJ (dk, hf, gn, rt, ct, false, sl, sm, cu, 0, lk, lq, vq, hs, nd)) H := hP
      have hD : va_D A (Mw h0 qd qs qv qh qn cI cJ (dk, hf, gn, rt, ct, false, sl, sm, cu, 0, lk, lq, vq, hs, nd)) := hD
      refine lv_bipush (v := (-3 : Int32)) hx hb d_M_mount_39 (by decide) ?_
      exact W.iret hx hb hr (fun t ht hW => ⟨⟨(-3 : Int32), (dk, hf, gn, rt, ct, false, sl, sm, cu, 0, lk, lq, vq, hs, nd), rfl, ⟨_, hg, hn1, Or.inr ⟨h1, rfl, rfl⟩⟩, by rw [ht]; exact hP, va_K.moved hW.alike hK, hD⟩, hS.F ht⟩) hS.2.2 d_M_mount_41
  have loop1 : ∀ (j k : Nat) (ls : Array Slot), k + j = 5 → lv_has ls 3 [(0, .ref h0), (1, .int (nI k))] → gct dk hf gn (dg (dg 19088743 rt) gn) j k = gct dk hf gn (dg (dg 19088743 rt) gn) 5 0 → W p l e (headSpec w_M_mount ({ frames := 5, cells := 0, slots := 0, locals := 112 })).room s m ([.ref h0].toArray) below meth c s.heap [] 0 0 (MQ below (va_Qi (fun (r : Int32) (u : MS) => ∃ (n1 : Nat), gct dk hf gn (dg (dg 19088743 rt) gn) 5 0 = n1 ∧ n1 ≤ 5 ∧ ((ct ≤ nI n1 ∧ r = nI n1 ∧ ∃ (lq1 : Nat → Int32) (vq1 : Nat → Int64), (∀ i, i < n1 → lq1 i = enc (dk (51 * hf + 31 + 4 * i)) (nI (51 * hf + 31 + 4 * i)) gn ∧ vq1 i = vat dk gn (51 * hf + 31 + 4 * i + 1)) ∧ u = (dk, hf, gn, rt, ct, true, sl, sm, cu, n1, chM dk hf n1 0 (dg (dg 19088743 rt) gn), lq1, vq1, hs, nd)) ∨ (¬ ct ≤ nI n1 ∧ r = -3 ∧ u = (dk, hf, gn, rt, ct, false, sl, sm, cu, 0, lk, lq, vq, hs, nd)))) (fun u => z_at (dC, dI) classes [(cI, .int), (cJ, .long)] A (Mw h0 qd qs qv qh qn cI cJ u)) A) ([.ref h0].toArray) s 0 0 A) (F0 m 2 ls []) := by
    intro j
    induction j with
    | zero =>
      intro k ls hk hl hF
      refine lv_iload_n hx hb d_M_mount_2 rfl (lv_at hl 1 rfl) ?_
      refine lv_iconst (v := nI 5) hx hb d_M_mount_3 (by decide) ?_
      refine lv_icmp_ge (tgt := 21) hx hb d_M_mount_4 (by decide) (fun _ => ?_) (fun h9 => absurd ((nI_leI (by omega) (by omega)).mpr (by omega)) h9)
      exact rest k ls hF.symm (by omega) (lv_sub hl [0, 1] rfl)
    | succ j ih =>
      intro k ls hk hl hF
      by_cases hg : jgood dk hf gn (chM dk hf k 0 (dg (dg 19088743 rt) gn)) k
      · refine lv_iload_n hx hb d_M_mount_2 rfl (lv_at hl 1 rfl) ?_
        refine lv_iconst (v := nI 5) hx hb d_M_mount_3 (by decide) ?_
        refine lv_icmp_ge (tgt := 21) hx hb d_M_mount_4 (by decide) (fun h9 => absurd h9 (fun q => absurd ((nI_leI (by omega) (by omega)).mp q) (by omega))) (fun _ => ?_)
        refine lv_aload_n hx hb d_M_mount_7 rfl (lv_at hl 0 rfl) ?_
        refine lv_iload_n hx hb d_M_mount_8 rfl (lv_at hl 1 rfl) ?_
        refine vp_callSi (W.runV (C := R_M) (b := h0) (As := [.int (nI k)]) (rest := []) ⟨hx, hb, hml, hown, hts⟩ (mc_due l dC dI h0 qd qs qv qh qn cI cJ _ dk hf gn rt ct pw sl sm cu ln lk lq vq hs nd k (by omega) (by omega)) (cwV 1 hts g_M_97 rfl rfl rfl (by decide +kernel) ⟨(Nat.le_of_ble_eq_true rfl), (Nat.le_of_ble_eq_true rfl)⟩) (z_preV (va_recv (q0 := 0) hK hP rfl rfl) hP hK hD) rfl rfl hl.1 rfl (lv_room (Nat.le_of_ble_eq_true rfl)) d_M_mount_9 ⟨(Nat.le_of_ble_eq_true rfl), (Nat.le_of_ble_eq_true rfl)⟩) (fun r hr0 => ?_)
        subst hr0
        refine lv_if_eq (tgt := 21) hx hb d_M_mount_12 (by decide) (fun h9 => absurd h9 (by rw [if_pos hg]; decide)) (fun _ => ?_)
        refine lv_iinc (k := 1) hx hb d_M_mount_15 hl rfl (z_inc _ 1) (by decide) rfl (fun ls hl => ?_)
        have hl : lv_has ls 3 [(1, .int (nI (k + 1))), (0, .ref h0)] := hl
        refine lv_goto (tgt := 2) hx hb d_M_mount_18 (by decide) ?_
        exact ih (k + 1) ls (by omega) (lv_sub hl [1, 0] rfl) (by rw [← hF, gct, if_pos hg])
      · refine lv_iload_n hx hb d_M_mount_2 rfl (lv_at hl 1 rfl) ?_
        refine lv_iconst (v := nI 5) hx hb d_M_mount_3 (by decide) ?_
        refine lv_icmp_ge (tgt := 21) hx hb d_M_mount_4 (by decide) (fun h9 => absurd h9 (fun q => absurd ((nI_leI (by omega) (by omega)).mp q) (by omega))) (fun _ => ?_)
        refine lv_aload_n hx hb d_M_mount_7 rfl (lv_at hl 0 rfl) ?_
        refine lv_iload_n hx hb d_M_mount_8 rfl (lv_at hl 1 rfl) ?_
        refine vp_callSi (W.runV (C := R_M) (b := h0) (As := [.int (nI k)]) (rest := []) ⟨hx, hb, hml, hown, hts⟩ (mc_due l dC dI h0 qd qs qv qh qn cI cJ _ dk hf gn rt ct pw sl sm cu ln lk lq vq hs nd k (by omega) (by omega)) (cwV 1 hts g_M_97 rfl rfl rfl (by decide +kernel) ⟨(Nat.le_of_ble_eq_true rfl), (Nat.le_of_ble_eq_true rfl)⟩) (z_preV (va_recv (q0 := 0) hK hP rfl rfl) hP hK hD) rfl rfl hl.1 rfl (lv_room (Nat.le_of_ble_eq_true rfl)) d_M_mount_9 ⟨(Nat.le_of_ble_eq_true rfl), (Nat.le_of_ble_eq_true rfl)⟩) (fun r hr0 => ?_)
        subst hr0
        refine lv_if_eq (tgt := 21) hx hb d_M_mount_12 (by decide) (fun _ => ?_) (fun h9 => absurd (if_neg hg) h9)
        exact rest k ls (by rw [← hF, gct, if_neg hg]) (by omega) (lv_sub hl [0, 1] rfl)
  refine lv_iconst (v := nI 0) hx hb d_M_mount_0 (by decide) ?_
  refine lv_istore_n hx hb d_M_mount_1 rfl hl (by decide) rfl (fun ls hl => ?_)
  have hl : lv_has ls 3 [(1, .int (nI 0)), (0, .ref h0)] := hl
  exact loop1 5 0 ls rfl (lv_sub hl [1, 0] rfl) rfl
set_option maxHeartbeats 1000000 in
set_option maxRecDepth 100000 in
theorem mc_read (l : Launch) (dC : Nat → ClassId) (dI : Nat → Nat → Nat) (h0 qd qs qv qh qn : Nat) (cI cJ : ClassId) (sz : Nat) (dk : Nat → Int32) (hf : Nat) (gn : Int32) (rt : Int32) (ct : Int32) (pw : Bool) (sl : Int32) (sm : Int32) (cu : Bool) (ln : Nat) (lk : Int32) (lq : Nat → Int32) (vq : Nat → Int64) (hs : Nat → Int64) (nd : Nat → Int32) (x0 : Int32) (h_f : hf < 2) (h_n : ln ≤ 5) : Met l y_M_read w_M_read ({ frames := 5, cells := 0, slots := 0, locals := 113 }) (va_Pc [.ref h0, .int x0] (z_pre (dC, dI) classes [(cI, .int), (cJ, .long)] (Mw h0 qd qs qv qh qn cI cJ (dk, hf, gn, rt, ct, pw, sl, sm, cu, ln, lk, lq, vq, hs, nd)) sz)) (vp_Sl (fun r => r = (if pw = true then (if isIn 8 x0 = 0 then -2 else (if lg_cmp (vofM dk hf gn rt ln lq vq x0.toNatClampNeg) 0 < 0 then -3 else vofM dk hf gn rt ln lq vq x0.toNatClampNeg)) else -1))) 0 0 (fun _ => False) := by
  refine Met.ofW (cc := b_M_read) (maxL := 4) (ret := (some .long)) (by decide) rfl ?_
  intro p e s m args below meth c s₁ B hml hv
  obtain ⟨rfl, hsz, hP, hK, hD0⟩ := hv
  have hx := B.exec
  have hb := B.bytes
  have hr := B.returns
  have hts := fun (w : Cond) (h : w ∈ lw_U) => atoms_spec (ws := w_M_read) B.pre w (List.mem_cons_of_mem _ h)
  have hown : s.vm.findClass R_M = some m.cls := findClass_of_methodNamed B.named
  have hlocks := B.notSynchronized
  subst hsz
  have hD := hD0
  have hl := lv_entry ([.ref h0, .int x0]) (n := 4) (Nat.le_of_ble_eq_true rfl)
  rw [lg_entry_eq]
  generalize (lg_sl ([.ref h0, .int x0]) ++ List.replicate (4 - (lg_sl ([.ref h0, .int x0])).length) Slot.unset).toArray = ls at hl ⊢
  have hl : lv_has ls 4 [(0, .ref h0), (1, .int x0)] := hl
  cases pw with
  | false =>
    refine lv_aload_n hx hb d_M_read_0 rfl (lv_at hl 0 rfl) ?_
    refine va_get (D := (dC, dI)) (ci := 1) (v := .int (bI false)) (C := R_M) (T := F_M) (N := 15) hx hb hts lay_M hown hK hP 0 rfl rfl 5 (by decide) (hts _ m_275) (fun _ h9 => h9) rfl d_M_read_1 ?_
    refine lv_if_ne (tgt := 11) hx hb d_M_read_4 (by decide) (fun h9 => absurd (by decide) h9) (fun _ => ?_)
    refine lv_ldc2 (v := -1) hx hb hown (hts _ m_356) d_M_read_7 ?_
    exact W.lret hx hb hr (fun t ht hW => ⟨_, rfl, rfl, ht⟩) (fun q h => by cases h) d_M_read_10
  | true =>
    by_cases h8 : isIn 8 x0 = 0
    · refine lv_aload_n hx hb d_M_read_0 rfl (lv_at hl 0 rfl) ?_
      refine va_get (D := (dC, dI)) (ci := 1) (v := .int (bI true)) (C := R_M) (T := F_M) (N := 15) hx hb hts lay_M hown hK hP 0 rfl rfl 5 (by decide) (hts _ m_275) (fun _ h9 => h9) rfl d_M_read_1 ?_
      refine lv_if_ne (tgt := 11) hx hb d_M_read_4 (by decide) (fun _ => ?_) (fun h9 => absurd h9 (by decide))
      refine lv_iload_n hx hb d_M_read_11 rfl (lv_at hl 1 rfl) ?_
      refine lv_if_lt (tgt := 21) hx hb d_M_read_12 (by decide) (fun h1 => ?_) (fun h1 => ?_)
      · refine lv_ldc2 (v := -2) hx hb hown (hts _ m_357) d_M_read_21 ?_
        exact W.lret hx hb hr (fun t ht hW => ⟨_, rfl, (by rw [if_pos rfl, if_pos h8]), ht⟩) (fun q h => by cases h) d_M_read_24
      · refine lv_iload_n hx hb d_M_read_15 rfl (lv_at hl 1 rfl) ?_
        refine lv_bipush (v := (7 : Int32)) hx hb d_M_read_16 (by decide) ?_
        refine lv_icmp_le (tgt := 25) hx hb d_M_read_18 (by decide) (fun h2 => ?_) (fun h2 => ?_)
        · exact absurd h8 (isIn_no h1 (z_le7 h2))
        · refine lv_ldc2 (v := -2) hx hb hown (hts _ m_357) d_M_read_21 ?_
          exact W.lret hx hb hr (fun t ht hW => ⟨_, rfl, (by rw [if_pos rfl, if_pos h8]), ht⟩) (fun q h => by cases h) d_M_read_24
    · obtain ⟨j, hj, rfl⟩ := isIn_of (n := 8) h8 rfl (by decide)
      refine lv_aload_n hx hb d_M_read_0 rfl (lv_at hl 0 rfl) ?_
      refine va_get (D := (dC, dI)) (ci := 1) (v := .int (bI true)) (C := R_M) (T := F_M) (N := 15) hx hb hts lay_M hown hK hP 0 rfl rfl 5 (by decide) (hts _ m_275) (fun _ h9 => h9) rfl d_M_read_1 ?_
      refine lv_if_ne (tgt := 11) hx hb d_M_read_4 (by decide) (fun _ => ?_) (fun h9 => absurd h9 (by decide))
      refine lv_iload_n hx hb d_M_read_11 rfl (lv_at hl 1 rfl) ?_
      refine lv_if_lt (tgt := 21) hx hb d_M_read_12 (by decide) (fun h9 => absurd h9 (nI_pos (by omega))) (fun _ => ?_)
      refine lv_iload_n hx hb d_M_read_15 rfl (lv_at hl 1 rfl) ?_
      refine lv_bipush (v := (7 : Int32)) hx hb d_M_read_16 (by decide) ?_
      refine lv_icmp_le (tgt := 25) hx hb d_M_read_18 (by decide) (fun _ => ?_) (fun h9 => absurd (nI_le (b := 7) (by omega) (by decide)) h9)
      refine lv_aload_n hx hb d_M_read_25 rfl (lv_at hl 0 rfl) ?_
      refine lv_iload_n hx hb d_M_read_26 rfl (lv_at hl 1 rfl) ?_
      refine vp_callSl (W.runV (C := R_M) (b := h0) (As := [.int (nI j)]) (rest := []) ⟨hx, hb, hml, hown, hts⟩ (mc_value l dC dI h0 qd qs qv qh qn cI cJ _ dk hf gn rt ct true sl sm cu ln lk lq vq hs nd j (by omega) (by omega) (by omega)) (cwV 1 hts g_M_111 rfl rfl rfl (by decide +kernel) ⟨(Nat.le_of_ble_eq_true rfl), (Nat.le_of_ble_eq_true rfl)⟩) (z_preV (va_recv (q0 := 0) hK hP rfl rfl) hP hK hD) rfl rfl hl.1 rfl (lv_room (Nat.le_of_ble_eq_true rfl)) d_M_read_27 ⟨(Nat.le_of_ble_eq_true rfl), (Nat.le_of_ble_eq_true rfl)⟩) (fun r hr0 => ?_)
      subst hr0
      refine lv_lstore_n hx hb d_M_read_30 rfl hl (by decide) rfl (fun ls hl => ?_)
      have hl : lv_has ls 4 [(2, .long (vofM dk hf gn rt ln lq vq j)), (0, .ref h0), (1, .int (nI j))] := hl
      refine lv_lload_n hx hb d_M_read_31 rfl (lv_at hl 0 rfl) ?_
      refine lv_lconst (v := 0) hx hb d_M_read_32 (by decide) ?_
      refine W.lcmp hx hb d_M_read_33 ?_
      refine lv_if_ge (tgt := 43) hx hb d_M_read_34 (by decide) (fun h3 => ?_) (fun h3 => ?_)
      · refine lv_lload_n hx hb d_M_read_43 rfl (lv_at hl 0 rfl) ?_
        exact W.lret hx hb hr (fun t ht hW => ⟨_, rfl, (by rw [if_pos rfl, if_neg h8, nI_clamp (by omega), if_neg (z_nn4 h3)]), ht⟩) (fun q h => by cases h) d_M_read_44
      · refine lv_ldc2 (v := -3) hx hb hown (hts _ m_366) d_M_read_37 ?_
        refine lv_goto (tgt := 44) hx hb d_M_read_40 (by decide) ?_
        exact W.lret hx hb hr (fun t ht hW => ⟨_, rfl, (by rw [if_pos rfl, if_neg h8, nI_clamp (by omega), if_pos (z_nn3 h3)]), ht⟩) (fun q h => by cases h) d_M_read_44
set_option maxHeartbeats 1000000 in
set_option maxRecDepth 100000 in
theorem mc_sound (l : Launch) (dC : Nat → ClassId) (dI : Nat → Nat → Nat) (h0 qd qs qv qh qn : Nat) (cI cJ : ClassId) (sz : Nat) (dk : Nat → Int32) (hf : Nat) (gn : Int32) (rt : Int32) (ct : Int32) (pw : Bool) (sl : Int32) (sm : Int32) (cu : Bool) (ln : Nat) (lk : Int32) (lq : Nat → Int32) (vq : Nat → Int64) (hs : Nat → Int64) (nd : Nat → Int32)  (h_f : hf < 2) (h_n : ln ≤ 5) : Met l y_M_sound w_M_sound ({ frames := 5, cells := 0, slots := 0, locals := 113 }) (va_Pc [.ref h0] (z_pre (dC, dI) classes [(cI, .int), (cJ, .long)] (Mw h0 qd qs qv qh qn cI cJ (dk, hf, gn, rt, ct, pw, sl, sm, cu, ln, lk, lq, vq, hs, nd)) sz)) (vp_Si (fun r => r = (if pw = true then sndM (vofM dk hf gn rt ln lq vq) 8 0 0 else -1))) 0 0 (fun _ => False) := by
  refine Met.ofW (cc := b_M_sound) (maxL := 3) (ret := (some .int)) (by decide) rfl ?_
  intro p e s m args below meth c s₁ B hml hv
  obtain ⟨rfl, hsz, hP, hK, hD0⟩ := hv
  have hx := B.exec
  have hb := B.bytes
  have hr := B.returns
  have hts := fun (w : Cond) (h : w ∈ lw_U) => atoms_spec (ws := w_M_sound) B.pre w (List.mem_cons_of_mem _ h)
  have hown : s.vm.findClass R_M = some m.cls := findClass_of_methodNamed B.named
  have hlocks := B.notSynchronized
  subst hsz
  have hD := hD0
  have hl := lv_entry ([.ref h0]) (n := 3) (Nat.le_of_ble_eq_true rfl)
  rw [lg_entry_eq]
  generalize (lg_sl ([.ref h0]) ++ List.replicate (3 - (lg_sl ([.ref h0])).length) Slot.unset).toArray = ls at hl ⊢
  have hl : lv_has ls 3 [(0, .ref h0)] := hl
  have loop : ∀ (j k : Nat) (x : Int32) (ls : Array Slot), k + j = 8 → lv_has ls 3 [(0, .ref h0), (1, .int x), (2, .int (nI k))] → sndM (vofM dk hf gn rt ln lq vq) j k x = sndM (vofM dk hf gn rt ln lq vq) 8 0 0 → W p l e (headSpec w_M_sound ({ frames := 5, cells := 0, slots := 0, locals := 113 })).room s m ([.ref h0].toArray) below meth c s.heap [] 0 0 (MQ below (vp_Si (fun r => r = (if pw = true then sndM (vofM dk hf gn rt ln lq vq) 8 0 0 else -1))) ([.ref h0].toArray) s 0 0 (fun _ => False)) (F0 m 4 ls []) := by
    intro j
    induction j with
    | zero =>
      intro k x ls hk hl hF
      have hF : x = sndM (vofM dk hf gn rt ln lq vq) 8 0 0 := hF
      rw [← hF]
      cases pw with
      | false =>
        refine lv_iload_n hx hb d_M_sound_4 rfl (lv_at hl 2 rfl) ?_
        refine lv_bipush (v := nI 8) hx hb d_M_sound_5 (by decide) ?_
        refine lv_icmp_ge (tgt := 36) hx hb d_M_sound_7 (by decide) (fun _ => ?_) (fun h9 => absurd ((nI_leI (by omega) (by omega)).mpr (by omega)) h9)
        refine lv_aload_n hx hb d_M_sound_36 rfl (lv_at hl 0 rfl) ?_
        refine va_get (D := (dC, dI)) (ci := 1) (v := .int (bI false)) (C := R_M) (T := F_M) (N := 15) hx hb hts lay_M hown hK hP 0 rfl rfl 5 (by decide) (hts _ m_275) (fun _ h9 => h9) rfl d_M_sound_37 ?_
        refine lv_if_eq (tgt := 47) hx hb d_M_sound_40 (by decide) (fun _ => ?_) (fun h9 => absurd (by decide) h9)
        refine lv_iconst (v := (-1 : Int32)) hx hb d_M_sound_47 (by decide) ?_
        exact W.iret hx hb hr (fun t ht hW => ⟨_, rfl, rfl, ht⟩) (fun q h => by cases h) d_M_sound_48
      | true =>
        refine lv_iload_n hx hb d_M_sound_4 rfl (lv_at hl 2 rfl) ?_
        refine lv_bipush (v := nI 8) hx hb d_M_sound_5 (by decide) ?_
        refine lv_icmp_ge (tgt := 36) hx hb d_M_sound_7 (by decide) (fun _ => ?_) (fun h9 => absurd ((nI_leI (by omega) (by omega)).mpr (by omega)) h9)
        refine lv_aload_n hx hb d_M_sound_36 rfl (lv_at hl 0 rfl) ?_
        refine va_get (D := (dC, dI)) (ci := 1) (v := .int (bI true)) (C := R_M) (T := F_M) (N := 15) hx hb hts lay_M hown hK hP 0 rfl rfl 5 (by decide) (hts _ m_275) (fun _ h9 => h9) rfl d_M_sound_37 ?_
        refine lv_if_eq (tgt := 47) hx hb d_M_sound_40 (by decide) (fun h9 => absurd h9 (by decide)) (fun _ => ?_)
        refine lv_iload_n hx hb d_M_sound_43 rfl (lv_at hl 1 rfl) ?_
        refine lv_goto (tgt := 48) hx hb d_M_sound_44 (by decide) ?_
        exact W.iret hx hb hr (fun t ht hW => ⟨_, rfl, rfl, ht⟩) (fun q h => by cases h) d_M_sound_48
    | succ j ih =>
      intro k x ls hk hl hF
      refine lv_iload_n hx hb d_M_sound_4 rfl (lv_at hl 2 rfl) ?_
      refine lv_bipush (v := nI 8) hx hb d_M_sound_5 (by decide) ?_
      refine lv_icmp_ge (tgt := 36) hx hb d_M_sound_7 (by decide) (fun h9 => absurd h9 (fun q => absurd ((nI_leI (by omega) (by omega)).mp q) (by omega))) (fun _ => ?_)
      refine lv_aload_n hx hb d_M_sound_10 rfl (lv_at hl 0 rfl) ?_
      refine lv_iload_n hx hb d_M_sound_11 rfl (lv_at hl 2 rfl) ?_
      refine vp_callSl (W.runV (C := R_M) (b := h0) (As := [.int (nI k)]) (rest := []) ⟨hx, hb, hml, hown, hts⟩ (mc_value l dC dI h0 qd qs qv qh qn cI cJ _ dk hf gn rt ct pw sl sm cu ln lk lq vq hs nd k (by omega) (by omega) (by omega)) (cwV 1 hts g_M_111 rfl rfl rfl (by decide +kernel) ⟨(Nat.le_of_ble_eq_true rfl), (Nat.le_of_ble_eq_true rfl)⟩) (z_preV (va_recv (q0 := 0) hK hP rfl rfl) hP hK hD) rfl rfl hl.1 rfl (lv_room (Nat.le_of_ble_eq_true rfl)) d_M_sound_12 ⟨(Nat.le_of_ble_eq_true rfl), (Nat.le_of_ble_eq_true rfl)⟩) (fun r hr0 => ?_)
      subst hr0
      refine lv_lconst (v := 0) hx hb d_M_sound_15 (by decide) ?_
      refine W.lcmp hx hb d_M_sound_16 ?_
      refine lv_if_ge (tgt := 24) hx hb d_M_sound_17 (by decide) (fun h1 => ?_) (fun h1 => ?_)
      · refine lv_iload_n hx hb d_M_sound_24 rfl (lv_at hl 1 rfl) ?_
        refine lv_iconst (v := (1 : Int32)) hx hb d_M_sound_25 (by decide) ?_
        refine lv_iload_n hx hb d_M_sound_26 rfl (lv_at hl 2 rfl) ?_
        refine lv_ishl hx hb d_M_sound_27 ?_
        refine lv_ior hx hb d_M_sound_28 ?_
        refine lv_istore_n hx hb d_M_sound_29 rfl hl (by decide) rfl (fun ls hl => ?_)
        have hl : lv_has ls 3 [(1, .int (x ||| ((1 : Int32) <<< ((nI k) &&& 31)))), (0, .ref h0), (2, .int (nI k))] := hl
        refine lv_iinc (k := 2) hx hb d_M_sound_30 hl rfl (z_inc _ 1) (by decide) rfl (fun ls hl => ?_)
        have hl : lv_has ls 3 [(2, .int (nI (k + 1))), (1, .int (x ||| ((1 : Int32) <<< ((nI k) &&& 31)))), (0, .ref h0)] := hl
        refine lv_goto (tgt := 4) hx hb d_M_sound_33 (by decide) ?_
        exact ih (k + 1) _ ls (by omega) (lv_sub hl [2, 1, 0] rfl) (by rw [← hF, sndM, if_neg (z_nn4 h1)])
      · refine lv_iload_n hx hb d_M_sound_20 rfl (lv_at hl 1 rfl) ?_
        refine lv_goto (tgt := 29) hx hb d_M_sound_21 (by decide) ?_
        refine lv_istore_n hx hb d_M_sound_29 rfl hl (by decide) rfl (fun ls hl => ?_)
        have hl : lv_has ls 3 [(1, .int x), (0, .ref h0), (2, .int (nI k))] := hl
        refine lv_iinc (k := 2) hx hb d_M_sound_30 hl rfl (z_inc _ 1) (by decide) rfl (fun ls hl => ?_)
        have hl : lv_has ls 3 [(2, .int (nI (k + 1))), (1, .int x), (0, .ref h0)] := hl
        refine lv_goto (tgt := 4) hx hb d_M_sound_33 (by decide) ?_
        exact ih (k + 1) _ ls (by omega) (lv_sub hl [2, 1, 0] rfl) (by rw [← hF, sndM, if_pos (z_nn3 h1)])
  refine lv_iconst (v := (0 : Int32)) hx hb d_M_sound_0 (by decide) ?_
  refine lv_istore_n hx hb d_M_sound_1 rfl hl (by decide) rfl (fun ls hl => ?_)
  have hl : lv_has ls 3 [(1, .int (0 : Int32)), (0, .ref h0)] := hl
  refine lv_iconst (v := nI 0) hx hb d_M_sound_2 (by decide) ?_
  refine lv_istore_n hx hb d_M_sound_3 rfl hl (by decide) rfl (fun ls hl => ?_)
  have hl : lv_has ls 3 [(2, .int (nI 0)), (1, .int (0 : Int32)), (0, .ref h0)] := hl
  exact loop 8 0 _ ls rfl (lv_sub hl [2, 1, 0] rfl) rfl
set_option maxHeartbeats 1000000 in
set_option maxRecDepth 100000 in
theorem mc_change (l : Launch) (dC : Nat → ClassId) (dI : Nat → Nat → Nat) (h0 qd qs qv qh qn : Nat) (cI cJ : ClassId) (sz : Nat) (dk : Nat → Int32) (hf : Nat) (gn : Int32) (rt : Int32) (ct : Int32) (pw : Bool) (sl : Int32) (sm : Int32) (ln : Nat) (lk : Int32) (lq : Nat → Int32) (vq : Nat → Int64) (hs : Nat → Int64) (nd : Nat → Int32)  (h_f : hf < 2) (h_n : ln ≤ 5) : Met l y_M_change w_M_change ({ frames := 5, cells := 0, slots := 0, locals := 113 }) (va_Pc [.ref h0] (z_pre (dC, dI) classes [(cI, .int), (cJ, .long)] (Mw h0 qd qs qv qh qn cI cJ (dk, hf, gn, rt, ct, pw, sl, sm, false, ln, lk, lq, vq, hs, nd)) sz)) (va_Qi (fun (r : Int32) (u : MS) => chgP dk hf gn rt ct pw sl sm ln lk lq vq hs nd r u) (fun u => z_at (dC, dI) classes [(cI, .int), (cJ, .long)] (va_A (Mw h0 qd qs qv qh qn cI cJ (dk, hf, gn, rt, ct, pw, sl, sm, false, ln, lk, lq, vq, hs, nd)) sz) (Mw h0 qd qs qv qh qn cI cJ u)) (va_A (Mw h0 qd qs qv qh qn cI cJ (dk, hf, gn, rt, ct, pw, sl, sm, false, ln, lk, lq, vq, hs, nd)) sz)) 0 0 (va_A (Mw h0 qd qs qv qh qn cI cJ (dk, hf, gn, rt, ct, pw, sl, sm, false, ln, lk, lq, vq, hs, nd)) sz) := by
  refine Met.ofW (cc := b_M_change) (maxL := 6) (ret := (some .int)) (by decide) rfl ?_
  intro p e s m args below meth c s₁ B hml hv
  obtain ⟨rfl, hsz, hP, hK, hD0⟩ := hv
  have hx := B.exec
  have hb := B.bytes
  have hr := B.returns
  have hts := fun (w : Cond) (h : w ∈ lw_U) => atoms_spec (ws := w_M_change) B.pre w (List.mem_cons_of_mem _ h)
  have hown : s.vm.findClass R_M = some m.cls := findClass_of_methodNamed B.named
  have hlocks := B.notSynchronized
  subst hsz
  have hD := hD0.self (sz := s.heap.size)
  generalize hAe : va_A (Mw h0 qd qs qv qh qn cI cJ (dk, hf, gn, rt, ct, pw, sl, sm, false, ln, lk, lq, vq, hs, nd)) s.heap.size = A at hD ⊢
  have hA : ∀ q : Nat, s.heap.size ≤ q → A q := fun q h => by rw [← hAe]; exact Or.inr h
  have hS : va_S A s.heap s.heap [] := va_S.rf
  have hP : va_P (dC, dI) classes (Mw h0 qd qs qv qh qn cI cJ (dk, hf, gn, rt, ct, pw, sl, sm, false, ln, lk, lq, vq, hs, nd)) s.heap := hP
  have hl := lv_entry ([.ref h0]) (n := 6) (Nat.le_of_ble_eq_true rfl)
  rw [lg_entry_eq]
  generalize (lg_sl ([.ref h0]) ++ List.replicate (6 - (lg_sl ([.ref h0])).length) Slot.unset).toArray = ls at hl ⊢
  have hl : lv_has ls 6 [(0, .ref h0)] := hl
  have loops : alB (vofM dk hf gn rt ln lq vq) 8 0 true = true → ∀ hs1 : Nat → Int64, (∀ i, i < 8 → hs1 i = vofM dk hf gn rt ln lq vq i) → ∀ (ls : Array Slot) (H : Heap) (locs : List Loc), lv_has ls 6 [(0, .ref h0)] → va_P (dC, dI) classes (Mw h0 qd qs qv qh qn cI cJ (dk, hf, gn, rt, ct, pw, sl, sm, false, ln, lk, lq, vq, hs1, nd)) H → va_D A (Mw h0 qd qs qv qh qn cI cJ (dk, hf, gn, rt, ct, pw, sl, sm, false, ln, lk, lq, vq, hs1, nd)) → va_S A s.heap H locs → W p l e (headSpec w_M_change ({ frames := 5, cells := 0, slots := 0, locals := 113 })).room s m ([.ref h0].toArray) below meth c H locs 0 0 (MQ below (va_Qi (fun (r : Int32) (u : MS) => chgP dk hf gn rt ct pw sl sm ln lk lq vq hs nd r u) (fun u => z_at (dC, dI) classes [(cI, .int), (cJ, .long)] A (Mw h0 qd qs qv qh qn cI cJ u)) A) ([.ref h0].toArray) s 0 0 A) (F0 m 55 ls []) := by
    intro hall hs1 hh
    have loop4 : ∀ (n0 : Nat → Int32), n0 = mND (vofM dk hf gn rt ln lq vq) (1 - hf) (gn + 1) (true, (dk, sl, sm)) nd → ∀ (k : Nat) (q0 : Bool × M3) (ls : Array Slot) (H : Heap) (locs : List Loc), k ≤ 15 → lv_has ls 6 [(0, .ref h0), (2, .int (nI (1 - hf))), (3, .int (gn + 1)), (4, .int (nI k))] → va_P (dC, dI) classes (Mw h0 qd qs qv qh qn cI cJ (mS q0 hf gn rt ct pw ln lk lq vq hs1 n0)) H → va_D A (Mw h0 qd qs qv qh qn cI cJ (mS q0 hf gn rt ct pw ln lk lq vq hs1 n0)) → va_S A s.heap H locs → msn n0 (1 - hf) k q0 = mQ4 (vofM dk hf gn rt ln lq vq) (1 - hf) (gn + 1) (true, (dk, sl, sm)) nd → W p l e (headSpec w_M_change ({ frames := 5, cells := 0, slots := 0, locals := 113 })).room s m ([.ref h0].toArray) below meth c H locs 0 0 (MQ below (va_Qi (fun (r : Int32) (u : MS) => chgP dk hf gn rt ct pw sl sm ln lk lq vq hs nd r u) (fun u => z_at (dC, dI) classes [(cI, .int), (cJ, .long)] A (Mw h0 qd qs qv qh qn cI cJ u)) A) ([.ref h0].toArray) s 0 0 A) (F0 m 187 ls []) := by
      intro n0 hn0 k
      induction k with
      | zero =>
        intro q0 ls H locs hk hl hP hD hS hF
        have hF : q0 = mQ4 (vofM dk hf gn rt ln lq vq) (1 - hf) (gn + 1) (true, (dk, sl, sm)) nd := hF
        refine lv_iload hx hb d_M_change_187 (lv_at hl 3 rfl) ?_
        refine lv_if_le (tgt := 219) hx hb d_M_change_189 (by decide) (fun _ => ?_) (fun h9 => absurd (by decide) h9)
        refine lv_aload_n hx hb d_M_change_219 rfl (lv_at hl 0 rfl) ?_
        refine lv_iload_n hx hb d_M_change_220 rfl (lv_at hl 1 rfl) ?_
        refine lv_iload_n hx hb d_M_change_221 rfl (lv_at hl 2 rfl) ?_
        refine lv_aload_n hx hb d_M_change_222 rfl (lv_at hl 0 rfl) ?_
        refine va_get (D := (dC, dI)) (ci := 1) (v := .ref qn) (C := R_M) (T := F_M) (N := 15) hx hb hts lay_M hown hK hP 0 rfl rfl 14 (by decide) (hts _ m_284) (fun _ h9 => h9) rfl d_M_change_223 ?_
        refine lv_iconst (v := nI 1) hx hb d_M_change_226 (by decide) ?_
        refine z_iald hx hb hK hP 5 0 rfl rfl (by omega) (by decide) d_M_change_227 ?_
        refine lv_iconst (v := (0 : Int32)) hx hb d_M_change_228 (by decide) ?_
        refine z_callv (va_runV (C := R_M) (b := h0) (As := [.int (nI (1 - hf)), .int (gn + 1), .int (n0 1), .int (0 : Int32)]) (rest := []) ⟨hx, hb, hml, hown, hts⟩ (mc_changeSeal l dC dI h0 qd qs qv qh qn cI cJ _ q0 hf gn rt ct pw ln lk lq vq hs1 n0 (1 - hf) (gn + 1) (n0 1) (0 : Int32)) (cwV 4 hts g_M_119 rfl rfl rfl (by decide +kernel) ⟨(Nat.le_of_ble_eq_true rfl), (Nat.le_of_ble_eq_true rfl)⟩) (z_preV (va_recv (q0 := 0) hK hP rfl rfl) hP hK hD) rfl rfl hl.1 rfl (lv_room (Nat.le_of_ble_eq_true rfl)) d_M_change_229 ⟨(Nat.le_of_ble_eq_true rfl), (Nat.le_of_ble_eq_true rfl)⟩) hS hD hA (fun u H locs hr0 hP hD hS => ?_)
        obtain ⟨d1, sl1, sm1, ⟨hc1, rfl⟩ | ⟨hc1, rfl⟩⟩ := hr0
        · refine lv_aload_n hx hb d_M_change_232 rfl (lv_at hl 0 rfl) ?_
          refine lv_iconst (v := nI 0) hx hb d_M_change_233 (by decide) ?_
          refine va_put (D := (dC, dI)) (ci := 1) (v := .int (nI 0)) (ty := .int) (C := R_M) (T := F_M) (N := 15) hx hb hts lay_M t_M t_M_ok n_M hown hK hP hD hS 0 rfl rfl 9 (by decide) (hts _ m_279) (fun _ h9 => h9) rfl (by decide +kernel) rfl rfl (Nat.le_of_ble_eq_true rfl) d_M_change_234 (fun H locs hP hD hS => ?_)
          have hP : va_P (dC, dI) classes (Mw h0 qd qs qv qh qn cI cJ (d1, 1 - hf, gn + 1, n0 1, (0 : Int32), pw, sl1, sm1, false, 0, lk, lq, vq, hs1, n0)) H := hP
          have hD : va_D A (Mw h0 qd qs qv qh qn cI cJ (d1, 1 - hf, gn + 1, n0 1, (0 : Int32), pw, sl1, sm1, false, 0, lk, lq, vq, hs1, n0)) := hD
          refine lv_aload_n hx hb d_M_change_237 rfl (lv_at hl 0 rfl) ?_
          refine lv_aload_n hx hb d_M_change_238 rfl (lv_at hl 0 rfl) ?_
          refine lv_iconst (v := nI 0) hx hb d_M_change_239 (by decide) ?_
          refine vp_callSi (W.runV (C := R_M) (b := h0) (As := [.int (nI 0)]) (rest := [.ref h0]) ⟨hx, hb, hml, hown, hts⟩ (mc_chain l dC dI h0 qd qs qv qh qn cI cJ _ d1 (1 - hf) (gn + 1) (n0 1) (0 : Int32) pw sl1 sm1 false 0 lk lq vq hs1 n0 0 (by omega) (by omega)) (cwV 1 hts g_M_90 rfl rfl rfl (by decide +kernel) ⟨(Nat.le_of_ble_eq_true rfl), (Nat.le_of_ble_eq_true rfl)⟩) (z_preV (va_recv (q0 := 0) hK hP rfl rfl) hP hK hD) rfl rfl hl.1 rfl (lv_room (Nat.le_of_ble_eq_true rfl)) d_M_change_240 ⟨(Nat.le_of_ble_eq_true rfl), (Nat.le_of_ble_eq_true rfl)⟩) (fun r hr0 => ?_)
          subst hr0
          refine va_put (D := (dC, dI)) (ci := 1) (v := .int (chM d1 (1 - hf) 0 0 (dg (dg 19088743 (n0 1)) (gn + 1)))) (ty := .int) (C := R_M) (T := F_M) (N := 15) hx hb hts lay_M t_M t_M_ok n_M hown hK hP hD hS 0 rfl rfl 10 (by decide) (hts _ m_280) (fun _ h9 => h9) rfl (by decide +kernel) rfl rfl (Nat.le_of_ble_eq_true rfl) d_M_change_243 (fun H locs hP hD hS => ?_)
          have hP : va_P (dC, dI) classes (Mw h0 qd qs qv qh qn cI cJ (d1, 1 - hf, gn + 1, n0 1, (0 : Int32), pw, sl1, sm1, false, 0, chM d1 (1 - hf) 0 0 (dg (dg 19088743 (n0 1)) (gn + 1)), lq, vq, hs1, n0)) H := hP
          have hD : va_D A (Mw h0 qd qs qv qh qn cI cJ (d1, 1 - hf, gn + 1, n0 1, (0 : Int32), pw, sl1, sm1, false, 0, chM d1 (1 - hf) 0 0 (dg (dg 19088743 (n0 1)) (gn + 1)), lq, vq, hs1, n0)) := hD
          refine lv_aload_n hx hb d_M_change_246 rfl (lv_at hl 0 rfl) ?_
          refine va_get (D := (dC, dI)) (ci := 1) (v := .int (bI false)) (C := R_M) (T := F_M) (N := 15) hx hb hts lay_M hown hK hP 0 rfl rfl 8 (by decide) (hts _ m_278) (fun _ h9 => h9) rfl d_M_change_247 ?_
          refine lv_if_eq (tgt := 258) hx hb d_M_change_250 (by decide) (fun _ => ?_) (fun h9 => absurd (by decide) h9)
          refine lv_iconst (v := (0 : Int32)) hx hb d_M_change_258 (by decide) ?_
          exact W.iret hx hb hr (fun t ht hW => ⟨⟨(0 : Int32), (d1, 1 - hf, gn + 1, n0 1, (0 : Int32), pw, sl1, sm1, false, 0, chM d1 (1 - hf) 0 0 (dg (dg 19088743 (n0 1)) (gn + 1)), lq, vq, hs1, n0), rfl, Or.inr ⟨hall, _, _, _, _, _, hn0, Or.inl ⟨(by rw [← hF]; exact hc1), rfl, rfl⟩⟩, by rw [ht]; exact hP, va_K.moved hW.alike hK, hD⟩, hS.F ht⟩) hS.2.2 d_M_change_259
        · refine lv_aload_n hx hb d_M_change_232 rfl (lv_at hl 0 rfl) ?_
          refine lv_iconst (v := nI 0) hx hb d_M_change_233 (by decide) ?_
          refine va_put (D := (dC, dI)) (ci := 1) (v := .int (nI 0)) (ty := .int) (C := R_M) (T := F_M) (N := 15) hx hb hts lay_M t_M t_M_ok n_M hown hK hP hD hS 0 rfl rfl 9 (by decide) (hts _ m_279) (fun _ h9 => h9) rfl (by decide +kernel) rfl rfl (Nat.le_of_ble_eq_true rfl) d_M_change_234 (fun H locs hP hD hS => ?_)
          have hP : va_P (dC, dI) classes (Mw h0 qd qs qv qh qn cI cJ (d1, hf, gn, rt, ct, false, sl1, sm1, true, 0, lk, lq, vq, hs1, n0)) H := hP
          have hD : va_D A (Mw h0 qd qs qv qh qn cI cJ (d1, hf, gn, rt, ct, false, sl1, sm1, true, 0, lk, lq, vq, hs1, n0)) := hD
          refine lv_aload_n hx hb d_M_change_237 rfl (lv_at hl 0 rfl) ?_
          refine lv_aload_n hx hb d_M_change_238 rfl (lv_at hl 0 rfl) ?_
          refine lv_iconst (v := nI 0) hx hb d_M_change_239 (by decide) ?_
          refine vp_callSi (W.runV (C := R_M) (b := h0) (As := [.int (nI 0)]) (rest := [.ref h0]) ⟨hx, hb, hml, hown, hts⟩ (mc_chain l dC dI h0 qd qs qv qh qn cI cJ _ d1 hf gn rt ct false sl1 sm1 true 0 lk lq vq hs1 n0 0 (by omega) (by omega)) (cwV 1 hts g_M_90 rfl rfl rfl (by decide +kernel) ⟨(Nat.le_of_ble_eq_true rfl), (Nat.le_of_ble_eq_true rfl)⟩) (z_preV (va_recv (q0 := 0) hK hP rfl rfl) hP hK hD) rfl rfl hl.1 rfl (lv_room (Nat.le_of_ble_eq_true rfl)) d_M_change_240 ⟨(Nat.le_of_ble_eq_true rfl), (Nat.le_of_ble_eq_true rfl)⟩) (fun r hr0 => ?_)
          subst hr0
          refine va_put (D := (dC, dI)) (ci := 1) (v := .int (chM d1 hf 0 0 (dg (dg 19088743 rt) gn))) (ty := .int) (C := R_M) (T := F_M) (N := 15) hx hb hts lay_M t_M t_M_ok n_M hown hK hP hD hS 0 rfl rfl 10 (by decide) (hts _ m_280) (fun _ h9 => h9) rfl (by decide +kernel) rfl rfl (Nat.le_of_ble_eq_true rfl) d_M_change_243 (fun H locs hP hD hS => ?_)
          have hP : va_P (dC, dI) classes (Mw h0 qd qs qv qh qn cI cJ (d1, hf, gn, rt, ct, false, sl1, sm1, true, 0, chM d1 hf 0 0 (dg (dg 19088743 rt) gn), lq, vq, hs1, n0)) H := hP
          have hD : va_D A (Mw h0 qd qs qv qh qn cI cJ (d1, hf, gn, rt, ct, false, sl1, sm1, true, 0, chM d1 hf 0 0 (dg (dg 19088743 rt) gn), lq, vq, hs1, n0)) := hD
          refine lv_aload_n hx hb d_M_change_246 rfl (lv_at hl 0 rfl) ?_
          refine va_get (D := (dC, dI)) (ci := 1) (v := .int (bI true)) (C := R_M) (T := F_M) (N := 15) hx hb hts lay_M hown hK hP 0 rfl rfl 8 (by decide) (hts _ m_278) (fun _ h9 => h9) rfl d_M_change_247 ?_
          refine lv_if_eq (tgt := 258) hx hb d_M_change_250 (by decide) (fun h9 => absurd h9 (by decide)) (fun _ => ?_)
          refine lv_bipush (v := (-4 : Int32)) hx hb d_M_change_253 (by decide) ?_
          refine lv_goto (tgt := 259) hx hb d_M_change_255 (by decide) ?_
          exact W.iret hx hb hr (fun t ht hW => ⟨⟨(-4 : Int32), (d1, hf, gn, rt, ct, false, sl1, sm1, true, 0, chM d1 hf 0 0 (dg (dg 19088743 rt) gn), lq, vq, hs1, n0), rfl, Or.inr ⟨hall, _, _, _, _, _, hn0, Or.inr ⟨(by rw [← hF]; exact hc1), rfl, _, rfl⟩⟩, by rw [ht]; exact hP, va_K.moved hW.alike hK, hD⟩, hS.F ht⟩) hS.2.2 d_M_change_259
      | succ k ih =>
        intro q0 ls H locs hk hl hP hD hS hF
        refine lv_iload hx hb d_M_change_187 (lv_at hl 3 rfl) ?_
        refine lv_if_le (tgt := 219) hx hb d_M_change_189 (by decide) (fun h9 => absurd h9 (nI_nle (by omega) (by omega))) (fun _ => ?_)
        refine lv_aload_n hx hb d_M_change_192 rfl (lv_at hl 0 rfl) ?_
        refine lv_bipush (v := nI 51) hx hb d_M_change_193 (by decide) ?_
        refine lv_iload_n hx hb d_M_change_195 rfl (lv_at hl 1 rfl) ?_
        refine lv_imul hx hb d_M_change_196 ?_
        refine z_top (pk_mul _ _) ?_
        refine lv_bipush (v := nI 15) hx hb d_M_change_197 (by decide) ?_
        refine lv_iadd hx hb d_M_change_199 ?_
        refine z_top (nI_add _ _) ?_
        refine lv_iload hx hb d_M_change_200 (lv_at hl 3 rfl) ?_
        refine lv_iadd hx hb d_M_change_202 ?_
        refine z_top (nI_add _ _) ?_
        refine lv_aload_n hx hb d_M_change_203 rfl (lv_at hl 0 rfl) ?_
        refine va_get (D := (dC, dI)) (ci := 1) (v := .ref qn) (C := R_M) (T := F_M) (N := 15) hx hb hts lay_M hown hK hP 0 rfl rfl 14 (by decide) (hts _ m_284) (fun _ h9 => h9) rfl d_M_change_204 ?_
        refine lv_iload hx hb d_M_change_207 (lv_at hl 3 rfl) ?_
        refine z_iald hx hb hK hP 5 0 rfl rfl (by omega) (by decide) d_M_change_209 ?_
        refine z_callv (va_runV (C := R_M) (b := h0) (As := [.int (nI (((51 * (1 - hf)) + 15) + (k + 1))), .int (n0 (k + 1))]) (rest := []) ⟨hx, hb, hml, hown, hts⟩ (mc_put l dC dI h0 qd qs qv qh qn cI cJ _ q0 hf gn rt ct pw ln lk lq vq hs1 n0 (((51 * (1 - hf)) + 15) + (k + 1)) (n0 (k + 1)) (by omega)) (cwV 2 hts g_M_116 rfl rfl rfl (by decide +kernel) ⟨(Nat.le_of_ble_eq_true rfl), (Nat.le_of_ble_eq_true rfl)⟩) (z_preV (va_recv (q0 := 0) hK hP rfl rfl) hP hK hD) rfl rfl hl.1 rfl (lv_room (Nat.le_of_ble_eq_true rfl)) d_M_change_210 ⟨(Nat.le_of_ble_eq_true rfl), (Nat.le_of_ble_eq_true rfl)⟩) hS hD hA (fun u H locs hr0 hP hD hS => ?_)
        obtain ⟨q2, hq2, rfl⟩ := hr0
        refine lv_iinc (k := 3) hx hb d_M_change_213 hl rfl (z_dec _) (by decide) rfl (fun ls hl => ?_)
        have hl : lv_has ls 6 [(4, .int (nI k)), (0, .ref h0), (2, .int (nI (1 - hf))), (3, .int (gn + 1))] := hl
        refine lv_goto (tgt := 187) hx hb d_M_change_216 (by decide) ?_
        exact ih _ ls _ _ (by omega) (lv_sub hl [1, 2, 3, 0] rfl) hP hD hS (by rw [← hF, hq2]; rfl)
    have loop3 : ∀ (j k : Nat) (q0 : Bool × M3) (ls : Array Slot) (H : Heap) (locs : List Loc), k + j = 8 → lv_has ls 6 [(0, .ref h0), (2, .int (nI (1 - hf))), (3, .int (gn + 1)), (4, .int (nI k))] → va_P (dC, dI) classes (Mw h0 qd qs qv qh qn cI cJ (mS q0 hf gn rt ct pw ln lk lq vq hs1 nd)) H → va_D A (Mw h0 qd qs qv qh qn cI cJ (mS q0 hf gn rt ct pw ln lk lq vq hs1 nd)) → va_S A s.heap H locs → ssF (fun _ k => vofM dk hf gn rt ln lq vq k) (1 - hf) (gn + 1) j k q0 = mQ2 (vofM dk hf gn rt ln lq vq) (1 - hf) (gn + 1) (true, (dk, sl, sm)) → W p l e (headSpec w_M_change ({ frames := 5, cells := 0, slots := 0, locals := 113 })).room s m ([.ref h0].toArray) below meth c H locs 0 0 (MQ below (va_Qi (fun (r : Int32) (u : MS) => chgP dk hf gn rt ct pw sl sm ln lk lq vq hs nd r u) (fun u => z_at (dC, dI) classes [(cI, .int), (cJ, .long)] A (Mw h0 qd qs qv qh qn cI cJ u)) A) ([.ref h0].toArray) s 0 0 A) (F0 m 104 ls []) := by
      intro j
      induction j with
      | zero =>
        intro k q0 ls H locs hk hl hP hD hS hF
        have hF : q0 = mQ2 (vofM dk hf gn rt ln lq vq) (1 - hf) (gn + 1) (true, (dk, sl, sm)) := hF
        refine lv_iload hx hb d_M_change_104 (lv_at hl 3 rfl) ?_
        refine lv_bipush (v := nI 8) hx hb d_M_change_106 (by decide) ?_
        refine lv_icmp_ge (tgt := 177) hx hb d_M_change_108 (by decide) (fun _ => ?_) (fun h9 => absurd ((nI_leI (by omega) (by omega)).mpr (by omega)) h9)
        refine lv_aload_n hx hb d_M_change_177 rfl (lv_at hl 0 rfl) ?_
        refine lv_iload_n hx hb d_M_change_178 rfl (lv_at hl 1 rfl) ?_
        refine lv_iload_n hx hb d_M_change_179 rfl (lv_at hl 2 rfl) ?_
        refine z_callv (va_runV (C := R_M) (b := h0) (As := [.int (nI (1 - hf)), .int (gn + 1)]) (rest := []) ⟨hx, hb, hml, hown, hts⟩ (mc_nodes l dC dI h0 qd qs qv qh qn cI cJ _ q0.2.1 hf gn rt ct (q0.1 && pw) q0.2.2.1 q0.2.2.2 (!q0.1) (cond q0.1 ln 0) lk lq vq hs1 nd (1 - hf) (gn + 1) (by omega)) (cwV 2 hts g_M_37 rfl rfl rfl (by decide +kernel) ⟨(Nat.le_of_ble_eq_true rfl), (Nat.le_of_ble_eq_true rfl)⟩) (z_preV (va_recv (q0 := 0) hK hP rfl rfl) hP hK hD) rfl rfl hl.1 rfl (lv_room (Nat.le_of_ble_eq_true rfl)) d_M_change_180 ⟨(Nat.le_of_ble_eq_true rfl), (Nat.le_of_ble_eq_true rfl)⟩) hS hD hA (fun u H locs hr0 hP hD hS => ?_)
        subst hr0
        have hP : va_P (dC, dI) classes (Mw h0 qd qs qv qh qn cI cJ (mS q0 hf gn rt ct pw ln lk lq vq hs1 (ndB 7 (ndA q0.2.1 (1 - hf) (gn + 1) 8 0 nd)))) H := hP
        have hD : va_D A (Mw h0 qd qs qv qh qn cI cJ (mS q0 hf gn rt ct pw ln lk lq vq hs1 (ndB 7 (ndA q0.2.1 (1 - hf) (gn + 1) 8 0 nd)))) := hD
        refine lv_bipush (v := nI 15) hx hb d_M_change_183 (by decide) ?_
        refine lv_istore hx hb d_M_change_185 hl (by decide) rfl (fun ls hl => ?_)
        have hl : lv_has ls 6 [(4, .int (nI 15)), (0, .ref h0), (2, .int (nI (1 - hf))), (3, .int (gn + 1))] := hl
        exact loop4 _ (by rw [hF]; rfl) 15 _ ls _ _ (by decide) (lv_sub hl [1, 2, 3, 0] rfl) hP hD hS (by rw [hF]; rfl)
      | succ j ih =>
        intro k q0 ls H locs hk hl hP hD hS hF
        refine lv_iload hx hb d_M_change_104 (lv_at hl 3 rfl) ?_
        refine lv_bipush (v := nI 8) hx hb d_M_change_106 (by decide) ?_
        refine lv_icmp_ge (tgt := 177) hx hb d_M_change_108 (by decide) (fun h9 => absurd h9 (fun q => absurd ((nI_leI (by omega) (by omega)).mp q) (by omega))) (fun _ => ?_)
        refine lv_bipush (v := nI 51) hx hb d_M_change_111 (by decide) ?_
        refine lv_iload_n hx hb d_M_change_113 rfl (lv_at hl 1 rfl) ?_
        refine lv_imul hx hb d_M_change_114 ?_
        refine z_top (pk_mul _ _) ?_
        refine lv_iconst (v := nI 2) hx hb d_M_change_115 (by decide) ?_
        refine lv_iload hx hb d_M_change_116 (lv_at hl 3 rfl) ?_
        refine lv_imul hx hb d_M_change_118 ?_
        refine z_top (pk_mul _ _) ?_
        refine lv_iadd hx hb d_M_change_119 ?_
        refine z_top (nI_add _ _) ?_
        refine lv_istore hx hb d_M_change_120 hl (by decide) rfl (fun ls hl => ?_)
        have hl : lv_has ls 6 [(5, .int (nI ((51 * (1 - hf)) + (2 * k)))), (0, .ref h0), (2, .int (nI (1 - hf))), (3, .int (gn + 1)), (4, .int (nI k))] := hl
        refine lv_aload_n hx hb d_M_change_122 rfl (lv_at hl 1 rfl) ?_
        refine lv_iload hx hb d_M_change_123 (lv_at hl 0 rfl) ?_
        refine lv_aload_n hx hb d_M_change_125 rfl (lv_at hl 1 rfl) ?_
        refine va_get (D := (dC, dI)) (ci := 1) (v := .ref qh) (C := R_M) (T := F_M) (N := 15) hx hb hts lay_M hown hK hP 0 rfl rfl 13 (by decide) (hts _ m_283) (fun _ h9 => h9) rfl d_M_change_126 ?_
        refine lv_iload hx hb d_M_change_129 (lv_at hl 4 rfl) ?_
        refine z_lald hx hb hK hP 4 1 rfl rfl (by omega) (by decide) d_M_change_131 ?_
        refine z_topl (hh k (by omega)) ?_
        refine lv_bipush (v := (32 : Int32)) hx hb d_M_change_132 (by decide) ?_
        refine lv_lshr hx hb d_M_change_134 rfl ?_
        refine lv_l2i hx hb d_M_change_135 rfl ?_
        refine z_top (z_hi _) ?_
        refine lv_iload_n hx hb d_M_change_136 rfl (lv_at hl 3 rfl) ?_
        refine lv_iload hx hb d_M_change_137 (lv_at hl 0 rfl) ?_
        refine vp_callSi (W.runS (As := [.int (gn + 1), .int (nI ((51 * (1 - hf)) + (2 * k)))]) (rest := [.int (hiW (vofM dk hf gn rt ln lq vq k)), .int (nI ((51 * (1 - hf)) + (2 * k))), .ref h0]) ⟨hx, hb, hml, hown, hts⟩ (mc_key l (gn + 1) (nI ((51 * (1 - hf)) + (2 * k)))) (cwS 2 hts g_M_33 rfl rfl rfl (by decide +kernel) ⟨(Nat.le_of_ble_eq_true rfl), (Nat.le_of_ble_eq_true rfl)⟩) preEq rfl rfl hl.1 rfl (lv_room (Nat.le_of_ble_eq_true rfl)) d_M_change_139 ⟨(Nat.le_of_ble_eq_true rfl), (Nat.le_of_ble_eq_true rfl)⟩) (fun r hr0 => ?_)
        subst hr0
        refine lv_ixor hx hb d_M_change_142 ?_
        refine z_callv (va_runV (C := R_M) (b := h0) (As := [.int (nI ((51 * (1 - hf)) + (2 * k))), .int ((hiW (vofM dk hf gn rt ln lq vq k)) ^^^ (dg (dg 19088743 (gn + 1)) (nI ((51 * (1 - hf)) + (2 * k)))))]) (rest := []) ⟨hx, hb, hml, hown, hts⟩ (mc_put l dC dI h0 qd qs qv qh qn cI cJ _ q0 hf gn rt ct pw ln lk lq vq hs1 nd ((51 * (1 - hf)) + (2 * k)) ((hiW (vofM dk hf gn rt ln lq vq k)) ^^^ (dg (dg 19088743 (gn + 1)) (nI ((51 * (1 - hf)) + (2 * k))))) (by omega)) (cwV 2 hts g_M_116 rfl rfl rfl (by decide +kernel) ⟨(Nat.le_of_ble_eq_true rfl), (Nat.le_of_ble_eq_true rfl)⟩) (z_preV (va_recv (q0 := 0) hK hP rfl rfl) hP hK hD) rfl rfl hl.1 rfl (lv_room (Nat.le_of_ble_eq_true rfl)) d_M_change_143 ⟨(Nat.le_of_ble_eq_true rfl), (Nat.le_of_ble_eq_true rfl)⟩) hS hD hA (fun u H locs hr0 hP hD hS => ?_)
        obtain ⟨q3, hq3, rfl⟩ := hr0
        refine lv_aload_n hx hb d_M_change_146 rfl (lv_at hl 1 rfl) ?_
        refine lv_iload hx hb d_M_change_147 (lv_at hl 0 rfl) ?_
        refine lv_iconst (v := nI 1) hx hb d_M_change_149 (by decide) ?_
        refine lv_iadd hx hb d_M_change_150 ?_
        refine z_top (nI_add _ _) ?_
        refine lv_aload_n hx hb d_M_change_151 rfl (lv_at hl 1 rfl) ?_
        refine va_get (D := (dC, dI)) (ci := 1) (v := .ref qh) (C := R_M) (T := F_M) (N := 15) hx hb hts lay_M hown hK hP 0 rfl rfl 13 (by decide) (hts _ m_283) (fun _ h9 => h9) rfl d_M_change_152 ?_
        refine lv_iload hx hb d_M_change_155 (lv_at hl 4 rfl) ?_
        refine z_lald hx hb hK hP 4 1 rfl rfl (by omega) (by decide) d_M_change_157 ?_
        refine z_topl (hh k (by omega)) ?_
        refine lv_l2i hx hb d_M_change_158 rfl ?_
        refine lv_iload_n hx hb d_M_change_159 rfl (lv_at hl 3 rfl) ?_
        refine lv_iload hx hb d_M_change_160 (lv_at hl 0 rfl) ?_
        refine lv_iconst (v := nI 1) hx hb d_M_change_162 (by decide) ?_
        refine lv_iadd hx hb d_M_change_163 ?_
        refine z_top (nI_add _ _) ?_
        refine vp_callSi (W.runS (As := [.int (gn + 1), .int (nI (((51 * (1 - hf)) + (2 * k)) + 1))]) (rest := [.int ((vofM dk hf gn rt ln lq vq k).toInt32), .int (nI (((51 * (1 - hf)) + (2 * k)) + 1)), .ref h0]) ⟨hx, hb, hml, hown, hts⟩ (mc_key l (gn + 1) (nI (((51 * (1 - hf)) + (2 * k)) + 1))) (cwS 2 hts g_M_33 rfl rfl rfl (by decide +kernel) ⟨(Nat.le_of_ble_eq_true rfl), (Nat.le_of_ble_eq_true rfl)⟩) preEq rfl rfl hl.1 rfl (lv_room (Nat.le_of_ble_eq_true rfl)) d_M_change_164 ⟨(Nat.le_of_ble_eq_true rfl), (Nat.le_of_ble_eq_true rfl)⟩) (fun r hr0 => ?_)
        subst hr0
        refine lv_ixor hx hb d_M_change_167 ?_
        refine z_callv (va_runV (C := R_M) (b := h0) (As := [.int (nI (((51 * (1 - hf)) + (2 * k)) + 1)), .int (((vofM dk hf gn rt ln lq vq k).toInt32) ^^^ (dg (dg 19088743 (gn + 1)) (nI (((51 * (1 - hf)) + (2 * k)) + 1))))]) (rest := []) ⟨hx, hb, hml, hown, hts⟩ (mc_put l dC dI h0 qd qs qv qh qn cI cJ _ q3 hf gn rt ct pw ln lk lq vq hs1 nd (((51 * (1 - hf)) + (2 * k)) + 1) (((vofM dk hf gn rt ln lq vq k).toInt32) ^^^ (dg (dg 19088743 (gn + 1)) (nI (((51 * (1 - hf)) + (2 * k)) + 1)))) (by omega)) (cwV 2 hts g_M_116 rfl rfl rfl (by decide +kernel) ⟨(Nat.le_of_ble_eq_true rfl), (Nat.le_of_ble_eq_true rfl)⟩) (z_preV (va_recv (q0 := 0) hK hP rfl rfl) hP hK hD) rfl rfl hl.1 rfl (lv_room (Nat.le_of_ble_eq_true rfl)) d_M_change_168 ⟨(Nat.le_of_ble_eq_true rfl), (Nat.le_of_ble_eq_true rfl)⟩) hS hD hA (fun u H locs hr0 hP hD hS => ?_)
        obtain ⟨q4, hq4, rfl⟩ := hr0
        refine lv_iinc (k := 4) hx hb d_M_change_171 hl rfl (z_inc _ 1) (by decide) rfl (fun ls hl => ?_)
        have hl : lv_has ls 6 [(4, .int (nI (k + 1))), (5, .int (nI ((51 * (1 - hf)) + (2 * k)))), (0, .ref h0), (2, .int (nI (1 - hf))), (3, .int (gn + 1))] := hl
        refine lv_goto (tgt := 104) hx hb d_M_change_174 (by decide) ?_
        exact ih (k + 1) _ ls _ _ (by omega) (lv_sub hl [2, 3, 4, 0] rfl) hP hD hS (by rw [← hF, hq4, hq3]; rfl)
    have loop2 : ∀ (j k : Nat) (q0 : Bool × M3) (ls : Array Slot) (H : Heap) (locs : List Loc), k + j = 5 → lv_has ls 6 [(0, .ref h0), (2, .int (nI (1 - hf))), (3, .int (gn + 1)), (4, .int (nI k))] → va_P (dC, dI) classes (Mw h0 qd qs qv qh qn cI cJ (mS q0 hf gn rt ct pw ln lk lq vq hs1 nd)) H → va_D A (Mw h0 qd qs qv qh qn cI cJ (mS q0 hf gn rt ct pw ln lk lq vq hs1 nd)) → va_S A s.heap H locs → clM (1 - hf) j k q0 = clM (1 - hf) 5 0 (true, (dk, sl, sm)) → W p l e (headSpec w_M_change ({ frames := 5, cells := 0, slots := 0, locals := 113 })).room s m ([.ref h0].toArray) below meth c H locs 0 0 (MQ below (va_Qi (fun (r : Int32) (u : MS) => chgP dk hf gn rt ct pw sl sm ln lk lq vq hs nd r u) (fun u => z_at (dC, dI) classes [(cI, .int), (cJ, .long)] A (Mw h0 qd qs qv qh qn cI cJ u)) A) ([.ref h0].toArray) s 0 0 A) (F0 m 72 ls []) := by
      intro j
      induction j with
      | zero =>
        intro k q0 ls H locs hk hl hP hD hS hF
        have hF : q0 = clM (1 - hf) 5 0 (true, (dk, sl, sm)) := hF
        refine lv_iload hx hb d_M_change_72 (lv_at hl 3 rfl) ?_
        refine lv_iconst (v := nI 5) hx hb d_M_change_74 (by decide) ?_
        refine lv_icmp_ge (tgt := 101) hx hb d_M_change_75 (by decide) (fun _ => ?_) (fun h9 => absurd ((nI_leI (by omega) (by omega)).mpr (by omega)) h9)
        refine lv_iconst (v := nI 0) hx hb d_M_change_101 (by decide) ?_
        refine lv_istore hx hb d_M_change_102 hl (by decide) rfl (fun ls hl => ?_)
        have hl : lv_has ls 6 [(4, .int (nI 0)), (0, .ref h0), (2, .int (nI (1 - hf))), (3, .int (gn + 1))] := hl
        exact loop3 8 0 _ ls _ _ rfl (lv_sub hl [1, 2, 3, 0] rfl) hP hD hS (by rw [hF]; rfl)
      | succ j ih =>
        intro k q0 ls H locs hk hl hP hD hS hF
        refine lv_iload hx hb d_M_change_72 (lv_at hl 3 rfl) ?_
        refine lv_iconst (v := nI 5) hx hb d_M_change_74 (by decide) ?_
        refine lv_icmp_ge (tgt := 101) hx hb d_M_change_75 (by decide) (fun h9 => absurd h9 (fun q => absurd ((nI_leI (by omega) (by omega)).mp q) (by omega))) (fun _ => ?_)
        refine lv_aload_n hx hb d_M_change_78 rfl (lv_at hl 0 rfl) ?_
        refine lv_bipush (v := nI 51) hx hb d_M_change_79 (by decide) ?_
        refine lv_iload_n hx hb d_M_change_81 rfl (lv_at hl 1 rfl) ?_
        refine lv_imul hx hb d_M_change_82 ?_
        refine z_top (pk_mul _ _) ?_
        refine lv_bipush (v := nI 34) hx hb d_M_change_83 (by decide) ?_
        refine lv_iadd hx hb d_M_change_85 ?_
        refine z_top (nI_add _ _) ?_
        refine lv_iconst (v := nI 4) hx hb d_M_change_86 (by decide) ?_
        refine lv_iload hx hb d_M_change_87 (lv_at hl 3 rfl) ?_
        refine lv_imul hx hb d_M_change_89 ?_
        refine z_top (pk_mul _ _) ?_
        refine lv_iadd hx hb d_M_change_90 ?_
        refine z_top (nI_add _ _) ?_
        refine z_top (show nI (51 * (1 - hf) + 34 + 4 * k) = nI (51 * (1 - hf) + 31 + 4 * k + 3) from congrArg nI (by omega)) ?_
        refine lv_iconst (v := (0 : Int32)) hx hb d_M_change_91 (by decide) ?_
        refine z_callv (va_runV (C := R_M) (b := h0) (As := [.int (nI (51 * (1 - hf) + 31 + 4 * k + 3)), .int (0 : Int32)]) (rest := []) ⟨hx, hb, hml, hown, hts⟩ (mc_put l dC dI h0 qd qs qv qh qn cI cJ _ q0 hf gn rt ct pw ln lk lq vq hs1 nd (51 * (1 - hf) + 31 + 4 * k + 3) (0 : Int32) (by omega)) (cwV 2 hts g_M_116 rfl rfl rfl (by decide +kernel) ⟨(Nat.le_of_ble_eq_true rfl), (Nat.le_of_ble_eq_true rfl)⟩) (z_preV (va_recv (q0 := 0) hK hP rfl rfl) hP hK hD) rfl rfl hl.1 rfl (lv_room (Nat.le_of_ble_eq_true rfl)) d_M_change_92 ⟨(Nat.le_of_ble_eq_true rfl), (Nat.le_of_ble_eq_true rfl)⟩) hS hD hA (fun u H locs hr0 hP hD hS => ?_)
        obtain ⟨q5, hq5, rfl⟩ := hr0
        refine lv_iinc (k := 3) hx hb d_M_change_95 hl rfl (z_inc _ 1) (by decide) rfl (fun ls hl => ?_)
        have hl : lv_has ls 6 [(4, .int (nI (k + 1))), (0, .ref h0), (2, .int (nI (1 - hf))), (3, .int (gn + 1))] := hl
        refine lv_goto (tgt := 72) hx hb d_M_change_98 (by decide) ?_
        exact ih (k + 1) _ ls _ _ (by omega) (lv_sub hl [1, 2, 3, 0] rfl) hP hD hS (by rw [← hF, hq5]; rfl)
    intro ls H locs hl hP hD hS
    refine lv_iconst (v := nI 1) hx hb d_M_change_55 (by decide) ?_
    refine lv_aload_n hx hb d_M_change_56 rfl (lv_at hl 0 rfl) ?_
    refine va_get (D := (dC, dI)) (ci := 1) (v := .int (nI hf)) (C := R_M) (T := F_M) (N := 15) hx hb hts lay_M hown hK hP 0 rfl rfl 1 (by decide) (hts _ m_271) (fun _ h9 => h9) rfl d_M_change_57 ?_
    refine lv_isub hx hb d_M_change_60 ?_
    refine z_top (pk_sub (by omega)) ?_
    refine lv_istore_n hx hb d_M_change_61 rfl hl (by decide) rfl (fun ls hl => ?_)
    have hl : lv_has ls 6 [(2, .int (nI (1 - hf))), (0, .ref h0)] := hl
    refine lv_aload_n hx hb d_M_change_62 rfl (lv_at hl 1 rfl) ?_
    refine va_get (D := (dC, dI)) (ci := 1) (v := .int gn) (C := R_M) (T := F_M) (N := 15) hx hb hts lay_M hown hK hP 0 rfl rfl 2 (by decide) (hts _ m_272) (fun _ h9 => h9) rfl d_M_change_63 ?_
    refine lv_iconst (v := (1 : Int32)) hx hb d_M_change_66 (by decide) ?_
    refine lv_iadd hx hb d_M_change_67 ?_
    refine lv_istore_n hx hb d_M_change_68 rfl hl (by decide) rfl (fun ls hl => ?_)
    have hl : lv_has ls 6 [(3, .int (gn + (1 : Int32))), (2, .int (nI (1 - hf))), (0, .ref h0)] := hl
    refine lv_iconst (v := nI 0) hx hb d_M_change_69 (by decide) ?_
    refine lv_istore hx hb d_M_change_70 hl (by decide) rfl (fun ls hl => ?_)
    have hl : lv_has ls 6 [(4, .int (nI 0)), (3, .int (gn + (1 : Int32))), (2, .int (nI (1 - hf))), (0, .ref h0)] := hl
    exact loop2 5 0 (true, (dk, sl, sm)) ls _ _ rfl (lv_sub hl [3, 2, 1, 0] rfl) hP hD hS rfl
  have loop1 : ∀ (j k : Nat) (ba : Bool) (hs1 : Nat → Int64) (ls : Array Slot) (H : Heap) (locs : List Loc), k + j = 8 → (∀ i, i < k → hs1 i = vofM dk hf gn rt ln lq vq i) → lv_has ls 6 [(0, .ref h0), (1, .int (bI ba)), (2, .int (nI k))] → va_P (dC, dI) classes (Mw h0 qd qs qv qh qn cI cJ (dk, hf, gn, rt, ct, pw, sl, sm, false, ln, lk, lq, vq, hs1, nd)) H → va_D A (Mw h0 qd qs qv qh qn cI cJ (dk, hf, gn, rt, ct, pw, sl, sm, false, ln, lk, lq, vq, hs1, nd)) → va_S A s.heap H locs → alB (vofM dk hf gn rt ln lq vq) j k ba = alB (vofM dk hf gn rt ln lq vq) 8 0 true → W p l e (headSpec w_M_change ({ frames := 5, cells := 0, slots := 0, locals := 113 })).room s m ([.ref h0].toArray) below meth c H locs 0 0 (MQ below (va_Qi (fun (r : Int32) (u : MS) => chgP dk hf gn rt ct pw sl sm ln lk lq vq hs nd r u) (fun u => z_at (dC, dI) classes [(cI, .int), (cJ, .long)] A (Mw h0 qd qs qv qh qn cI cJ u)) A) ([.ref h0].toArray) s 0 0 A) (F0 m 4 ls []) := by
    intro j
    induction j with
    | zero =>
      intro k ba hs1 ls H locs hk hh hl hP hD hS hF
      have hF : ba = alB (vofM dk hf gn rt ln lq vq) 8 0 true := hF
      have hk8 : k = 8 := by omega
      subst hk8
      cases ba with
      | false =>
        refine lv_iload_n hx hb d_M_change_4 rfl (lv_at hl 2 rfl) ?_
        refine lv_bipush (v := nI 8) hx hb d_M_change_5 (by decide) ?_
        refine lv_icmp_ge (tgt := 48) hx hb d_M_change_7 (by decide) (fun _ => ?_) (fun h9 => absurd ((nI_leI (by omega) (by omega)).mpr (by omega)) h9)
        refine lv_iload_n hx hb d_M_change_48 rfl (lv_at hl 1 rfl) ?_
        refine lv_if_ne (tgt := 55) hx hb d_M_change_49 (by decide) (fun h9 => absurd (by decide) h9) (fun _ => ?_)
        refine lv_bipush (v := (-3 : Int32)) hx hb d_M_change_52 (by decide) ?_
        exact W.iret hx hb hr (fun t ht hW => ⟨⟨(-3 : Int32), (dk, hf, gn, rt, ct, pw, sl, sm, false, ln, lk, lq, vq, hs1, nd), rfl, Or.inl ⟨hF.symm, rfl, _, rfl⟩, by rw [ht]; exact hP, va_K.moved hW.alike hK, hD⟩, hS.F ht⟩) hS.2.2 d_M_change_54
      | true =>
        refine lv_iload_n hx hb d_M_change_4 rfl (lv_at hl 2 rfl) ?_
        refine lv_bipush (v := nI 8) hx hb d_M_change_5 (by decide) ?_
        refine lv_icmp_ge (tgt := 48) hx hb d_M_change_7 (by decide) (fun _ => ?_) (fun h9 => absurd ((nI_leI (by omega) (by omega)).mpr (by omega)) h9)
        refine lv_iload_n hx hb d_M_change_48 rfl (lv_at hl 1 rfl) ?_
        refine lv_if_ne (tgt := 55) hx hb d_M_change_49 (by decide) (fun _ => ?_) (fun h9 => absurd h9 (by decide))
        exact loops hF.symm hs1 hh ls _ _ (lv_sub hl [0] rfl) hP hD hS
    | succ j ih =>
      intro k ba hs1 ls H locs hk hh hl hP hD hS hF
      cases ba with
      | false =>
        refine lv_iload_n hx hb d_M_change_4 rfl (lv_at hl 2 rfl) ?_
        refine lv_bipush (v := nI 8) hx hb d_M_change_5 (by decide) ?_
        refine lv_icmp_ge (tgt := 48) hx hb d_M_change_7 (by decide) (fun h9 => absurd h9 (fun q => absurd ((nI_leI (by omega) (by omega)).mp q) (by omega))) (fun _ => ?_)
        refine lv_aload_n hx hb d_M_change_10 rfl (lv_at hl 0 rfl) ?_
        refine va_get (D := (dC, dI)) (ci := 1) (v := .ref qh) (C := R_M) (T := F_M) (N := 15) hx hb hts lay_M hown hK hP 0 rfl rfl 13 (by decide) (hts _ m_283) (fun _ h9 => h9) rfl d_M_change_11 ?_
        refine lv_iload_n hx hb d_M_change_14 rfl (lv_at hl 2 rfl) ?_
        refine lv_aload_n hx hb d_M_change_15 rfl (lv_at hl 0 rfl) ?_
        refine lv_iload_n hx hb d_M_change_16 rfl (lv_at hl 2 rfl) ?_
        refine vp_callSl (W.runV (C := R_M) (b := h0) (As := [.int (nI k)]) (rest := [.int (nI k), .ref qh]) ⟨hx, hb, hml, hown, hts⟩ (mc_value l dC dI h0 qd qs qv qh qn cI cJ _ dk hf gn rt ct pw sl sm false ln lk lq vq hs1 nd k (by omega) (by omega) (by omega)) (cwV 1 hts g_M_111 rfl rfl rfl (by decide +kernel) ⟨(Nat.le_of_ble_eq_true rfl), (Nat.le_of_ble_eq_true rfl)⟩) (z_preV (va_recv (q0 := 0) hK hP rfl rfl) hP hK hD) rfl rfl hl.1 rfl (lv_room (Nat.le_of_ble_eq_true rfl)) d_M_change_17 ⟨(Nat.le_of_ble_eq_true rfl), (Nat.le_of_ble_eq_true rfl)⟩) (fun r hr0 => ?_)
        subst hr0
        refine z_last hx hb hK hP hD hS 4 1 rfl rfl (by omega) (by decide) d_M_change_20 (fun H locs hP hD hS => ?_)
        have hP : va_P (dC, dI) classes (Mw h0 qd qs qv qh qn cI cJ (dk, hf, gn, rt, ct, pw, sl, sm, false, ln, lk, lq, vq, vp_updL hs1 k (vofM dk hf gn rt ln lq vq k), nd)) H := hP
        have hD : va_D A (Mw h0 qd qs qv qh qn cI cJ (dk, hf, gn, rt, ct, pw, sl, sm, false, ln, lk, lq, vq, vp_updL hs1 k (vofM dk hf gn rt ln lq vq k), nd)) := hD
        refine lv_iload_n hx hb d_M_change_21 rfl (lv_at hl 1 rfl) ?_
        refine lv_if_eq (tgt := 40) hx hb d_M_change_22 (by decide) (fun _ => ?_) (fun h9 => absurd (by decide) h9)
        refine lv_iconst (v := (0 : Int32)) hx hb d_M_change_40 (by decide) ?_
        refine lv_istore_n hx hb d_M_change_41 rfl hl (by decide) rfl (fun ls hl => ?_)
        have hl : lv_has ls 6 [(1, .int (0 : Int32)), (0, .ref h0), (2, .int (nI k))] := hl
        refine lv_iinc (k := 2) hx hb d_M_change_42 hl rfl (z_inc _ 1) (by decide) rfl (fun ls hl => ?_)
        have hl : lv_has ls 6 [(2, .int (nI (k + 1))), (1, .int (0 : Int32)), (0, .ref h0)] := hl
        refine lv_goto (tgt := 4) hx hb d_M_change_45 (by decide) ?_
        exact ih (k + 1) false _ ls _ _ (by omega) (z_hh hh) (lv_sub hl [2, 1, 0] rfl) hP hD hS (by rw [← hF, alB]; rfl)
      | true =>
        refine lv_iload_n hx hb d_M_change_4 rfl (lv_at hl 2 rfl) ?_
        refine lv_bipush (v := nI 8) hx hb d_M_change_5 (by decide) ?_
        refine lv_icmp_ge (tgt := 48) hx hb d_M_change_7 (by decide) (fun h9 => absurd h9 (fun q => absurd ((nI_leI (by omega) (by omega)).mp q) (by omega))) (fun _ => ?_)
        refine lv_aload_n hx hb d_M_change_10 rfl (lv_at hl 0 rfl) ?_
        refine va_get (D := (dC, dI)) (ci := 1) (v := .ref qh) (C := R_M) (T := F_M) (N := 15) hx hb hts lay_M hown hK hP 0 rfl rfl 13 (by decide) (hts _ m_283) (fun _ h9 => h9) rfl d_M_change_11 ?_
        refine lv_iload_n hx hb d_M_change_14 rfl (lv_at hl 2 rfl) ?_
        refine lv_aload_n hx hb d_M_change_15 rfl (lv_at hl 0 rfl) ?_
        refine lv_iload_n hx hb d_M_change_16 rfl (lv_at hl 2 rfl) ?_
        refine vp_callSl (W.runV (C := R_M) (b := h0) (As := [.int (nI k)]) (rest := [.int (nI k), .ref qh]) ⟨hx, hb, hml, hown, hts⟩ (mc_value l dC dI h0 qd qs qv qh qn cI cJ _ dk hf gn rt ct pw sl sm false ln lk lq vq hs1 nd k (by omega) (by omega) (by omega)) (cwV 1 hts g_M_111 rfl rfl rfl (by decide +kernel) ⟨(Nat.le_of_ble_eq_true rfl), (Nat.le_of_ble_eq_true rfl)⟩) (z_preV (va_recv (q0 := 0) hK hP rfl rfl) hP hK hD) rfl rfl hl.1 rfl (lv_room (Nat.le_of_ble_eq_true rfl)) d_M_change_17 ⟨(Nat.le_of_ble_eq_true rfl), (Nat.le_of_ble_eq_true rfl)⟩) (fun r hr0 => ?_)
        subst hr0
        refine z_last hx hb hK hP hD hS 4 1 rfl rfl (by omega) (by decide) d_M_change_20 (fun H locs hP hD hS => ?_)
        have hP : va_P (dC, dI) classes (Mw h0 qd qs qv qh qn cI cJ (dk, hf, gn, rt, ct, pw, sl, sm, false, ln, lk, lq, vq, vp_updL hs1 k (vofM dk hf gn rt ln lq vq k), nd)) H := hP
        have hD : va_D A (Mw h0 qd qs qv qh qn cI cJ (dk, hf, gn, rt, ct, pw, sl, sm, false, ln, lk, lq, vq, vp_updL hs1 k (vofM dk hf gn rt ln lq vq k), nd)) := hD
        refine lv_iload_n hx hb d_M_change_21 rfl (lv_at hl 1 rfl) ?_
        refine lv_if_eq (tgt := 40) hx hb d_M_change_22 (by decide) (fun h9 => absurd h9 (by decide)) (fun _ => ?_)
        refine lv_aload_n hx hb d_M_change_25 rfl (lv_at hl 0 rfl) ?_
        refine va_get (D := (dC, dI)) (ci := 1) (v := .ref qh) (C := R_M) (T := F_M) (N := 15) hx hb hts lay_M hown hK hP 0 rfl rfl 13 (by decide) (hts _ m_283) (fun _ h9 => h9) rfl d_M_change_26 ?_
        refine lv_iload_n hx hb d_M_change_29 rfl (lv_at hl 2 rfl) ?_
        refine z_lald hx hb hK hP 4 1 rfl rfl (by omega) (by decide) d_M_change_30 ?_
        refine z_topl (pk_uLs) ?_
        refine lv_lconst (v := 0) hx hb d_M_change_31 (by decide) ?_
        refine W.lcmp hx hb d_M_change_32 ?_
        refine lv_if_lt (tgt := 40) hx hb d_M_change_33 (by decide) (fun h6 => ?_) (fun h6 => ?_)
        · refine lv_iconst (v := (0 : Int32)) hx hb d_M_change_40 (by decide) ?_
          refine lv_istore_n hx hb d_M_change_41 rfl hl (by decide) rfl (fun ls hl => ?_)
          have hl : lv_has ls 6 [(1, .int (0 : Int32)), (0, .ref h0), (2, .int (nI k))] := hl
          refine lv_iinc (k := 2) hx hb d_M_change_42 hl rfl (z_inc _ 1) (by decide) rfl (fun ls hl => ?_)
          have hl : lv_has ls 6 [(2, .int (nI (k + 1))), (1, .int (0 : Int32)), (0, .ref h0)] := hl
          refine lv_goto (tgt := 4) hx hb d_M_change_45 (by decide) ?_
          exact ih (k + 1) false _ ls _ _ (by omega) (z_hh hh) (lv_sub hl [2, 1, 0] rfl) hP hD hS (by rw [← hF, alB]; simp [h6])
        · refine lv_iconst (v := (1 : Int32)) hx hb d_M_change_36 (by decide) ?_
          refine lv_goto (tgt := 41) hx hb d_M_change_37 (by decide) ?_
          refine lv_istore_n hx hb d_M_change_41 rfl hl (by decide) rfl (fun ls hl => ?_)
          have hl : lv_has ls 6 [(1, .int (1 : Int32)), (0, .ref h0), (2, .int (nI k))] := hl
          refine lv_iinc (k := 2) hx hb d_M_change_42 hl rfl (z_inc _ 1) (by decide) rfl (fun ls hl => ?_)
          have hl : lv_has ls 6 [(2, .int (nI (k + 1))), (1, .int (1 : Int32)), (0, .ref h0)] := hl
          refine lv_goto (tgt := 4) hx hb d_M_change_45 (by decide) ?_
          exact ih (k + 1) true _ ls _ _ (by omega) (z_hh hh) (lv_sub hl [2, 1, 0] rfl) hP hD hS (by rw [← hF, alB]; simp [h6])
  refine lv_iconst (v := (1 : Int32)) hx hb d_M_change_0 (by decide) ?_
  refine lv_istore_n hx hb d_M_change_1 rfl hl (by decide) rfl (fun ls hl => ?_)
  have hl : lv_has ls 6 [(1, .int (1 : Int32)), (0, .ref h0)] := hl
  refine lv_iconst (v := nI 0) hx hb d_M_change_2 (by decide) ?_
  refine lv_istore_n hx hb d_M_change_3 rfl hl (by decide) rfl (fun ls hl => ?_)
  have hl : lv_has ls 6 [(2, .int (nI 0)), (1, .int (1 : Int32)), (0, .ref h0)] := hl
  exact loop1 8 0 true _ ls _ _ rfl (fun i hi => absurd hi (by omega)) (lv_sub hl [2, 1, 0] rfl) hP hD hS rfl
set_option maxHeartbeats 1000000 in
set_option maxRecDepth 100000 in
theorem mc_checkpoint (l : Launch) (dC : Nat → ClassId) (dI : Nat → Nat → Nat) (h0 qd qs qv qh qn : Nat) (cI cJ : ClassId) (sz : Nat) (dk : Nat → Int32) (hf : Nat) (gn : Int32) (rt : Int32) (ct : Int32) (pw : Bool) (sl : Int32) (sm : Int32) (cu : Bool) (ln : Nat) (lk : Int32) (lq : Nat → Int32) (vq : Nat → Int64) (hs : Nat → Int64) (nd : Nat → Int32)  (h_f : hf < 2) (h_n : ln ≤ 5) : Met l y_M_checkpoint w_M_checkpoint ({ frames := 6, cells := 0, slots := 0, locals := 138 }) (va_Pc [.ref h0] (z_pre (dC, dI) classes [(cI, .int), (cJ, .long)] (Mw h0 qd qs qv qh qn cI cJ (dk, hf, gn, rt, ct, pw, sl, sm, cu, ln, lk, lq, vq, hs, nd)) sz)) (va_Qi (fun (r : Int32) (u : MS) => (pw = false ∧ r = -1 ∧ u = (dk, hf, gn, rt, ct, pw, sl, sm, cu, ln, lk, lq, vq, hs, nd)) ∨ (pw = true ∧ ∃ r0 : Int32, chgP dk hf gn rt ct true sl sm ln lk lq vq hs nd r0 u ∧ ((r0 = 0 ∧ r = gn + 1) ∨ (¬ r0 = 0 ∧ r = r0)))) (fun u => z_at (dC, dI) classes [(cI, .int), (cJ, .long)] (va_A (Mw h0 qd qs qv qh qn cI cJ (dk, hf, gn, rt, ct, pw, sl, sm, cu, ln, lk, lq, vq, hs, nd)) sz) (Mw h0 qd qs qv qh qn cI cJ u)) (va_A (Mw h0 qd qs qv qh qn cI cJ (dk, hf, gn, rt, ct, pw, sl, sm, cu, ln, lk, lq, vq, hs, nd)) sz)) 0 0 (va_A (Mw h0 qd qs qv qh qn cI cJ (dk, hf, gn, rt, ct, pw, sl, sm, cu, ln, lk, lq, vq, hs, nd)) sz) := by
  refine Met.ofW (cc := b_M_checkpoint) (maxL := 2) (ret := (some .int)) (by decide) rfl ?_
  intro p e s m args below meth c s₁ B hml hv
  obtain ⟨rfl, hsz, hP, hK, hD0⟩ := hv
  have hx := B.exec
  have hb := B.bytes
  have hr := B.returns
  have hts := fun (w : Cond) (h : w ∈ lw_U) => atoms_spec (ws := w_M_checkpoint) B.pre w (List.mem_cons_of_mem _ h)
  have hown : s.vm.findClass R_M = some m.cls := findClass_of_methodNamed B.named
  have hlocks := B.notSynchronized
  subst hsz
  have hD := hD0.self (sz := s.heap.size)
  generalize hAe : va_A (Mw h0 qd qs qv qh qn cI cJ (dk, hf, gn, rt, ct, pw, sl, sm, cu, ln, lk, lq, vq, hs, nd)) s.heap.size = A at hD ⊢
  have hA : ∀ q : Nat, s.heap.size ≤ q → A q := fun q h => by rw [← hAe]; exact Or.inr h
  have hS : va_S A s.heap s.heap [] := va_S.rf
  have hP : va_P (dC, dI) classes (Mw h0 qd qs qv qh qn cI cJ (dk, hf, gn, rt, ct, pw, sl, sm, cu, ln, lk, lq, vq, hs, nd)) s.heap := hP
  have hl := lv_entry ([.ref h0]) (n := 2) (Nat.le_of_ble_eq_true rfl)
  rw [lg_entry_eq]
  generalize (lg_sl ([.ref h0]) ++ List.replicate (2 - (lg_sl ([.ref h0])).length) Slot.unset).toArray = ls at hl ⊢
  have hl : lv_has ls 2 [(0, .ref h0)] := hl
  cases pw with
  | false =>
    refine lv_aload_n hx hb d_M_checkpoint_0 rfl (lv_at hl 0 rfl) ?_
    refine va_get (D := (dC, dI)) (ci := 1) (v := .int (bI false)) (C := R_M) (T := F_M) (N := 15) hx hb hts lay_M hown hK hP 0 rfl rfl 5 (by decide) (hts _ m_275) (fun _ h9 => h9) rfl d_M_checkpoint_1 ?_
    refine lv_if_ne (tgt := 9) hx hb d_M_checkpoint_4 (by decide) (fun h9 => absurd (by decide) h9) (fun _ => ?_)
    refine lv_iconst (v := (-1 : Int32)) hx hb d_M_checkpoint_7 (by decide) ?_
    exact W.iret hx hb hr (fun t ht hW => ⟨⟨(-1 : Int32), (dk, hf, gn, rt, ct, false, sl, sm, cu, ln, lk, lq, vq, hs, nd), rfl, Or.inl ⟨rfl, rfl, rfl⟩, by rw [ht]; exact hP, va_K.moved hW.alike hK, hD⟩, hS.F ht⟩) hS.2.2 d_M_checkpoint_8
  | true =>
    refine lv_aload_n hx hb d_M_checkpoint_0 rfl (lv_at hl 0 rfl) ?_
    refine va_get (D := (dC, dI)) (ci := 1) (v := .int (bI true)) (C := R_M) (T := F_M) (N := 15) hx hb hts lay_M hown hK hP 0 rfl rfl 5 (by decide) (hts _ m_275) (fun _ h9 => h9) rfl d_M_checkpoint_1 ?_
    refine lv_if_ne (tgt := 9) hx hb d_M_checkpoint_4 (by decide) (fun _ => ?_) (fun h9 => absurd h9 (by decide))
    refine lv_aload_n hx hb d_M_checkpoint_9 rfl (lv_at hl 0 rfl) ?_
    refine lv_iconst (v := (0 : Int32)) hx hb d_M_checkpoint_10 (by decide) ?_
    refine va_put (D := (dC, dI)) (ci := 1) (v := .int (0 : Int32)) (ty := .boolean) (C := R_M) (T := F_M) (N := 15) hx hb hts lay_M t_M t_M_ok n_M hown hK hP hD hS 0 rfl rfl 8 (by decide) (hts _ m_278) (fun _ h9 => h9) rfl (by decide +kernel) rfl rfl (Nat.le_of_ble_eq_true rfl) d_M_checkpoint_11 (fun H locs hP hD hS => ?_)
    have hP : va_P (dC, dI) classes (Mw h0 qd qs qv qh qn cI cJ (dk, hf, gn, rt, ct, true, sl, sm, false, ln, lk, lq, vq, hs, nd)) H := hP
    have hD : va_D A (Mw h0 qd qs qv qh qn cI cJ (dk, hf, gn, rt, ct, true, sl, sm, false, ln, lk, lq, vq, hs, nd)) := hD
    refine lv_aload_n hx hb d_M_checkpoint_14 rfl (lv_at hl 0 rfl) ?_
    refine z_calli (va_runV (C := R_M) (b := h0) (As := []) (rest := []) ⟨hx, hb, hml, hown, hts⟩ (mc_change l dC dI h0 qd qs qv qh qn cI cJ _ dk hf gn rt ct true sl sm ln lk lq vq hs nd (by omega) (by omega)) (cwV 0 hts g_M_123 rfl rfl rfl (by decide +kernel) ⟨(Nat.le_of_ble_eq_true rfl), (Nat.le_of_ble_eq_true rfl)⟩) (z_preV (va_recv (q0 := 0) hK hP rfl rfl) hP hK hD) rfl rfl hl.1 rfl (lv_room (Nat.le_of_ble_eq_true rfl)) d_M_checkpoint_15 ⟨(Nat.le_of_ble_eq_true rfl), (Nat.le_of_ble_eq_true rfl)⟩) hS hD hA (fun r u H locs hr0 hP hD hS => ?_)
    have hch1 := hr0
    obtain ⟨ha1, rfl, hs1, rfl⟩ | ⟨ha1, hs1, nd1, d1, sl1, sm1, hn1, ⟨hc1, rfl, rfl⟩ | ⟨hc1, rfl, lk1, rfl⟩⟩ := hr0
    · refine lv_istore_n hx hb d_M_checkpoint_18 rfl hl (by decide) rfl (fun ls hl => ?_)
      have hl : lv_has ls 2 [(1, .int (-3 : Int32)), (0, .ref h0)] := hl
      refine lv_iload_n hx hb d_M_checkpoint_19 rfl (lv_at hl 0 rfl) ?_
      refine lv_if_ge (tgt := 27) hx hb d_M_checkpoint_20 (by decide) (fun h9 => absurd h9 (by decide)) (fun _ => ?_)
      refine lv_iload_n hx hb d_M_checkpoint_23 rfl (lv_at hl 0 rfl) ?_
      refine lv_goto (tgt := 31) hx hb d_M_checkpoint_24 (by decide) ?_
      exact W.iret hx hb hr (fun t ht hW => ⟨⟨(-3 : Int32), (dk, hf, gn, rt, ct, true, sl, sm, false, ln, lk, lq, vq, hs1, nd), rfl, Or.inr ⟨rfl, _, hch1, Or.inr ⟨by decide, rfl⟩⟩, by rw [ht]; exact hP, va_K.moved hW.alike hK, hD⟩, hS.F ht⟩) hS.2.2 d_M_checkpoint_31
    · refine lv_istore_n hx hb d_M_checkpoint_18 rfl hl (by decide) rfl (fun ls hl => ?_)
      have hl : lv_has ls 2 [(1, .int (0 : Int32)), (0, .ref h0)] := hl
      refine lv_iload_n hx hb d_M_checkpoint_19 rfl (lv_at hl 0 rfl) ?_
      refine lv_if_ge (tgt := 27) hx hb d_M_checkpoint_20 (by decide) (fun _ => ?_) (fun h9 => absurd (by decide) h9)
      refine lv_aload_n hx hb d_M_checkpoint_27 rfl (lv_at hl 1 rfl) ?_
      refine va_get (D := (dC, dI)) (ci := 1) (v := .int (gn + 1)) (C := R_M) (T := F_M) (N := 15) hx hb hts lay_M hown hK hP 0 rfl rfl 2 (by decide) (hts _ m_272) (fun _ h9 => h9) rfl d_M_checkpoint_28 ?_
      exact W.iret hx hb hr (fun t ht hW => ⟨⟨gn + 1, (d1, 1 - hf, gn + 1, nd1 1, 0, true, sl1, sm1, false, 0, dg (dg 19088743 (nd1 1)) (gn + 1), lq, vq, hs1, nd1), rfl, Or.inr ⟨rfl, _, hch1, Or.inl ⟨rfl, rfl⟩⟩, by rw [ht]; exact hP, va_K.moved hW.alike hK, hD⟩, hS.F ht⟩) hS.2.2 d_M_checkpoint_31
    · refine lv_istore_n hx hb d_M_checkpoint_18 rfl hl (by decide) rfl (fun ls hl => ?_)
      have hl : lv_has ls 2 [(1, .int (-4 : Int32)), (0, .ref h0)] := hl
      refine lv_iload_n hx hb d_M_checkpoint_19 rfl (lv_at hl 0 rfl) ?_
      refine lv_if_ge (tgt := 27) hx hb d_M_checkpoint_20 (by decide) (fun h9 => absurd h9 (by decide)) (fun _ => ?_)
      refine lv_iload_n hx hb d_M_checkpoint_23 rfl (lv_at hl 0 rfl) ?_
      refine lv_goto (tgt := 31) hx hb d_M_checkpoint_24 (by decide) ?_
      exact W.iret hx hb hr (fun t ht hW => ⟨⟨(-4 : Int32), (d1, hf, gn, rt, ct, false, sl1, sm1, true, 0, lk1, lq, vq, hs1, nd1), rfl, Or.inr ⟨rfl, _, hch1, Or.inr ⟨by decide, rfl⟩⟩, by rw [ht]; exact hP, va_K.moved hW.alike hK, hD⟩, hS.F ht⟩) hS.2.2 d_M_checkpoint_31
set_option maxHeartbeats 1000000 in
set_option maxRecDepth 100000 in
theorem mc_write (l : Launch) (dC : Nat → ClassId) (dI : Nat → Nat → Nat) (h0 qd qs qv qh qn : Nat) (cI cJ : ClassId) (sz : Nat) (dk : Nat → Int32) (hf : Nat) (gn : Int32) (rt : Int32) (ct : Int32) (pw : Bool) (sl : Int32) (sm : Int32) (cu : Bool) (ln : Nat) (lk : Int32) (lq : Nat → Int32) (vq : Nat → Int64) (hs : Nat → Int64) (nd : Nat → Int32) (x0 : Int32) (v0 : Int64) (h_f : hf < 2) (h_n : ln ≤ 5) : Met l y_M_write w_M_write ({ frames := 6, cells := 0, slots := 0, locals := 138 }) (va_Pc [.ref h0, .int x0, .long v0] (z_pre (dC, dI) classes [(cI, .int), (cJ, .long)] (Mw h0 qd qs qv qh qn cI cJ (dk, hf, gn, rt, ct, pw, sl, sm, cu, ln, lk, lq, vq, hs, nd)) sz)) (va_Qi (fun (r : Int32) (u : MS) => (pw = false ∧ r = -1 ∧ u = (dk, hf, gn, rt, ct, pw, sl, sm, cu, ln, lk, lq, vq, hs, nd)) ∨ (pw = true ∧ (isIn 8 x0 = 0 ∨ lg_cmp v0 0 < 0) ∧ r = -2 ∧ u = (dk, hf, gn, rt, ct, pw, sl, sm, cu, ln, lk, lq, vq, hs, nd)) ∨ (pw = true ∧ ¬ isIn 8 x0 = 0 ∧ ¬ lg_cmp v0 0 < 0 ∧ ((¬ ln = 5 ∧ srP dk hf gn rt ct true sl sm ln lk lq vq hs nd x0 v0 r u) ∨ (ln = 5 ∧ ∃ (r0 : Int32) (u0 : MS), chgP dk hf gn rt ct true sl sm ln lk lq vq hs nd r0 u0 ∧ ((¬ r0 = 0 ∧ r = r0 ∧ u = u0) ∨ (r0 = 0 ∧ srQ u0 x0 v0 r u)))))) (fun u => z_at (dC, dI) classes [(cI, .int), (cJ, .long)] (va_A (Mw h0 qd qs qv qh qn cI cJ (dk, hf, gn, rt, ct, pw, sl, sm, cu, ln, lk, lq, vq, hs, nd)) sz) (Mw h0 qd qs qv qh qn cI cJ u)) (va_A (Mw h0 qd qs qv qh qn cI cJ (dk, hf, gn, rt, ct, pw, sl, sm, cu, ln, lk, lq, vq, hs, nd)) sz)) 0 0 (va_A (Mw h0 qd qs qv qh qn cI cJ (dk, hf, gn, rt, ct, pw, sl, sm, cu, ln, lk, lq, vq, hs, nd)) sz) := by
  refine Met.ofW (cc := b_M_write) (maxL := 11) (ret := (some .int)) (by decide) rfl ?_
  intro p e s m args below meth c s₁ B hml hv
  obtain ⟨rfl, hsz, hP, hK, hD0⟩ := hv
  have hx := B.exec
  have hb := B.bytes
  have hr := B.returns
  have hts := fun (w : Cond) (h : w ∈ lw_U) => atoms_spec (ws := w_M_write) B.pre w (List.mem_cons_of_mem _ h)
  have hown : s.vm.findClass R_M = some m.cls := findClass_of_methodNamed B.named
  have hlocks := B.notSynchronized
  subst hsz
  have hD := hD0.self (sz := s.heap.size)
  generalize hAe : va_A (Mw h0 qd qs qv qh qn cI cJ (dk, hf, gn, rt, ct, pw, sl, sm, cu, ln, lk, lq, vq, hs, nd)) s.heap.size = A at hD ⊢
  have hA : ∀ q : Nat, s.heap.size ≤ q → A q := fun q h => by rw [← hAe]; exact Or.inr h
  have hS : va_S A s.heap s.heap [] := va_S.rf
  have hP : va_P (dC, dI) classes (Mw h0 qd qs qv qh qn cI cJ (dk, hf, gn, rt, ct, pw, sl, sm, cu, ln, lk, lq, vq, hs, nd)) s.heap := hP
  have hl := lv_entry ([.ref h0, .int x0, .long v0]) (n := 11) (Nat.le_of_ble_eq_true rfl)
  rw [lg_entry_eq]
  generalize (lg_sl ([.ref h0, .int x0, .long v0]) ++ List.replicate (11 - (lg_sl ([.ref h0, .int x0, .long v0])).length) Slot.unset).toArray = ls at hl ⊢
  have hl : lv_has ls 11 [(0, .ref h0), (1, .int x0), (2, .long v0)] := hl
  have rest : ∀ (d0 : Nat → Int32) (a0 : Nat) (g0 : Int32) (rt0 : Int32) (ct0 : Int32) (sl0 : Int32) (sm0 : Int32) (n0 : Nat) (lk0 : Int32) (lq0 : Nat → Int32) (vq0 : Nat → Int64) (hs0 : Nat → Int64) (nd0 : Nat → Int32) (ls : Array Slot) (H : Heap) (locs : List Loc), a0 < 2 → n0 < 5 → lv_has ls 11 [(0, .ref h0), (1, .int x0), (2, .long v0)] → va_P (dC, dI) classes (Mw h0 qd qs qv qh qn cI cJ (d0, a0, g0, rt0, ct0, true, sl0, sm0, false, n0, lk0, lq0, vq0, hs0, nd0)) H → va_D A (Mw h0 qd qs qv qh qn cI cJ (d0, a0, g0, rt0, ct0, true, sl0, sm0, false, n0, lk0, lq0, vq0, hs0, nd0)) → va_S A s.heap H locs → (∀ (r : Int32) (u : MS), srP d0 a0 g0 rt0 ct0 true sl0 sm0 n0 lk0 lq0 vq0 hs0 nd0 x0 v0 r u → (pw = false ∧ r = -1 ∧ u = (dk, hf, gn, rt, ct, pw, sl, sm, cu, ln, lk, lq, vq, hs, nd)) ∨ (pw = true ∧ (isIn 8 x0 = 0 ∨ lg_cmp v0 0 < 0) ∧ r = -2 ∧ u = (dk, hf, gn, rt, ct, pw, sl, sm, cu, ln, lk, lq, vq, hs, nd)) ∨ (pw = true ∧ ¬ isIn 8 x0 = 0 ∧ ¬ lg_cmp v0 0 < 0 ∧ ((¬ ln = 5 ∧ srP dk hf gn rt ct true sl sm ln lk lq vq hs nd x0 v0 r u) ∨ (ln = 5 ∧ ∃ (r0 : Int32) (u0 : MS), chgP dk hf gn rt ct true sl sm ln lk lq vq hs nd r0 u0 ∧ ((¬ r0 = 0 ∧ r = r0 ∧ u = u0) ∨ (r0 = 0 ∧ srQ u0 x0 v0 r u)))))) → W p l e (headSpec w_M_write ({ frames := 6, cells := 0, slots := 0, locals := 138 })).room s m ([.ref h0, .int x0, .long v0].toArray) below meth c H locs 0 0 (MQ below (va_Qi (fun (r : Int32) (u : MS) => (pw = false ∧ r = -1 ∧ u = (dk, hf, gn, rt, ct, pw, sl, sm, cu, ln, lk, lq, vq, hs, nd)) ∨ (pw = true ∧ (isIn 8 x0 = 0 ∨ lg_cmp v0 0 < 0) ∧ r = -2 ∧ u = (dk, hf, gn, rt, ct, pw, sl, sm, cu, ln, lk, lq, vq, hs, nd)) ∨ (pw = true ∧ ¬ isIn 8 x0 = 0 ∧ ¬ lg_cmp v0 0 < 0 ∧ ((¬ ln = 5 ∧ srP dk hf gn rt ct true sl sm ln lk lq vq hs nd x0 v0 r u) ∨ (ln = 5 ∧ ∃ (r0 : Int32) (u0 : MS), chgP dk hf gn rt ct true sl sm ln lk lq vq hs nd r0 u0 ∧ ((¬ r0 = 0 ∧ r = r0 ∧ u = u0) ∨ (r0 = 0 ∧ srQ u0 x0 v0 r u)))))) (fun u => z_at (dC, dI) classes [(cI, .int), (cJ, .long)] A (Mw h0 qd qs qv qh qn cI cJ u)) A) ([.ref h0, .int x0, .long v0].toArray) s 0 0 A) (F0 m 59 ls []) := by
    intro d0 a0 g0 rt0 ct0 sl0 sm0 n0 lk0 lq0 vq0 hs0 nd0 ls H locs ha0 hn0 hl hP hD hS hF
    refine lv_aload_n hx hb d_M_write_59 rfl (lv_at hl 0 rfl) ?_
    refine va_get (D := (dC, dI)) (ci := 1) (v := .int (nI n0)) (C := R_M) (T := F_M) (N := 15) hx hb hts lay_M hown hK hP 0 rfl rfl 9 (by decide) (hts _ m_279) (fun _ h9 => h9) rfl d_M_write_60 ?_
    refine lv_istore hx hb d_M_write_63 hl (by decide) rfl (fun ls hl => ?_)
    have hl : lv_has ls 11 [(5, .int (nI n0)), (0, .ref h0), (1, .int x0), (2, .long v0)] := hl
    refine lv_aload_n hx hb d_M_write_65 rfl (lv_at hl 1 rfl) ?_
    refine lv_iload hx hb d_M_write_66 (lv_at hl 0 rfl) ?_
    refine vp_callSi (W.runV (C := R_M) (b := h0) (As := [.int (nI n0)]) (rest := []) ⟨hx, hb, hml, hown, hts⟩ (mc_entryAt l dC dI h0 qd qs qv qh qn cI cJ _ d0 a0 g0 rt0 ct0 true sl0 sm0 false n0 lk0 lq0 vq0 hs0 nd0 n0) (cwV 1 hts g_M_79 rfl rfl rfl (by decide +kernel) ⟨(Nat.le_of_ble_eq_true rfl), (Nat.le_of_ble_eq_true rfl)⟩) (z_preV (va_recv (q0 := 0) hK hP rfl rfl) hP hK hD) rfl rfl hl.1 rfl (lv_room (Nat.le_of_ble_eq_true rfl)) d_M_write_68 ⟨(Nat.le_of_ble_eq_true rfl), (Nat.le_of_ble_eq_true rfl)⟩) (fun r hr0 => ?_)
    subst hr0
    refine lv_istore hx hb d_M_write_71 hl (by decide) rfl (fun ls hl => ?_)
    have hl : lv_has ls 11 [(6, .int (nI (51 * a0 + 31 + 4 * n0))), (5, .int (nI n0)), (0, .ref h0), (1, .int x0), (2, .long v0)] := hl
    refine lv_iload_n hx hb d_M_write_73 rfl (lv_at hl 3 rfl) ?_
    refine lv_aload_n hx hb d_M_write_74 rfl (lv_at hl 2 rfl) ?_
    refine va_get (D := (dC, dI)) (ci := 1) (v := .int g0) (C := R_M) (T := F_M) (N := 15) hx hb hts lay_M hown hK hP 0 rfl rfl 2 (by decide) (hts _ m_272) (fun _ h9 => h9) rfl d_M_write_75 ?_
    refine lv_iload hx hb d_M_write_78 (lv_at hl 0 rfl) ?_
    refine vp_callSi (W.runS (As := [.int g0, .int (nI (51 * a0 + 31 + 4 * n0))]) (rest := [.int x0]) ⟨hx, hb, hml, hown, hts⟩ (mc_key l g0 (nI (51 * a0 + 31 + 4 * n0))) (cwS 2 hts g_M_33 rfl rfl rfl (by decide +kernel) ⟨(Nat.le_of_ble_eq_true rfl), (Nat.le_of_ble_eq_true rfl)⟩) preEq rfl rfl hl.1 rfl (lv_room (Nat.le_of_ble_eq_true rfl)) d_M_write_80 ⟨(Nat.le_of_ble_eq_true rfl), (Nat.le_of_ble_eq_true rfl)⟩) (fun r hr0 => ?_)
    subst hr0
    refine lv_ixor hx hb d_M_write_83 ?_
    refine lv_istore hx hb d_M_write_84 hl (by decide) rfl (fun ls hl => ?_)
    have hl : lv_has ls 11 [(7, .int (x0 ^^^ (dg (dg 19088743 g0) (nI (51 * a0 + 31 + 4 * n0))))), (6, .int (nI (51 * a0 + 31 + 4 * n0))), (5, .int (nI n0)), (0, .ref h0), (1, .int x0), (2, .long v0)] := hl
    refine lv_lload_n hx hb d_M_write_86 rfl (lv_at hl 5 rfl) ?_
    refine lv_bipush (v := (32 : Int32)) hx hb d_M_write_87 (by decide) ?_
    refine lv_lshr hx hb d_M_write_89 rfl ?_
    refine lv_l2i hx hb d_M_write_90 rfl ?_
    refine z_top (z_hi _) ?_
    refine lv_aload_n hx hb d_M_write_91 rfl (lv_at hl 3 rfl) ?_
    refine va_get (D := (dC, dI)) (ci := 1) (v := .int g0) (C := R_M) (T := F_M) (N := 15) hx hb hts lay_M hown hK hP 0 rfl rfl 2 (by decide) (hts _ m_272) (fun _ h9 => h9) rfl d_M_write_92 ?_
    refine lv_iload hx hb d_M_write_95 (lv_at hl 1 rfl) ?_
    refine lv_iconst (v := nI 1) hx hb d_M_write_97 (by decide) ?_
    refine lv_iadd hx hb d_M_write_98 ?_
    refine z_top (nI_add _ _) ?_
    refine vp_callSi (W.runS (As := [.int g0, .int (nI ((51 * a0 + 31 + 4 * n0) + 1))]) (rest := [.int (hiW v0)]) ⟨hx, hb, hml, hown, hts⟩ (mc_key l g0 (nI ((51 * a0 + 31 + 4 * n0) + 1))) (cwS 2 hts g_M_33 rfl rfl rfl (by decide +kernel) ⟨(Nat.le_of_ble_eq_true rfl), (Nat.le_of_ble_eq_true rfl)⟩) preEq rfl rfl hl.1 rfl (lv_room (Nat.le_of_ble_eq_true rfl)) d_M_write_99 ⟨(Nat.le_of_ble_eq_true rfl), (Nat.le_of_ble_eq_true rfl)⟩) (fun r hr0 => ?_)
    subst hr0
    refine lv_ixor hx hb d_M_write_102 ?_
    refine lv_istore hx hb d_M_write_103 hl (by decide) rfl (fun ls hl => ?_)
    have hl : lv_has ls 11 [(8, .int ((hiW v0) ^^^ (dg (dg 19088743 g0) (nI ((51 * a0 + 31 + 4 * n0) + 1))))), (7, .int (x0 ^^^ (dg (dg 19088743 g0) (nI (51 * a0 + 31 + 4 * n0))))), (6, .int (nI (51 * a0 + 31 + 4 * n0))), (5, .int (nI n0)), (0, .ref h0), (1, .int x0), (2, .long v0)] := hl
    refine lv_lload_n hx hb d_M_write_105 rfl (lv_at hl 6 rfl) ?_
    refine lv_l2i hx hb d_M_write_106 rfl ?_
    refine z_top rfl ?_
    refine lv_aload_n hx hb d_M_write_107 rfl (lv_at hl 4 rfl) ?_
    refine va_get (D := (dC, dI)) (ci := 1) (v := .int g0) (C := R_M) (T := F_M) (N := 15) hx hb hts lay_M hown hK hP 0 rfl rfl 2 (by decide) (hts _ m_272) (fun _ h9 => h9) rfl d_M_write_108 ?_
    refine lv_iload hx hb d_M_write_111 (lv_at hl 2 rfl) ?_
    refine lv_iconst (v := nI 2) hx hb d_M_write_113 (by decide) ?_
    refine lv_iadd hx hb d_M_write_114 ?_
    refine z_top (nI_add _ _) ?_
    refine vp_callSi (W.runS (As := [.int g0, .int (nI ((51 * a0 + 31 + 4 * n0) + 2))]) (rest := [.int (loW v0)]) ⟨hx, hb, hml, hown, hts⟩ (mc_key l g0 (nI ((51 * a0 + 31 + 4 * n0) + 2))) (cwS 2 hts g_M_33 rfl rfl rfl (by decide +kernel) ⟨(Nat.le_of_ble_eq_true rfl), (Nat.le_of_ble_eq_true rfl)⟩) preEq rfl rfl hl.1 rfl (lv_room (Nat.le_of_ble_eq_true rfl)) d_M_write_115 ⟨(Nat.le_of_ble_eq_true rfl), (Nat.le_of_ble_eq_true rfl)⟩) (fun r hr0 => ?_)
    subst hr0
    refine lv_ixor hx hb d_M_write_118 ?_
    refine lv_istore hx hb d_M_write_119 hl (by decide) rfl (fun ls hl => ?_)
    have hl : lv_has ls 11 [(9, .int ((loW v0) ^^^ (dg (dg 19088743 g0) (nI ((51 * a0 + 31 + 4 * n0) + 2))))), (8, .int ((hiW v0) ^^^ (dg (dg 19088743 g0) (nI ((51 * a0 + 31 + 4 * n0) + 1))))), (7, .int (x0 ^^^ (dg (dg 19088743 g0) (nI (51 * a0 + 31 + 4 * n0))))), (6, .int (nI (51 * a0 + 31 + 4 * n0))), (5, .int (nI n0)), (0, .ref h0), (1, .int x0), (2, .long v0)] := hl
    refine lv_aload_n hx hb d_M_write_121 rfl (lv_at hl 5 rfl) ?_
    refine va_get (D := (dC, dI)) (ci := 1) (v := .int lk0) (C := R_M) (T := F_M) (N := 15) hx hb hts lay_M hown hK hP 0 rfl rfl 10 (by decide) (hts _ m_280) (fun _ h9 => h9) rfl d_M_write_122 ?_
    refine lv_iload hx hb d_M_write_125 (lv_at hl 2 rfl) ?_
    refine vp_callSi (W.runS (As := [.int lk0, .int (x0 ^^^ (dg (dg 19088743 g0) (nI (51 * a0 + 31 + 4 * n0))))]) (rest := []) ⟨hx, hb, hml, hown, hts⟩ (mc_digest l lk0 (x0 ^^^ (dg (dg 19088743 g0) (nI (51 * a0 + 31 + 4 * n0))))) (cwS 2 hts g_M_47 rfl rfl rfl (by decide +kernel) ⟨(Nat.le_of_ble_eq_true rfl), (Nat.le_of_ble_eq_true rfl)⟩) preEq rfl rfl hl.1 rfl (lv_room (Nat.le_of_ble_eq_true rfl)) d_M_write_127 ⟨(Nat.le_of_ble_eq_true rfl), (Nat.le_of_ble_eq_true rfl)⟩) (fun r hr0 => ?_)
    subst hr0
    refine lv_istore hx hb d_M_write_130 hl (by decide) rfl (fun ls hl => ?_)
    have hl : lv_has ls 11 [(10, .int (dg lk0 (x0 ^^^ (dg (dg 19088743 g0) (nI (51 * a0 + 31 + 4 * n0)))))), (9, .int ((loW v0) ^^^ (dg (dg 19088743 g0) (nI ((51 * a0 + 31 + 4 * n0) + 2))))), (8, .int ((hiW v0) ^^^ (dg (dg 19088743 g0) (nI ((51 * a0 + 31 + 4 * n0) + 1))))), (7, .int (x0 ^^^ (dg (dg 19088743 g0) (nI (51 * a0 + 31 + 4 * n0))))), (6, .int (nI (51 * a0 + 31 + 4 * n0))), (5, .int (nI n0)), (0, .ref h0), (1, .int x0), (2, .long v0)] := hl
    refine lv_iload hx hb d_M_write_132 (lv_at hl 0 rfl) ?_
    refine lv_iload hx hb d_M_write_134 (lv_at hl 2 rfl) ?_
    refine vp_callSi (W.runS (As := [.int (dg lk0 (x0 ^^^ (dg (dg 19088743 g0) (nI (51 * a0 + 31 + 4 * n0))))), .int ((hiW v0) ^^^ (dg (dg 19088743 g0) (nI ((51 * a0 + 31 + 4 * n0) + 1))))]) (rest := []) ⟨hx, hb, hml, hown, hts⟩ (mc_digest l (dg lk0 (x0 ^^^ (dg (dg 19088743 g0) (nI (51 * a0 + 31 + 4 * n0))))) ((hiW v0) ^^^ (dg (dg 19088743 g0) (nI ((51 * a0 + 31 + 4 * n0) + 1))))) (cwS 2 hts g_M_47 rfl rfl rfl (by decide +kernel) ⟨(Nat.le_of_ble_eq_true rfl), (Nat.le_of_ble_eq_true rfl)⟩) preEq rfl rfl hl.1 rfl (lv_room (Nat.le_of_ble_eq_true rfl)) d_M_write_136 ⟨(Nat.le_of_ble_eq_true rfl), (Nat.le_of_ble_eq_true rfl)⟩) (fun r hr0 => ?_)
    subst hr0
    refine lv_istore hx hb d_M_write_139 hl (by decide) rfl (fun ls hl => ?_)
    have hl : lv_has ls 11 [(10, .int (dg (dg lk0 (x0 ^^^ (dg (dg 19088743 g0) (nI (51 * a0 + 31 + 4 * n0))))) ((hiW v0) ^^^ (dg (dg 19088743 g0) (nI ((51 * a0 + 31 + 4 * n0) + 1)))))), (9, .int ((loW v0) ^^^ (dg (dg 19088743 g0) (nI ((51 * a0 + 31 + 4 * n0) + 2))))), (8, .int ((hiW v0) ^^^ (dg (dg 19088743 g0) (nI ((51 * a0 + 31 + 4 * n0) + 1))))), (7, .int (x0 ^^^ (dg (dg 19088743 g0) (nI (51 * a0 + 31 + 4 * n0))))), (6, .int (nI (51 * a0 + 31 + 4 * n0))), (5, .int (nI n0)), (0, .ref h0), (1, .int x0), (2, .long v0)] := hl
    refine lv_iload hx hb d_M_write_141 (lv_at hl 0 rfl) ?_
    refine lv_iload hx hb d_M_write_143 (lv_at hl 1 rfl) ?_
    refine vp_callSi (W.runS (As := [.int (dg (dg lk0 (x0 ^^^ (dg (dg 19088743 g0) (nI (51 * a0 + 31 + 4 * n0))))) ((hiW v0) ^^^ (dg (dg 19088743 g0) (nI ((51 * a0 + 31 + 4 * n0) + 1))))), .int ((loW v0) ^^^ (dg (dg 19088743 g0) (nI ((51 * a0 + 31 + 4 * n0) + 2))))]) (rest := []) ⟨hx, hb, hml, hown, hts⟩ (mc_digest l (dg (dg lk0 (x0 ^^^ (dg (dg 19088743 g0) (nI (51 * a0 + 31 + 4 * n0))))) ((hiW v0) ^^^ (dg (dg 19088743 g0) (nI ((51 * a0 + 31 + 4 * n0) + 1))))) ((loW v0) ^^^ (dg (dg 19088743 g0) (nI ((51 * a0 + 31 + 4 * n0) + 2))))) (cwS 2 hts g_M_47 rfl rfl rfl (by decide +kernel) ⟨(Nat.le_of_ble_eq_true rfl), (Nat.le_of_ble_eq_true rfl)⟩) preEq rfl rfl hl.1 rfl (lv_room (Nat.le_of_ble_eq_true rfl)) d_M_write_145 ⟨(Nat.le_of_ble_eq_true rfl), (Nat.le_of_ble_eq_true rfl)⟩) (fun r hr0 => ?_)
    subst hr0
    refine lv_istore hx hb d_M_write_148 hl (by decide) rfl (fun ls hl => ?_)
    have hl : lv_has ls 11 [(10, .int (dg (dg (dg lk0 (x0 ^^^ (dg (dg 19088743 g0) (nI (51 * a0 + 31 + 4 * n0))))) ((hiW v0) ^^^ (dg (dg 19088743 g0) (nI ((51 * a0 + 31 + 4 * n0) + 1))))) ((loW v0) ^^^ (dg (dg 19088743 g0) (nI ((51 * a0 + 31 + 4 * n0) + 2)))))), (9, .int ((loW v0) ^^^ (dg (dg 19088743 g0) (nI ((51 * a0 + 31 + 4 * n0) + 2))))), (8, .int ((hiW v0) ^^^ (dg (dg 19088743 g0) (nI ((51 * a0 + 31 + 4 * n0) + 1))))), (7, .int (x0 ^^^ (dg (dg 19088743 g0) (nI (51 * a0 + 31 + 4 * n0))))), (6, .int (nI (51 * a0 + 31 + 4 * n0))), (5, .int (nI n0)), (0, .ref h0), (1, .int x0), (2, .long v0)] := hl
    refine lv_aload_n hx hb d_M_write_150 rfl (lv_at hl 6 rfl) ?_
    refine lv_iload hx hb d_M_write_151 (lv_at hl 4 rfl) ?_
    refine lv_iload hx hb d_M_write_153 (lv_at hl 3 rfl) ?_
    refine z_callv (va_runV (C := R_M) (b := h0) (As := [.int (nI (51 * a0 + 31 + 4 * n0)), .int (x0 ^^^ (dg (dg 19088743 g0) (nI (51 * a0 + 31 + 4 * n0))))]) (rest := []) ⟨hx, hb, hml, hown, hts⟩ (mc_put l dC dI h0 qd qs qv qh qn cI cJ _ (true, (d0, sl0, sm0)) a0 g0 rt0 ct0 true n0 lk0 lq0 vq0 hs0 nd0 (51 * a0 + 31 + 4 * n0) (x0 ^^^ (dg (dg 19088743 g0) (nI (51 * a0 + 31 + 4 * n0)))) (by omega)) (cwV 2 hts g_M_116 rfl rfl rfl (by decide +kernel) ⟨(Nat.le_of_ble_eq_true rfl), (Nat.le_of_ble_eq_true rfl)⟩) (z_preV (va_recv (q0 := 0) hK hP rfl rfl) hP hK hD) rfl rfl hl.1 rfl (lv_room (Nat.le_of_ble_eq_true rfl)) d_M_write_155 ⟨(Nat.le_of_ble_eq_true rfl), (Nat.le_of_ble_eq_true rfl)⟩) hS hD hA (fun u H locs hr0 hP hD hS => ?_)
    obtain ⟨q1, hq1, rfl⟩ := hr0
    refine lv_aload_n hx hb d_M_write_158 rfl (lv_at hl 6 rfl) ?_
    refine lv_iload hx hb d_M_write_159 (lv_at hl 4 rfl) ?_
    refine lv_iconst (v := nI 1) hx hb d_M_write_161 (by decide) ?_
    refine lv_iadd hx hb d_M_write_162 ?_
    refine z_top (nI_add _ _) ?_
    refine lv_iload hx hb d_M_write_163 (lv_at hl 2 rfl) ?_
    refine z_callv (va_runV (C := R_M) (b := h0) (As := [.int (nI ((51 * a0 + 31 + 4 * n0) + 1)), .int ((hiW v0) ^^^ (dg (dg 19088743 g0) (nI ((51 * a0 + 31 + 4 * n0) + 1))))]) (rest := []) ⟨hx, hb, hml, hown, hts⟩ (mc_put l dC dI h0 qd qs qv qh qn cI cJ _ q1 a0 g0 rt0 ct0 true n0 lk0 lq0 vq0 hs0 nd0 ((51 * a0 + 31 + 4 * n0) + 1) ((hiW v0) ^^^ (dg (dg 19088743 g0) (nI ((51 * a0 + 31 + 4 * n0) + 1)))) (by omega)) (cwV 2 hts g_M_116 rfl rfl rfl (by decide +kernel) ⟨(Nat.le_of_ble_eq_true rfl), (Nat.le_of_ble_eq_true rfl)⟩) (z_preV (va_recv (q0 := 0) hK hP rfl rfl) hP hK hD) rfl rfl hl.1 rfl (lv_room (Nat.le_of_ble_eq_true rfl)) d_M_write_165 ⟨(Nat.le_of_ble_eq_true rfl), (Nat.le_of_ble_eq_true rfl)⟩) hS hD hA (fun u H locs hr0 hP hD hS => ?_)
    obtain ⟨q2, hq2, rfl⟩ := hr0
    refine lv_aload_n hx hb d_M_write_168 rfl (lv_at hl 6 rfl) ?_
    refine lv_iload hx hb d_M_write_169 (lv_at hl 4 rfl) ?_
    refine lv_iconst (v := nI 2) hx hb d_M_write_171 (by decide) ?_
    refine lv_iadd hx hb d_M_write_172 ?_
    refine z_top (nI_add _ _) ?_
    refine lv_iload hx hb d_M_write_173 (lv_at hl 1 rfl) ?_
    refine z_callv (va_runV (C := R_M) (b := h0) (As := [.int (nI ((51 * a0 + 31 + 4 * n0) + 2)), .int ((loW v0) ^^^ (dg (dg 19088743 g0) (nI ((51 * a0 + 31 + 4 * n0) + 2))))]) (rest := []) ⟨hx, hb, hml, hown, hts⟩ (mc_put l dC dI h0 qd qs qv qh qn cI cJ _ q2 a0 g0 rt0 ct0 true n0 lk0 lq0 vq0 hs0 nd0 ((51 * a0 + 31 + 4 * n0) + 2) ((loW v0) ^^^ (dg (dg 19088743 g0) (nI ((51 * a0 + 31 + 4 * n0) + 2)))) (by omega)) (cwV 2 hts g_M_116 rfl rfl rfl (by decide +kernel) ⟨(Nat.le_of_ble_eq_true rfl), (Nat.le_of_ble_eq_true rfl)⟩) (z_preV (va_recv (q0 := 0) hK hP rfl rfl) hP hK hD) rfl rfl hl.1 rfl (lv_room (Nat.le_of_ble_eq_true rfl)) d_M_write_175 ⟨(Nat.le_of_ble_eq_true rfl), (Nat.le_of_ble_eq_true rfl)⟩) hS hD hA (fun u H locs hr0 hP hD hS => ?_)
    obtain ⟨q3, hq3, rfl⟩ := hr0
    refine lv_aload_n hx hb d_M_write_178 rfl (lv_at hl 6 rfl) ?_
    refine lv_iload hx hb d_M_write_179 (lv_at hl 4 rfl) ?_
    refine lv_iconst (v := nI 3) hx hb d_M_write_181 (by decide) ?_
    refine lv_iadd hx hb d_M_write_182 ?_
    refine z_top (nI_add _ _) ?_
    refine lv_iload hx hb d_M_write_183 (lv_at hl 0 rfl) ?_
    refine lv_iconst (v := (1 : Int32)) hx hb d_M_write_185 (by decide) ?_
    refine lv_ior hx hb d_M_write_186 ?_
    refine z_callv (va_runV (C := R_M) (b := h0) (As := [.int (nI ((51 * a0 + 31 + 4 * n0) + 3)), .int ((dg (dg (dg lk0 (x0 ^^^ (dg (dg 19088743 g0) (nI (51 * a0 + 31 + 4 * n0))))) ((hiW v0) ^^^ (dg (dg 19088743 g0) (nI ((51 * a0 + 31 + 4 * n0) + 1))))) ((loW v0) ^^^ (dg (dg 19088743 g0) (nI ((51 * a0 + 31 + 4 * n0) + 2))))) ||| (1 : Int32))]) (rest := []) ⟨hx, hb, hml, hown, hts⟩ (mc_put l dC dI h0 qd qs qv qh qn cI cJ _ q3 a0 g0 rt0 ct0 true n0 lk0 lq0 vq0 hs0 nd0 ((51 * a0 + 31 + 4 * n0) + 3) ((dg (dg (dg lk0 (x0 ^^^ (dg (dg 19088743 g0) (nI (51 * a0 + 31 + 4 * n0))))) ((hiW v0) ^^^ (dg (dg 19088743 g0) (nI ((51 * a0 + 31 + 4 * n0) + 1))))) ((loW v0) ^^^ (dg (dg 19088743 g0) (nI ((51 * a0 + 31 + 4 * n0) + 2))))) ||| (1 : Int32)) (by omega)) (cwV 2 hts g_M_116 rfl rfl rfl (by decide +kernel) ⟨(Nat.le_of_ble_eq_true rfl), (Nat.le_of_ble_eq_true rfl)⟩) (z_preV (va_recv (q0 := 0) hK hP rfl rfl) hP hK hD) rfl rfl hl.1 rfl (lv_room (Nat.le_of_ble_eq_true rfl)) d_M_write_187 ⟨(Nat.le_of_ble_eq_true rfl), (Nat.le_of_ble_eq_true rfl)⟩) hS hD hA (fun u H locs hr0 hP hD hS => ?_)
    obtain ⟨q4, hq4, rfl⟩ := hr0
    obtain ⟨_ | _, d4, sl4, sm4⟩ := q4
    · refine lv_aload_n hx hb d_M_write_190 rfl (lv_at hl 6 rfl) ?_
      refine va_get (D := (dC, dI)) (ci := 1) (v := .int (bI true)) (C := R_M) (T := F_M) (N := 15) hx hb hts lay_M hown hK hP 0 rfl rfl 8 (by decide) (hts _ m_278) (fun _ h9 => h9) rfl d_M_write_191 ?_
      refine lv_if_eq (tgt := 200) hx hb d_M_write_194 (by decide) (fun h9 => absurd h9 (by decide)) (fun _ => ?_)
      refine lv_bipush (v := (-4 : Int32)) hx hb d_M_write_197 (by decide) ?_
      exact W.iret hx hb hr (fun t ht hW => ⟨⟨(-4 : Int32), (d4, a0, g0, rt0, ct0, false, sl4, sm4, true, 0, lk0, lq0, vq0, hs0, nd0), rfl, hF _ _ ⟨_, _, _, Or.inr ⟨(by unfold srM enc; rw [← hq1, ← hq2, ← hq3]; exact hq4.symm), rfl, rfl⟩⟩, by rw [ht]; exact hP, va_K.moved hW.alike hK, hD⟩, hS.F ht⟩) hS.2.2 d_M_write_199
    · refine lv_aload_n hx hb d_M_write_190 rfl (lv_at hl 6 rfl) ?_
      refine va_get (D := (dC, dI)) (ci := 1) (v := .int (bI false)) (C := R_M) (T := F_M) (N := 15) hx hb hts lay_M hown hK hP 0 rfl rfl 8 (by decide) (hts _ m_278) (fun _ h9 => h9) rfl d_M_write_191 ?_
      refine lv_if_eq (tgt := 200) hx hb d_M_write_194 (by decide) (fun _ => ?_) (fun h9 => absurd (by decide) h9)
      refine lv_aload_n hx hb d_M_write_200 rfl (lv_at hl 6 rfl) ?_
      refine lv_iload hx hb d_M_write_201 (lv_at hl 0 rfl) ?_
      refine va_put (D := (dC, dI)) (ci := 1) (v := .int (dg (dg (dg lk0 (x0 ^^^ (dg (dg 19088743 g0) (nI (51 * a0 + 31 + 4 * n0))))) ((hiW v0) ^^^ (dg (dg 19088743 g0) (nI ((51 * a0 + 31 + 4 * n0) + 1))))) ((loW v0) ^^^ (dg (dg 19088743 g0) (nI ((51 * a0 + 31 + 4 * n0) + 2)))))) (ty := .int) (C := R_M) (T := F_M) (N := 15) hx hb hts lay_M t_M t_M_ok n_M hown hK hP hD hS 0 rfl rfl 10 (by decide) (hts _ m_280) (fun _ h9 => h9) rfl (by decide +kernel) rfl rfl (Nat.le_of_ble_eq_true rfl) d_M_write_203 (fun H locs hP hD hS => ?_)
      have hP : va_P (dC, dI) classes (Mw h0 qd qs qv qh qn cI cJ (d4, a0, g0, rt0, ct0, true, sl4, sm4, false, n0, dg (dg (dg lk0 (x0 ^^^ (dg (dg 19088743 g0) (nI (51 * a0 + 31 + 4 * n0))))) ((hiW v0) ^^^ (dg (dg 19088743 g0) (nI ((51 * a0 + 31 + 4 * n0) + 1))))) ((loW v0) ^^^ (dg (dg 19088743 g0) (nI ((51 * a0 + 31 + 4 * n0) + 2)))), lq0, vq0, hs0, nd0)) H := hP
      have hD : va_D A (Mw h0 qd qs qv qh qn cI cJ (d4, a0, g0, rt0, ct0, true, sl4, sm4, false, n0, dg (dg (dg lk0 (x0 ^^^ (dg (dg 19088743 g0) (nI (51 * a0 + 31 + 4 * n0))))) ((hiW v0) ^^^ (dg (dg 19088743 g0) (nI ((51 * a0 + 31 + 4 * n0) + 1))))) ((loW v0) ^^^ (dg (dg 19088743 g0) (nI ((51 * a0 + 31 + 4 * n0) + 2)))), lq0, vq0, hs0, nd0)) := hD
      refine lv_aload_n hx hb d_M_write_206 rfl (lv_at hl 6 rfl) ?_
      refine va_get (D := (dC, dI)) (ci := 1) (v := .ref qs) (C := R_M) (T := F_M) (N := 15) hx hb hts lay_M hown hK hP 0 rfl rfl 11 (by decide) (hts _ m_281) (fun _ h9 => h9) rfl d_M_write_207 ?_
      refine lv_iload hx hb d_M_write_210 (lv_at hl 5 rfl) ?_
      refine lv_iload_n hx hb d_M_write_212 rfl (lv_at hl 7 rfl) ?_
      refine z_iast hx hb hK hP hD hS 2 0 rfl rfl (by omega) (by decide) d_M_write_213 (fun H locs hP hD hS => ?_)
      have hP : va_P (dC, dI) classes (Mw h0 qd qs qv qh qn cI cJ (d4, a0, g0, rt0, ct0, true, sl4, sm4, false, n0, dg (dg (dg lk0 (x0 ^^^ (dg (dg 19088743 g0) (nI (51 * a0 + 31 + 4 * n0))))) ((hiW v0) ^^^ (dg (dg 19088743 g0) (nI ((51 * a0 + 31 + 4 * n0) + 1))))) ((loW v0) ^^^ (dg (dg 19088743 g0) (nI ((51 * a0 + 31 + 4 * n0) + 2)))), upd lq0 n0 x0, vq0, hs0, nd0)) H := hP
      have hD : va_D A (Mw h0 qd qs qv qh qn cI cJ (d4, a0, g0, rt0, ct0, true, sl4, sm4, false, n0, dg (dg (dg lk0 (x0 ^^^ (dg (dg 19088743 g0) (nI (51 * a0 + 31 + 4 * n0))))) ((hiW v0) ^^^ (dg (dg 19088743 g0) (nI ((51 * a0 + 31 + 4 * n0) + 1))))) ((loW v0) ^^^ (dg (dg 19088743 g0) (nI ((51 * a0 + 31 + 4 * n0) + 2)))), upd lq0 n0 x0, vq0, hs0, nd0)) := hD
      refine lv_aload_n hx hb d_M_write_214 rfl (lv_at hl 6 rfl) ?_
      refine va_get (D := (dC, dI)) (ci := 1) (v := .ref qv) (C := R_M) (T := F_M) (N := 15) hx hb hts lay_M hown hK hP 0 rfl rfl 12 (by decide) (hts _ m_282) (fun _ h9 => h9) rfl d_M_write_215 ?_
      refine lv_iload hx hb d_M_write_218 (lv_at hl 5 rfl) ?_
      refine lv_lload_n hx hb d_M_write_220 rfl (lv_at hl 8 rfl) ?_
      refine z_last hx hb hK hP hD hS 3 1 rfl rfl (by omega) (by decide) d_M_write_221 (fun H locs hP hD hS => ?_)
      have hP : va_P (dC, dI) classes (Mw h0 qd qs qv qh qn cI cJ (d4, a0, g0, rt0, ct0, true, sl4, sm4, false, n0, dg (dg (dg lk0 (x0 ^^^ (dg (dg 19088743 g0) (nI (51 * a0 + 31 + 4 * n0))))) ((hiW v0) ^^^ (dg (dg 19088743 g0) (nI ((51 * a0 + 31 + 4 * n0) + 1))))) ((loW v0) ^^^ (dg (dg 19088743 g0) (nI ((51 * a0 + 31 + 4 * n0) + 2)))), upd lq0 n0 x0, vp_updL vq0 n0 v0, hs0, nd0)) H := hP
      have hD : va_D A (Mw h0 qd qs qv qh qn cI cJ (d4, a0, g0, rt0, ct0, true, sl4, sm4, false, n0, dg (dg (dg lk0 (x0 ^^^ (dg (dg 19088743 g0) (nI (51 * a0 + 31 + 4 * n0))))) ((hiW v0) ^^^ (dg (dg 19088743 g0) (nI ((51 * a0 + 31 + 4 * n0) + 1))))) ((loW v0) ^^^ (dg (dg 19088743 g0) (nI ((51 * a0 + 31 + 4 * n0) + 2)))), upd lq0 n0 x0, vp_updL vq0 n0 v0, hs0, nd0)) := hD
      refine lv_aload_n hx hb d_M_write_222 rfl (lv_at hl 6 rfl) ?_
      refine lv_iload hx hb d_M_write_223 (lv_at hl 5 rfl) ?_
      refine lv_iconst (v := nI 1) hx hb d_M_write_225 (by decide) ?_
      refine lv_iadd hx hb d_M_write_226 ?_
      refine z_top (nI_add _ _) ?_
      refine va_put (D := (dC, dI)) (ci := 1) (v := .int (nI (n0 + 1))) (ty := .int) (C := R_M) (T := F_M) (N := 15) hx hb hts lay_M t_M t_M_ok n_M hown hK hP hD hS 0 rfl rfl 9 (by decide) (hts _ m_279) (fun _ h9 => h9) rfl (by decide +kernel) rfl rfl (Nat.le_of_ble_eq_true rfl) d_M_write_227 (fun H locs hP hD hS => ?_)
      have hP : va_P (dC, dI) classes (Mw h0 qd qs qv qh qn cI cJ (d4, a0, g0, rt0, ct0, true, sl4, sm4, false, n0 + 1, dg (dg (dg lk0 (x0 ^^^ (dg (dg 19088743 g0) (nI (51 * a0 + 31 + 4 * n0))))) ((hiW v0) ^^^ (dg (dg 19088743 g0) (nI ((51 * a0 + 31 + 4 * n0) + 1))))) ((loW v0) ^^^ (dg (dg 19088743 g0) (nI ((51 * a0 + 31 + 4 * n0) + 2)))), upd lq0 n0 x0, vp_updL vq0 n0 v0, hs0, nd0)) H := hP
      have hD : va_D A (Mw h0 qd qs qv qh qn cI cJ (d4, a0, g0, rt0, ct0, true, sl4, sm4, false, n0 + 1, dg (dg (dg lk0 (x0 ^^^ (dg (dg 19088743 g0) (nI (51 * a0 + 31 + 4 * n0))))) ((hiW v0) ^^^ (dg (dg 19088743 g0) (nI ((51 * a0 + 31 + 4 * n0) + 1))))) ((loW v0) ^^^ (dg (dg 19088743 g0) (nI ((51 * a0 + 31 + 4 * n0) + 2)))), upd lq0 n0 x0, vp_updL vq0 n0 v0, hs0, nd0)) := hD
      refine lv_aload_n hx hb d_M_write_230 rfl (lv_at hl 6 rfl) ?_
      refine va_get (D := (dC, dI)) (ci := 1) (v := .int (nI (n0 + 1))) (C := R_M) (T := F_M) (N := 15) hx hb hts lay_M hown hK hP 0 rfl rfl 9 (by decide) (hts _ m_279) (fun _ h9 => h9) rfl d_M_write_231 ?_
      exact W.iret hx hb hr (fun t ht hW => ⟨⟨nI (n0 + 1), (d4, a0, g0, rt0, ct0, true, sl4, sm4, false, n0 + 1, dg (dg (dg lk0 (x0 ^^^ (dg (dg 19088743 g0) (nI (51 * a0 + 31 + 4 * n0))))) ((hiW v0) ^^^ (dg (dg 19088743 g0) (nI ((51 * a0 + 31 + 4 * n0) + 1))))) ((loW v0) ^^^ (dg (dg 19088743 g0) (nI ((51 * a0 + 31 + 4 * n0) + 2)))), upd lq0 n0 x0, vp_updL vq0 n0 v0, hs0, nd0), rfl, hF _ _ ⟨_, _, _, Or.inl ⟨(by unfold srM enc; rw [← hq1, ← hq2, ← hq3]; exact hq4.symm), rfl, rfl⟩⟩, by rw [ht]; exact hP, va_K.moved hW.alike hK, hD⟩, hS.F ht⟩) hS.2.2 d_M_write_234
  cases pw with
  | false =>
    refine lv_aload_n hx hb d_M_write_0 rfl (lv_at hl 0 rfl) ?_
    refine va_get (D := (dC, dI)) (ci := 1) (v := .int (bI false)) (C := R_M) (T := F_M) (N := 15) hx hb hts lay_M hown hK hP 0 rfl rfl 5 (by decide) (hts _ m_275) (fun _ h9 => h9) rfl d_M_write_1 ?_
    refine lv_if_ne (tgt := 9) hx hb d_M_write_4 (by decide) (fun h9 => absurd (by decide) h9) (fun _ => ?_)
    refine lv_iconst (v := (-1 : Int32)) hx hb d_M_write_7 (by decide) ?_
    exact W.iret hx hb hr (fun t ht hW => ⟨⟨(-1 : Int32), (dk, hf, gn, rt, ct, false, sl, sm, cu, ln, lk, lq, vq, hs, nd), rfl, Or.inl ⟨rfl, rfl, rfl⟩, by rw [ht]; exact hP, va_K.moved hW.alike hK, hD⟩, hS.F ht⟩) hS.2.2 d_M_write_8
  | true =>
    refine lv_aload_n hx hb d_M_write_0 rfl (lv_at hl 0 rfl) ?_
    refine va_get (D := (dC, dI)) (ci := 1) (v := .int (bI true)) (C := R_M) (T := F_M) (N := 15) hx hb hts lay_M hown hK hP 0 rfl rfl 5 (by decide) (hts _ m_275) (fun _ h9 => h9) rfl d_M_write_1 ?_
    refine lv_if_ne (tgt := 9) hx hb d_M_write_4 (by decide) (fun _ => ?_) (fun h9 => absurd h9 (by decide))
    refine lv_iload_n hx hb d_M_write_9 rfl (lv_at hl 1 rfl) ?_
    refine lv_if_lt (tgt := 25) hx hb d_M_write_10 (by decide) (fun h5 => ?_) (fun h5 => ?_)
    · refine lv_bipush (v := (-2 : Int32)) hx hb d_M_write_25 (by decide) ?_
      exact W.iret hx hb hr (fun t ht hW => ⟨⟨(-2 : Int32), (dk, hf, gn, rt, ct, true, sl, sm, cu, ln, lk, lq, vq, hs, nd), rfl, Or.inr (Or.inl ⟨rfl, Or.inl (isIn_lo h5), rfl, rfl⟩), by rw [ht]; exact hP, va_K.moved hW.alike hK, hD⟩, hS.F ht⟩) hS.2.2 d_M_write_27
    · refine lv_iload_n hx hb d_M_write_13 rfl (lv_at hl 1 rfl) ?_
      refine lv_bipush (v := (7 : Int32)) hx hb d_M_write_14 (by decide) ?_
      refine lv_icmp_gt (tgt := 25) hx hb d_M_write_16 (by decide) (fun h6 => ?_) (fun h6 => ?_)
      · refine lv_bipush (v := (-2 : Int32)) hx hb d_M_write_25 (by decide) ?_
        exact W.iret hx hb hr (fun t ht hW => ⟨⟨(-2 : Int32), (dk, hf, gn, rt, ct, true, sl, sm, cu, ln, lk, lq, vq, hs, nd), rfl, Or.inr (Or.inl ⟨rfl, Or.inl (isIn_hi ((z_gt (n := 7) (by decide)).mp h6)), rfl, rfl⟩), by rw [ht]; exact hP, va_K.moved hW.alike hK, hD⟩, hS.F ht⟩) hS.2.2 d_M_write_27
      · refine lv_lload_n hx hb d_M_write_19 rfl (lv_at hl 2 rfl) ?_
        refine lv_lconst (v := 0) hx hb d_M_write_20 (by decide) ?_
        refine W.lcmp hx hb d_M_write_21 ?_
        refine lv_if_ge (tgt := 28) hx hb d_M_write_22 (by decide) (fun h7 => ?_) (fun h7 => ?_)
        · refine lv_aload_n hx hb d_M_write_28 rfl (lv_at hl 0 rfl) ?_
          refine lv_iconst (v := (0 : Int32)) hx hb d_M_write_29 (by decide) ?_
          refine va_put (D := (dC, dI)) (ci := 1) (v := .int (0 : Int32)) (ty := .boolean) (C := R_M) (T := F_M) (N := 15) hx hb hts lay_M t_M t_M_ok n_M hown hK hP hD hS 0 rfl rfl 8 (by decide) (hts _ m_278) (fun _ h9 => h9) rfl (by decide +kernel) rfl rfl (Nat.le_of_ble_eq_true rfl) d_M_write_30 (fun H locs hP hD hS => ?_)
          have hP : va_P (dC, dI) classes (Mw h0 qd qs qv qh qn cI cJ (dk, hf, gn, rt, ct, true, sl, sm, false, ln, lk, lq, vq, hs, nd)) H := hP
          have hD : va_D A (Mw h0 qd qs qv qh qn cI cJ (dk, hf, gn, rt, ct, true, sl, sm, false, ln, lk, lq, vq, hs, nd)) := hD
          refine lv_aload_n hx hb d_M_write_33 rfl (lv_at hl 0 rfl) ?_
          refine va_get (D := (dC, dI)) (ci := 1) (v := .int (nI ln)) (C := R_M) (T := F_M) (N := 15) hx hb hts lay_M hown hK hP 0 rfl rfl 9 (by decide) (hts _ m_279) (fun _ h9 => h9) rfl d_M_write_34 ?_
          refine lv_iconst (v := nI 5) hx hb d_M_write_37 (by decide) ?_
          refine lv_icmp_ne (tgt := 48) hx hb d_M_write_38 (by decide) (fun h8 => ?_) (fun h8 => ?_)
          · have h8 : ¬ ln = 5 := fun q => h8 (by rw [q])
            refine lv_iconst (v := (0 : Int32)) hx hb d_M_write_48 (by decide) ?_
            refine lv_istore hx hb d_M_write_49 hl (by decide) rfl (fun ls hl => ?_)
            have hl : lv_has ls 11 [(4, .int (0 : Int32)), (0, .ref h0), (1, .int x0), (2, .long v0)] := hl
            refine lv_iload hx hb d_M_write_51 (lv_at hl 0 rfl) ?_
            refine lv_if_ge (tgt := 59) hx hb d_M_write_53 (by decide) (fun _ => ?_) (fun h9 => absurd (by decide) h9)
            exact rest _ _ _ _ _ _ _ _ _ _ _ _ _ ls _ _ (by omega) (by omega) (lv_sub hl [1, 2, 3] rfl) hP hD hS (fun r u hq => Or.inr (Or.inr ⟨rfl, isIn_no h5 (z_gt7 h6), z_nn4 h7, Or.inl ⟨h8, hq⟩⟩))
          · have h8 : ln = 5 := (nI_eq (b := 5) (by omega) (by decide)).mp h8
            refine lv_aload_n hx hb d_M_write_41 rfl (lv_at hl 0 rfl) ?_
            refine z_calli (va_runV (C := R_M) (b := h0) (As := []) (rest := []) ⟨hx, hb, hml, hown, hts⟩ (mc_change l dC dI h0 qd qs qv qh qn cI cJ _ dk hf gn rt ct true sl sm ln lk lq vq hs nd (by omega) (by omega)) (cwV 0 hts g_M_123 rfl rfl rfl (by decide +kernel) ⟨(Nat.le_of_ble_eq_true rfl), (Nat.le_of_ble_eq_true rfl)⟩) (z_preV (va_recv (q0 := 0) hK hP rfl rfl) hP hK hD) rfl rfl hl.1 rfl (lv_room (Nat.le_of_ble_eq_true rfl)) d_M_write_42 ⟨(Nat.le_of_ble_eq_true rfl), (Nat.le_of_ble_eq_true rfl)⟩) hS hD hA (fun r u H locs hr0 hP hD hS => ?_)
            have hch9 := hr0
            obtain ⟨ha9, rfl, hs9, rfl⟩ | ⟨ha9, hs9, nd9, d9, sl9, sm9, hn9, ⟨hc9, rfl, rfl⟩ | ⟨hc9, rfl, lk9, rfl⟩⟩ := hr0
            · refine lv_goto (tgt := 49) hx hb d_M_write_45 (by decide) ?_
              refine lv_istore hx hb d_M_write_49 hl (by decide) rfl (fun ls hl => ?_)
              have hl : lv_has ls 11 [(4, .int (-3 : Int32)), (0, .ref h0), (1, .int x0), (2, .long v0)] := hl
              refine lv_iload hx hb d_M_write_51 (lv_at hl 0 rfl) ?_
              refine lv_if_ge (tgt := 59) hx hb d_M_write_53 (by decide) (fun h9 => absurd h9 (by decide)) (fun _ => ?_)
              refine lv_iload hx hb d_M_write_56 (lv_at hl 0 rfl) ?_
              exact W.iret hx hb hr (fun t ht hW => ⟨⟨(-3 : Int32), (dk, hf, gn, rt, ct, true, sl, sm, false, ln, lk, lq, vq, hs9, nd), rfl, Or.inr (Or.inr ⟨rfl, isIn_no h5 (z_gt7 h6), z_nn4 h7, Or.inr ⟨h8, _, _, hch9, Or.inl ⟨by decide, rfl, rfl⟩⟩⟩), by rw [ht]; exact hP, va_K.moved hW.alike hK, hD⟩, hS.F ht⟩) hS.2.2 d_M_write_58
            · refine lv_goto (tgt := 49) hx hb d_M_write_45 (by decide) ?_
              refine lv_istore hx hb d_M_write_49 hl (by decide) rfl (fun ls hl => ?_)
              have hl : lv_has ls 11 [(4, .int (0 : Int32)), (0, .ref h0), (1, .int x0), (2, .long v0)] := hl
              refine lv_iload hx hb d_M_write_51 (lv_at hl 0 rfl) ?_
              refine lv_if_ge (tgt := 59) hx hb d_M_write_53 (by decide) (fun _ => ?_) (fun h9 => absurd (by decide) h9)
              exact rest _ _ _ _ _ _ _ _ _ _ _ _ _ ls _ _ (by omega) (by omega) (lv_sub hl [1, 2, 3] rfl) hP hD hS (fun r u hq => Or.inr (Or.inr ⟨rfl, isIn_no h5 (z_gt7 h6), z_nn4 h7, Or.inr ⟨h8, _, _, hch9, Or.inr ⟨rfl, hq⟩⟩⟩))
            · refine lv_goto (tgt := 49) hx hb d_M_write_45 (by decide) ?_
              refine lv_istore hx hb d_M_write_49 hl (by decide) rfl (fun ls hl => ?_)
              have hl : lv_has ls 11 [(4, .int (-4 : Int32)), (0, .ref h0), (1, .int x0), (2, .long v0)] := hl
              refine lv_iload hx hb d_M_write_51 (lv_at hl 0 rfl) ?_
              refine lv_if_ge (tgt := 59) hx hb d_M_write_53 (by decide) (fun h9 => absurd h9 (by decide)) (fun _ => ?_)
              refine lv_iload hx hb d_M_write_56 (lv_at hl 0 rfl) ?_
              exact W.iret hx hb hr (fun t ht hW => ⟨⟨(-4 : Int32), (d9, hf, gn, rt, ct, false, sl9, sm9, true, 0, lk9, lq, vq, hs9, nd9), rfl, Or.inr (Or.inr ⟨rfl, isIn_no h5 (z_gt7 h6), z_nn4 h7, Or.inr ⟨h8, _, _, hch9, Or.inl ⟨by decide, rfl, rfl⟩⟩⟩), by rw [ht]; exact hP, va_K.moved hW.alike hK, hD⟩, hS.F ht⟩) hS.2.2 d_M_write_58
        · refine lv_bipush (v := (-2 : Int32)) hx hb d_M_write_25 (by decide) ?_
          exact W.iret hx hb hr (fun t ht hW => ⟨⟨(-2 : Int32), (dk, hf, gn, rt, ct, true, sl, sm, cu, ln, lk, lq, vq, hs, nd), rfl, Or.inr (Or.inl ⟨rfl, Or.inr (z_nn3 h7), rfl, rfl⟩), by rw [ht]; exact hP, va_K.moved hW.alike hK, hD⟩, hS.F ht⟩) hS.2.2 d_M_write_27
set_option maxHeartbeats 1000000 in
set_option maxRecDepth 100000 in
theorem mc_sync (l : Launch) (dC : Nat → ClassId) (dI : Nat → Nat → Nat) (h0 qd qs qv qh qn : Nat) (cI cJ : ClassId) (sz : Nat) (dk : Nat → Int32) (hf : Nat) (gn : Int32) (rt : Int32) (ct : Int32) (pw : Bool) (sl : Int32) (sm : Int32) (cu : Bool) (ln : Nat) (lk : Int32) (lq : Nat → Int32) (vq : Nat → Int64) (hs : Nat → Int64) (nd : Nat → Int32)   : Met l y_M_sync w_M_sync ({ frames := 2, cells := 0, slots := 0, locals := 44 }) (va_Pc [.ref h0] (z_pre (dC, dI) classes [(cI, .int), (cJ, .long)] (Mw h0 qd qs qv qh qn cI cJ (dk, hf, gn, rt, ct, pw, sl, sm, cu, ln, lk, lq, vq, hs, nd)) sz)) (va_Qi (fun (r : Int32) (u : MS) => (pw = false ∧ r = -1 ∧ u = (dk, hf, gn, rt, ct, pw, sl, sm, cu, ln, lk, lq, vq, hs, nd)) ∨ (pw = true ∧ ∃ (d1 : Nat → Int32) (sl1 sm1 : Int32), (st1 (true, (dk, sl, sm)) = (true, (d1, sl1, sm1)) ∧ r = nI ln ∧ u = (d1, hf, gn, rt, nI ln, true, sl1, sm1, false, ln, lk, lq, vq, hs, nd)) ∨ (st1 (true, (dk, sl, sm)) = (false, (d1, sl1, sm1)) ∧ r = -4 ∧ u = (d1, hf, gn, rt, ct, false, sl1, sm1, true, 0, lk, lq, vq, hs, nd)))) (fun u => z_at (dC, dI) classes [(cI, .int), (cJ, .long)] (va_A (Mw h0 qd qs qv qh qn cI cJ (dk, hf, gn, rt, ct, pw, sl, sm, cu, ln, lk, lq, vq, hs, nd)) sz) (Mw h0 qd qs qv qh qn cI cJ u)) (va_A (Mw h0 qd qs qv qh qn cI cJ (dk, hf, gn, rt, ct, pw, sl, sm, cu, ln, lk, lq, vq, hs, nd)) sz)) 0 0 (va_A (Mw h0 qd qs qv qh qn cI cJ (dk, hf, gn, rt, ct, pw, sl, sm, cu, ln, lk, lq, vq, hs, nd)) sz) := by
  refine Met.ofW (cc := b_M_sync) (maxL := 2) (ret := (some .int)) (by decide) rfl ?_
  intro p e s m args below meth c s₁ B hml hv
  obtain ⟨rfl, hsz, hP, hK, hD0⟩ := hv
  have hx := B.exec
  have hb := B.bytes
  have hr := B.returns
  have hts := fun (w : Cond) (h : w ∈ lw_U) => atoms_spec (ws := w_M_sync) B.pre w (List.mem_cons_of_mem _ h)
  have hown : s.vm.findClass R_M = some m.cls := findClass_of_methodNamed B.named
  have hlocks := B.notSynchronized
  subst hsz
  have hD := hD0.self (sz := s.heap.size)
  generalize hAe : va_A (Mw h0 qd qs qv qh qn cI cJ (dk, hf, gn, rt, ct, pw, sl, sm, cu, ln, lk, lq, vq, hs, nd)) s.heap.size = A at hD ⊢
  have hA : ∀ q : Nat, s.heap.size ≤ q → A q := fun q h => by rw [← hAe]; exact Or.inr h
  have hS : va_S A s.heap s.heap [] := va_S.rf
  have hP : va_P (dC, dI) classes (Mw h0 qd qs qv qh qn cI cJ (dk, hf, gn, rt, ct, pw, sl, sm, cu, ln, lk, lq, vq, hs, nd)) s.heap := hP
  have hl := lv_entry ([.ref h0]) (n := 2) (Nat.le_of_ble_eq_true rfl)
  rw [lg_entry_eq]
  generalize (lg_sl ([.ref h0]) ++ List.replicate (2 - (lg_sl ([.ref h0])).length) Slot.unset).toArray = ls at hl ⊢
  have hl : lv_has ls 2 [(0, .ref h0)] := hl
  cases pw with
  | false =>
    refine lv_aload_n hx hb d_M_sync_0 rfl (lv_at hl 0 rfl) ?_
    refine va_get (D := (dC, dI)) (ci := 1) (v := .int (bI false)) (C := R_M) (T := F_M) (N := 15) hx hb hts lay_M hown hK hP 0 rfl rfl 5 (by decide) (hts _ m_275) (fun _ h9 => h9) rfl d_M_sync_1 ?_
    refine lv_if_ne (tgt := 9) hx hb d_M_sync_4 (by decide) (fun h9 => absurd (by decide) h9) (fun _ => ?_)
    refine lv_iconst (v := (-1 : Int32)) hx hb d_M_sync_7 (by decide) ?_
    exact W.iret hx hb hr (fun t ht hW => ⟨⟨(-1 : Int32), (dk, hf, gn, rt, ct, false, sl, sm, cu, ln, lk, lq, vq, hs, nd), rfl, Or.inl ⟨rfl, rfl, rfl⟩, by rw [ht]; exact hP, va_K.moved hW.alike hK, hD⟩, hS.F ht⟩) hS.2.2 d_M_sync_8
  | true =>
    refine lv_aload_n hx hb d_M_sync_0 rfl (lv_at hl 0 rfl) ?_
    refine va_get (D := (dC, dI)) (ci := 1) (v := .int (bI true)) (C := R_M) (T := F_M) (N := 15) hx hb hts lay_M hown hK hP 0 rfl rfl 5 (by decide) (hts _ m_275) (fun _ h9 => h9) rfl d_M_sync_1 ?_
    refine lv_if_ne (tgt := 9) hx hb d_M_sync_4 (by decide) (fun _ => ?_) (fun h9 => absurd h9 (by decide))
    refine lv_aload_n hx hb d_M_sync_9 rfl (lv_at hl 0 rfl) ?_
    refine lv_iconst (v := (0 : Int32)) hx hb d_M_sync_10 (by decide) ?_
    refine va_put (D := (dC, dI)) (ci := 1) (v := .int (0 : Int32)) (ty := .boolean) (C := R_M) (T := F_M) (N := 15) hx hb hts lay_M t_M t_M_ok n_M hown hK hP hD hS 0 rfl rfl 8 (by decide) (hts _ m_278) (fun _ h9 => h9) rfl (by decide +kernel) rfl rfl (Nat.le_of_ble_eq_true rfl) d_M_sync_11 (fun H locs hP hD hS => ?_)
    have hP : va_P (dC, dI) classes (Mw h0 qd qs qv qh qn cI cJ (dk, hf, gn, rt, ct, true, sl, sm, false, ln, lk, lq, vq, hs, nd)) H := hP
    have hD : va_D A (Mw h0 qd qs qv qh qn cI cJ (dk, hf, gn, rt, ct, true, sl, sm, false, ln, lk, lq, vq, hs, nd)) := hD
    refine lv_aload_n hx hb d_M_sync_14 rfl (lv_at hl 0 rfl) ?_
    refine va_get (D := (dC, dI)) (ci := 1) (v := .int (nI ln)) (C := R_M) (T := F_M) (N := 15) hx hb hts lay_M hown hK hP 0 rfl rfl 9 (by decide) (hts _ m_279) (fun _ h9 => h9) rfl d_M_sync_15 ?_
    refine lv_istore_n hx hb d_M_sync_18 rfl hl (by decide) rfl (fun ls hl => ?_)
    have hl : lv_has ls 2 [(1, .int (nI ln)), (0, .ref h0)] := hl
    refine lv_aload_n hx hb d_M_sync_19 rfl (lv_at hl 1 rfl) ?_
    refine lv_aload_n hx hb d_M_sync_20 rfl (lv_at hl 1 rfl) ?_
    refine va_get (D := (dC, dI)) (ci := 1) (v := .int (nI hf)) (C := R_M) (T := F_M) (N := 15) hx hb hts lay_M hown hK hP 0 rfl rfl 1 (by decide) (hts _ m_271) (fun _ h9 => h9) rfl d_M_sync_21 ?_
    refine lv_aload_n hx hb d_M_sync_24 rfl (lv_at hl 1 rfl) ?_
    refine va_get (D := (dC, dI)) (ci := 1) (v := .int gn) (C := R_M) (T := F_M) (N := 15) hx hb hts lay_M hown hK hP 0 rfl rfl 2 (by decide) (hts _ m_272) (fun _ h9 => h9) rfl d_M_sync_25 ?_
    refine lv_aload_n hx hb d_M_sync_28 rfl (lv_at hl 1 rfl) ?_
    refine va_get (D := (dC, dI)) (ci := 1) (v := .int rt) (C := R_M) (T := F_M) (N := 15) hx hb hts lay_M hown hK hP 0 rfl rfl 3 (by decide) (hts _ m_273) (fun _ h9 => h9) rfl d_M_sync_29 ?_
    refine lv_iload_n hx hb d_M_sync_32 rfl (lv_at hl 0 rfl) ?_
    refine z_callv (va_runV (C := R_M) (b := h0) (As := [.int (nI hf), .int gn, .int rt, .int (nI ln)]) (rest := []) ⟨hx, hb, hml, hown, hts⟩ (mc_changeSeal l dC dI h0 qd qs qv qh qn cI cJ _ (true, (dk, sl, sm)) hf gn rt ct true ln lk lq vq hs nd hf gn rt (nI ln)) (cwV 4 hts g_M_119 rfl rfl rfl (by decide +kernel) ⟨(Nat.le_of_ble_eq_true rfl), (Nat.le_of_ble_eq_true rfl)⟩) (z_preV (va_recv (q0 := 0) hK hP rfl rfl) hP hK hD) rfl rfl hl.1 rfl (lv_room (Nat.le_of_ble_eq_true rfl)) d_M_sync_33 ⟨(Nat.le_of_ble_eq_true rfl), (Nat.le_of_ble_eq_true rfl)⟩) hS hD hA (fun u H locs hr0 hP hD hS => ?_)
    obtain ⟨d1, sl1, sm1, ⟨hc1, rfl⟩ | ⟨hc1, rfl⟩⟩ := hr0
    · refine lv_aload_n hx hb d_M_sync_36 rfl (lv_at hl 1 rfl) ?_
      refine va_get (D := (dC, dI)) (ci := 1) (v := .int (bI false)) (C := R_M) (T := F_M) (N := 15) hx hb hts lay_M hown hK hP 0 rfl rfl 8 (by decide) (hts _ m_278) (fun _ h9 => h9) rfl d_M_sync_37 ?_
      refine lv_if_eq (tgt := 48) hx hb d_M_sync_40 (by decide) (fun _ => ?_) (fun h9 => absurd (by decide) h9)
      refine lv_iload_n hx hb d_M_sync_48 rfl (lv_at hl 0 rfl) ?_
      exact W.iret hx hb hr (fun t ht hW => ⟨⟨nI ln, (d1, hf, gn, rt, nI ln, true, sl1, sm1, false, ln, lk, lq, vq, hs, nd), rfl, Or.inr ⟨rfl, _, _, _, Or.inl ⟨hc1, rfl, rfl⟩⟩, by rw [ht]; exact hP, va_K.moved hW.alike hK, hD⟩, hS.F ht⟩) hS.2.2 d_M_sync_49
    · refine lv_aload_n hx hb d_M_sync_36 rfl (lv_at hl 1 rfl) ?_
      refine va_get (D := (dC, dI)) (ci := 1) (v := .int (bI true)) (C := R_M) (T := F_M) (N := 15) hx hb hts lay_M hown hK hP 0 rfl rfl 8 (by decide) (hts _ m_278) (fun _ h9 => h9) rfl d_M_sync_37 ?_
      refine lv_if_eq (tgt := 48) hx hb d_M_sync_40 (by decide) (fun h9 => absurd h9 (by decide)) (fun _ => ?_)
      refine lv_bipush (v := (-4 : Int32)) hx hb d_M_sync_43 (by decide) ?_
      refine lv_goto (tgt := 49) hx hb d_M_sync_45 (by decide) ?_
      exact W.iret hx hb hr (fun t ht hW => ⟨⟨(-4 : Int32), (d1, hf, gn, rt, ct, false, sl1, sm1, true, 0, lk, lq, vq, hs, nd), rfl, Or.inr ⟨rfl, _, _, _, Or.inr ⟨hc1, rfl, rfl⟩⟩, by rw [ht]; exact hP, va_K.moved hW.alike hK, hD⟩, hS.F ht⟩) hS.2.2 d_M_sync_49
set_option maxHeartbeats 1000000 in
set_option maxRecDepth 100000 in
theorem mc_alter (l : Launch) (dC : Nat → ClassId) (dI : Nat → Nat → Nat) (h0 qd qs qv qh qn : Nat) (cI cJ : ClassId) (sz : Nat) (dk : Nat → Int32) (hf : Nat) (gn : Int32) (rt : Int32) (ct : Int32) (pw : Bool) (sl : Int32) (sm : Int32) (cu : Bool) (ln : Nat) (lk : Int32) (lq : Nat → Int32) (vq : Nat → Int64) (hs : Nat → Int64) (nd : Nat → Int32) (x0 y0 : Int32)  : Met l y_M_alter w_M_alter ({ frames := 1, cells := 0, slots := 0, locals := 20 }) (va_Pc [.ref h0, .int x0, .int y0] (z_pre (dC, dI) classes [(cI, .int), (cJ, .long)] (Mw h0 qd qs qv qh qn cI cJ (dk, hf, gn, rt, ct, pw, sl, sm, cu, ln, lk, lq, vq, hs, nd)) sz)) (va_Qi (fun (r : Int32) (u : MS) => (isIn 102 x0 = 0 ∧ r = 0 ∧ u = (dk, hf, gn, rt, ct, pw, sl, sm, cu, ln, lk, lq, vq, hs, nd)) ∨ (¬ isIn 102 x0 = 0 ∧ r = 1 ∧ u = (upd dk x0.toNatClampNeg (dk x0.toNatClampNeg ^^^ y0), hf, gn, rt, ct, pw, sl, sm, cu, ln, lk, lq, vq, hs, nd))) (fun u => z_at (dC, dI) classes [(cI, .int), (cJ, .long)] (va_A (Mw h0 qd qs qv qh qn cI cJ (dk, hf, gn, rt, ct, pw, sl, sm, cu, ln, lk, lq, vq, hs, nd)) sz) (Mw h0 qd qs qv qh qn cI cJ u)) (va_A (Mw h0 qd qs qv qh qn cI cJ (dk, hf, gn, rt, ct, pw, sl, sm, cu, ln, lk, lq, vq, hs, nd)) sz)) 0 0 (va_A (Mw h0 qd qs qv qh qn cI cJ (dk, hf, gn, rt, ct, pw, sl, sm, cu, ln, lk, lq, vq, hs, nd)) sz) := by
  refine Met.ofW (cc := b_M_alter) (maxL := 3) (ret := (some .boolean)) (by decide) rfl ?_
  intro p e s m args below meth c s₁ B hml hv
  obtain ⟨rfl, hsz, hP, hK, hD0⟩ := hv
  have hx := B.exec
  have hb := B.bytes
  have hr := B.returns
  have hts := fun (w : Cond) (h : w ∈ lw_U) => atoms_spec (ws := w_M_alter) B.pre w (List.mem_cons_of_mem _ h)
  have hown : s.vm.findClass R_M = some m.cls := findClass_of_methodNamed B.named
  have hlocks := B.notSynchronized
  subst hsz
  have hD := hD0.self (sz := s.heap.size)
  generalize hAe : va_A (Mw h0 qd qs qv qh qn cI cJ (dk, hf, gn, rt, ct, pw, sl, sm, cu, ln, lk, lq, vq, hs, nd)) s.heap.size = A at hD ⊢
  have hA : ∀ q : Nat, s.heap.size ≤ q → A q := fun q h => by rw [← hAe]; exact Or.inr h
  have hS : va_S A s.heap s.heap [] := va_S.rf
  have hP : va_P (dC, dI) classes (Mw h0 qd qs qv qh qn cI cJ (dk, hf, gn, rt, ct, pw, sl, sm, cu, ln, lk, lq, vq, hs, nd)) s.heap := hP
  have hl := lv_entry ([.ref h0, .int x0, .int y0]) (n := 3) (Nat.le_of_ble_eq_true rfl)
  rw [lg_entry_eq]
  generalize (lg_sl ([.ref h0, .int x0, .int y0]) ++ List.replicate (3 - (lg_sl ([.ref h0, .int x0, .int y0])).length) Slot.unset).toArray = ls at hl ⊢
  have hl : lv_has ls 3 [(0, .ref h0), (1, .int x0), (2, .int y0)] := hl
  by_cases h8 : isIn 102 x0 = 0
  · refine lv_iload_n hx hb d_M_alter_0 rfl (lv_at hl 1 rfl) ?_
    refine vp_callSi (W.runS (As := [.int x0]) (rest := []) ⟨hx, hb, hml, hown, hts⟩ (mc_place l x0) (cwS 1 hts g_M_127 rfl rfl rfl (by decide +kernel) ⟨(Nat.le_of_ble_eq_true rfl), (Nat.le_of_ble_eq_true rfl)⟩) preEq rfl rfl hl.1 rfl (lv_room (Nat.le_of_ble_eq_true rfl)) d_M_alter_1 ⟨(Nat.le_of_ble_eq_true rfl), (Nat.le_of_ble_eq_true rfl)⟩) (fun r hr0 => ?_)
    subst hr0
    refine lv_if_ne (tgt := 9) hx hb d_M_alter_4 (by decide) (fun h9 => absurd h8 h9) (fun _ => ?_)
    refine lv_iconst (v := (0 : Int32)) hx hb d_M_alter_7 (by decide) ?_
    exact W.zret hx hb hr rfl (fun t ht hW => ⟨⟨(0 : Int32), (dk, hf, gn, rt, ct, pw, sl, sm, cu, ln, lk, lq, vq, hs, nd), rfl, Or.inl ⟨h8, rfl, rfl⟩, by rw [ht]; exact hP, va_K.moved hW.alike hK, hD⟩, hS.F ht⟩) hS.2.2 d_M_alter_8
  · obtain ⟨j, hj, rfl⟩ := isIn_of (n := 102) h8 rfl (by decide)
    refine lv_iload_n hx hb d_M_alter_0 rfl (lv_at hl 1 rfl) ?_
    refine vp_callSi (W.runS (As := [.int (nI j)]) (rest := []) ⟨hx, hb, hml, hown, hts⟩ (mc_place l (nI j)) (cwS 1 hts g_M_127 rfl rfl rfl (by decide +kernel) ⟨(Nat.le_of_ble_eq_true rfl), (Nat.le_of_ble_eq_true rfl)⟩) preEq rfl rfl hl.1 rfl (lv_room (Nat.le_of_ble_eq_true rfl)) d_M_alter_1 ⟨(Nat.le_of_ble_eq_true rfl), (Nat.le_of_ble_eq_true rfl)⟩) (fun r hr0 => ?_)
    subst hr0
    refine lv_if_ne (tgt := 9) hx hb d_M_alter_4 (by decide) (fun _ => ?_) (fun h9 => absurd h9 h8)
    refine lv_aload_n hx hb d_M_alter_9 rfl (lv_at hl 0 rfl) ?_
    refine va_get (D := (dC, dI)) (ci := 1) (v := .ref qd) (C := R_M) (T := F_M) (N := 15) hx hb hts lay_M hown hK hP 0 rfl rfl 0 (by decide) (hts _ m_270) (fun _ h9 => h9) rfl d_M_alter_10 ?_
    refine lv_iload_n hx hb d_M_alter_13 rfl (lv_at hl 1 rfl) ?_
    refine lv_aload_n hx hb d_M_alter_14 rfl (lv_at hl 0 rfl) ?_
    refine va_get (D := (dC, dI)) (ci := 1) (v := .ref qd) (C := R_M) (T := F_M) (N := 15) hx hb hts lay_M hown hK hP 0 rfl rfl 0 (by decide) (hts _ m_270) (fun _ h9 => h9) rfl d_M_alter_15 ?_
    refine lv_iload_n hx hb d_M_alter_18 rfl (lv_at hl 1 rfl) ?_
    refine z_iald hx hb hK hP 1 0 rfl rfl (by omega) (by decide) d_M_alter_19 ?_
    refine lv_iload_n hx hb d_M_alter_20 rfl (lv_at hl 2 rfl) ?_
    refine lv_ixor hx hb d_M_alter_21 ?_
    refine z_iast hx hb hK hP hD hS 1 0 rfl rfl (by omega) (by decide) d_M_alter_22 (fun H locs hP hD hS => ?_)
    have hP : va_P (dC, dI) classes (Mw h0 qd qs qv qh qn cI cJ (upd dk j ((dk j) ^^^ y0), hf, gn, rt, ct, pw, sl, sm, cu, ln, lk, lq, vq, hs, nd)) H := hP
    have hD : va_D A (Mw h0 qd qs qv qh qn cI cJ (upd dk j ((dk j) ^^^ y0), hf, gn, rt, ct, pw, sl, sm, cu, ln, lk, lq, vq, hs, nd)) := hD
    refine lv_iconst (v := (1 : Int32)) hx hb d_M_alter_23 (by decide) ?_
    exact W.zret hx hb hr rfl (fun t ht hW => ⟨⟨(1 : Int32), (upd dk j ((dk j) ^^^ y0), hf, gn, rt, ct, pw, sl, sm, cu, ln, lk, lq, vq, hs, nd), rfl, Or.inr ⟨h8, rfl, (by rw [nI_clamp (by omega)])⟩, by rw [ht]; exact hP, va_K.moved hW.alike hK, hD⟩, hS.F ht⟩) hS.2.2 d_M_alter_24
set_option maxHeartbeats 1000000 in
set_option maxRecDepth 100000 in
theorem mc_peek (l : Launch) (dC : Nat → ClassId) (dI : Nat → Nat → Nat) (h0 qd qs qv qh qn : Nat) (cI cJ : ClassId) (sz : Nat) (dk : Nat → Int32) (hf : Nat) (gn : Int32) (rt : Int32) (ct : Int32) (pw : Bool) (sl : Int32) (sm : Int32) (cu : Bool) (ln : Nat) (lk : Int32) (lq : Nat → Int32) (vq : Nat → Int64) (hs : Nat → Int64) (nd : Nat → Int32) (x0 : Int32)  : Met l y_M_peek w_M_peek ({ frames := 1, cells := 0, slots := 0, locals := 20 }) (va_Pc [.ref h0, .int x0] (z_pre (dC, dI) classes [(cI, .int), (cJ, .long)] (Mw h0 qd qs qv qh qn cI cJ (dk, hf, gn, rt, ct, pw, sl, sm, cu, ln, lk, lq, vq, hs, nd)) sz)) (vp_Si (fun r => r = (if isIn 102 x0 = 0 then 0 else dk x0.toNatClampNeg))) 0 0 (fun _ => False) := by
  refine Met.ofW (cc := b_M_peek) (maxL := 2) (ret := (some .int)) (by decide) rfl ?_
  intro p e s m args below meth c s₁ B hml hv
  obtain ⟨rfl, hsz, hP, hK, hD0⟩ := hv
  have hx := B.exec
  have hb := B.bytes
  have hr := B.returns
  have hts := fun (w : Cond) (h : w ∈ lw_U) => atoms_spec (ws := w_M_peek) B.pre w (List.mem_cons_of_mem _ h)
  have hown : s.vm.findClass R_M = some m.cls := findClass_of_methodNamed B.named
  have hlocks := B.notSynchronized
  subst hsz
  have hD := hD0
  have hl := lv_entry ([.ref h0, .int x0]) (n := 2) (Nat.le_of_ble_eq_true rfl)
  rw [lg_entry_eq]
  generalize (lg_sl ([.ref h0, .int x0]) ++ List.replicate (2 - (lg_sl ([.ref h0, .int x0])).length) Slot.unset).toArray = ls at hl ⊢
  have hl : lv_has ls 2 [(0, .ref h0), (1, .int x0)] := hl
  by_cases h8 : isIn 102 x0 = 0
  · refine lv_iload_n hx hb d_M_peek_0 rfl (lv_at hl 1 rfl) ?_
    refine vp_callSi (W.runS (As := [.int x0]) (rest := []) ⟨hx, hb, hml, hown, hts⟩ (mc_place l x0) (cwS 1 hts g_M_127 rfl rfl rfl (by decide +kernel) ⟨(Nat.le_of_ble_eq_true rfl), (Nat.le_of_ble_eq_true rfl)⟩) preEq rfl rfl hl.1 rfl (lv_room (Nat.le_of_ble_eq_true rfl)) d_M_peek_1 ⟨(Nat.le_of_ble_eq_true rfl), (Nat.le_of_ble_eq_true rfl)⟩) (fun r hr0 => ?_)
    subst hr0
    refine lv_if_eq (tgt := 16) hx hb d_M_peek_4 (by decide) (fun _ => ?_) (fun h9 => absurd h8 h9)
    refine lv_iconst (v := (0 : Int32)) hx hb d_M_peek_16 (by decide) ?_
    exact W.iret hx hb hr (fun t ht hW => ⟨_, rfl, (by rw [if_pos h8]), ht⟩) (fun q h => by cases h) d_M_peek_17
  · obtain ⟨j, hj, rfl⟩ := isIn_of (n := 102) h8 rfl (by decide)
    refine lv_iload_n hx hb d_M_peek_0 rfl (lv_at hl 1 rfl) ?_
    refine vp_callSi (W.runS (As := [.int (nI j)]) (rest := []) ⟨hx, hb, hml, hown, hts⟩ (mc_place l (nI j)) (cwS 1 hts g_M_127 rfl rfl rfl (by decide +kernel) ⟨(Nat.le_of_ble_eq_true rfl), (Nat.le_of_ble_eq_true rfl)⟩) preEq rfl rfl hl.1 rfl (lv_room (Nat.le_of_ble_eq_true rfl)) d_M_peek_1 ⟨(Nat.le_of_ble_eq_true rfl), (Nat.le_of_ble_eq_true rfl)⟩) (fun r hr0 => ?_)
    subst hr0
    refine lv_if_eq (tgt := 16) hx hb d_M_peek_4 (by decide) (fun h9 => absurd h9 h8) (fun _ => ?_)
    refine lv_aload_n hx hb d_M_peek_7 rfl (lv_at hl 0 rfl) ?_
    refine va_get (D := (dC, dI)) (ci := 1) (v := .ref qd) (C := R_M) (T := F_M) (N := 15) hx hb hts lay_M hown hK hP 0 rfl rfl 0 (by decide) (hts _ m_270) (fun _ h9 => h9) rfl d_M_peek_8 ?_
    refine lv_iload_n hx hb d_M_peek_11 rfl (lv_at hl 1 rfl) ?_
    refine z_iald hx hb hK hP 1 0 rfl rfl (by omega) (by decide) d_M_peek_12 ?_
    refine lv_goto (tgt := 17) hx hb d_M_peek_13 (by decide) ?_
    exact W.iret hx hb hr (fun t ht hW => ⟨_, rfl, (by rw [if_neg h8, nI_clamp (by omega)]), ht⟩) (fun q h => by cases h) d_M_peek_17
set_option maxHeartbeats 1000000 in
set_option maxRecDepth 100000 in
theorem mc_seal (l : Launch) (dC : Nat → ClassId) (dI : Nat → Nat → Nat) (h0 qd qs qv qh qn : Nat) (cI cJ : ClassId) (sz : Nat) (dk : Nat → Int32) (hf : Nat) (gn : Int32) (rt : Int32) (ct : Int32) (pw : Bool) (sl : Int32) (sm : Int32) (cu : Bool) (ln : Nat) (lk : Int32) (lq : Nat → Int32) (vq : Nat → Int64) (hs : Nat → Int64) (nd : Nat → Int32) (x0 : Int32)  : Met l y_M_seal w_M_seal ({ frames := 0, cells := 0, slots := 0, locals := 0 }) (va_Pc [.ref h0, .int x0] (z_pre (dC, dI) classes [(cI, .int), (cJ, .long)] (Mw h0 qd qs qv qh qn cI cJ (dk, hf, gn, rt, ct, pw, sl, sm, cu, ln, lk, lq, vq, hs, nd)) sz)) (vp_Si (fun r => r = (if x0 = 0 then nI hf else if x0 = 1 then gn else if x0 = 2 then rt else if x0 = 3 then ct else 0))) 0 0 (fun _ => False) := by
  refine Met.ofW (cc := b_M_seal) (maxL := 2) (ret := (some .int)) (by decide) rfl ?_
  intro p e s m args below meth c s₁ B hml hv
  obtain ⟨rfl, hsz, hP, hK, hD0⟩ := hv
  have hx := B.exec
  have hb := B.bytes
  have hr := B.returns
  have hts := fun (w : Cond) (h : w ∈ lw_U) => atoms_spec (ws := w_M_seal) B.pre w (List.mem_cons_of_mem _ h)
  have hown : s.vm.findClass R_M = some m.cls := findClass_of_methodNamed B.named
  have hlocks := B.notSynchronized
  subst hsz
  have hD := hD0
  have hl := lv_entry ([.ref h0, .int x0]) (n := 2) (Nat.le_of_ble_eq_true rfl)
  rw [lg_entry_eq]
  generalize (lg_sl ([.ref h0, .int x0]) ++ List.replicate (2 - (lg_sl ([.ref h0, .int x0])).length) Slot.unset).toArray = ls at hl ⊢
  have hl : lv_has ls 2 [(0, .ref h0), (1, .int x0)] := hl
  refine lv_iload_n hx hb d_M_seal_0 rfl (lv_at hl 1 rfl) ?_
  refine lv_if_ne (tgt := 11) hx hb d_M_seal_1 (by decide) (fun h1 => ?_) (fun h1 => ?_)
  · refine lv_iload_n hx hb d_M_seal_11 rfl (lv_at hl 1 rfl) ?_
    refine lv_iconst (v := (1 : Int32)) hx hb d_M_seal_12 (by decide) ?_
    refine lv_icmp_ne (tgt := 23) hx hb d_M_seal_13 (by decide) (fun h2 => ?_) (fun h2 => ?_)
    · refine lv_iload_n hx hb d_M_seal_23 rfl (lv_at hl 1 rfl) ?_
      refine lv_iconst (v := (2 : Int32)) hx hb d_M_seal_24 (by decide) ?_
      refine lv_icmp_ne (tgt := 35) hx hb d_M_seal_25 (by decide) (fun h3 => ?_) (fun h3 => ?_)
      · refine lv_iload_n hx hb d_M_seal_35 rfl (lv_at hl 1 rfl) ?_
        refine lv_iconst (v := (3 : Int32)) hx hb d_M_seal_36 (by decide) ?_
        refine lv_icmp_ne (tgt := 47) hx hb d_M_seal_37 (by decide) (fun h4 => ?_) (fun h4 => ?_)
        · refine lv_iconst (v := (0 : Int32)) hx hb d_M_seal_47 (by decide) ?_
          exact W.iret hx hb hr (fun t ht hW => ⟨_, rfl, (by rw [if_neg h1, if_neg h2, if_neg h3, if_neg h4]), ht⟩) (fun q h => by cases h) d_M_seal_48
        · refine lv_aload_n hx hb d_M_seal_40 rfl (lv_at hl 0 rfl) ?_
          refine va_get (D := (dC, dI)) (ci := 1) (v := .int ct) (C := R_M) (T := F_M) (N := 15) hx hb hts lay_M hown hK hP 0 rfl rfl 4 (by decide) (hts _ m_274) (fun _ h9 => h9) rfl d_M_seal_41 ?_
          refine lv_goto (tgt := 48) hx hb d_M_seal_44 (by decide) ?_
          exact W.iret hx hb hr (fun t ht hW => ⟨_, rfl, (by rw [if_neg h1, if_neg h2, if_neg h3, if_pos h4]), ht⟩) (fun q h => by cases h) d_M_seal_48
      · refine lv_aload_n hx hb d_M_seal_28 rfl (lv_at hl 0 rfl) ?_
        refine va_get (D := (dC, dI)) (ci := 1) (v := .int rt) (C := R_M) (T := F_M) (N := 15) hx hb hts lay_M hown hK hP 0 rfl rfl 3 (by decide) (hts _ m_273) (fun _ h9 => h9) rfl d_M_seal_29 ?_
        refine lv_goto (tgt := 48) hx hb d_M_seal_32 (by decide) ?_
        exact W.iret hx hb hr (fun t ht hW => ⟨_, rfl, (by rw [if_neg h1, if_neg h2, if_pos h3]), ht⟩) (fun q h => by cases h) d_M_seal_48
    · refine lv_aload_n hx hb d_M_seal_16 rfl (lv_at hl 0 rfl) ?_
      refine va_get (D := (dC, dI)) (ci := 1) (v := .int gn) (C := R_M) (T := F_M) (N := 15) hx hb hts lay_M hown hK hP 0 rfl rfl 2 (by decide) (hts _ m_272) (fun _ h9 => h9) rfl d_M_seal_17 ?_
      refine lv_goto (tgt := 48) hx hb d_M_seal_20 (by decide) ?_
      exact W.iret hx hb hr (fun t ht hW => ⟨_, rfl, (by rw [if_neg h1, if_pos h2]), ht⟩) (fun q h => by cases h) d_M_seal_48
  · refine lv_aload_n hx hb d_M_seal_4 rfl (lv_at hl 0 rfl) ?_
    refine va_get (D := (dC, dI)) (ci := 1) (v := .int (nI hf)) (C := R_M) (T := F_M) (N := 15) hx hb hts lay_M hown hK hP 0 rfl rfl 1 (by decide) (hts _ m_271) (fun _ h9 => h9) rfl d_M_seal_5 ?_
    refine lv_goto (tgt := 48) hx hb d_M_seal_8 (by decide) ?_
    exact W.iret hx hb hr (fun t ht hW => ⟨_, rfl, (by rw [if_pos h1]), ht⟩) (fun q h => by cases h) d_M_seal_48
set_option maxHeartbeats 1000000 in
set_option maxRecDepth 100000 in
theorem mc_writes (l : Launch) (dC : Nat → ClassId) (dI : Nat → Nat → Nat) (h0 qd qs qv qh qn : Nat) (cI cJ : ClassId) (sz : Nat) (dk : Nat → Int32) (hf : Nat) (gn : Int32) (rt : Int32) (ct : Int32) (pw : Bool) (sl : Int32) (sm : Int32) (cu : Bool) (ln : Nat) (lk : Int32) (lq : Nat → Int32) (vq : Nat → Int64) (hs : Nat → Int64) (nd : Nat → Int32)   : Met l y_M_writes w_M_writes ({ frames := 0, cells := 0, slots := 0, locals := 0 }) (va_Pc [.ref h0] (z_pre (dC, dI) classes [(cI, .int), (cJ, .long)] (Mw h0 qd qs qv qh qn cI cJ (dk, hf, gn, rt, ct, pw, sl, sm, cu, ln, lk, lq, vq, hs, nd)) sz)) (vp_Si (fun r => r = (if pw = true then nI ln else -1))) 0 0 (fun _ => False) := by
  refine Met.ofW (cc := b_M_writes) (maxL := 1) (ret := (some .int)) (by decide) rfl ?_
  intro p e s m args below meth c s₁ B hml hv
  obtain ⟨rfl, hsz, hP, hK, hD0⟩ := hv
  have hx := B.exec
  have hb := B.bytes
  have hr := B.returns
  have hts := fun (w : Cond) (h : w ∈ lw_U) => atoms_spec (ws := w_M_writes) B.pre w (List.mem_cons_of_mem _ h)
  have hown : s.vm.findClass R_M = some m.cls := findClass_of_methodNamed B.named
  have hlocks := B.notSynchronized
  subst hsz
  have hD := hD0
  have hl := lv_entry ([.ref h0]) (n := 1) (Nat.le_of_ble_eq_true rfl)
  rw [lg_entry_eq]
  generalize (lg_sl ([.ref h0]) ++ List.replicate (1 - (lg_sl ([.ref h0])).length) Slot.unset).toArray = ls at hl ⊢
  have hl : lv_has ls 1 [(0, .ref h0)] := hl
  cases pw with
  | false =>
    refine lv_aload_n hx hb d_M_writes_0 rfl (lv_at hl 0 rfl) ?_
    refine va_get (D := (dC, dI)) (ci := 1) (v := .int (bI false)) (C := R_M) (T := F_M) (N := 15) hx hb hts lay_M hown hK hP 0 rfl rfl 5 (by decide) (hts _ m_275) (fun _ h9 => h9) rfl d_M_writes_1 ?_
    refine lv_if_eq (tgt := 14) hx hb d_M_writes_4 (by decide) (fun _ => ?_) (fun h9 => absurd (by decide) h9)
    refine lv_iconst (v := (-1 : Int32)) hx hb d_M_writes_14 (by decide) ?_
    exact W.iret hx hb hr (fun t ht hW => ⟨_, rfl, rfl, ht⟩) (fun q h => by cases h) d_M_writes_15
  | true =>
    refine lv_aload_n hx hb d_M_writes_0 rfl (lv_at hl 0 rfl) ?_
    refine va_get (D := (dC, dI)) (ci := 1) (v := .int (bI true)) (C := R_M) (T := F_M) (N := 15) hx hb hts lay_M hown hK hP 0 rfl rfl 5 (by decide) (hts _ m_275) (fun _ h9 => h9) rfl d_M_writes_1 ?_
    refine lv_if_eq (tgt := 14) hx hb d_M_writes_4 (by decide) (fun h9 => absurd h9 (by decide)) (fun _ => ?_)
    refine lv_aload_n hx hb d_M_writes_7 rfl (lv_at hl 0 rfl) ?_
    refine va_get (D := (dC, dI)) (ci := 1) (v := .int (nI ln)) (C := R_M) (T := F_M) (N := 15) hx hb hts lay_M hown hK hP 0 rfl rfl 9 (by decide) (hts _ m_279) (fun _ h9 => h9) rfl d_M_writes_8 ?_
    refine lv_goto (tgt := 15) hx hb d_M_writes_11 (by decide) ?_
    exact W.iret hx hb hr (fun t ht hW => ⟨_, rfl, rfl, ht⟩) (fun q h => by cases h) d_M_writes_15
set_option maxHeartbeats 1000000 in
set_option maxRecDepth 100000 in
theorem mc_steps (l : Launch) (dC : Nat → ClassId) (dI : Nat → Nat → Nat) (h0 qd qs qv qh qn : Nat) (cI cJ : ClassId) (sz : Nat) (dk : Nat → Int32) (hf : Nat) (gn : Int32) (rt : Int32) (ct : Int32) (pw : Bool) (sl : Int32) (sm : Int32) (cu : Bool) (ln : Nat) (lk : Int32) (lq : Nat → Int32) (vq : Nat → Int64) (hs : Nat → Int64) (nd : Nat → Int32)   : Met l y_M_steps w_M_steps ({ frames := 0, cells := 0, slots := 0, locals := 0 }) (va_Pc [.ref h0] (z_pre (dC, dI) classes [(cI, .int), (cJ, .long)] (Mw h0 qd qs qv qh qn cI cJ (dk, hf, gn, rt, ct, pw, sl, sm, cu, ln, lk, lq, vq, hs, nd)) sz)) (vp_Si (fun r => r = sm)) 0 0 (fun _ => False) := by
  refine Met.ofW (cc := b_M_steps) (maxL := 1) (ret := (some .int)) (by decide) rfl ?_
  intro p e s m args below meth c s₁ B hml hv
  obtain ⟨rfl, hsz, hP, hK, hD0⟩ := hv
  have hx := B.exec
  have hb := B.bytes
  have hr := B.returns
  have hts := fun (w : Cond) (h : w ∈ lw_U) => atoms_spec (ws := w_M_steps) B.pre w (List.mem_cons_of_mem _ h)
  have hown : s.vm.findClass R_M = some m.cls := findClass_of_methodNamed B.named
  have hlocks := B.notSynchronized
  subst hsz
  have hD := hD0
  have hl := lv_entry ([.ref h0]) (n := 1) (Nat.le_of_ble_eq_true rfl)
  rw [lg_entry_eq]
  generalize (lg_sl ([.ref h0]) ++ List.replicate (1 - (lg_sl ([.ref h0])).length) Slot.unset).toArray = ls at hl ⊢
  have hl : lv_has ls 1 [(0, .ref h0)] := hl
  refine lv_aload_n hx hb d_M_steps_0 rfl (lv_at hl 0 rfl) ?_
  refine va_get (D := (dC, dI)) (ci := 1) (v := .int sm) (C := R_M) (T := F_M) (N := 15) hx hb hts lay_M hown hK hP 0 rfl rfl 7 (by decide) (hts _ m_277) (fun _ h9 => h9) rfl d_M_steps_1 ?_
  exact W.iret hx hb hr (fun t ht hW => ⟨_, rfl, rfl, ht⟩) (fun q h => by cases h) d_M_steps_4
end
section
set_option maxHeartbeats 1000000 in
set_option maxRecDepth 100000 in
theorem mc_init (l : Launch) (dC : Nat → ClassId) (dI : Nat → Nat → Nat) (h0 sz : Nat) : Met l y_M_init w_M_init ({ frames := 3, cells := 5, slots := 136, locals := 71 }) (va_Pc [.ref h0] (z_pre (dC, dI) classes [] [(h0, .inr (1, [.null, .int 0, .int 0, .int 0, .int 0, .int 0, .int 0, .int 0, .int 0, .int 0, .int 0, .null, .null, .null, .null]))] sz)) (va_Qv (fun (_ : Nat × Nat × Nat × Nat × Nat × ClassId × ClassId × (Nat → Int64)) => True) (fun (z : Nat × Nat × Nat × Nat × Nat × ClassId × ClassId × (Nat → Int64)) => z_at (dC, dI) classes [(z.2.2.2.2.2.1, .int), (z.2.2.2.2.2.2.1, .long)] (va_A [(h0, .inr (1, [.null, .int 0, .int 0, .int 0, .int 0, .int 0, .int 0, .int 0, .int 0, .int 0, .int 0, .null, .null, .null, .null]))] sz) (Mw h0 z.1 z.2.1 z.2.2.1 z.2.2.2.1 z.2.2.2.2.1 z.2.2.2.2.2.1 z.2.2.2.2.2.2.1 (iniM z.2.2.2.2.2.2.2))) (va_A [(h0, .inr (1, [.null, .int 0, .int 0, .int 0, .int 0, .int 0, .int 0, .int 0, .int 0, .int 0, .int 0, .null, .null, .null, .null]))] sz)) 5 136 (va_A [(h0, .inr (1, [.null, .int 0, .int 0, .int 0, .int 0, .int 0, .int 0, .int 0, .int 0, .int 0, .int 0, .null, .null, .null, .null]))] sz) := by
  refine Met.ofW (cc := b_M_init) (maxL := 2) (ret := none) (by decide) rfl ?_
  intro p e s m args below meth c s₁ B hml hv
  obtain ⟨rfl, hsz, hP, hK, hD0⟩ := hv
  have hx := B.exec
  have hb := B.bytes
  have hr := B.returns
  have hts := fun (w : Cond) (h : w ∈ lw_U) => atoms_spec (ws := w_M_init) B.pre w (List.mem_cons_of_mem _ h)
  have hown : s.vm.findClass R_M = some m.cls := findClass_of_methodNamed B.named
  have hlocks := B.notSynchronized
  have hin : meth.name = "<init>" := (name_of_methodNamed B.named B.method).1
  subst hsz
  have hD := hD0.self (sz := s.heap.size)
  generalize hAe : va_A [(h0, .inr (1, [.null, .int 0, .int 0, .int 0, .int 0, .int 0, .int 0, .int 0, .int 0, .int 0, .int 0, .null, .null, .null, .null]))] s.heap.size = A at hD ⊢
  have hA : ∀ q : Nat, s.heap.size ≤ q → A q := fun q h => by rw [← hAe]; exact Or.inr h
  have hS : va_S A s.heap s.heap [] := va_S.rf
  have hP : va_P (dC, dI) classes [(h0, .inr (1, [.null, .int 0, .int 0, .int 0, .int 0, .int 0, .int 0, .int 0, .int 0, .int 0, .int 0, .null, .null, .null, .null]))] s.heap := hP
  have hl := lv_entry ([.ref h0]) (n := 2) (Nat.le_of_ble_eq_true rfl)
  rw [lg_entry_eq]
  generalize (lg_sl ([.ref h0]) ++ List.replicate (2 - (lg_sl ([.ref h0])).length) Slot.unset).toArray = ls at hl ⊢
  have hl : lv_has ls 2 [(0, .ref h0)] := hl
  refine lv_aload_n hx hb d_M_init_0 rfl (lv_at hl 0 rfl) ?_
  refine W.objInit hx hb hown (hts _ m_252) (hts _ m_41) (hts _ m_42) rfl (by rw [hml]; exact hl.1) rfl d_M_init_1 (Nat.le_of_ble_eq_true rfl) (Nat.le_of_ble_eq_true rfl) ?_
  refine W.eq (g2 := F0 m 4 ls []) rfl ?_
  refine lv_aload_n hx hb d_M_init_4 rfl (lv_at hl 0 rfl) ?_
  refine lv_bipush (v := 102) hx hb d_M_init_5 (by decide) ?_
  refine va_newa (atype := .int) (a0 := (102, .inl (fun _ => 0))) (N' := 102) hx hb (hts _ m_99) rfl hK hP hD hS hA (fun _ => rfl) (by decide) (by decide) (by decide) (Nat.le_of_ble_eq_true rfl) (Nat.le_of_ble_eq_true rfl) d_M_init_7 (fun qd cqd H hK hP hD hS => ?_)
  have hP : va_P (dC, dI) classes [(h0, .inr (1, [.null, .int 0, .int 0, .int 0, .int 0, .int 0, .int 0, .int 0, .int 0, .int 0, .int 0, .null, .null, .null, .null])), (qd, .inl (cqd, (102, .inl (fun _ => 0))))] H := hP
  have hD : va_D A [(h0, .inr (1, [.null, .int 0, .int 0, .int 0, .int 0, .int 0, .int 0, .int 0, .int 0, .int 0, .int 0, .null, .null, .null, .null])), (qd, .inl (cqd, (102, .inl (fun _ => 0))))] := hD
  have hK : va_K (dC, dI) classes [(cqd, .int)] s := hK
  refine W.widen (k := 1) (n := 102) (by omega) (by omega) ?_
  refine va_putF (D := (dC, dI)) (ci := 1) (v := .ref qd) (ty := .array .int) (C := R_M) (T := F_M) (N := 15) hx hb hts lay_M t_M t_M_ok n_M hown hK hP hD hS 0 rfl rfl 0 (by decide) (hts _ m_270) (fun _ h9 => h9) rfl hin rfl (by decide +kernel) rfl rfl (Nat.le_of_ble_eq_true rfl) d_M_init_9 (fun H locs hP hD hS => ?_)
  have hP : va_P (dC, dI) classes [(h0, .inr (1, [.ref qd, .int 0, .int 0, .int 0, .int 0, .int 0, .int 0, .int 0, .int 0, .int 0, .int 0, .null, .null, .null, .null])), (qd, .inl (cqd, (102, .inl (fun _ => 0))))] H := hP
  have hD : va_D A [(h0, .inr (1, [.ref qd, .int 0, .int 0, .int 0, .int 0, .int 0, .int 0, .int 0, .int 0, .int 0, .int 0, .null, .null, .null, .null])), (qd, .inl (cqd, (102, .inl (fun _ => 0))))] := hD
  refine lv_aload_n hx hb d_M_init_12 rfl (lv_at hl 0 rfl) ?_
  refine lv_iconst (v := 1) hx hb d_M_init_13 (by decide) ?_
  refine va_put (D := (dC, dI)) (ci := 1) (v := .int (1)) (ty := .int) (C := R_M) (T := F_M) (N := 15) hx hb hts lay_M t_M t_M_ok n_M hown hK hP hD hS 0 rfl rfl 2 (by decide) (hts _ m_272) (fun _ h9 => h9) rfl (by decide +kernel) rfl rfl (Nat.le_of_ble_eq_true rfl) d_M_init_14 (fun H locs hP hD hS => ?_)
  have hP : va_P (dC, dI) classes [(h0, .inr (1, [.ref qd, .int 0, .int (1), .int 0, .int 0, .int 0, .int 0, .int 0, .int 0, .int 0, .int 0, .null, .null, .null, .null])), (qd, .inl (cqd, (102, .inl (fun _ => 0))))] H := hP
  have hD : va_D A [(h0, .inr (1, [.ref qd, .int 0, .int (1), .int 0, .int 0, .int 0, .int 0, .int 0, .int 0, .int 0, .int 0, .null, .null, .null, .null])), (qd, .inl (cqd, (102, .inl (fun _ => 0))))] := hD
  refine lv_aload_n hx hb d_M_init_17 rfl (lv_at hl 0 rfl) ?_
  refine lv_iconst (v := -1) hx hb d_M_init_18 (by decide) ?_
  refine va_put (D := (dC, dI)) (ci := 1) (v := .int (-1)) (ty := .int) (C := R_M) (T := F_M) (N := 15) hx hb hts lay_M t_M t_M_ok n_M hown hK hP hD hS 0 rfl rfl 6 (by decide) (hts _ m_276) (fun _ h9 => h9) rfl (by decide +kernel) rfl rfl (Nat.le_of_ble_eq_true rfl) d_M_init_19 (fun H locs hP hD hS => ?_)
  have hP : va_P (dC, dI) classes [(h0, .inr (1, [.ref qd, .int 0, .int (1), .int 0, .int 0, .int 0, .int (-1), .int 0, .int 0, .int 0, .int 0, .null, .null, .null, .null])), (qd, .inl (cqd, (102, .inl (fun _ => 0))))] H := hP
  have hD : va_D A [(h0, .inr (1, [.ref qd, .int 0, .int (1), .int 0, .int 0, .int 0, .int (-1), .int 0, .int 0, .int 0, .int 0, .null, .null, .null, .null])), (qd, .inl (cqd, (102, .inl (fun _ => 0))))] := hD
  refine lv_aload_n hx hb d_M_init_22 rfl (lv_at hl 0 rfl) ?_
  refine lv_iconst (v := 5) hx hb d_M_init_23 (by decide) ?_
  refine va_newa (atype := .int) (a0 := (5, .inl (fun _ => 0))) (N' := 5) hx hb (hts _ m_99) rfl hK hP hD hS hA (fun _ => rfl) (by decide) (by decide) (by decide) (Nat.le_of_ble_eq_true rfl) (Nat.le_of_ble_eq_true rfl) d_M_init_24 (fun qs cqs H hK hP hD hS => ?_)
  have hP : va_P (dC, dI) classes [(h0, .inr (1, [.ref qd, .int 0, .int (1), .int 0, .int 0, .int 0, .int (-1), .int 0, .int 0, .int 0, .int 0, .null, .null, .null, .null])), (qd, .inl (cqd, (102, .inl (fun _ => 0)))), (qs, .inl (cqs, (5, .inl (fun _ => 0))))] H := hP
  have hD : va_D A [(h0, .inr (1, [.ref qd, .int 0, .int (1), .int 0, .int 0, .int 0, .int (-1), .int 0, .int 0, .int 0, .int 0, .null, .null, .null, .null])), (qd, .inl (cqd, (102, .inl (fun _ => 0)))), (qs, .inl (cqs, (5, .inl (fun _ => 0))))] := hD
  have hK : va_K (dC, dI) classes [(cqd, .int), (cqs, .int)] s := hK
  refine W.widen (k := 2) (n := 107) (by omega) (by omega) ?_
  refine va_putF (D := (dC, dI)) (ci := 1) (v := .ref qs) (ty := .array .int) (C := R_M) (T := F_M) (N := 15) hx hb hts lay_M t_M t_M_ok n_M hown hK hP hD hS 0 rfl rfl 11 (by decide) (hts _ m_281) (fun _ h9 => h9) rfl hin rfl (by decide +kernel) rfl rfl (Nat.le_of_ble_eq_true rfl) d_M_init_26 (fun H locs hP hD hS => ?_)
  have hP : va_P (dC, dI) classes [(h0, .inr (1, [.ref qd, .int 0, .int (1), .int 0, .int 0, .int 0, .int (-1), .int 0, .int 0, .int 0, .int 0, .ref qs, .null, .null, .null])), (qd, .inl (cqd, (102, .inl (fun _ => 0)))), (qs, .inl (cqs, (5, .inl (fun _ => 0))))] H := hP
  have hD : va_D A [(h0, .inr (1, [.ref qd, .int 0, .int (1), .int 0, .int 0, .int 0, .int (-1), .int 0, .int 0, .int 0, .int 0, .ref qs, .null, .null, .null])), (qd, .inl (cqd, (102, .inl (fun _ => 0)))), (qs, .inl (cqs, (5, .inl (fun _ => 0))))] := hD
  refine lv_aload_n hx hb d_M_init_29 rfl (lv_at hl 0 rfl) ?_
  refine lv_iconst (v := 5) hx hb d_M_init_30 (by decide) ?_
  refine va_newa (atype := .long) (a0 := (5, .inr (.inl (fun _ => 0)))) (N' := 5) hx hb (hts _ m_100) rfl hK hP hD hS hA (fun _ => rfl) (by decide) (by decide) (by decide) (Nat.le_of_ble_eq_true rfl) (Nat.le_of_ble_eq_true rfl) d_M_init_31 (fun qv cqv H hK hP hD hS => ?_)
  have hP : va_P (dC, dI) classes [(h0, .inr (1, [.ref qd, .int 0, .int (1), .int 0, .int 0, .int 0, .int (-1), .int 0, .int 0, .int 0, .int 0, .ref qs, .null, .null, .null])), (qd, .inl (cqd, (102, .inl (fun _ => 0)))), (qs, .inl (cqs, (5, .inl (fun _ => 0)))), (qv, .inl (cqv, (5, .inr (.inl (fun _ => 0)))))] H := hP
  have hD : va_D A [(h0, .inr (1, [.ref qd, .int 0, .int (1), .int 0, .int 0, .int 0, .int (-1), .int 0, .int 0, .int 0, .int 0, .ref qs, .null, .null, .null])), (qd, .inl (cqd, (102, .inl (fun _ => 0)))), (qs, .inl (cqs, (5, .inl (fun _ => 0)))), (qv, .inl (cqv, (5, .inr (.inl (fun _ => 0)))))] := hD
  have hK : va_K (dC, dI) classes [(cqd, .int), (cqs, .int), (cqv, .long)] s := hK
  refine W.widen (k := 3) (n := 112) (by omega) (by omega) ?_
  refine va_putF (D := (dC, dI)) (ci := 1) (v := .ref qv) (ty := .array .long) (C := R_M) (T := F_M) (N := 15) hx hb hts lay_M t_M t_M_ok n_M hown hK hP hD hS 0 rfl rfl 12 (by decide) (hts _ m_282) (fun _ h9 => h9) rfl hin rfl (by decide +kernel) rfl rfl (Nat.le_of_ble_eq_true rfl) d_M_init_33 (fun H locs hP hD hS => ?_)
  have hP : va_P (dC, dI) classes [(h0, .inr (1, [.ref qd, .int 0, .int (1), .int 0, .int 0, .int 0, .int (-1), .int 0, .int 0, .int 0, .int 0, .ref qs, .ref qv, .null, .null])), (qd, .inl (cqd, (102, .inl (fun _ => 0)))), (qs, .inl (cqs, (5, .inl (fun _ => 0)))), (qv, .inl (cqv, (5, .inr (.inl (fun _ => 0)))))] H := hP
  have hD : va_D A [(h0, .inr (1, [.ref qd, .int 0, .int (1), .int 0, .int 0, .int 0, .int (-1), .int 0, .int 0, .int 0, .int 0, .ref qs, .ref qv, .null, .null])), (qd, .inl (cqd, (102, .inl (fun _ => 0)))), (qs, .inl (cqs, (5, .inl (fun _ => 0)))), (qv, .inl (cqv, (5, .inr (.inl (fun _ => 0)))))] := hD
  refine lv_aload_n hx hb d_M_init_36 rfl (lv_at hl 0 rfl) ?_
  refine lv_bipush (v := 8) hx hb d_M_init_37 (by decide) ?_
  refine va_newa (atype := .long) (a0 := (8, .inr (.inl (fun _ => 0)))) (N' := 8) hx hb (hts _ m_100) rfl hK hP hD hS hA (fun _ => rfl) (by decide) (by decide) (by decide) (Nat.le_of_ble_eq_true rfl) (Nat.le_of_ble_eq_true rfl) d_M_init_39 (fun qh cqh H hK hP hD hS => ?_)
  have hP : va_P (dC, dI) classes [(h0, .inr (1, [.ref qd, .int 0, .int (1), .int 0, .int 0, .int 0, .int (-1), .int 0, .int 0, .int 0, .int 0, .ref qs, .ref qv, .null, .null])), (qd, .inl (cqd, (102, .inl (fun _ => 0)))), (qs, .inl (cqs, (5, .inl (fun _ => 0)))), (qv, .inl (cqv, (5, .inr (.inl (fun _ => 0))))), (qh, .inl (cqh, (8, .inr (.inl (fun _ => 0)))))] H := hP
  have hD : va_D A [(h0, .inr (1, [.ref qd, .int 0, .int (1), .int 0, .int 0, .int 0, .int (-1), .int 0, .int 0, .int 0, .int 0, .ref qs, .ref qv, .null, .null])), (qd, .inl (cqd, (102, .inl (fun _ => 0)))), (qs, .inl (cqs, (5, .inl (fun _ => 0)))), (qv, .inl (cqv, (5, .inr (.inl (fun _ => 0))))), (qh, .inl (cqh, (8, .inr (.inl (fun _ => 0)))))] := hD
  have hK : va_K (dC, dI) classes [(cqd, .int), (cqs, .int), (cqv, .long), (cqh, .long)] s := hK
  refine W.widen (k := 4) (n := 120) (by omega) (by omega) ?_
  refine va_putF (D := (dC, dI)) (ci := 1) (v := .ref qh) (ty := .array .long) (C := R_M) (T := F_M) (N := 15) hx hb hts lay_M t_M t_M_ok n_M hown hK hP hD hS 0 rfl rfl 13 (by decide) (hts _ m_283) (fun _ h9 => h9) rfl hin rfl (by decide +kernel) rfl rfl (Nat.le_of_ble_eq_true rfl) d_M_init_41 (fun H locs hP hD hS => ?_)
  have hP : va_P (dC, dI) classes [(h0, .inr (1, [.ref qd, .int 0, .int (1), .int 0, .int 0, .int 0, .int (-1), .int 0, .int 0, .int 0, .int 0, .ref qs, .ref qv, .ref qh, .null])), (qd, .inl (cqd, (102, .inl (fun _ => 0)))), (qs, .inl (cqs, (5, .inl (fun _ => 0)))), (qv, .inl (cqv, (5, .inr (.inl (fun _ => 0))))), (qh, .inl (cqh, (8, .inr (.inl (fun _ => 0)))))] H := hP
  have hD : va_D A [(h0, .inr (1, [.ref qd, .int 0, .int (1), .int 0, .int 0, .int 0, .int (-1), .int 0, .int 0, .int 0, .int 0, .ref qs, .ref qv, .ref qh, .null])), (qd, .inl (cqd, (102, .inl (fun _ => 0)))), (qs, .inl (cqs, (5, .inl (fun _ => 0)))), (qv, .inl (cqv, (5, .inr (.inl (fun _ => 0))))), (qh, .inl (cqh, (8, .inr (.inl (fun _ => 0)))))] := hD
  refine lv_aload_n hx hb d_M_init_44 rfl (lv_at hl 0 rfl) ?_
  refine lv_bipush (v := 16) hx hb d_M_init_45 (by decide) ?_
  refine va_newa (atype := .int) (a0 := (16, .inl (fun _ => 0))) (N' := 16) hx hb (hts _ m_99) rfl hK hP hD hS hA (fun _ => rfl) (by decide) (by decide) (by decide) (Nat.le_of_ble_eq_true rfl) (Nat.le_of_ble_eq_true rfl) d_M_init_47 (fun qn cqn H hK hP hD hS => ?_)
  have hP : va_P (dC, dI) classes [(h0, .inr (1, [.ref qd, .int 0, .int (1), .int 0, .int 0, .int 0, .int (-1), .int 0, .int 0, .int 0, .int 0, .ref qs, .ref qv, .ref qh, .null])), (qd, .inl (cqd, (102, .inl (fun _ => 0)))), (qs, .inl (cqs, (5, .inl (fun _ => 0)))), (qv, .inl (cqv, (5, .inr (.inl (fun _ => 0))))), (qh, .inl (cqh, (8, .inr (.inl (fun _ => 0))))), (qn, .inl (cqn, (16, .inl (fun _ => 0))))] H := hP
  have hD : va_D A [(h0, .inr (1, [.ref qd, .int 0, .int (1), .int 0, .int 0, .int 0, .int (-1), .int 0, .int 0, .int 0, .int 0, .ref qs, .ref qv, .ref qh, .null])), (qd, .inl (cqd, (102, .inl (fun _ => 0)))), (qs, .inl (cqs, (5, .inl (fun _ => 0)))), (qv, .inl (cqv, (5, .inr (.inl (fun _ => 0))))), (qh, .inl (cqh, (8, .inr (.inl (fun _ => 0))))), (qn, .inl (cqn, (16, .inl (fun _ => 0))))] := hD
  have hK : va_K (dC, dI) classes [(cqd, .int), (cqs, .int), (cqv, .long), (cqh, .long), (cqn, .int)] s := hK
  refine W.widen (k := 5) (n := 136) (by omega) (by omega) ?_
  refine va_putF (D := (dC, dI)) (ci := 1) (v := .ref qn) (ty := .array .int) (C := R_M) (T := F_M) (N := 15) hx hb hts lay_M t_M t_M_ok n_M hown hK hP hD hS 0 rfl rfl 14 (by decide) (hts _ m_284) (fun _ h9 => h9) rfl hin rfl (by decide +kernel) rfl rfl (Nat.le_of_ble_eq_true rfl) d_M_init_49 (fun H locs hP hD hS => ?_)
  have hP : va_P (dC, dI) classes [(h0, .inr (1, [.ref qd, .int 0, .int (1), .int 0, .int 0, .int 0, .int (-1), .int 0, .int 0, .int 0, .int 0, .ref qs, .ref qv, .ref qh, .ref qn])), (qd, .inl (cqd, (102, .inl (fun _ => 0)))), (qs, .inl (cqs, (5, .inl (fun _ => 0)))), (qv, .inl (cqv, (5, .inr (.inl (fun _ => 0))))), (qh, .inl (cqh, (8, .inr (.inl (fun _ => 0))))), (qn, .inl (cqn, (16, .inl (fun _ => 0))))] H := hP
  have hD : va_D A [(h0, .inr (1, [.ref qd, .int 0, .int (1), .int 0, .int 0, .int 0, .int (-1), .int 0, .int 0, .int 0, .int 0, .ref qs, .ref qv, .ref qh, .ref qn])), (qd, .inl (cqd, (102, .inl (fun _ => 0)))), (qs, .inl (cqs, (5, .inl (fun _ => 0)))), (qv, .inl (cqv, (5, .inr (.inl (fun _ => 0))))), (qh, .inl (cqh, (8, .inr (.inl (fun _ => 0))))), (qn, .inl (cqn, (16, .inl (fun _ => 0))))] := hD
  have hcc : cqs = cqd := Option.some.inj (((hK.2 1 _ rfl).2 : s.vm.findClass _ = some cqs).symm.trans ((hK.2 0 _ rfl).2 : s.vm.findClass _ = some cqd))
  subst cqs
  have hcc : cqh = cqv := Option.some.inj (((hK.2 3 _ rfl).2 : s.vm.findClass _ = some cqh).symm.trans ((hK.2 2 _ rfl).2 : s.vm.findClass _ = some cqv))
  subst cqh
  have hcc : cqn = cqd := Option.some.inj (((hK.2 4 _ rfl).2 : s.vm.findClass _ = some cqn).symm.trans ((hK.2 0 _ rfl).2 : s.vm.findClass _ = some cqd))
  subst cqn
  have hK : va_K (dC, dI) classes [(cqd, .int), (cqv, .long)] s := hK.sub [0, 2] rfl
  generalize cqd = cI at hK hP hD
  generalize cqv = cJ at hK hP hD
  have hP : va_P (dC, dI) classes (Mw h0 qd qs qv qh qn cI cJ ((fun _ => 0), 0, 1, 0, 0, false, -1, 0, false, 0, 0, (fun _ => 0), (fun _ => 0), (fun _ => 0), (fun _ => 0))) H := hP
  have hD : va_D A (Mw h0 qd qs qv qh qn cI cJ ((fun _ => 0), 0, 1, 0, 0, false, -1, 0, false, 0, 0, (fun _ => 0), (fun _ => 0), (fun _ => 0), (fun _ => 0))) := hD
  have loop3 : ∀ (hs1 : Nat → Int64) (j k : Nat) (d0 : Nat → Int32) (ls : Array Slot) (H : Heap) (locs : List Loc), k + j = 16 → lv_has ls 2 [(0, .ref h0), (1, .int (nI k))] → va_P (dC, dI) classes (Mw h0 qd qs qv qh qn cI cJ (d0, 0, 1, 0, 0, false, -1, 0, false, 0, 0, fun _ => 0, fun _ => 0, hs1, iniN)) H → va_D A (Mw h0 qd qs qv qh qn cI cJ (d0, 0, 1, 0, 0, false, -1, 0, false, 0, 0, fun _ => 0, fun _ => 0, hs1, iniN)) → va_S A s.heap H locs → inM2 iniN j k d0 = iniMD → W p l e (headSpec w_M_init ({ frames := 3, cells := 5, slots := 136, locals := 71 })).room s m ([.ref h0].toArray) below meth c H locs 5 136 (MQ below (va_Qv (fun (_ : Nat × Nat × Nat × Nat × Nat × ClassId × ClassId × (Nat → Int64)) => True) (fun (z : Nat × Nat × Nat × Nat × Nat × ClassId × ClassId × (Nat → Int64)) => z_at (dC, dI) classes [(z.2.2.2.2.2.1, .int), (z.2.2.2.2.2.2.1, .long)] A (Mw h0 z.1 z.2.1 z.2.2.1 z.2.2.2.1 z.2.2.2.2.1 z.2.2.2.2.2.1 z.2.2.2.2.2.2.1 (iniM z.2.2.2.2.2.2.2))) A) ([.ref h0].toArray) s 5 136 A) (F0 m 106 ls []) := by
    intro hs1 j
    induction j with
    | zero =>
      intro k d0 ls H locs hk hl hP hD hS hF
      have hF : d0 = iniMD := hF
      subst hF
      refine lv_iload_n hx hb d_M_init_106 rfl (lv_at hl 1 rfl) ?_
      refine lv_bipush (v := nI 16) hx hb d_M_init_107 (by decide) ?_
      refine lv_icmp_ge (tgt := 133) hx hb d_M_init_109 (by decide) (fun _ => ?_) (fun h9 => absurd ((nI_leI (by omega) (by omega)).mpr (by omega)) h9)
      refine lv_aload_n hx hb d_M_init_133 rfl (lv_at hl 0 rfl) ?_
      refine lv_aload_n hx hb d_M_init_134 rfl (lv_at hl 0 rfl) ?_
      refine va_get (D := (dC, dI)) (ci := 1) (v := .ref qn) (C := R_M) (T := F_M) (N := 15) hx hb hts lay_M hown hK hP 0 rfl rfl 14 (by decide) (hts _ m_284) (fun _ h9 => h9) rfl d_M_init_135 ?_
      refine lv_iconst (v := nI 1) hx hb d_M_init_138 (by decide) ?_
      refine z_iald hx hb hK hP 5 0 rfl rfl (by omega) (by decide) d_M_init_139 ?_
      refine va_put (D := (dC, dI)) (ci := 1) (v := .int (iniN 1)) (ty := .int) (C := R_M) (T := F_M) (N := 15) hx hb hts lay_M t_M t_M_ok n_M hown hK hP hD hS 0 rfl rfl 3 (by decide) (hts _ m_273) (fun _ h9 => h9) rfl (by decide +kernel) rfl rfl (Nat.le_of_ble_eq_true rfl) d_M_init_140 (fun H locs hP hD hS => ?_)
      have hP : va_P (dC, dI) classes (Mw h0 qd qs qv qh qn cI cJ (iniMD, 0, 1, iniN 1, 0, false, -1, 0, false, 0, 0, (fun _ => 0), (fun _ => 0), hs1, iniN)) H := hP
      have hD : va_D A (Mw h0 qd qs qv qh qn cI cJ (iniMD, 0, 1, iniN 1, 0, false, -1, 0, false, 0, 0, (fun _ => 0), (fun _ => 0), hs1, iniN)) := hD
      exact W.vret hx hb hr (fun t ht hW => ⟨⟨(qd, qs, qv, qh, qn, cI, cJ, hs1), rfl, trivial, by rw [ht]; exact hP, va_K.moved hW.alike hK, hD⟩, hS.F ht⟩) hS.2.2 d_M_init_143
    | succ j ih =>
      intro k d0 ls H locs hk hl hP hD hS hF
      refine lv_iload_n hx hb d_M_init_106 rfl (lv_at hl 1 rfl) ?_
      refine lv_bipush (v := nI 16) hx hb d_M_init_107 (by decide) ?_
      refine lv_icmp_ge (tgt := 133) hx hb d_M_init_109 (by decide) (fun h9 => absurd h9 (fun q => absurd ((nI_leI (by omega) (by omega)).mp q) (by omega))) (fun _ => ?_)
      refine lv_aload_n hx hb d_M_init_112 rfl (lv_at hl 0 rfl) ?_
      refine va_get (D := (dC, dI)) (ci := 1) (v := .ref qd) (C := R_M) (T := F_M) (N := 15) hx hb hts lay_M hown hK hP 0 rfl rfl 0 (by decide) (hts _ m_270) (fun _ h9 => h9) rfl d_M_init_113 ?_
      refine lv_bipush (v := nI 15) hx hb d_M_init_116 (by decide) ?_
      refine lv_iload_n hx hb d_M_init_118 rfl (lv_at hl 1 rfl) ?_
      refine lv_iadd hx hb d_M_init_119 ?_
      refine z_top (nI_add _ _) ?_
      refine lv_aload_n hx hb d_M_init_120 rfl (lv_at hl 0 rfl) ?_
      refine va_get (D := (dC, dI)) (ci := 1) (v := .ref qn) (C := R_M) (T := F_M) (N := 15) hx hb hts lay_M hown hK hP 0 rfl rfl 14 (by decide) (hts _ m_284) (fun _ h9 => h9) rfl d_M_init_121 ?_
      refine lv_iload_n hx hb d_M_init_124 rfl (lv_at hl 1 rfl) ?_
      refine z_iald hx hb hK hP 5 0 rfl rfl (by omega) (by decide) d_M_init_125 ?_
      refine z_iast hx hb hK hP hD hS 1 0 rfl rfl (by omega) (by decide) d_M_init_126 (fun H locs hP hD hS => ?_)
      have hP : va_P (dC, dI) classes (Mw h0 qd qs qv qh qn cI cJ (upd d0 (15 + k) (iniN k), 0, 1, 0, 0, false, -1, 0, false, 0, 0, (fun _ => 0), (fun _ => 0), hs1, iniN)) H := hP
      have hD : va_D A (Mw h0 qd qs qv qh qn cI cJ (upd d0 (15 + k) (iniN k), 0, 1, 0, 0, false, -1, 0, false, 0, 0, (fun _ => 0), (fun _ => 0), hs1, iniN)) := hD
      refine lv_iinc (k := 1) hx hb d_M_init_127 hl rfl (z_inc _ 1) (by decide) rfl (fun ls hl => ?_)
      have hl : lv_has ls 2 [(1, .int (nI (k + 1))), (0, .ref h0)] := hl
      refine lv_goto (tgt := 106) hx hb d_M_init_130 (by decide) ?_
      exact ih (k + 1) _ ls _ _ (by omega) (lv_sub hl [1, 0] rfl) hP hD hS hF
  have loop2 : ∀ (hs1 : Nat → Int64) (j k : Nat) (d0 : Nat → Int32) (ls : Array Slot) (H : Heap) (locs : List Loc), k + j = 16 → lv_has ls 2 [(0, .ref h0), (1, .int (nI k))] → va_P (dC, dI) classes (Mw h0 qd qs qv qh qn cI cJ (d0, 0, 1, 0, 0, false, -1, 0, false, 0, 0, fun _ => 0, fun _ => 0, hs1, fun _ => 0)) H → va_D A (Mw h0 qd qs qv qh qn cI cJ (d0, 0, 1, 0, 0, false, -1, 0, false, 0, 0, fun _ => 0, fun _ => 0, hs1, fun _ => 0)) → va_S A s.heap H locs → inM1 j k d0 = inM1 16 0 (fun _ => 0) → W p l e (headSpec w_M_init ({ frames := 3, cells := 5, slots := 136, locals := 71 })).room s m ([.ref h0].toArray) below meth c H locs 5 136 (MQ below (va_Qv (fun (_ : Nat × Nat × Nat × Nat × Nat × ClassId × ClassId × (Nat → Int64)) => True) (fun (z : Nat × Nat × Nat × Nat × Nat × ClassId × ClassId × (Nat → Int64)) => z_at (dC, dI) classes [(z.2.2.2.2.2.1, .int), (z.2.2.2.2.2.2.1, .long)] A (Mw h0 z.1 z.2.1 z.2.2.1 z.2.2.2.1 z.2.2.2.2.1 z.2.2.2.2.2.1 z.2.2.2.2.2.2.1 (iniM z.2.2.2.2.2.2.2))) A) ([.ref h0].toArray) s 5 136 A) (F0 m 75 ls []) := by
    intro hs1 j
    induction j with
    | zero =>
      intro k d0 ls H locs hk hl hP hD hS hF
      have hF : d0 = inM1 16 0 (fun _ => 0) := hF
      subst hF
      refine lv_iload_n hx hb d_M_init_75 rfl (lv_at hl 1 rfl) ?_
      refine lv_bipush (v := nI 16) hx hb d_M_init_76 (by decide) ?_
      refine lv_icmp_ge (tgt := 98) hx hb d_M_init_78 (by decide) (fun _ => ?_) (fun h9 => absurd ((nI_leI (by omega) (by omega)).mpr (by omega)) h9)
      refine lv_aload_n hx hb d_M_init_98 rfl (lv_at hl 0 rfl) ?_
      refine lv_iconst (v := nI 0) hx hb d_M_init_99 (by decide) ?_
      refine lv_iconst (v := (1 : Int32)) hx hb d_M_init_100 (by decide) ?_
      refine z_callv (va_runV (C := R_M) (b := h0) (As := [.int (nI 0), .int (1 : Int32)]) (rest := []) ⟨hx, hb, hml, hown, hts⟩ (mc_nodes l dC dI h0 qd qs qv qh qn cI cJ _ (inM1 16 0 (fun _ => 0)) 0 1 0 0 false (-1) 0 false 0 0 (fun _ => 0) (fun _ => 0) hs1 (fun _ => 0) 0 (1 : Int32) (by omega)) (cwV 2 hts g_M_37 rfl rfl rfl (by decide +kernel) ⟨(Nat.le_of_ble_eq_true rfl), (Nat.le_of_ble_eq_true rfl)⟩) (z_preV (va_recv (q0 := 0) hK hP rfl rfl) hP hK hD) rfl rfl hl.1 rfl (lv_room (Nat.le_of_ble_eq_true rfl)) d_M_init_101 ⟨(Nat.le_of_ble_eq_true rfl), (Nat.le_of_ble_eq_true rfl)⟩) hS hD hA (fun u H locs hr0 hP hD hS => ?_)
      subst hr0
      have hP : va_P (dC, dI) classes (Mw h0 qd qs qv qh qn cI cJ (inM1 16 0 (fun _ => 0), 0, 1, 0, 0, false, -1, 0, false, 0, 0, (fun _ => 0), (fun _ => 0), hs1, ndB 7 (ndA (inM1 16 0 (fun _ => 0)) 0 (1 : Int32) 8 0 (fun _ => 0)))) H := hP
      have hD : va_D A (Mw h0 qd qs qv qh qn cI cJ (inM1 16 0 (fun _ => 0), 0, 1, 0, 0, false, -1, 0, false, 0, 0, (fun _ => 0), (fun _ => 0), hs1, ndB 7 (ndA (inM1 16 0 (fun _ => 0)) 0 (1 : Int32) 8 0 (fun _ => 0)))) := hD
      refine lv_iconst (v := nI 1) hx hb d_M_init_104 (by decide) ?_
      refine lv_istore_n hx hb d_M_init_105 rfl hl (by decide) rfl (fun ls hl => ?_)
      have hl : lv_has ls 2 [(1, .int (nI 1)), (0, .ref h0)] := hl
      exact loop3 hs1 15 1 _ ls _ _ rfl (lv_sub hl [1, 0] rfl) hP hD hS rfl
    | succ j ih =>
      intro k d0 ls H locs hk hl hP hD hS hF
      refine lv_iload_n hx hb d_M_init_75 rfl (lv_at hl 1 rfl) ?_
      refine lv_bipush (v := nI 16) hx hb d_M_init_76 (by decide) ?_
      refine lv_icmp_ge (tgt := 98) hx hb d_M_init_78 (by decide) (fun h9 => absurd h9 (fun q => absurd ((nI_leI (by omega) (by omega)).mp q) (by omega))) (fun _ => ?_)
      refine lv_aload_n hx hb d_M_init_81 rfl (lv_at hl 0 rfl) ?_
      refine va_get (D := (dC, dI)) (ci := 1) (v := .ref qd) (C := R_M) (T := F_M) (N := 15) hx hb hts lay_M hown hK hP 0 rfl rfl 0 (by decide) (hts _ m_270) (fun _ h9 => h9) rfl d_M_init_82 ?_
      refine lv_iload_n hx hb d_M_init_85 rfl (lv_at hl 1 rfl) ?_
      refine lv_iconst (v := (1 : Int32)) hx hb d_M_init_86 (by decide) ?_
      refine lv_iload_n hx hb d_M_init_87 rfl (lv_at hl 1 rfl) ?_
      refine vp_callSi (W.runS (As := [.int (1 : Int32), .int (nI k)]) (rest := [.int (nI k), .ref qd]) ⟨hx, hb, hml, hown, hts⟩ (mc_key l (1 : Int32) (nI k)) (cwS 2 hts g_M_33 rfl rfl rfl (by decide +kernel) ⟨(Nat.le_of_ble_eq_true rfl), (Nat.le_of_ble_eq_true rfl)⟩) preEq rfl rfl hl.1 rfl (lv_room (Nat.le_of_ble_eq_true rfl)) d_M_init_88 ⟨(Nat.le_of_ble_eq_true rfl), (Nat.le_of_ble_eq_true rfl)⟩) (fun r hr0 => ?_)
      subst hr0
      refine z_iast hx hb hK hP hD hS 1 0 rfl rfl (by omega) (by decide) d_M_init_91 (fun H locs hP hD hS => ?_)
      have hP : va_P (dC, dI) classes (Mw h0 qd qs qv qh qn cI cJ (upd d0 k (dg (dg 19088743 (1 : Int32)) (nI k)), 0, 1, 0, 0, false, -1, 0, false, 0, 0, (fun _ => 0), (fun _ => 0), hs1, (fun _ => 0))) H := hP
      have hD : va_D A (Mw h0 qd qs qv qh qn cI cJ (upd d0 k (dg (dg 19088743 (1 : Int32)) (nI k)), 0, 1, 0, 0, false, -1, 0, false, 0, 0, (fun _ => 0), (fun _ => 0), hs1, (fun _ => 0))) := hD
      refine lv_iinc (k := 1) hx hb d_M_init_92 hl rfl (z_inc _ 1) (by decide) rfl (fun ls hl => ?_)
      have hl : lv_has ls 2 [(1, .int (nI (k + 1))), (0, .ref h0)] := hl
      refine lv_goto (tgt := 75) hx hb d_M_init_95 (by decide) ?_
      exact ih (k + 1) _ ls _ _ (by omega) (lv_sub hl [1, 0] rfl) hP hD hS hF
  have loop1 : ∀ (j k : Nat) (hs1 : Nat → Int64) (ls : Array Slot) (H : Heap) (locs : List Loc), k + j = 8 → lv_has ls 2 [(0, .ref h0), (1, .int (nI k))] → va_P (dC, dI) classes (Mw h0 qd qs qv qh qn cI cJ ((fun _ => 0), 0, 1, 0, 0, false, -1, 0, false, 0, 0, fun _ => 0, fun _ => 0, hs1, fun _ => 0)) H → va_D A (Mw h0 qd qs qv qh qn cI cJ ((fun _ => 0), 0, 1, 0, 0, false, -1, 0, false, 0, 0, fun _ => 0, fun _ => 0, hs1, fun _ => 0)) → va_S A s.heap H locs → W p l e (headSpec w_M_init ({ frames := 3, cells := 5, slots := 136, locals := 71 })).room s m ([.ref h0].toArray) below meth c H locs 5 136 (MQ below (va_Qv (fun (_ : Nat × Nat × Nat × Nat × Nat × ClassId × ClassId × (Nat → Int64)) => True) (fun (z : Nat × Nat × Nat × Nat × Nat × ClassId × ClassId × (Nat → Int64)) => z_at (dC, dI) classes [(z.2.2.2.2.2.1, .int), (z.2.2.2.2.2.2.1, .long)] A (Mw h0 z.1 z.2.1 z.2.2.1 z.2.2.2.1 z.2.2.2.2.1 z.2.2.2.2.2.1 z.2.2.2.2.2.2.1 (iniM z.2.2.2.2.2.2.2))) A) ([.ref h0].toArray) s 5 136 A) (F0 m 54 ls []) := by
    intro j
    induction j with
    | zero =>
      intro k hs1 ls H locs hk hl hP hD hS
      refine lv_iload_n hx hb d_M_init_54 rfl (lv_at hl 1 rfl) ?_
      refine lv_bipush (v := nI 8) hx hb d_M_init_55 (by decide) ?_
      refine lv_icmp_ge (tgt := 73) hx hb d_M_init_57 (by decide) (fun _ => ?_) (fun h9 => absurd ((nI_leI (by omega) (by omega)).mpr (by omega)) h9)
      refine lv_iconst (v := nI 0) hx hb d_M_init_73 (by decide) ?_
      refine lv_istore_n hx hb d_M_init_74 rfl hl (by decide) rfl (fun ls hl => ?_)
      have hl : lv_has ls 2 [(1, .int (nI 0)), (0, .ref h0)] := hl
      exact loop2 hs1 16 0 _ ls _ _ rfl (lv_sub hl [1, 0] rfl) hP hD hS rfl
    | succ j ih =>
      intro k hs1 ls H locs hk hl hP hD hS
      refine lv_iload_n hx hb d_M_init_54 rfl (lv_at hl 1 rfl) ?_
      refine lv_bipush (v := nI 8) hx hb d_M_init_55 (by decide) ?_
      refine lv_icmp_ge (tgt := 73) hx hb d_M_init_57 (by decide) (fun h9 => absurd h9 (fun q => absurd ((nI_leI (by omega) (by omega)).mp q) (by omega))) (fun _ => ?_)
      refine lv_aload_n hx hb d_M_init_60 rfl (lv_at hl 0 rfl) ?_
      refine va_get (D := (dC, dI)) (ci := 1) (v := .ref qh) (C := R_M) (T := F_M) (N := 15) hx hb hts lay_M hown hK hP 0 rfl rfl 13 (by decide) (hts _ m_283) (fun _ h9 => h9) rfl d_M_init_61 ?_
      refine lv_iload_n hx hb d_M_init_64 rfl (lv_at hl 1 rfl) ?_
      refine lv_lconst (v := 0) hx hb d_M_init_65 (by decide) ?_
      refine z_last hx hb hK hP hD hS 4 1 rfl rfl (by omega) (by decide) d_M_init_66 (fun H locs hP hD hS => ?_)
      have hP : va_P (dC, dI) classes (Mw h0 qd qs qv qh qn cI cJ ((fun _ => 0), 0, 1, 0, 0, false, -1, 0, false, 0, 0, (fun _ => 0), (fun _ => 0), vp_updL hs1 k (0 : Int64), (fun _ => 0))) H := hP
      have hD : va_D A (Mw h0 qd qs qv qh qn cI cJ ((fun _ => 0), 0, 1, 0, 0, false, -1, 0, false, 0, 0, (fun _ => 0), (fun _ => 0), vp_updL hs1 k (0 : Int64), (fun _ => 0))) := hD
      refine lv_iinc (k := 1) hx hb d_M_init_67 hl rfl (z_inc _ 1) (by decide) rfl (fun ls hl => ?_)
      have hl : lv_has ls 2 [(1, .int (nI (k + 1))), (0, .ref h0)] := hl
      refine lv_goto (tgt := 54) hx hb d_M_init_70 (by decide) ?_
      exact ih (k + 1) _ ls _ _ (by omega) (lv_sub hl [1, 0] rfl) hP hD hS
  refine lv_iconst (v := (0 : Int32)) hx hb d_M_init_52 (by decide) ?_
  refine lv_istore_n hx hb d_M_init_53 rfl hl (by decide) rfl (fun ls hl => ?_)
  have hl : lv_has ls 2 [(1, .int (0 : Int32)), (0, .ref h0)] := hl
  exact loop1 8 0 _ ls _ _ rfl (lv_sub hl [1, 0] rfl) hP hD hS
end
section
/-! The two states side by side: pure rows. -/
theorem z_sg64 (x : Int64) : x < 0 ↔ x.toBitVec.getLsbD 63 = true := by
  have h1 : x.toBitVec.msb = decide (x.toBitVec.toInt < 0) := BitVec.msb_eq_toInt
  have h2 : x.toBitVec.msb = x.toBitVec.getLsbD 63 := BitVec.msb_eq_getLsbD_last x.toBitVec
  rw [← h2, h1, Int64.lt_iff_toInt_lt]
  constructor
  · intro h; exact decide_eq_true h
  · intro h; exact of_decide_eq_true h
theorem z_sg32 (x : Int32) : x < 0 ↔ x.toBitVec.getLsbD 31 = true := by
  have h1 : x.toBitVec.msb = decide (x.toBitVec.toInt < 0) := BitVec.msb_eq_toInt
  have h2 : x.toBitVec.msb = x.toBitVec.getLsbD 31 := BitVec.msb_eq_getLsbD_last x.toBitVec
  rw [← h2, h1, Int32.lt_iff_toInt_lt]
  constructor
  · intro h; exact decide_eq_true h
  · intro h; exact of_decide_eq_true h
theorem z_join (a b : Int32) : joinW a b < 0 ↔ a < 0 := by
  rw [z_sg64, z_sg32]
  have e : (joinW a b).toBitVec.getLsbD 63 = a.toBitVec.getLsbD 31 := by
    show ((a.toBitVec.signExtend 64 <<< (((32 : Int32).toInt64 &&& 63).toBitVec.smod 64)) ||| (b.toBitVec.signExtend 64 &&& (4294967295 : Int64).toBitVec)).getLsbD 63 = _
    rw [show (((32 : Int32).toInt64 &&& 63).toBitVec.smod 64) = 32#64 by decide, BitVec.getLsbD_or, BitVec.getLsbD_and, show (4294967295 : Int64).toBitVec.getLsbD 63 = false by decide, Bool.and_false, Bool.or_false]
    show (a.toBitVec.signExtend 64 <<< (32#64).toNat).getLsbD 63 = _
    rw [show (32#64).toNat = 32 by decide, BitVec.getLsbD_shiftLeft, BitVec.getLsbD_signExtend]
    simp
  rw [e]
theorem lkp_c {ls ls2 : Nat → Int32} {lv lv2 : Nat → Int64} (s : Int32) : ∀ n, (∀ i, i < n → ls2 i = ls i ∧ lv2 i = lv i) → lkp ls2 lv2 s n = lkp ls lv s n := by
  intro n
  induction n with
  | zero => intro _; rfl
  | succ n ih =>
    intro h
    unfold lkp
    rw [(h n (by omega)).1, (h n (by omega)).2, ih (fun i hi => h i (by omega))]
theorem lkp_m {ls : Nat → Int32} {lv : Nat → Int64} {s : Int32} {v : Int64} : ∀ n, lkp ls lv s n = some v → ∃ i, i < n ∧ v = lv i := by
  intro n
  induction n with
  | zero => intro h; exact absurd h (by simp [lkp])
  | succ n ih =>
    intro h
    unfold lkp at h
    split at h
    · exact ⟨n, by omega, (Option.some.inj h).symm⟩
    · obtain ⟨i, hi, e⟩ := ih h
      exact ⟨i, by omega, e⟩
theorem vv (d : Nat → Int32) (h : Nat) (g rt : Int32) (n : Nat) (lq lq2 : Nat → Int32) (vq vq2 : Nat → Int64) (s : Nat) (hl : ∀ i, i < n → lq2 i = lq i ∧ vq2 i = vq i ∧ ¬ lg_cmp (vq i) 0 < 0) :
    (lg_cmp (vof d h g rt n lq vq s) 0 < 0 ∧ lg_cmp (vofM d h g rt n lq2 vq2 s) 0 < 0 ∧ vof d h g rt n lq vq s = -3) ∨ (¬ lg_cmp (vof d h g rt n lq vq s) 0 < 0 ∧ vofM d h g rt n lq2 vq2 s = vof d h g rt n lq vq s) := by
  unfold vof vofM
  rw [lkp_c (nI s) n (fun i hi => ⟨(hl i hi).1, (hl i hi).2.1⟩)]
  cases hk : lkp lq vq (nI s) n with
  | some v =>
    obtain ⟨i, hi, e⟩ := lkp_m n hk
    subst e
    exact Or.inr ⟨(hl i hi).2.2, rfl⟩
  | none =>
    show (lg_cmp (vlook d h g rt s) 0 < 0 ∧ lg_cmp (vlkM d h g rt s) 0 < 0 ∧ vlook d h g rt s = -3) ∨ (¬ lg_cmp (vlook d h g rt s) 0 < 0 ∧ vlkM d h g rt s = vlook d h g rt s)
    by_cases h1 : rabove d h g s = rt
    · by_cases h2 : enc (d (51 * h + 2 * s)) (nI (51 * h + 2 * s)) g < 0
      · have h3 : lg_cmp (vat d g (51 * h + 2 * s)) 0 < 0 := by rw [lg_cmp_lt]; exact (z_join _ _).mpr h2
        have e1 : vlook d h g rt s = -3 := by unfold vlook; rw [if_pos h1, if_neg (fun q => z_nn2 h3 q)]
        have e2 : vlkM d h g rt s = -1 := by unfold vlkM; rw [if_pos h1, if_pos h2]
        rw [e1, e2]
        exact Or.inl ⟨by decide, by decide, rfl⟩
      · have h3 : ¬ lg_cmp (vat d g (51 * h + 2 * s)) 0 < 0 := by rw [lg_cmp_lt]; exact fun q => h2 ((z_join _ _).mp q)
        have e1 : vlook d h g rt s = vat d g (51 * h + 2 * s) := by unfold vlook; rw [if_pos h1, if_pos (z_nn h3)]
        have e2 : vlkM d h g rt s = vat d g (51 * h + 2 * s) := by unfold vlkM; rw [if_pos h1, if_neg h2]
        rw [e1, e2]
        exact Or.inr ⟨h3, rfl⟩
    · have e1 : vlook d h g rt s = -3 := by unfold vlook; rw [if_neg h1]
      have e2 : vlkM d h g rt s = -1 := by unfold vlkM; rw [if_neg h1]
      rw [e1, e2]
      exact Or.inl ⟨by decide, by decide, rfl⟩
theorem sg_iff {a b : Int64} (h : (lg_cmp a 0 < 0 ∧ lg_cmp b 0 < 0 ∧ a = -3) ∨ (¬ lg_cmp a 0 < 0 ∧ b = a)) : lg_cmp a 0 < 0 ↔ lg_cmp b 0 < 0 := by
  rcases h with h | h
  · exact ⟨fun _ => h.2.1, fun _ => h.1⟩
  · rw [h.2]
theorem snd_sh : ∀ k, k < 8 → (1 : Int32) <<< (nI k &&& 31) = nI (2 ^ k) := by decide
theorem snd_or : ∀ k, k < 8 → ∀ a, a < 2 ^ k → nI a ||| nI (2 ^ k) = nI (a + 2 ^ k) := by decide +kernel
theorem snd_eq (f g : Nat → Int64) (h : ∀ k, k < 8 → (lg_cmp (f k) 0 < 0 ↔ lg_cmp (g k) 0 < 0)) : ∀ j k a, k + j = 8 → a < 2 ^ k → sndF f j k (nI a) = sndM g j k (nI a) := by
  intro j
  induction j with
  | zero => intro k a _ _; rfl
  | succ j ih =>
    intro k a hk ha
    have hp : 2 ^ (k + 1) = 2 ^ k * 2 := Nat.pow_succ ..
    unfold sndF sndM
    by_cases h1 : lg_cmp (f k) 0 < 0
    · rw [if_pos h1, if_pos ((h k (by omega)).mp h1)]
      exact ih (k + 1) a (by omega) (by omega)
    · rw [if_neg h1, if_neg (fun q => h1 ((h k (by omega)).mpr q)), snd_sh k (by omega), snd_or k (by omega) a ha, nI_add]
      exact ih (k + 1) (a + 2 ^ k) (by omega) (by omega)
theorem snd_255 (f : Nat → Int64) : ∀ j k a, k + j = 8 → a < 2 ^ k → (sndF f j k (nI a) = 255 ↔ (a = 2 ^ k - 1 ∧ ∀ i, k ≤ i → i < 8 → ¬ lg_cmp (f i) 0 < 0)) := by
  intro j
  induction j with
  | zero =>
    intro k a hk ha
    have h8 : k = 8 := by omega
    subst h8
    have e : sndF f 0 8 (nI a) = nI a := rfl
    rw [e]
    constructor
    · intro q
      have := (nI_eq (a := a) (b := 255) (by omega) (by decide)).mp q
      exact ⟨by omega, fun i h1 h2 => by omega⟩
    · intro q
      have : a = 255 := by omega
      subst this; rfl
  | succ j ih =>
    intro k a hk ha
    have hp : 2 ^ (k + 1) = 2 ^ k * 2 := Nat.pow_succ ..
    have hp0 : 0 < 2 ^ k := Nat.two_pow_pos k
    unfold sndF
    by_cases h1 : lg_cmp (f k) 0 < 0
    · rw [if_pos h1, ih (k + 1) a (by omega) (by omega)]
      constructor
      · intro q; omega
      · intro q; exact absurd h1 (q.2 k (by omega) (by omega))
    · rw [if_neg h1, snd_sh k (by omega), nI_add, ih (k + 1) (a + 2 ^ k) (by omega) (by omega)]
      constructor
      · intro q
        refine ⟨by omega, fun i h2 h3 => ?_⟩
        by_cases e : i = k
        · subst e; exact h1
        · exact q.2 i (by omega) h3
      · intro q
        exact ⟨by omega, fun i h2 h3 => q.2 i (by omega) h3⟩
theorem alB_iff (g : Nat → Int64) : ∀ j k b, (alB g j k b = true ↔ (b = true ∧ ∀ i, k ≤ i → i < k + j → ¬ lg_cmp (g i) 0 < 0)) := by
  intro j
  induction j with
  | zero => intro k b; exact ⟨fun q => ⟨q, fun i h1 h2 => by omega⟩, fun q => q.1⟩
  | succ j ih =>
    intro k b
    unfold alB
    rw [ih (k + 1)]
    constructor
    · intro q
      have q1 : b = true ∧ ¬ lg_cmp (g k) 0 < 0 := by simpa using q.1
      refine ⟨q1.1, fun i h2 h3 => ?_⟩
      by_cases e : i = k
      · subst e; exact q1.2
      · exact q.2 i (by omega) (by omega)
    · intro q
      refine ⟨by simp [q.1, q.2 k (by omega) (by omega)], fun i h2 h3 => q.2 i (by omega) (by omega)⟩
theorem all_iff (f g : Nat → Int64) (h : ∀ k, k < 8 → (lg_cmp (f k) 0 < 0 ↔ lg_cmp (g k) 0 < 0)) : sndF f 8 0 0 = 255 ↔ alB g 8 0 true = true := by
  rw [alB_iff]
  have e := snd_255 f 8 0 0 rfl (by decide)
  have e0 : sndF f 8 0 (nI 0) = sndF f 8 0 0 := rfl
  rw [← e0, e]
  constructor
  · intro q; exact ⟨rfl, fun i h1 h2 q2 => q.2 i h1 (by omega) ((h i (by omega)).mpr q2)⟩
  · intro q; exact ⟨rfl, fun i h1 h2 q2 => q.2 i h1 (by omega) ((h i h2).mp q2)⟩
/-- the journal -/
theorem tj_g (d : Nat → Int32) (h : Nat) (g x0 : Int32) (n1 : Nat) (lq1 : Nat → Int32) (vq1 : Nat → Int64) (ch1 : Int32) : ∀ (j k : Nat) (lq : Nat → Int32) (vq : Nat → Int64), tj d h g j k lq vq (chM d h k 0 x0) = (n1, lq1, vq1, ch1) →
    gct d h g x0 j k = n1 ∧ ch1 = chM d h n1 0 x0 ∧ (∀ i, i < k → lq1 i = lq i ∧ vq1 i = vq i) ∧
    (∀ i, k ≤ i → i < n1 → lq1 i = enc (d (51 * h + 31 + 4 * i)) (nI (51 * h + 31 + 4 * i)) g ∧ vq1 i = vat d g (51 * h + 31 + 4 * i + 1) ∧ ¬ lg_cmp (vat d g (51 * h + 31 + 4 * i + 1)) 0 < 0) := by
  intro j
  induction j with
  | zero =>
    intro k lq vq e
    unfold tj at e
    cases e
    exact ⟨rfl, rfl, fun i _ => ⟨rfl, rfl⟩, fun i h1 h2 => absurd h2 (by omega)⟩
  | succ j ih =>
    intro k lq vq e
    unfold tj at e
    unfold gct
    by_cases hg : jgood d h g (chM d h k 0 x0) k
    · rw [if_pos hg] at e
      rw [if_pos hg]
      rw [← chM_s] at e
      obtain ⟨a1, a2, a3, a4⟩ := ih (k + 1) _ _ e
      refine ⟨a1, a2, fun i hi => ?_, fun i h1 h2 => ?_⟩
      · have q := a3 i (by omega)
        rw [pk_un (by omega), pk_uLn (by omega)] at q
        exact q
      · by_cases ei : i = k
        · subst ei
          have q := a3 i (by omega)
          rw [pk_us, pk_uLs] at q
          exact ⟨q.1, q.2, z_nn4 hg.2.2⟩
        · exact a4 i (by omega) h2
    · rw [if_neg hg] at e
      rw [if_neg hg]
      cases e
      exact ⟨rfl, rfl, fun i _ => ⟨rfl, rfl⟩, fun i h1 h2 => absurd h2 (by omega)⟩
/-- what a sector has, on two disks that agree on its half -/
abbrev Agr (h : Nat) (d d0 : Nat → Int32) : Prop := ∀ i, 51 * h ≤ i → i < 51 * h + 51 → d i = d0 i
theorem rup_c {h : Nat} {d d0 : Nat → Int32} (ha : Agr h d d0) : ∀ (f k : Nat) (x : Int32), k < 16 → rup d h f k x = rup d0 h f k x := by
  intro f
  induction f with
  | zero => intro k x _; rfl
  | succ f ih =>
    intro k x hk
    have hx1 : k ^^^ 1 < 16 := Nat.xor_lt_two_pow (n := 4) hk (by decide)
    unfold rup
    rw [ha (51 * h + 15 + (k ^^^ 1)) (by omega) (by omega), ih (k / 2) _ (by omega)]
theorem vof_c {h : Nat} {d d0 : Nat → Int32} (ha : Agr h d d0) (g rt : Int32) (n : Nat) (lq : Nat → Int32) (vq : Nat → Int64) {s : Nat} (hs : s < 8) : vof d h g rt n lq vq s = vof d0 h g rt n lq vq s := by
  have e1 : rabove d h g s = rabove d0 h g s := by
    unfold rabove
    rw [rup_c ha _ _ _ (by omega), due_leaf, due_leaf, ha (51 * h + 2 * s) (by omega) (by omega), ha (51 * h + 2 * s + 1) (by omega) (by omega)]
  have e2 : vat d g (51 * h + 2 * s) = vat d0 g (51 * h + 2 * s) := by
    unfold vat
    rw [ha (51 * h + 2 * s) (by omega) (by omega), ha (51 * h + 2 * s + 1) (by omega) (by omega)]
  unfold vof vlook
  rw [e1, e2]
theorem wr1_d {q : Bool × M3} {p : Nat} {w : Int32} (h : (wr1 q p w).1 = true) : q.1 = true ∧ (wr1 q p w).2.1 = upd q.2.1 p w := by
  obtain ⟨_ | _, d0, sl0, sm0⟩ := q
  · exact absurd h (by simp [wr1])
  · by_cases h0 : sl0 = 0
    · rw [wr1_0 h0] at h; exact absurd h (by simp)
    · rw [wr1_1 h0]; exact ⟨rfl, rfl⟩
theorem Ag_wr {h : Nat} {d0 : Nat → Int32} {q : Bool × M3} (hq : q.1 = true → Agr h q.2.1 d0) {p : Nat} (hp : p < 51 * h ∨ 51 * h + 51 ≤ p) (w : Int32) : (wr1 q p w).1 = true → Agr h (wr1 q p w).2.1 d0 := by
  intro ht i h1 h2
  obtain ⟨a, b⟩ := wr1_d ht
  rw [b, pk_un (by omega)]
  exact hq a i h1 h2
theorem Ag_cl {h o : Nat} (ho : o = 1 - h) (hh : h < 2) {d0 : Nat → Int32} : ∀ (j k : Nat) (q : Bool × M3), k + j = 5 → (q.1 = true → Agr h q.2.1 d0) → ((clM o j k q).1 = true → Agr h (clM o j k q).2.1 d0) := by
  intro j
  induction j with
  | zero => intro k q _ hq; exact hq
  | succ j ih =>
    intro k q hk hq
    exact ih (k + 1) _ (by omega) (Ag_wr (p := 51 * o + 31 + 4 * k + 3) hq (by rcases (show h = 0 ∨ h = 1 by omega) with e | e <;> subst e <;> omega) 0)
theorem Ag_wv {h : Nat} {d0 : Nat → Int32} {q : Bool × M3} (hq : q.1 = true → Agr h q.2.1 d0) {p : Nat} (hp : p + 1 < 51 * h ∨ 51 * h + 51 ≤ p) (v : Int64) (g : Int32) : (wv1 q p v g).1 = true → Agr h (wv1 q p v g).2.1 d0 := by
  unfold wv1
  exact Ag_wr (Ag_wr hq (by omega) _) (by omega) _
theorem ssF_e {h o : Nat} (ho : o = 1 - h) (hh : h < 2) {d0 : Nat → Int32} {f : (Nat → Int32) → Nat → Int64} {f' : Nat → Int64} (g : Int32) (hf : ∀ d k, Agr h d d0 → k < 8 → f d k = f' k) : ∀ (j k : Nat) (q : Bool × M3), k + j = 8 → (q.1 = true → Agr h q.2.1 d0) → ssF f o g j k q = ssF (fun _ k => f' k) o g j k q := by
  intro j
  induction j with
  | zero => intro k q _ _; rfl
  | succ j ih =>
    intro k q hk hq
    unfold ssF
    have e : wv1 q (51 * o + 2 * k) (f q.2.1 k) g = wv1 q (51 * o + 2 * k) (f' k) g := by
      obtain ⟨_ | _, d, sl, sm⟩ := q
      · rw [wv1_f, wv1_f]
      · rw [hf d k (hq rfl) (by omega)]
    rw [e]
    exact ih (k + 1) _ (by omega) (Ag_wv (p := 51 * o + 2 * k) hq (by rcases (show h = 0 ∨ h = 1 by omega) with e | e <;> subst e <;> omega) _ _)
/-- the nodes of a half by its sectors' words -/
abbrev Nds (d : Nat → Int32) (h : Nat) (g : Int32) (nd : Nat → Int32) : Prop :=
  (∀ s, s < 8 → nd (8 + s) = dg (dg (8 * g + nI s) (d (51 * h + 2 * s))) (d (51 * h + 2 * s + 1))) ∧ (∀ i, 1 ≤ i → i ≤ 7 → nd i = dg (nd (2 * i)) (nd (2 * i + 1)))
theorem ndA_v (d : Nat → Int32) (h : Nat) (g : Int32) : ∀ (j k : Nat) (n : Nat → Int32), k + j = 8 → (∀ s, s < k → n (8 + s) = dg (dg (8 * g + nI s) (d (51 * h + 2 * s))) (d (51 * h + 2 * s + 1))) → ∀ s, s < 8 → ndA d h g j k n (8 + s) = dg (dg (8 * g + nI s) (d (51 * h + 2 * s))) (d (51 * h + 2 * s + 1)) := by
  intro j
  induction j with
  | zero => intro k n hk hn s hs; exact hn s (by omega)
  | succ j ih =>
    intro k n hk hn
    refine ih (k + 1) _ (by omega) (fun s hs => ?_)
    by_cases e : s = k
    · subst e; rw [pk_us]
    · rw [pk_un (by omega)]; exact hn s (by omega)
theorem ndB_hi : ∀ (k : Nat) (n : Nat → Int32) (i : Nat), k < i → ndB k n i = n i := by
  intro k
  induction k with
  | zero => intro n i _; rfl
  | succ k ih =>
    intro n i hi
    unfold ndB
    rw [ih _ i (by omega), pk_un (by omega)]
theorem ndB_v : ∀ (k : Nat) (n : Nat → Int32) (i : Nat), 1 ≤ i → i ≤ k → ndB k n i = dg (ndB k n (2 * i)) (ndB k n (2 * i + 1)) := by
  intro k
  induction k with
  | zero => intro n i h1 h2; omega
  | succ k ih =>
    intro n i h1 h2
    unfold ndB
    by_cases e : i = k + 1
    · subst e
      rw [ndB_hi k _ (k + 1) (by omega), ndB_hi k _ (2 * (k + 1)) (by omega), ndB_hi k _ (2 * (k + 1) + 1) (by omega), pk_us, pk_un (by omega), pk_un (by omega)]
    · exact ih _ i h1 (by omega)
theorem nds_ok (d : Nat → Int32) (h : Nat) (g : Int32) (n : Nat → Int32) : Nds d h g (ndB 7 (ndA d h g 8 0 n)) := by
  refine ⟨fun s hs => ?_, fun i h1 h2 => ndB_v 7 _ i h1 h2⟩
  rw [ndB_hi 7 _ (8 + s) (by omega)]
  exact ndA_v d h g 8 0 n rfl (fun s hs => by omega) s hs
theorem due_nd {d d2 nd : Nat → Int32} {h : Nat} {g : Int32} (hn : Nds d2 h g nd) {k : Nat} (h1 : 1 ≤ k) (h2 : k ≤ 15) (hs : ∀ i, i < 16 → d (51 * h + i) = d2 (51 * h + i)) (hk : ∀ i, k < i → i ≤ 15 → d (51 * h + 15 + i) = nd i) : due d h k g = nd k := by
  by_cases h8 : 8 ≤ k
  · obtain ⟨s, rfl⟩ : ∃ s, k = 8 + s := ⟨k - 8, by omega⟩
    rw [due_leaf, hs (2 * s) (by omega), show 51 * h + 2 * s + 1 = 51 * h + (2 * s + 1) by omega, hs (2 * s + 1) (by omega), hn.1 s (by omega)]
    rfl
  · unfold due
    rw [if_neg h8, hk (2 * k) (by omega) (by omega), hk (2 * k + 1) (by omega) (by omega), ← hn.2 k h1 (by omega)]
theorem snF_e {d2 nd : Nat → Int32} {h : Nat} {g : Int32} (hn : Nds d2 h g nd) : ∀ (k : Nat) (q : Bool × M3), k ≤ 15 → (q.1 = true → (∀ i, i < 16 → q.2.1 (51 * h + i) = d2 (51 * h + i)) ∧ (∀ i, k < i → i ≤ 15 → q.2.1 (51 * h + 15 + i) = nd i)) →
    snF h g k q = msn nd h k q ∧ ((snF h g k q).1 = true → ∀ i, 1 ≤ i → i ≤ 15 → (snF h g k q).2.1 (51 * h + 15 + i) = nd i) := by
  intro k
  induction k with
  | zero => intro q _ hq; exact ⟨rfl, fun ht i h1 h2 => (hq ht).2 i (by omega) h2⟩
  | succ k ih =>
    intro q hk hq
    unfold snF msn
    have e : wr1 q (51 * h + 15 + (k + 1)) (due q.2.1 h (k + 1) g) = wr1 q (51 * h + 15 + (k + 1)) (nd (k + 1)) := by
      obtain ⟨_ | _, d, sl, sm⟩ := q
      · rw [wr1_f, wr1_f]
      · have hq' := hq rfl
        rw [due_nd hn (by omega) hk hq'.1 hq'.2]
    rw [e]
    refine ih _ (by omega) (fun ht => ?_)
    obtain ⟨a, b⟩ := wr1_d ht
    have hq' := hq a
    rw [b]
    refine ⟨fun i hi => ?_, fun i h1 h2 => ?_⟩
    · rw [pk_un (by omega)]; exact hq'.1 i hi
    · by_cases ei : i = k + 1
      · subst ei; rw [pk_us]
      · rw [pk_un (by omega)]; exact hq'.2 i (by omega) h2
/-- a record -/
theorem sr_e (q : Bool × M3) (p : Nat) (x : Int32) (v : Int64) (g ch : Int32) : srC q p (enc x (nI p) g) v g ch = srM q p x v g ch ∧
    ((srC q p (enc x (nI p) g) v g ch).1 = true → chn ch (wv1 (wr1 q p (enc x (nI p) g)) (p + 1) v g).2.1 p = dg (dg (dg ch (enc x (nI p) g)) (enc (hiW v) (nI (p + 1)) g)) (enc (loW v) (nI (p + 2)) g)) := by
  have key : (wv1 (wr1 q p (enc x (nI p) g)) (p + 1) v g).1 = true → chn ch (wv1 (wr1 q p (enc x (nI p) g)) (p + 1) v g).2.1 p = dg (dg (dg ch (enc x (nI p) g)) (enc (hiW v) (nI (p + 1)) g)) (enc (loW v) (nI (p + 2)) g) := by
    intro ht
    unfold wv1 at ht ⊢
    obtain ⟨a1, b1⟩ := wr1_d ht
    obtain ⟨a2, b2⟩ := wr1_d a1
    obtain ⟨a3, b3⟩ := wr1_d a2
    unfold chn
    rw [b1, b2, b3]
    rw [pk_un (k := p + 1 + 1) (j := p) (by omega), pk_un (k := p + 1) (j := p) (by omega), pk_us, pk_un (k := p + 1 + 1) (j := p + 1) (by omega), pk_us, show p + 2 = p + 1 + 1 by omega, pk_us]
  refine ⟨?_, fun ht => key (wr1_d ht).1⟩
  unfold srC srM
  generalize hQ : wv1 (wr1 q p (enc x (nI p) g)) (p + 1) v g = Q at key ⊢
  have hQ2 : wr1 (wr1 (wr1 q p (enc x (nI p) g)) (p + 1) (enc (hiW v) (nI (p + 1)) g)) (p + 2) (enc (loW v) (nI (p + 2)) g) = Q := hQ
  rw [hQ2]
  obtain ⟨_ | _, d, sl, sm⟩ := Q
  · rw [wr1_f, wr1_f]
  · rw [key rfl]
end
section
/-! Call by call: the answers are the same, and the states stay side by side. n: the generation is at most n. -/
def RelP (hf : Nat) (gn : Int32) (pw : Bool) (ln : Nat) (lq : Nat → Int32) (vq : Nat → Int64) (ch lk : Int32) (lq2 : Nat → Int32) (vq2 : Nat → Int64) (n : Nat) : Prop :=
  hf < 2 ∧ ln ≤ 5 ∧ (∃ g, g ≤ n ∧ gn = nI g) ∧ (pw = true → lk = ch) ∧ (∀ i, i < ln → lq2 i = lq i ∧ vq2 i = vq i ∧ ¬ lg_cmp (vq i) 0 < 0)
def Rl (u1 : XS) (u2 : MS) (n : Nat) : Prop :=
  ∃ (dk : Nat → Int32) (hf : Nat) (gn rt ct sl sm : Int32) (pw : Bool) (ln : Nat) (lq : Nat → Int32) (vq : Nat → Int64) (ch : Int32) (cu : Bool) (lk : Int32) (lq2 : Nat → Int32) (vq2 hs : Nat → Int64) (nd : Nat → Int32),
    u1 = (dk, hf, gn, rt, ct, sl, sm, pw, ln, lq, vq, ch) ∧ u2 = (dk, hf, gn, rt, ct, pw, sl, sm, cu, ln, lk, lq2, vq2, hs, nd) ∧ RelP hf gn pw ln lq vq ch lk lq2 vq2 n
section ZS
variable {dk : Nat → Int32} {hf : Nat} {gn rt ct sl sm : Int32} {pw : Bool} {ln : Nat} {lq : Nat → Int32} {vq : Nat → Int64} {ch : Int32} {cu : Bool} {lk : Int32} {lq2 : Nat → Int32} {vq2 hs : Nat → Int64} {nd : Nat → Int32} {n : Nat} {r r0 r1 r2 : Int32} {u1 : XS} {u2 : MS}
theorem Rl_mk (h : RelP hf gn pw ln lq vq ch lk lq2 vq2 n) : Rl (dk, hf, gn, rt, ct, sl, sm, pw, ln, lq, vq, ch) (dk, hf, gn, rt, ct, pw, sl, sm, cu, ln, lk, lq2, vq2, hs, nd) n :=
  ⟨_, _, _, _, _, _, _, _, _, _, _, _, _, _, _, _, _, _, rfl, rfl, h⟩
theorem RelP_up (h : RelP hf gn pw ln lq vq ch lk lq2 vq2 n) : RelP hf gn pw ln lq vq ch lk lq2 vq2 (n + 1) := by
  obtain ⟨a, b, ⟨g, hg, e⟩, c, d⟩ := h
  exact ⟨a, b, ⟨g, by omega, e⟩, c, d⟩
theorem RelP_off {lq' lq2' : Nat → Int32} {vq' vq2' : Nat → Int64} {ch' lk' : Int32} (h : RelP hf gn pw ln lq vq ch lk lq2 vq2 n) : RelP hf gn false 0 lq' vq' ch' lk' lq2' vq2' (n + 1) := by
  obtain ⟨a, b, ⟨g, hg, e⟩, c, d⟩ := h
  exact ⟨a, by omega, ⟨g, by omega, e⟩, fun q => absurd q (by decide), fun i hi => absurd hi (by omega)⟩
theorem rl_mount (h : RelP hf gn pw ln lq vq ch lk lq2 vq2 n)
    (hx : ∃ (n1 : Nat) (lq1 : Nat → Int32) (vq1 : Nat → Int64) (ch1 : Int32), tj dk hf gn 5 0 lq vq (dg (dg 19088743 rt) gn) = (n1, lq1, vq1, ch1) ∧ n1 ≤ 5 ∧ ((ct ≤ nI n1 ∧ r1 = nI n1 ∧ u1 = (dk, hf, gn, rt, ct, sl, sm, true, n1, lq1, vq1, ch1)) ∨ (¬ ct ≤ nI n1 ∧ r1 = -3 ∧ u1 = (dk, hf, gn, rt, ct, sl, sm, false, 0, lq1, vq1, 0))))
    (hm : ∃ (n1 : Nat), gct dk hf gn (dg (dg 19088743 rt) gn) 5 0 = n1 ∧ n1 ≤ 5 ∧ ((ct ≤ nI n1 ∧ r2 = nI n1 ∧ ∃ (lq1 : Nat → Int32) (vq1 : Nat → Int64), (∀ i, i < n1 → lq1 i = enc (dk (51 * hf + 31 + 4 * i)) (nI (51 * hf + 31 + 4 * i)) gn ∧ vq1 i = vat dk gn (51 * hf + 31 + 4 * i + 1)) ∧ u2 = (dk, hf, gn, rt, ct, true, sl, sm, cu, n1, chM dk hf n1 0 (dg (dg 19088743 rt) gn), lq1, vq1, hs, nd)) ∨ (¬ ct ≤ nI n1 ∧ r2 = -3 ∧ u2 = (dk, hf, gn, rt, ct, false, sl, sm, cu, 0, lk, lq2, vq2, hs, nd)))) :
    r1 = r2 ∧ Rl u1 u2 (n + 1) := by
  obtain ⟨n1, lq1, vq1, ch1, e1, b1, c1⟩ := hx
  obtain ⟨m1, e2, b2, c2⟩ := hm
  obtain ⟨a1, a2, _, a4⟩ := tj_g dk hf gn (dg (dg 19088743 rt) gn) n1 lq1 vq1 ch1 5 0 lq vq e1
  have em : m1 = n1 := e2.symm.trans a1
  subst em
  rcases c1 with ⟨p1, rfl, rfl⟩ | ⟨p1, rfl, rfl⟩
  · rcases c2 with ⟨p2, rfl, lq3, vq3, p3, rfl⟩ | ⟨p2, rfl, rfl⟩
    · obtain ⟨x1, x2, ⟨g, hg, e⟩, x3, x4⟩ := h
      refine ⟨rfl, Rl_mk ⟨x1, b1, ⟨g, by omega, e⟩, fun _ => a2.symm, fun i hi => ?_⟩⟩
      have q := a4 i (by omega) hi
      exact ⟨(p3 i hi).1.trans q.1.symm, (p3 i hi).2.trans q.2.1.symm, by rw [q.2.1]; exact q.2.2⟩
    · exact absurd p1 p2
  · rcases c2 with ⟨p2, rfl, lq3, vq3, p3, rfl⟩ | ⟨p2, rfl, rfl⟩
    · exact absurd p2 p1
    · exact ⟨rfl, Rl_mk (RelP_off h)⟩
theorem rl_arm {x0 : Int32} (h : RelP hf gn pw ln lq vq ch lk lq2 vq2 n)
    (hx : (0 ≤ x0 ∧ r1 = 1 ∧ u1 = (dk, hf, gn, rt, ct, x0, sm, pw, ln, lq, vq, ch)) ∨ (¬ 0 ≤ x0 ∧ r1 = 0 ∧ u1 = (dk, hf, gn, rt, ct, sl, sm, pw, ln, lq, vq, ch)))
    (hm : (0 ≤ x0 ∧ r2 = 1 ∧ u2 = (dk, hf, gn, rt, ct, pw, x0, sm, cu, ln, lk, lq2, vq2, hs, nd)) ∨ (¬ 0 ≤ x0 ∧ r2 = 0 ∧ u2 = (dk, hf, gn, rt, ct, pw, sl, sm, cu, ln, lk, lq2, vq2, hs, nd))) :
    r1 = r2 ∧ Rl u1 u2 (n + 1) := by
  rcases hx with ⟨p1, rfl, rfl⟩ | ⟨p1, rfl, rfl⟩
  · rcases hm with ⟨p2, rfl, rfl⟩ | ⟨p2, rfl, rfl⟩
    · exact ⟨rfl, Rl_mk (RelP_up h)⟩
    · exact absurd p1 p2
  · rcases hm with ⟨p2, rfl, rfl⟩ | ⟨p2, rfl, rfl⟩
    · exact absurd p2 p1
    · exact ⟨rfl, Rl_mk (RelP_up h)⟩
theorem rl_sync (h : RelP hf gn pw ln lq vq ch lk lq2 vq2 n)
    (hx : (pw = false ∧ r1 = -1 ∧ u1 = (dk, hf, gn, rt, ct, sl, sm, pw, ln, lq, vq, ch)) ∨ (pw = true ∧ sl = 0 ∧ r1 = -4 ∧ u1 = (dk, hf, gn, rt, ct, -1, sm, false, 0, lq, vq, 0)) ∨ (pw = true ∧ ¬ sl = 0 ∧ r1 = nI ln ∧ u1 = (dk, hf, gn, rt, nI ln, dec1 sl, sm + 1, pw, ln, lq, vq, ch)))
    (hm : (pw = false ∧ r2 = -1 ∧ u2 = (dk, hf, gn, rt, ct, pw, sl, sm, cu, ln, lk, lq2, vq2, hs, nd)) ∨ (pw = true ∧ ∃ (d1 : Nat → Int32) (sl1 sm1 : Int32), (st1 (true, (dk, sl, sm)) = (true, (d1, sl1, sm1)) ∧ r2 = nI ln ∧ u2 = (d1, hf, gn, rt, nI ln, true, sl1, sm1, false, ln, lk, lq2, vq2, hs, nd)) ∨ (st1 (true, (dk, sl, sm)) = (false, (d1, sl1, sm1)) ∧ r2 = -4 ∧ u2 = (d1, hf, gn, rt, ct, false, sl1, sm1, true, 0, lk, lq2, vq2, hs, nd)))) :
    r1 = r2 ∧ Rl u1 u2 (n + 1) := by
  rcases hx with ⟨p1, rfl, rfl⟩ | ⟨p1, p2, rfl, rfl⟩ | ⟨p1, p2, rfl, rfl⟩
  · subst p1
    rcases hm with ⟨_, rfl, rfl⟩ | ⟨q1, _⟩
    · exact ⟨rfl, Rl_mk (RelP_up h)⟩
    · exact absurd q1 (by decide)
  · subst p1
    rcases hm with ⟨q1, _⟩ | ⟨_, d1, sl1, sm1, ⟨e, rfl, rfl⟩ | ⟨e, rfl, rfl⟩⟩
    · exact absurd q1 (by decide)
    · rw [st1_0 p2] at e; exact absurd (congrArg Prod.fst e) (by simp)
    · rw [st1_0 p2] at e
      cases e
      exact ⟨rfl, Rl_mk (RelP_off h)⟩
  · subst p1
    rcases hm with ⟨q1, _⟩ | ⟨_, d1, sl1, sm1, ⟨e, rfl, rfl⟩ | ⟨e, rfl, rfl⟩⟩
    · exact absurd q1 (by decide)
    · rw [st1_1 p2] at e
      cases e
      exact ⟨rfl, Rl_mk (RelP_up h)⟩
    · rw [st1_1 p2] at e; exact absurd (congrArg Prod.fst e) (by simp)
theorem rl_alter {x0 y0 : Int32} (h : RelP hf gn pw ln lq vq ch lk lq2 vq2 n)
    (hx : (isIn 102 x0 = 0 ∧ r1 = 0 ∧ u1 = (dk, hf, gn, rt, ct, sl, sm, pw, ln, lq, vq, ch)) ∨ (¬ isIn 102 x0 = 0 ∧ r1 = 1 ∧ u1 = (upd dk x0.toNatClampNeg (dk x0.toNatClampNeg ^^^ y0), hf, gn, rt, ct, sl, sm, pw, ln, lq, vq, ch)))
    (hm : (isIn 102 x0 = 0 ∧ r2 = 0 ∧ u2 = (dk, hf, gn, rt, ct, pw, sl, sm, cu, ln, lk, lq2, vq2, hs, nd)) ∨ (¬ isIn 102 x0 = 0 ∧ r2 = 1 ∧ u2 = (upd dk x0.toNatClampNeg (dk x0.toNatClampNeg ^^^ y0), hf, gn, rt, ct, pw, sl, sm, cu, ln, lk, lq2, vq2, hs, nd))) :
    r1 = r2 ∧ Rl u1 u2 (n + 1) := by
  rcases hx with ⟨p1, rfl, rfl⟩ | ⟨p1, rfl, rfl⟩
  · rcases hm with ⟨p2, rfl, rfl⟩ | ⟨p2, rfl, rfl⟩
    · exact ⟨rfl, Rl_mk (RelP_up h)⟩
    · exact absurd p1 p2
  · rcases hm with ⟨p2, rfl, rfl⟩ | ⟨p2, rfl, rfl⟩
    · exact absurd p2 p1
    · exact ⟨rfl, Rl_mk (RelP_up h)⟩
theorem rl_sg (h : RelP hf gn pw ln lq vq ch lk lq2 vq2 n) (d : Nat → Int32) (rt : Int32) (k : Nat) : lg_cmp (vof d hf gn rt ln lq vq k) 0 < 0 ↔ lg_cmp (vofM d hf gn rt ln lq2 vq2 k) 0 < 0 :=
  sg_iff (vv d hf gn rt ln lq lq2 vq vq2 k h.2.2.2.2)
theorem rl_read {x0 : Int32} {r1 r2 : Int64} (h : RelP hf gn pw ln lq vq ch lk lq2 vq2 n)
    (hx : r1 = (if pw = true then (if isIn 8 x0 = 0 then -2 else vof dk hf gn rt ln lq vq x0.toNatClampNeg) else -1))
    (hm : r2 = (if pw = true then (if isIn 8 x0 = 0 then -2 else (if lg_cmp (vofM dk hf gn rt ln lq2 vq2 x0.toNatClampNeg) 0 < 0 then -3 else vofM dk hf gn rt ln lq2 vq2 x0.toNatClampNeg)) else -1)) : r1 = r2 := by
  subst hx; subst hm
  by_cases h1 : pw = true
  · rw [if_pos h1, if_pos h1]
    by_cases h2 : isIn 8 x0 = 0
    · rw [if_pos h2, if_pos h2]
    · rw [if_neg h2, if_neg h2]
      rcases vv dk hf gn rt ln lq lq2 vq vq2 x0.toNatClampNeg h.2.2.2.2 with ⟨a, b, c⟩ | ⟨a, b⟩
      · rw [if_pos b, c]
      · rw [b, if_neg a]
  · rw [if_neg h1, if_neg h1]
theorem rl_sound (h : RelP hf gn pw ln lq vq ch lk lq2 vq2 n)
    (hx : r1 = (if pw = true then sndF (vof dk hf gn rt ln lq vq) 8 0 0 else -1)) (hm : r2 = (if pw = true then sndM (vofM dk hf gn rt ln lq2 vq2) 8 0 0 else -1)) : r1 = r2 := by
  have e : sndF (vof dk hf gn rt ln lq vq) 8 0 (nI 0) = sndM (vofM dk hf gn rt ln lq2 vq2) 8 0 (nI 0) := snd_eq _ _ (fun k _ => rl_sg h dk rt k) 8 0 0 rfl (by decide)
  rw [hx, hm]
  have e2 : sndF (vof dk hf gn rt ln lq vq) 8 0 0 = sndM (vofM dk hf gn rt ln lq2 vq2) 8 0 0 := e
  rw [e2]
theorem st1_d {q : Bool × M3} {d1 : Nat → Int32} {sl1 sm1 : Int32} (h : st1 q = (true, (d1, sl1, sm1))) : q.1 = true ∧ q.2.1 = d1 := by
  obtain ⟨_ | _, d0, sl0, sm0⟩ := q
  · exact absurd (congrArg Prod.fst h) (by simp [st1])
  · by_cases h0 : sl0 = 0
    · rw [st1_0 h0] at h; exact absurd (congrArg Prod.fst h) (by simp)
    · rw [st1_1 h0] at h; cases h; exact ⟨rfl, rfl⟩
theorem mq_e (f : Nat → Int64) (o : Nat) (g : Int32) (q : Bool × M3) (nd : Nat → Int32) : snF o g 15 (mQ2 f o g q) = mQ4 f o g q nd ∧ ((mQ4 f o g q nd).1 = true → ∀ i, 1 ≤ i → i ≤ 15 → (mQ4 f o g q nd).2.1 (51 * o + 15 + i) = mND f o g q nd i) := by
  have e := snF_e (d2 := (mQ2 f o g q).2.1) (nd := mND f o g q nd) (h := o) (g := g) (by unfold mND; exact nds_ok _ _ _ _) 15 (mQ2 f o g q) (by omega) (fun _ => ⟨fun i _ => rfl, fun i h1 h2 => by omega⟩)
  have e1 : snF o g 15 (mQ2 f o g q) = mQ4 f o g q nd := by unfold mQ4; exact e.1
  rw [e1] at e
  exact ⟨e1, e.2⟩
theorem rl_mv (h : RelP hf gn true ln lq vq ch lk lq2 vq2 n) (hx : mvF (dk, hf, gn, rt, ct, sl, sm, true, ln, lq, vq, ch) = (r1, u1)) (hm : chgP dk hf gn rt ct true sl sm ln lk lq2 vq2 hs nd r0 u2) :
    (((r0 = -3 ∧ r1 = -3) ∨ (r0 = -4 ∧ r1 = -4)) ∧ Rl u1 u2 (n + 1)) ∨
    (r0 = 0 ∧ r1 = gn + 1 ∧ ∃ (d1 : Nat → Int32) (rt1 sl1 sm1 ch1 : Int32) (hs1 : Nat → Int64) (nd1 : Nat → Int32), u1 = (d1, 1 - hf, gn + 1, rt1, 0, sl1, sm1, true, 0, lq, vq, ch1) ∧ u2 = (d1, 1 - hf, gn + 1, rt1, 0, true, sl1, sm1, false, 0, ch1, lq2, vq2, hs1, nd1)) := by
  have hsg : ∀ k, k < 8 → (lg_cmp (vof dk hf gn rt ln lq vq k) 0 < 0 ↔ lg_cmp (vofM dk hf gn rt ln lq2 vq2 k) 0 < 0) := fun k _ => rl_sg h dk rt k
  unfold mvF at hx
  simp only at hx
  rcases hm with ⟨ha, rfl, hs1, rfl⟩ | ⟨ha, hs1, nd1, d1, sl1, sm1, hn, hm⟩
  · have hne : ¬ sndF (vof dk hf gn rt ln lq vq) 8 0 0 = 255 := fun q => by rw [(all_iff _ _ hsg).mp q] at ha; cases ha
    rw [if_neg hne] at hx
    cases hx
    exact Or.inl ⟨Or.inl ⟨rfl, rfl⟩, Rl_mk (RelP_up h)⟩
  · have h255 := (all_iff _ _ hsg).mpr ha
    rw [if_pos h255] at hx
    have hall := ((alB_iff _ 8 0 true).mp ha).2
    have hnn : ∀ k, k < 8 → vofM dk hf gn rt ln lq2 vq2 k = vof dk hf gn rt ln lq vq k := fun k hk => by
      rcases vv dk hf gn rt ln lq lq2 vq vq2 k h.2.2.2.2 with ⟨a, b, c⟩ | ⟨a, b⟩
      · exact absurd b (hall k (by omega) (by omega))
      · exact b
    have e2 : ssF (fun d k => vof d hf gn rt ln lq vq k) (1 - hf) (gn + 1) 8 0 (clM (1 - hf) 5 0 (true, (dk, sl, sm))) = mQ2 (vofM dk hf gn rt ln lq2 vq2) (1 - hf) (gn + 1) (true, (dk, sl, sm)) :=
      ssF_e (h := hf) rfl h.1 (d0 := dk) (gn + 1) (fun d k ha hk => (vof_c ha gn rt ln lq vq hk).trans (hnn k hk).symm) 8 0 _ rfl (Ag_cl rfl h.1 5 0 _ rfl (fun _ i _ _ => rfl))
    obtain ⟨e3a, e3b⟩ := mq_e (vofM dk hf gn rt ln lq2 vq2) (1 - hf) (gn + 1) (true, (dk, sl, sm)) nd
    have e4 : cpC (true, (dk, sl, sm)) (fun d k => vof d hf gn rt ln lq vq k) (1 - hf) (gn + 1) = mQ4 (vofM dk hf gn rt ln lq2 vq2) (1 - hf) (gn + 1) (true, (dk, sl, sm)) nd := by
      unfold cpC; rw [e2]; exact e3a
    rw [e4] at hx
    rcases hm with ⟨e, rfl, rfl⟩ | ⟨e, rfl, lk1, rfl⟩
    · rw [e] at hx
      simp only at hx
      obtain ⟨ht, hd⟩ := st1_d e
      have hr : d1 (51 * (1 - hf) + 15 + 1) = nd1 1 := by
        rw [hn, ← hd]
        exact e3b ht 1 (by omega) (by omega)
      rw [hr] at hx
      obtain ⟨rfl, rfl⟩ := Prod.mk.inj hx
      exact Or.inr ⟨rfl, rfl, _, _, _, _, _, _, _, rfl, rfl⟩
    · rw [e] at hx
      simp only at hx
      cases hx
      exact Or.inl ⟨Or.inr ⟨rfl, rfl⟩, Rl_mk (RelP_off h)⟩
theorem rl_check (h : RelP hf gn pw ln lq vq ch lk lq2 vq2 n) (hn : n < 1000000)
    (hx : (pw = false ∧ r1 = -1 ∧ u1 = (dk, hf, gn, rt, ct, sl, sm, pw, ln, lq, vq, ch)) ∨ (pw = true ∧ mvF (dk, hf, gn, rt, ct, sl, sm, pw, ln, lq, vq, ch) = (r1, u1)))
    (hm : (pw = false ∧ r2 = -1 ∧ u2 = (dk, hf, gn, rt, ct, pw, sl, sm, cu, ln, lk, lq2, vq2, hs, nd)) ∨ (pw = true ∧ ∃ r0 : Int32, chgP dk hf gn rt ct true sl sm ln lk lq2 vq2 hs nd r0 u2 ∧ ((r0 = 0 ∧ r2 = gn + 1) ∨ (¬ r0 = 0 ∧ r2 = r0)))) :
    r1 = r2 ∧ Rl u1 u2 (n + 1) := by
  rcases hx with ⟨p1, rfl, rfl⟩ | ⟨p1, hx⟩
  · subst p1
    rcases hm with ⟨_, rfl, rfl⟩ | ⟨q1, _⟩
    · exact ⟨rfl, Rl_mk (RelP_up h)⟩
    · exact absurd q1 (by decide)
  · subst p1
    rcases hm with ⟨q1, _⟩ | ⟨_, r0, hc, hr⟩
    · exact absurd q1 (by decide)
    · rcases rl_mv h hx hc with ⟨hrr, hl⟩ | ⟨rfl, rfl, d1, rt1, sl1, sm1, ch1, hs1, nd1, rfl, rfl⟩
      · refine ⟨?_, hl⟩
        rcases hr with ⟨e, _⟩ | ⟨_, e⟩
        · subst e
          rcases hrr with ⟨a, _⟩ | ⟨a, _⟩ <;> exact absurd a (by decide)
        · subst e
          rcases hrr with ⟨a, b⟩ | ⟨a, b⟩ <;> rw [a, b]
      · rcases hr with ⟨_, e⟩ | ⟨e, _⟩
        · obtain ⟨x1, x2, ⟨g, hg, eg⟩, x3, x4⟩ := h
          exact ⟨e.symm, Rl_mk ⟨by omega, by omega, ⟨g + 1, by omega, by rw [eg, nI_succ]⟩, fun _ => rfl, fun i hi => absurd hi (by omega)⟩⟩
        · exact absurd rfl e
theorem rl_sr {x : Int32} {v : Int64} (h : RelP hf gn true ln lq vq ch lk lq2 vq2 n) (h5 : ln < 5) (hv : ¬ lg_cmp v 0 < 0) (hx : srF (dk, hf, gn, rt, ct, sl, sm, true, ln, lq, vq, ch) x v = (r1, u1)) (hm : srP dk hf gn rt ct true sl sm ln lk lq2 vq2 hs nd x v r2 u2) :
    r1 = r2 ∧ Rl u1 u2 (n + 1) := by
  have hlk : lk = ch := h.2.2.2.1 rfl
  subst hlk
  obtain ⟨e, ek⟩ := sr_e (true, (dk, sl, sm)) (51 * hf + 31 + 4 * ln) x v gn lk
  unfold srF at hx
  simp only at hx
  rw [e] at hx
  rw [e] at ek
  obtain ⟨d1, sl1, sm1, ⟨em, rfl, rfl⟩ | ⟨em, rfl, rfl⟩⟩ := hm
  · rw [em] at hx ek
    simp only at hx
    have ek := ek rfl
    rw [ek] at hx
    cases hx
    obtain ⟨x1, x2, ⟨g, hg, eg⟩, x3, x4⟩ := h
    refine ⟨rfl, Rl_mk ⟨x1, by omega, ⟨g, by omega, eg⟩, fun _ => rfl, fun i hi => ?_⟩⟩
    by_cases ei : i = ln
    · subst ei
      rw [pk_us, pk_us, pk_uLs, pk_uLs]
      exact ⟨rfl, rfl, hv⟩
    · rw [pk_un ei, pk_un ei, pk_uLn ei, pk_uLn ei]
      exact x4 i (by omega)
  · rw [em] at hx
    simp only at hx
    cases hx
    exact ⟨rfl, Rl_mk (RelP_off h)⟩
theorem rl_write {x0 : Int32} {v0 : Int64} (h : RelP hf gn pw ln lq vq ch lk lq2 vq2 n) (hn : n < 1000000)
    (hx : (r1, u1) = wrF (dk, hf, gn, rt, ct, sl, sm, pw, ln, lq, vq, ch) x0 v0)
    (hm : (pw = false ∧ r2 = -1 ∧ u2 = (dk, hf, gn, rt, ct, pw, sl, sm, cu, ln, lk, lq2, vq2, hs, nd)) ∨ (pw = true ∧ (isIn 8 x0 = 0 ∨ lg_cmp v0 0 < 0) ∧ r2 = -2 ∧ u2 = (dk, hf, gn, rt, ct, pw, sl, sm, cu, ln, lk, lq2, vq2, hs, nd)) ∨ (pw = true ∧ ¬ isIn 8 x0 = 0 ∧ ¬ lg_cmp v0 0 < 0 ∧ ((¬ ln = 5 ∧ srP dk hf gn rt ct true sl sm ln lk lq2 vq2 hs nd x0 v0 r2 u2) ∨ (ln = 5 ∧ ∃ (r0 : Int32) (u0 : MS), chgP dk hf gn rt ct true sl sm ln lk lq2 vq2 hs nd r0 u0 ∧ ((¬ r0 = 0 ∧ r2 = r0 ∧ u2 = u0) ∨ (r0 = 0 ∧ srQ u0 x0 v0 r2 u2)))))) :
    r1 = r2 ∧ Rl u1 u2 (n + 2) := by
  have up : ∀ {a : XS} {b : MS}, Rl a b (n + 1) → Rl a b (n + 2) := fun q => by
    obtain ⟨a1, a2, a3, a4, a5, a6, a7, a8, a9, a10, a11, a12, a13, a14, a15, a16, a17, a18, rfl, rfl, hq⟩ := q
    exact Rl_mk (RelP_up hq)
  unfold wrF at hx
  simp only at hx
  rcases hm with ⟨p1, rfl, rfl⟩ | ⟨p1, p2, rfl, rfl⟩ | ⟨p1, p2, p3, hm⟩
  · subst p1
    rw [if_neg (by decide)] at hx
    cases hx
    exact ⟨rfl, up (Rl_mk (RelP_up h))⟩
  · subst p1
    rw [if_pos rfl] at hx
    by_cases h8 : isIn 8 x0 = 0
    · rw [if_pos h8] at hx
      cases hx
      exact ⟨rfl, up (Rl_mk (RelP_up h))⟩
    · rw [if_neg h8] at hx
      rcases p2 with p2 | p2
      · exact absurd p2 h8
      · rw [if_neg (fun q => z_nn2 p2 q)] at hx
        cases hx
        exact ⟨rfl, up (Rl_mk (RelP_up h))⟩
  · subst p1
    rw [if_pos rfl, if_neg p2, if_pos (z_nn p3)] at hx
    rcases hm with ⟨h5, hm⟩ | ⟨h5, r0, u0, hc, hm⟩
    · have hl5 : ln < 5 := by have := h.2.1; omega
      rw [if_pos hl5] at hx
      obtain ⟨a, b⟩ := rl_sr h hl5 p3 hx.symm hm
      exact ⟨a, up b⟩
    · rw [if_neg (by omega)] at hx
      generalize hmv : mvF (dk, hf, gn, rt, ct, sl, sm, true, ln, lq, vq, ch) = z at hx
      obtain ⟨r3, u3⟩ := z
      simp only at hx
      rcases rl_mv h hmv hc with ⟨hrr, hl⟩ | ⟨rfl, rfl, d1, rt1, sl1, sm1, ch1, hs1, nd1, rfl, rfl⟩
      · have hneg : ¬ 0 ≤ r3 := by rcases hrr with ⟨_, b⟩ | ⟨_, b⟩ <;> rw [b] <;> decide
        rw [if_neg hneg] at hx
        cases hx
        rcases hm with ⟨_, rfl, rfl⟩ | ⟨e, _⟩
        · refine ⟨?_, up hl⟩
          rcases hrr with ⟨a, b⟩ | ⟨a, b⟩ <;> rw [a, b]
        · subst e
          rcases hrr with ⟨a, _⟩ | ⟨a, _⟩ <;> exact absurd a (by decide)
      · rcases hm with ⟨e, _⟩ | ⟨_, hm⟩
        · exact absurd rfl e
        · obtain ⟨x1, x2, ⟨g, hg, eg⟩, x3, x4⟩ := h
          have hpos : 0 ≤ gn + 1 := by rw [eg, ← nI_succ]; exact nI_pos' (by omega)
          rw [if_pos hpos] at hx
          have h2 : RelP (1 - hf) (gn + 1) true 0 lq vq ch1 ch1 lq2 vq2 (n + 1) := ⟨by omega, by omega, ⟨g + 1, by omega, by rw [eg, nI_succ]⟩, fun _ => rfl, fun i hi => absurd hi (by omega)⟩
          exact rl_sr h2 (by omega) p3 hx.symm hm
end ZS
/-- the new objects -/
theorem in1_e : ∀ (j k : Nat) (d : Nat → Int32), ini1 j k d = inM1 j k d := by
  intro j
  induction j with
  | zero => intro k d; rfl
  | succ j ih =>
    intro k d
    unfold ini1 inM1
    rw [ih, show enc 0 (nI k) 1 = dg (dg 19088743 1) (nI k) from Int32.zero_xor]
def dsn (nd : Nat → Int32) (h : Nat) : Nat → (Nat → Int32) → (Nat → Int32)
  | 0, d => d
  | k + 1, d => dsn nd h k (upd d (51 * h + 15 + (k + 1)) (nd (k + 1)))
theorem in2_e {d2 nd : Nat → Int32} (hn : Nds d2 0 1 nd) : ∀ (k : Nat) (d : Nat → Int32), k ≤ 15 → (∀ i, i < 16 → d (51 * 0 + i) = d2 (51 * 0 + i)) → (∀ i, k < i → i ≤ 15 → d (51 * 0 + 15 + i) = nd i) → ini2 k d = dsn nd 0 k d := by
  intro k
  induction k with
  | zero => intro d _ _ _; rfl
  | succ k ih =>
    intro d hk h1 h2
    unfold ini2 dsn
    rw [due_nd hn (by omega) hk h1 h2]
    refine ih _ (by omega) (fun i hi => ?_) (fun i h3 h4 => ?_)
    · rw [pk_un (by omega)]; exact h1 i hi
    · by_cases e : i = k + 1
      · subst e; rw [pk_us]
      · rw [pk_un (by omega)]; exact h2 i (by omega) h4
theorem dsn_v (nd : Nat → Int32) : ∀ (k : Nat) (d : Nat → Int32) (i : Nat), dsn nd 0 k d i = if 15 < i ∧ i ≤ 15 + k then nd (i - 15) else d i := by
  intro k
  induction k with
  | zero => intro d i; rw [if_neg (by omega)]; rfl
  | succ k ih =>
    intro d i
    unfold dsn
    rw [ih]
    by_cases e : i = 15 + (k + 1)
    · subst e
      rw [if_neg (by omega), if_pos (by omega), show 51 * 0 + 15 + (k + 1) = 15 + (k + 1) by omega, pk_us, show 15 + (k + 1) - 15 = k + 1 by omega]
    · rw [pk_un (by omega)]
      by_cases c : 15 < i ∧ i ≤ 15 + k
      · rw [if_pos c, if_pos (by omega)]
      · rw [if_neg c, if_neg (by omega)]
theorem im2_v (nd : Nat → Int32) : ∀ (j k : Nat) (d : Nat → Int32) (i : Nat), inM2 nd j k d i = if 15 + k ≤ i ∧ i < 15 + k + j then nd (i - 15) else d i := by
  intro j
  induction j with
  | zero => intro k d i; rw [if_neg (by omega)]; rfl
  | succ j ih =>
    intro k d i
    unfold inM2
    rw [ih]
    by_cases e : i = 15 + k
    · subst e
      rw [if_neg (by omega), if_pos (by omega), pk_us, show 15 + k - 15 = k by omega]
    · rw [pk_un (by omega)]
      by_cases c : 15 + (k + 1) ≤ i ∧ i < 15 + (k + 1) + j
      · rw [if_pos c, if_pos (by omega)]
      · rw [if_neg c, if_neg (by omega)]
theorem ini_nds : Nds (inM1 16 0 (fun _ => 0)) 0 1 iniN := nds_ok _ _ _ _
theorem iniD_e : iniD = iniMD := by
  unfold iniD iniMD
  rw [in1_e, in2_e ini_nds 15 _ (by omega) (fun _ _ => rfl) (fun i h1 h2 => by omega)]
  funext i
  rw [dsn_v, im2_v]
  by_cases c : 15 < i ∧ i ≤ 15 + 15
  · rw [if_pos c, if_pos (by omega)]
  · rw [if_neg c, if_neg (by omega)]
theorem iniR_e : iniD (51 * 0 + 15 + 1) = iniN 1 := by
  rw [iniD_e]
  unfold iniMD
  rw [im2_v, if_pos (by omega)]
theorem rl_init (hs : Nat → Int64) : Rl iniX (iniM hs) 1 := by
  unfold iniX iniM
  rw [iniR_e, iniD_e]
  exact Rl_mk ⟨by omega, by omega, ⟨1, by omega, rfl⟩, fun q => absurd q (by decide), fun i hi => absurd hi (by omega)⟩
end
section
/-! The law's own rows: two objects side by side. -/
section ZL
variable {p : Program} {l : Launch} {e : Env} {R : Room} {s : State} {m : MethodId} {args : Array Value} {below : List Frame} {meth : Method} {c : Code} {H : Heap} {locs : List Loc} {cells slots : Nat} {Q : State → Prop}
variable {cc : ByteArray} {pc : Nat} {ls : Array Slot} {rest st0 : List Value} {D : va_G} {cl : List vw_C} {A : Nat → Prop} {a : Nat} {tys : List (ClassId × FieldType)} {ws wc wr : va_W} {H0 : Heap} {av : Array Value}
theorem z_lawi {S : Type} {post : Int32 → S → Prop} {f : S → va_W} (isC isR : List Nat) (hr : va_Run p l e R s m args below meth c H locs cells slots 0 0 (F0 m pc ls st0) rest (va_Qi post (fun u => z_at D cl tys (va_A wc H.size) (f u)) (va_A wc H.size) av) (va_A wc H.size)) (hC : isC.map (fun i => ws[i]?) = wc.map some) (hR : isR.map (fun i => ws[i]?) = wr.map some) (hn : va_nd isR = true) (hdis : ∀ i ∈ isR, i ∉ isC)
    (hS : va_S A H0 H locs) (hP : va_P D cl ws H) (hD : va_D A ws) (hA : ∀ q, H0.size ≤ q → A q)
    (kk : ∀ (r : Int32) (u : S) (H1 : Heap) (locs1 : List Loc), post r u → va_P D cl (wr ++ f u) H1 → va_D A (wr ++ f u) → va_S A H0 H1 locs1 → W p l e R s m args below meth c H1 locs1 cells slots Q (F0 m (pc + 3) ls (.int r :: rest))) : W p l e R s m args below meth c H locs cells slots Q (F0 m pc ls st0) := by
  have hF := va_free hD hS hA isC hC
  refine va_calli hr hS (fun q _ h => hF q h) hF (fun r u t H1 locs1 ht hvm hp hB hz hk hS1 => ?_)
  obtain ⟨hP1, hK1, hD1⟩ := hB
  rw [ht] at hP1
  obtain ⟨hP2, hD2⟩ := va_join hP hD isC isR hC hR hn hdis hk hF hP1 hD1
  exact kk r u H1 locs1 hp hP2 hD2 hS1
theorem z_sld (hexec : p.tables.exec = Jvm.exec) (hb : c.code = cc) {b L : Nat} {xs : Nat → Int32} (hX : va_X b L xs s H0) (hbl : b < H0.size) (hbA : ¬ A b) (hS : va_S A H0 H locs) {j : Nat} (hj : j < L) (hL : L < 2 ^ 31) (hdg : decode cc pc = .ok (.iaload, 1))
    (kk : W p l e R s m args below meth c H locs cells slots Q (F0 m (pc + 1) ls (.int (xs j) :: rest))) : W p l e R s m args below meth c H locs cells slots Q (F0 m pc ls (.int (nI j) :: .ref b :: rest)) := by
  refine va_sld hexec hb hX hbl hbA hS (vp_in_nI hj hL) hdg ?_
  rw [nI_clamp (Nat.lt_trans hj hL)]
  exact kk
end ZL
theorem z_end {i L : Nat} (h : ¬ i + 4 ≤ L) (hL : L ≤ 2048) (hi : i ≤ 100000) : nI L - nI 4 < nI i := by
  rw [Int32.lt_iff_toInt_lt, pk_sub_toInt (by omega) (by omega), nI_toInt (by omega)]
  omega
theorem Rl_up {u1 : XS} {u2 : MS} {n : Nat} (q : Rl u1 u2 n) : Rl u1 u2 (n + 1) := by
  obtain ⟨a1, a2, a3, a4, a5, a6, a7, a8, a9, a10, a11, a12, a13, a14, a15, a16, a17, a18, rfl, rfl, hq⟩ := q
  exact Rl_mk (RelP_up hq)
end
section
set_option maxHeartbeats 1000000 in
set_option maxRecDepth 100000 in
theorem lw_case0 {p : Program} {l : Launch} {e : Env} {s : State} {m : MethodId} {below : List Frame} {meth : Method} {c : Code} {b L : Nat} {xs : Nat → Int32} (C0 : lw_At p s m meth c b L xs) (hL : L ≤ 2048) {dC : Nat → ClassId} {dI : Nat → Nat → Nat} {h0 qd qs qv : Nat} {cI cJ : ClassId} {h1 md ms mv mh mn : Nat} {cI2 cJ2 : ClassId} {A : Nat → Prop} (hbA : ¬ A b) (hA : ∀ q, s.heap.size ≤ q → A q) (hK : va_K (dC, dI) classes [(cI, .int), (cJ, .long), (cI2, .int), (cJ2, .long)] s) {i n : Nat} (hi : i + 4 ≤ L) (hn : n ≤ 100000) {u1 : XS} {u2 : MS} (hRl : Rl u1 u2 n) {ls : Array Slot} {H : Heap} {locs : List Loc} (hl : lv_has ls 4 [(0, .ref b), (1, .ref h0), (2, .ref h1), (3, .int (nI i))]) (hP : va_P (dC, dI) classes (Xw h0 qd qs qv cI cJ u1 ++ Mw h1 md ms mv mh mn cI2 cJ2 u2) H) (hD : va_D A (Xw h0 qd qs qv cI cJ u1 ++ Mw h1 md ms mv mh mn cI2 cJ2 u2)) (hS : va_S A s.heap H locs) (kk : ∀ (u1 : XS) (u2 : MS) (ls : Array Slot) (H : Heap) (locs : List Loc), Rl u1 u2 (n + 2) → lv_has ls 4 [(0, .ref b), (1, .ref h0), (2, .ref h1), (3, .int (nI i))] → va_P (dC, dI) classes (Xw h0 qd qs qv cI cJ u1 ++ Mw h1 md ms mv mh mn cI2 cJ2 u2) H → va_D A (Xw h0 qd qs qv cI cJ u1 ++ Mw h1 md ms mv mh mn cI2 cJ2 u2) → va_S A s.heap H locs → W p l e room_1 s m #[Value.ref b] below meth c H locs 10 275 (lw_Z below #[Value.ref b] s) (F0 m 380 ls [])) : W p l e room_1 s m #[Value.ref b] below meth c H locs 10 275 (lw_Z below #[Value.ref b] s) (F0 m 100 ls []) := by
  obtain ⟨hx, hb, hr, hml, hown, hts0, hX, hbl, hlocks, hgv⟩ := C0
  have hts := fun (w : Cond) (h : w ∈ lw_U) => hts0 w (List.mem_filter.mp h).1
  obtain ⟨dk, hf, gn, rt, ct, sl, sm, pw, ln, lq, vq, ch, cu, lk, lq2, vq2, hs, nd, rfl, rfl, hR⟩ := hRl
  have h_f := hR.1
  have h_n := hR.2.1
  refine lv_aload_n hx hb d_law_100 rfl (lv_at hl 1 rfl) ?_
  have hPc := hP.sub (ws' := Xw h0 qd qs qv cI cJ (dk, hf, gn, rt, ct, sl, sm, pw, ln, lq, vq, ch)) [0, 1, 2, 3] rfl
  have hDc := hD.sub (ws' := Xw h0 qd qs qv cI cJ (dk, hf, gn, rt, ct, sl, sm, pw, ln, lq, vq, ch)) [0, 1, 2, 3] (by decide) rfl
  have hKc := hK.sub (tys' := [(cI, .int), (cJ, .long)]) [0, 1] rfl
  refine z_lawi (wr := Mw h1 md ms mv mh mn cI2 cJ2 (dk, hf, gn, rt, ct, pw, sl, sm, cu, ln, lk, lq2, vq2, hs, nd)) [0, 1, 2, 3] [4, 5, 6, 7, 8, 9] (va_runV (C := R_X) (b := h0) (As := []) (rest := []) ⟨hx, hb, hml, hown, hts⟩ (c_mount l dC dI h0 qd qs qv cI cJ _ dk hf gn rt ct sl sm pw ln lq vq ch  (by omega)) (cwV 0 hts g_law_13 rfl rfl rfl (by decide +kernel) ⟨(Nat.le_of_ble_eq_true rfl), (Nat.le_of_ble_eq_true rfl)⟩) (z_preV (va_recv (q0 := 0) hKc hPc rfl rfl) hPc hKc hDc) rfl rfl hl.1 rfl (lv_room (Nat.le_of_ble_eq_true rfl)) d_law_101 ⟨(Nat.le_of_ble_eq_true rfl), (Nat.le_of_ble_eq_true rfl)⟩) rfl rfl (by decide) (by decide) hS hP hD hA (fun r1 u1 H locs hr1 hP hD hS => ?_)
  have hP := hP.sub (ws' := Xw h0 qd qs qv cI cJ u1 ++ Mw h1 md ms mv mh mn cI2 cJ2 (dk, hf, gn, rt, ct, pw, sl, sm, cu, ln, lk, lq2, vq2, hs, nd)) [6, 7, 8, 9, 0, 1, 2, 3, 4, 5] rfl
  have hD := hD.sub (ws' := Xw h0 qd qs qv cI cJ u1 ++ Mw h1 md ms mv mh mn cI2 cJ2 (dk, hf, gn, rt, ct, pw, sl, sm, cu, ln, lk, lq2, vq2, hs, nd)) [6, 7, 8, 9, 0, 1, 2, 3, 4, 5] (by decide) rfl
  refine lv_aload_n hx hb d_law_104 rfl (lv_at hl 2 rfl) ?_
  have hPc := hP.sub (ws' := Mw h1 md ms mv mh mn cI2 cJ2 (dk, hf, gn, rt, ct, pw, sl, sm, cu, ln, lk, lq2, vq2, hs, nd)) [4, 5, 6, 7, 8, 9] rfl
  have hDc := hD.sub (ws' := Mw h1 md ms mv mh mn cI2 cJ2 (dk, hf, gn, rt, ct, pw, sl, sm, cu, ln, lk, lq2, vq2, hs, nd)) [4, 5, 6, 7, 8, 9] (by decide) rfl
  have hKc := hK.sub (tys' := [(cI2, .int), (cJ2, .long)]) [2, 3] rfl
  refine z_lawi (wr := Xw h0 qd qs qv cI cJ u1) [4, 5, 6, 7, 8, 9] [0, 1, 2, 3] (va_runV (C := R_M) (b := h1) (As := []) (rest := [.int r1]) ⟨hx, hb, hml, hown, hts⟩ (mc_mount l dC dI h1 md ms mv mh mn cI2 cJ2 _ dk hf gn rt ct pw sl sm cu ln lk lq2 vq2 hs nd  (by omega)) (cwV 0 hts g_law_17 rfl rfl rfl (by decide +kernel) ⟨(Nat.le_of_ble_eq_true rfl), (Nat.le_of_ble_eq_true rfl)⟩) (z_preV (va_recv (q0 := 0) hKc hPc rfl rfl) hPc hKc hDc) rfl rfl hl.1 rfl (lv_room (Nat.le_of_ble_eq_true rfl)) d_law_105 ⟨(Nat.le_of_ble_eq_true rfl), (Nat.le_of_ble_eq_true rfl)⟩) rfl rfl (by decide) (by decide) hS hP hD hA (fun r2 u2 H locs hr2 hP hD hS => ?_)
  have hP : va_P (dC, dI) classes (Xw h0 qd qs qv cI cJ u1 ++ Mw h1 md ms mv mh mn cI2 cJ2 u2) H := hP
  have hD : va_D A (Xw h0 qd qs qv cI cJ u1 ++ Mw h1 md ms mv mh mn cI2 cJ2 u2) := hD
  obtain ⟨he, hRl⟩ := rl_mount hR hr1 hr2
  refine lv_icmp_eq (tgt := 380) hx hb d_law_108 (by decide) (fun _ => ?_) (fun h9 => absurd he h9)
  exact kk _ _ ls _ _ (Rl_up hRl) hl hP hD hS
set_option maxHeartbeats 1000000 in
set_option maxRecDepth 100000 in
theorem lw_case1 {p : Program} {l : Launch} {e : Env} {s : State} {m : MethodId} {below : List Frame} {meth : Method} {c : Code} {b L : Nat} {xs : Nat → Int32} (C0 : lw_At p s m meth c b L xs) (hL : L ≤ 2048) {dC : Nat → ClassId} {dI : Nat → Nat → Nat} {h0 qd qs qv : Nat} {cI cJ : ClassId} {h1 md ms mv mh mn : Nat} {cI2 cJ2 : ClassId} {A : Nat → Prop} (hbA : ¬ A b) (hA : ∀ q, s.heap.size ≤ q → A q) (hK : va_K (dC, dI) classes [(cI, .int), (cJ, .long), (cI2, .int), (cJ2, .long)] s) {i n : Nat} (hi : i + 4 ≤ L) (hn : n ≤ 100000) {u1 : XS} {u2 : MS} (hRl : Rl u1 u2 n) {ls : Array Slot} {H : Heap} {locs : List Loc} (hl : lv_has ls 4 [(0, .ref b), (1, .ref h0), (2, .ref h1), (3, .int (nI i))]) (hP : va_P (dC, dI) classes (Xw h0 qd qs qv cI cJ u1 ++ Mw h1 md ms mv mh mn cI2 cJ2 u2) H) (hD : va_D A (Xw h0 qd qs qv cI cJ u1 ++ Mw h1 md ms mv mh mn cI2 cJ2 u2)) (hS : va_S A s.heap H locs) (kk : ∀ (u1 : XS) (u2 : MS) (ls : Array Slot) (H : Heap) (locs : List Loc), Rl u1 u2 (n + 2) → lv_has ls 4 [(0, .ref b), (1, .ref h0), (2, .ref h1), (3, .int (nI i))] → va_P (dC, dI) classes (Xw h0 qd qs qv cI cJ u1 ++ Mw h1 md ms mv mh mn cI2 cJ2 u2) H → va_D A (Xw h0 qd qs qv cI cJ u1 ++ Mw h1 md ms mv mh mn cI2 cJ2 u2) → va_S A s.heap H locs → W p l e room_1 s m #[Value.ref b] below meth c H locs 10 275 (lw_Z below #[Value.ref b] s) (F0 m 380 ls [])) : W p l e room_1 s m #[Value.ref b] below meth c H locs 10 275 (lw_Z below #[Value.ref b] s) (F0 m 113 ls []) := by
  obtain ⟨hx, hb, hr, hml, hown, hts0, hX, hbl, hlocks, hgv⟩ := C0
  have hts := fun (w : Cond) (h : w ∈ lw_U) => hts0 w (List.mem_filter.mp h).1
  obtain ⟨dk, hf, gn, rt, ct, sl, sm, pw, ln, lq, vq, ch, cu, lk, lq2, vq2, hs, nd, rfl, rfl, hR⟩ := hRl
  have h_f := hR.1
  have h_n := hR.2.1
  refine lv_aload_n hx hb d_law_113 rfl (lv_at hl 1 rfl) ?_
  refine lv_aload_n hx hb d_law_114 rfl (lv_at hl 0 rfl) ?_
  refine lv_iload_n hx hb d_law_115 rfl (lv_at hl 3 rfl) ?_
  refine lv_iconst (v := nI 1) hx hb d_law_116 (by decide) ?_
  refine lv_iadd hx hb d_law_117 ?_
  refine z_top (nI_add _ _) ?_
  refine z_sld hx hb hX hbl hbA hS (by omega) (by omega) d_law_118 ?_
  have hPc := hP.sub (ws' := Xw h0 qd qs qv cI cJ (dk, hf, gn, rt, ct, sl, sm, pw, ln, lq, vq, ch)) [0, 1, 2, 3] rfl
  have hDc := hD.sub (ws' := Xw h0 qd qs qv cI cJ (dk, hf, gn, rt, ct, sl, sm, pw, ln, lq, vq, ch)) [0, 1, 2, 3] (by decide) rfl
  have hKc := hK.sub (tys' := [(cI, .int), (cJ, .long)]) [0, 1] rfl
  refine z_lawi (wr := Mw h1 md ms mv mh mn cI2 cJ2 (dk, hf, gn, rt, ct, pw, sl, sm, cu, ln, lk, lq2, vq2, hs, nd)) [0, 1, 2, 3] [4, 5, 6, 7, 8, 9] (va_runV (C := R_X) (b := h0) (As := [.int (xs (i + 1))]) (rest := []) ⟨hx, hb, hml, hown, hts⟩ (c_arm l dC dI h0 qd qs qv cI cJ _ dk hf gn rt ct sl sm pw ln lq vq ch (xs (i + 1))) (cwV 1 hts g_law_18 rfl rfl rfl (by decide +kernel) ⟨(Nat.le_of_ble_eq_true rfl), (Nat.le_of_ble_eq_true rfl)⟩) (z_preV (va_recv (q0 := 0) hKc hPc rfl rfl) hPc hKc hDc) rfl rfl hl.1 rfl (lv_room (Nat.le_of_ble_eq_true rfl)) d_law_119 ⟨(Nat.le_of_ble_eq_true rfl), (Nat.le_of_ble_eq_true rfl)⟩) rfl rfl (by decide) (by decide) hS hP hD hA (fun r1 u1 H locs hr1 hP hD hS => ?_)
  have hP := hP.sub (ws' := Xw h0 qd qs qv cI cJ u1 ++ Mw h1 md ms mv mh mn cI2 cJ2 (dk, hf, gn, rt, ct, pw, sl, sm, cu, ln, lk, lq2, vq2, hs, nd)) [6, 7, 8, 9, 0, 1, 2, 3, 4, 5] rfl
  have hD := hD.sub (ws' := Xw h0 qd qs qv cI cJ u1 ++ Mw h1 md ms mv mh mn cI2 cJ2 (dk, hf, gn, rt, ct, pw, sl, sm, cu, ln, lk, lq2, vq2, hs, nd)) [6, 7, 8, 9, 0, 1, 2, 3, 4, 5] (by decide) rfl
  refine lv_aload_n hx hb d_law_122 rfl (lv_at hl 2 rfl) ?_
  refine lv_aload_n hx hb d_law_123 rfl (lv_at hl 0 rfl) ?_
  refine lv_iload_n hx hb d_law_124 rfl (lv_at hl 3 rfl) ?_
  refine lv_iconst (v := nI 1) hx hb d_law_125 (by decide) ?_
  refine lv_iadd hx hb d_law_126 ?_
  refine z_top (nI_add _ _) ?_
  refine z_sld hx hb hX hbl hbA hS (by omega) (by omega) d_law_127 ?_
  have hPc := hP.sub (ws' := Mw h1 md ms mv mh mn cI2 cJ2 (dk, hf, gn, rt, ct, pw, sl, sm, cu, ln, lk, lq2, vq2, hs, nd)) [4, 5, 6, 7, 8, 9] rfl
  have hDc := hD.sub (ws' := Mw h1 md ms mv mh mn cI2 cJ2 (dk, hf, gn, rt, ct, pw, sl, sm, cu, ln, lk, lq2, vq2, hs, nd)) [4, 5, 6, 7, 8, 9] (by decide) rfl
  have hKc := hK.sub (tys' := [(cI2, .int), (cJ2, .long)]) [2, 3] rfl
  refine z_lawi (wr := Xw h0 qd qs qv cI cJ u1) [4, 5, 6, 7, 8, 9] [0, 1, 2, 3] (va_runV (C := R_M) (b := h1) (As := [.int (xs (i + 1))]) (rest := [.int r1]) ⟨hx, hb, hml, hown, hts⟩ (mc_arm l dC dI h1 md ms mv mh mn cI2 cJ2 _ dk hf gn rt ct pw sl sm cu ln lk lq2 vq2 hs nd (xs (i + 1))) (cwV 1 hts g_law_22 rfl rfl rfl (by decide +kernel) ⟨(Nat.le_of_ble_eq_true rfl), (Nat.le_of_ble_eq_true rfl)⟩) (z_preV (va_recv (q0 := 0) hKc hPc rfl rfl) hPc hKc hDc) rfl rfl hl.1 rfl (lv_room (Nat.le_of_ble_eq_true rfl)) d_law_128 ⟨(Nat.le_of_ble_eq_true rfl), (Nat.le_of_ble_eq_true rfl)⟩) rfl rfl (by decide) (by decide) hS hP hD hA (fun r2 u2 H locs hr2 hP hD hS => ?_)
  have hP : va_P (dC, dI) classes (Xw h0 qd qs qv cI cJ u1 ++ Mw h1 md ms mv mh mn cI2 cJ2 u2) H := hP
  have hD : va_D A (Xw h0 qd qs qv cI cJ u1 ++ Mw h1 md ms mv mh mn cI2 cJ2 u2) := hD
  obtain ⟨he, hRl⟩ := rl_arm hR hr1 hr2
  refine lv_icmp_eq (tgt := 380) hx hb d_law_131 (by decide) (fun _ => ?_) (fun h9 => absurd he h9)
  exact kk _ _ ls _ _ (Rl_up hRl) hl hP hD hS
set_option maxHeartbeats 1000000 in
set_option maxRecDepth 100000 in
theorem lw_case2 {p : Program} {l : Launch} {e : Env} {s : State} {m : MethodId} {below : List Frame} {meth : Method} {c : Code} {b L : Nat} {xs : Nat → Int32} (C0 : lw_At p s m meth c b L xs) (hL : L ≤ 2048) {dC : Nat → ClassId} {dI : Nat → Nat → Nat} {h0 qd qs qv : Nat} {cI cJ : ClassId} {h1 md ms mv mh mn : Nat} {cI2 cJ2 : ClassId} {A : Nat → Prop} (hbA : ¬ A b) (hA : ∀ q, s.heap.size ≤ q → A q) (hK : va_K (dC, dI) classes [(cI, .int), (cJ, .long), (cI2, .int), (cJ2, .long)] s) {i n : Nat} (hi : i + 4 ≤ L) (hn : n ≤ 100000) {u1 : XS} {u2 : MS} (hRl : Rl u1 u2 n) {ls : Array Slot} {H : Heap} {locs : List Loc} (hl : lv_has ls 4 [(0, .ref b), (1, .ref h0), (2, .ref h1), (3, .int (nI i))]) (hP : va_P (dC, dI) classes (Xw h0 qd qs qv cI cJ u1 ++ Mw h1 md ms mv mh mn cI2 cJ2 u2) H) (hD : va_D A (Xw h0 qd qs qv cI cJ u1 ++ Mw h1 md ms mv mh mn cI2 cJ2 u2)) (hS : va_S A s.heap H locs) (kk : ∀ (u1 : XS) (u2 : MS) (ls : Array Slot) (H : Heap) (locs : List Loc), Rl u1 u2 (n + 2) → lv_has ls 4 [(0, .ref b), (1, .ref h0), (2, .ref h1), (3, .int (nI i))] → va_P (dC, dI) classes (Xw h0 qd qs qv cI cJ u1 ++ Mw h1 md ms mv mh mn cI2 cJ2 u2) H → va_D A (Xw h0 qd qs qv cI cJ u1 ++ Mw h1 md ms mv mh mn cI2 cJ2 u2) → va_S A s.heap H locs → W p l e room_1 s m #[Value.ref b] below meth c H locs 10 275 (lw_Z below #[Value.ref b] s) (F0 m 380 ls [])) : W p l e room_1 s m #[Value.ref b] below meth c H locs 10 275 (lw_Z below #[Value.ref b] s) (F0 m 136 ls []) := by
  obtain ⟨hx, hb, hr, hml, hown, hts0, hX, hbl, hlocks, hgv⟩ := C0
  have hts := fun (w : Cond) (h : w ∈ lw_U) => hts0 w (List.mem_filter.mp h).1
  obtain ⟨dk, hf, gn, rt, ct, sl, sm, pw, ln, lq, vq, ch, cu, lk, lq2, vq2, hs, nd, rfl, rfl, hR⟩ := hRl
  have h_f := hR.1
  have h_n := hR.2.1
  refine lv_aload_n hx hb d_law_136 rfl (lv_at hl 1 rfl) ?_
  have hPc := hP.sub (ws' := Xw h0 qd qs qv cI cJ (dk, hf, gn, rt, ct, sl, sm, pw, ln, lq, vq, ch)) [0, 1, 2, 3] rfl
  have hDc := hD.sub (ws' := Xw h0 qd qs qv cI cJ (dk, hf, gn, rt, ct, sl, sm, pw, ln, lq, vq, ch)) [0, 1, 2, 3] (by decide) rfl
  have hKc := hK.sub (tys' := [(cI, .int), (cJ, .long)]) [0, 1] rfl
  refine vp_callSi (W.runV (C := R_X) (b := h0) (As := []) (rest := []) ⟨hx, hb, hml, hown, hts⟩ (c_isOn l dC dI h0 qd qs qv cI cJ _ dk hf gn rt ct sl sm pw ln lq vq ch ) (cwV 0 hts g_law_23 rfl rfl rfl (by decide +kernel) ⟨(Nat.le_of_ble_eq_true rfl), (Nat.le_of_ble_eq_true rfl)⟩) (z_preV (va_recv (q0 := 0) hKc hPc rfl rfl) hPc hKc hDc) rfl rfl hl.1 rfl (lv_room (Nat.le_of_ble_eq_true rfl)) d_law_137 ⟨(Nat.le_of_ble_eq_true rfl), (Nat.le_of_ble_eq_true rfl)⟩) (fun r1 hr1 => ?_)
  refine lv_aload_n hx hb d_law_140 rfl (lv_at hl 2 rfl) ?_
  have hPc := hP.sub (ws' := Mw h1 md ms mv mh mn cI2 cJ2 (dk, hf, gn, rt, ct, pw, sl, sm, cu, ln, lk, lq2, vq2, hs, nd)) [4, 5, 6, 7, 8, 9] rfl
  have hDc := hD.sub (ws' := Mw h1 md ms mv mh mn cI2 cJ2 (dk, hf, gn, rt, ct, pw, sl, sm, cu, ln, lk, lq2, vq2, hs, nd)) [4, 5, 6, 7, 8, 9] (by decide) rfl
  have hKc := hK.sub (tys' := [(cI2, .int), (cJ2, .long)]) [2, 3] rfl
  refine vp_callSi (W.runV (C := R_M) (b := h1) (As := []) (rest := [.int r1]) ⟨hx, hb, hml, hown, hts⟩ (mc_isOn l dC dI h1 md ms mv mh mn cI2 cJ2 _ dk hf gn rt ct pw sl sm cu ln lk lq2 vq2 hs nd ) (cwV 0 hts g_law_27 rfl rfl rfl (by decide +kernel) ⟨(Nat.le_of_ble_eq_true rfl), (Nat.le_of_ble_eq_true rfl)⟩) (z_preV (va_recv (q0 := 0) hKc hPc rfl rfl) hPc hKc hDc) rfl rfl hl.1 rfl (lv_room (Nat.le_of_ble_eq_true rfl)) d_law_141 ⟨(Nat.le_of_ble_eq_true rfl), (Nat.le_of_ble_eq_true rfl)⟩) (fun r2 hr2 => ?_)
  have he : r1 = r2 := hr1.trans hr2.symm
  refine lv_icmp_eq (tgt := 380) hx hb d_law_144 (by decide) (fun _ => ?_) (fun h9 => absurd he h9)
  exact kk _ _ ls _ _ (Rl_up (Rl_up (Rl_mk hR))) hl hP hD hS
set_option maxHeartbeats 1000000 in
set_option maxRecDepth 100000 in
theorem lw_case3 {p : Program} {l : Launch} {e : Env} {s : State} {m : MethodId} {below : List Frame} {meth : Method} {c : Code} {b L : Nat} {xs : Nat → Int32} (C0 : lw_At p s m meth c b L xs) (hL : L ≤ 2048) {dC : Nat → ClassId} {dI : Nat → Nat → Nat} {h0 qd qs qv : Nat} {cI cJ : ClassId} {h1 md ms mv mh mn : Nat} {cI2 cJ2 : ClassId} {A : Nat → Prop} (hbA : ¬ A b) (hA : ∀ q, s.heap.size ≤ q → A q) (hK : va_K (dC, dI) classes [(cI, .int), (cJ, .long), (cI2, .int), (cJ2, .long)] s) {i n : Nat} (hi : i + 4 ≤ L) (hn : n ≤ 100000) {u1 : XS} {u2 : MS} (hRl : Rl u1 u2 n) {ls : Array Slot} {H : Heap} {locs : List Loc} (hl : lv_has ls 4 [(0, .ref b), (1, .ref h0), (2, .ref h1), (3, .int (nI i))]) (hP : va_P (dC, dI) classes (Xw h0 qd qs qv cI cJ u1 ++ Mw h1 md ms mv mh mn cI2 cJ2 u2) H) (hD : va_D A (Xw h0 qd qs qv cI cJ u1 ++ Mw h1 md ms mv mh mn cI2 cJ2 u2)) (hS : va_S A s.heap H locs) (kk : ∀ (u1 : XS) (u2 : MS) (ls : Array Slot) (H : Heap) (locs : List Loc), Rl u1 u2 (n + 2) → lv_has ls 4 [(0, .ref b), (1, .ref h0), (2, .ref h1), (3, .int (nI i))] → va_P (dC, dI) classes (Xw h0 qd qs qv cI cJ u1 ++ Mw h1 md ms mv mh mn cI2 cJ2 u2) H → va_D A (Xw h0 qd qs qv cI cJ u1 ++ Mw h1 md ms mv mh mn cI2 cJ2 u2) → va_S A s.heap H locs → W p l e room_1 s m #[Value.ref b] below meth c H locs 10 275 (lw_Z below #[Value.ref b] s) (F0 m 380 ls [])) : W p l e room_1 s m #[Value.ref b] below meth c H locs 10 275 (lw_Z below #[Value.ref b] s) (F0 m 149 ls []) := by
  obtain ⟨hx, hb, hr, hml, hown, hts0, hX, hbl, hlocks, hgv⟩ := C0
  have hts := fun (w : Cond) (h : w ∈ lw_U) => hts0 w (List.mem_filter.mp h).1
  obtain ⟨dk, hf, gn, rt, ct, sl, sm, pw, ln, lq, vq, ch, cu, lk, lq2, vq2, hs, nd, rfl, rfl, hR⟩ := hRl
  have h_f := hR.1
  have h_n := hR.2.1
  refine lv_aload_n hx hb d_law_149 rfl (lv_at hl 1 rfl) ?_
  refine lv_aload_n hx hb d_law_150 rfl (lv_at hl 0 rfl) ?_
  refine lv_iload_n hx hb d_law_151 rfl (lv_at hl 3 rfl) ?_
  refine lv_iconst (v := nI 1) hx hb d_law_152 (by decide) ?_
  refine lv_iadd hx hb d_law_153 ?_
  refine z_top (nI_add _ _) ?_
  refine z_sld hx hb hX hbl hbA hS (by omega) (by omega) d_law_154 ?_
  refine lv_aload_n hx hb d_law_155 rfl (lv_at hl 0 rfl) ?_
  refine lv_iload_n hx hb d_law_156 rfl (lv_at hl 3 rfl) ?_
  refine lv_iconst (v := nI 2) hx hb d_law_157 (by decide) ?_
  refine lv_iadd hx hb d_law_158 ?_
  refine z_top (nI_add _ _) ?_
  refine z_sld hx hb hX hbl hbA hS (by omega) (by omega) d_law_159 ?_
  refine lv_i2l hx hb d_law_160 rfl ?_
  refine lv_bipush (v := (32 : Int32)) hx hb d_law_161 (by decide) ?_
  refine lv_lshl hx hb d_law_163 rfl ?_
  refine lv_aload_n hx hb d_law_164 rfl (lv_at hl 0 rfl) ?_
  refine lv_iload_n hx hb d_law_165 rfl (lv_at hl 3 rfl) ?_
  refine lv_iconst (v := nI 3) hx hb d_law_166 (by decide) ?_
  refine lv_iadd hx hb d_law_167 ?_
  refine z_top (nI_add _ _) ?_
  refine z_sld hx hb hX hbl hbA hS (by omega) (by omega) d_law_168 ?_
  refine lv_i2l hx hb d_law_169 rfl ?_
  refine lv_ldc2 (v := 4294967295) hx hb hown (hts _ m_422) d_law_170 ?_
  refine lv_land hx hb d_law_173 ?_
  refine lv_lor hx hb d_law_174 ?_
  have hPc := hP.sub (ws' := Xw h0 qd qs qv cI cJ (dk, hf, gn, rt, ct, sl, sm, pw, ln, lq, vq, ch)) [0, 1, 2, 3] rfl
  have hDc := hD.sub (ws' := Xw h0 qd qs qv cI cJ (dk, hf, gn, rt, ct, sl, sm, pw, ln, lq, vq, ch)) [0, 1, 2, 3] (by decide) rfl
  have hKc := hK.sub (tys' := [(cI, .int), (cJ, .long)]) [0, 1] rfl
  refine z_lawi (wr := Mw h1 md ms mv mh mn cI2 cJ2 (dk, hf, gn, rt, ct, pw, sl, sm, cu, ln, lk, lq2, vq2, hs, nd)) [0, 1, 2, 3] [4, 5, 6, 7, 8, 9] (va_runV (C := R_X) (b := h0) (As := [.int (xs (i + 1)), .long ((((xs (i + 2)).toInt64) <<< ((32 : Int32).toInt64 &&& 63)) ||| (((xs (i + 3)).toInt64) &&& (4294967295 : Int64)))]) (rest := []) ⟨hx, hb, hml, hown, hts⟩ (c_write l dC dI h0 qd qs qv cI cJ _ dk hf gn rt ct sl sm pw ln lq vq ch (xs (i + 1)) ((((xs (i + 2)).toInt64) <<< ((32 : Int32).toInt64 &&& 63)) ||| (((xs (i + 3)).toInt64) &&& (4294967295 : Int64))) (by omega) (by omega)) (cwV 2 hts g_law_30 rfl rfl rfl (by decide +kernel) ⟨(Nat.le_of_ble_eq_true rfl), (Nat.le_of_ble_eq_true rfl)⟩) (z_preV (va_recv (q0 := 0) hKc hPc rfl rfl) hPc hKc hDc) rfl rfl hl.1 rfl (lv_room (Nat.le_of_ble_eq_true rfl)) d_law_175 ⟨(Nat.le_of_ble_eq_true rfl), (Nat.le_of_ble_eq_true rfl)⟩) rfl rfl (by decide) (by decide) hS hP hD hA (fun r1 u1 H locs hr1 hP hD hS => ?_)
  have hP := hP.sub (ws' := Xw h0 qd qs qv cI cJ u1 ++ Mw h1 md ms mv mh mn cI2 cJ2 (dk, hf, gn, rt, ct, pw, sl, sm, cu, ln, lk, lq2, vq2, hs, nd)) [6, 7, 8, 9, 0, 1, 2, 3, 4, 5] rfl
  have hD := hD.sub (ws' := Xw h0 qd qs qv cI cJ u1 ++ Mw h1 md ms mv mh mn cI2 cJ2 (dk, hf, gn, rt, ct, pw, sl, sm, cu, ln, lk, lq2, vq2, hs, nd)) [6, 7, 8, 9, 0, 1, 2, 3, 4, 5] (by decide) rfl
  refine lv_aload_n hx hb d_law_178 rfl (lv_at hl 2 rfl) ?_
  refine lv_aload_n hx hb d_law_179 rfl (lv_at hl 0 rfl) ?_
  refine lv_iload_n hx hb d_law_180 rfl (lv_at hl 3 rfl) ?_
  refine lv_iconst (v := nI 1) hx hb d_law_181 (by decide) ?_
  refine lv_iadd hx hb d_law_182 ?_
  refine z_top (nI_add _ _) ?_
  refine z_sld hx hb hX hbl hbA hS (by omega) (by omega) d_law_183 ?_
  refine lv_aload_n hx hb d_law_184 rfl (lv_at hl 0 rfl) ?_
  refine lv_iload_n hx hb d_law_185 rfl (lv_at hl 3 rfl) ?_
  refine lv_iconst (v := nI 2) hx hb d_law_186 (by decide) ?_
  refine lv_iadd hx hb d_law_187 ?_
  refine z_top (nI_add _ _) ?_
  refine z_sld hx hb hX hbl hbA hS (by omega) (by omega) d_law_188 ?_
  refine lv_i2l hx hb d_law_189 rfl ?_
  refine lv_bipush (v := (32 : Int32)) hx hb d_law_190 (by decide) ?_
  refine lv_lshl hx hb d_law_192 rfl ?_
  refine lv_aload_n hx hb d_law_193 rfl (lv_at hl 0 rfl) ?_
  refine lv_iload_n hx hb d_law_194 rfl (lv_at hl 3 rfl) ?_
  refine lv_iconst (v := nI 3) hx hb d_law_195 (by decide) ?_
  refine lv_iadd hx hb d_law_196 ?_
  refine z_top (nI_add _ _) ?_
  refine z_sld hx hb hX hbl hbA hS (by omega) (by omega) d_law_197 ?_
  refine lv_i2l hx hb d_law_198 rfl ?_
  refine lv_ldc2 (v := 4294967295) hx hb hown (hts _ m_422) d_law_199 ?_
  refine lv_land hx hb d_law_202 ?_
  refine lv_lor hx hb d_law_203 ?_
  have hPc := hP.sub (ws' := Mw h1 md ms mv mh mn cI2 cJ2 (dk, hf, gn, rt, ct, pw, sl, sm, cu, ln, lk, lq2, vq2, hs, nd)) [4, 5, 6, 7, 8, 9] rfl
  have hDc := hD.sub (ws' := Mw h1 md ms mv mh mn cI2 cJ2 (dk, hf, gn, rt, ct, pw, sl, sm, cu, ln, lk, lq2, vq2, hs, nd)) [4, 5, 6, 7, 8, 9] (by decide) rfl
  have hKc := hK.sub (tys' := [(cI2, .int), (cJ2, .long)]) [2, 3] rfl
  refine z_lawi (wr := Xw h0 qd qs qv cI cJ u1) [4, 5, 6, 7, 8, 9] [0, 1, 2, 3] (va_runV (C := R_M) (b := h1) (As := [.int (xs (i + 1)), .long ((((xs (i + 2)).toInt64) <<< ((32 : Int32).toInt64 &&& 63)) ||| (((xs (i + 3)).toInt64) &&& (4294967295 : Int64)))]) (rest := [.int r1]) ⟨hx, hb, hml, hown, hts⟩ (mc_write l dC dI h1 md ms mv mh mn cI2 cJ2 _ dk hf gn rt ct pw sl sm cu ln lk lq2 vq2 hs nd (xs (i + 1)) ((((xs (i + 2)).toInt64) <<< ((32 : Int32).toInt64 &&& 63)) ||| (((xs (i + 3)).toInt64) &&& (4294967295 : Int64))) (by omega) (by omega)) (cwV 2 hts g_law_34 rfl rfl rfl (by decide +kernel) ⟨(Nat.le_of_ble_eq_true rfl), (Nat.le_of_ble_eq_true rfl)⟩) (z_preV (va_recv (q0 := 0) hKc hPc rfl rfl) hPc hKc hDc) rfl rfl hl.1 rfl (lv_room (Nat.le_of_ble_eq_true rfl)) d_law_204 ⟨(Nat.le_of_ble_eq_true rfl), (Nat.le_of_ble_eq_true rfl)⟩) rfl rfl (by decide) (by decide) hS hP hD hA (fun r2 u2 H locs hr2 hP hD hS => ?_)
  have hP : va_P (dC, dI) classes (Xw h0 qd qs qv cI cJ u1 ++ Mw h1 md ms mv mh mn cI2 cJ2 u2) H := hP
  have hD : va_D A (Xw h0 qd qs qv cI cJ u1 ++ Mw h1 md ms mv mh mn cI2 cJ2 u2) := hD
  obtain ⟨he, hRl⟩ := rl_write hR (by omega) hr1 hr2
  refine lv_icmp_eq (tgt := 380) hx hb d_law_207 (by decide) (fun _ => ?_) (fun h9 => absurd he h9)
  exact kk _ _ ls _ _ (hRl) hl hP hD hS
set_option maxHeartbeats 1000000 in
set_option maxRecDepth 100000 in
theorem lw_case4 {p : Program} {l : Launch} {e : Env} {s : State} {m : MethodId} {below : List Frame} {meth : Method} {c : Code} {b L : Nat} {xs : Nat → Int32} (C0 : lw_At p s m meth c b L xs) (hL : L ≤ 2048) {dC : Nat → ClassId} {dI : Nat → Nat → Nat} {h0 qd qs qv : Nat} {cI cJ : ClassId} {h1 md ms mv mh mn : Nat} {cI2 cJ2 : ClassId} {A : Nat → Prop} (hbA : ¬ A b) (hA : ∀ q, s.heap.size ≤ q → A q) (hK : va_K (dC, dI) classes [(cI, .int), (cJ, .long), (cI2, .int), (cJ2, .long)] s) {i n : Nat} (hi : i + 4 ≤ L) (hn : n ≤ 100000) {u1 : XS} {u2 : MS} (hRl : Rl u1 u2 n) {ls : Array Slot} {H : Heap} {locs : List Loc} (hl : lv_has ls 4 [(0, .ref b), (1, .ref h0), (2, .ref h1), (3, .int (nI i))]) (hP : va_P (dC, dI) classes (Xw h0 qd qs qv cI cJ u1 ++ Mw h1 md ms mv mh mn cI2 cJ2 u2) H) (hD : va_D A (Xw h0 qd qs qv cI cJ u1 ++ Mw h1 md ms mv mh mn cI2 cJ2 u2)) (hS : va_S A s.heap H locs) (kk : ∀ (u1 : XS) (u2 : MS) (ls : Array Slot) (H : Heap) (locs : List Loc), Rl u1 u2 (n + 2) → lv_has ls 4 [(0, .ref b), (1, .ref h0), (2, .ref h1), (3, .int (nI i))] → va_P (dC, dI) classes (Xw h0 qd qs qv cI cJ u1 ++ Mw h1 md ms mv mh mn cI2 cJ2 u2) H → va_D A (Xw h0 qd qs qv cI cJ u1 ++ Mw h1 md ms mv mh mn cI2 cJ2 u2) → va_S A s.heap H locs → W p l e room_1 s m #[Value.ref b] below meth c H locs 10 275 (lw_Z below #[Value.ref b] s) (F0 m 380 ls [])) : W p l e room_1 s m #[Value.ref b] below meth c H locs 10 275 (lw_Z below #[Value.ref b] s) (F0 m 212 ls []) := by
  obtain ⟨hx, hb, hr, hml, hown, hts0, hX, hbl, hlocks, hgv⟩ := C0
  have hts := fun (w : Cond) (h : w ∈ lw_U) => hts0 w (List.mem_filter.mp h).1
  obtain ⟨dk, hf, gn, rt, ct, sl, sm, pw, ln, lq, vq, ch, cu, lk, lq2, vq2, hs, nd, rfl, rfl, hR⟩ := hRl
  have h_f := hR.1
  have h_n := hR.2.1
  refine lv_aload_n hx hb d_law_212 rfl (lv_at hl 1 rfl) ?_
  refine lv_aload_n hx hb d_law_213 rfl (lv_at hl 0 rfl) ?_
  refine lv_iload_n hx hb d_law_214 rfl (lv_at hl 3 rfl) ?_
  refine lv_iconst (v := nI 1) hx hb d_law_215 (by decide) ?_
  refine lv_iadd hx hb d_law_216 ?_
  refine z_top (nI_add _ _) ?_
  refine z_sld hx hb hX hbl hbA hS (by omega) (by omega) d_law_217 ?_
  have hPc := hP.sub (ws' := Xw h0 qd qs qv cI cJ (dk, hf, gn, rt, ct, sl, sm, pw, ln, lq, vq, ch)) [0, 1, 2, 3] rfl
  have hDc := hD.sub (ws' := Xw h0 qd qs qv cI cJ (dk, hf, gn, rt, ct, sl, sm, pw, ln, lq, vq, ch)) [0, 1, 2, 3] (by decide) rfl
  have hKc := hK.sub (tys' := [(cI, .int), (cJ, .long)]) [0, 1] rfl
  refine vp_callSl (W.runV (C := R_X) (b := h0) (As := [.int (xs (i + 1))]) (rest := []) ⟨hx, hb, hml, hown, hts⟩ (c_read l dC dI h0 qd qs qv cI cJ _ dk hf gn rt ct sl sm pw ln lq vq ch (xs (i + 1)) (by omega) (by omega)) (cwV 1 hts g_law_35 rfl rfl rfl (by decide +kernel) ⟨(Nat.le_of_ble_eq_true rfl), (Nat.le_of_ble_eq_true rfl)⟩) (z_preV (va_recv (q0 := 0) hKc hPc rfl rfl) hPc hKc hDc) rfl rfl hl.1 rfl (lv_room (Nat.le_of_ble_eq_true rfl)) d_law_218 ⟨(Nat.le_of_ble_eq_true rfl), (Nat.le_of_ble_eq_true rfl)⟩) (fun r1 hr1 => ?_)
  refine lv_aload_n hx hb d_law_221 rfl (lv_at hl 2 rfl) ?_
  refine lv_aload_n hx hb d_law_222 rfl (lv_at hl 0 rfl) ?_
  refine lv_iload_n hx hb d_law_223 rfl (lv_at hl 3 rfl) ?_
  refine lv_iconst (v := nI 1) hx hb d_law_224 (by decide) ?_
  refine lv_iadd hx hb d_law_225 ?_
  refine z_top (nI_add _ _) ?_
  refine z_sld hx hb hX hbl hbA hS (by omega) (by omega) d_law_226 ?_
  have hPc := hP.sub (ws' := Mw h1 md ms mv mh mn cI2 cJ2 (dk, hf, gn, rt, ct, pw, sl, sm, cu, ln, lk, lq2, vq2, hs, nd)) [4, 5, 6, 7, 8, 9] rfl
  have hDc := hD.sub (ws' := Mw h1 md ms mv mh mn cI2 cJ2 (dk, hf, gn, rt, ct, pw, sl, sm, cu, ln, lk, lq2, vq2, hs, nd)) [4, 5, 6, 7, 8, 9] (by decide) rfl
  have hKc := hK.sub (tys' := [(cI2, .int), (cJ2, .long)]) [2, 3] rfl
  refine vp_callSl (W.runV (C := R_M) (b := h1) (As := [.int (xs (i + 1))]) (rest := [.long r1]) ⟨hx, hb, hml, hown, hts⟩ (mc_read l dC dI h1 md ms mv mh mn cI2 cJ2 _ dk hf gn rt ct pw sl sm cu ln lk lq2 vq2 hs nd (xs (i + 1)) (by omega) (by omega)) (cwV 1 hts g_law_39 rfl rfl rfl (by decide +kernel) ⟨(Nat.le_of_ble_eq_true rfl), (Nat.le_of_ble_eq_true rfl)⟩) (z_preV (va_recv (q0 := 0) hKc hPc rfl rfl) hPc hKc hDc) rfl rfl hl.1 rfl (lv_room (Nat.le_of_ble_eq_true rfl)) d_law_227 ⟨(Nat.le_of_ble_eq_true rfl), (Nat.le_of_ble_eq_true rfl)⟩) (fun r2 hr2 => ?_)
  have he : r1 = r2 := rl_read hR hr1 hr2
  refine W.lcmp hx hb d_law_230 ?_
  refine lv_if_eq (tgt := 380) hx hb d_law_231 (by decide) (fun _ => ?_) (fun h9 => absurd ((lg_cmp_eq _ _).mpr he) h9)
  exact kk _ _ ls _ _ (Rl_up (Rl_up (Rl_mk hR))) hl hP hD hS
set_option maxHeartbeats 1000000 in
set_option maxRecDepth 100000 in
theorem lw_case5 {p : Program} {l : Launch} {e : Env} {s : State} {m : MethodId} {below : List Frame} {meth : Method} {c : Code} {b L : Nat} {xs : Nat → Int32} (C0 : lw_At p s m meth c b L xs) (hL : L ≤ 2048) {dC : Nat → ClassId} {dI : Nat → Nat → Nat} {h0 qd qs qv : Nat} {cI cJ : ClassId} {h1 md ms mv mh mn : Nat} {cI2 cJ2 : ClassId} {A : Nat → Prop} (hbA : ¬ A b) (hA : ∀ q, s.heap.size ≤ q → A q) (hK : va_K (dC, dI) classes [(cI, .int), (cJ, .long), (cI2, .int), (cJ2, .long)] s) {i n : Nat} (hi : i + 4 ≤ L) (hn : n ≤ 100000) {u1 : XS} {u2 : MS} (hRl : Rl u1 u2 n) {ls : Array Slot} {H : Heap} {locs : List Loc} (hl : lv_has ls 4 [(0, .ref b), (1, .ref h0), (2, .ref h1), (3, .int (nI i))]) (hP : va_P (dC, dI) classes (Xw h0 qd qs qv cI cJ u1 ++ Mw h1 md ms mv mh mn cI2 cJ2 u2) H) (hD : va_D A (Xw h0 qd qs qv cI cJ u1 ++ Mw h1 md ms mv mh mn cI2 cJ2 u2)) (hS : va_S A s.heap H locs) (kk : ∀ (u1 : XS) (u2 : MS) (ls : Array Slot) (H : Heap) (locs : List Loc), Rl u1 u2 (n + 2) → lv_has ls 4 [(0, .ref b), (1, .ref h0), (2, .ref h1), (3, .int (nI i))] → va_P (dC, dI) classes (Xw h0 qd qs qv cI cJ u1 ++ Mw h1 md ms mv mh mn cI2 cJ2 u2) H → va_D A (Xw h0 qd qs qv cI cJ u1 ++ Mw h1 md ms mv mh mn cI2 cJ2 u2) → va_S A s.heap H locs → W p l e room_1 s m #[Value.ref b] below meth c H locs 10 275 (lw_Z below #[Value.ref b] s) (F0 m 380 ls [])) : W p l e room_1 s m #[Value.ref b] below meth c H locs 10 275 (lw_Z below #[Value.ref b] s) (F0 m 236 ls []) := by
  obtain ⟨hx, hb, hr, hml, hown, hts0, hX, hbl, hlocks, hgv⟩ := C0
  have hts := fun (w : Cond) (h : w ∈ lw_U) => hts0 w (List.mem_filter.mp h).1
  obtain ⟨dk, hf, gn, rt, ct, sl, sm, pw, ln, lq, vq, ch, cu, lk, lq2, vq2, hs, nd, rfl, rfl, hR⟩ := hRl
  have h_f := hR.1
  have h_n := hR.2.1
  refine lv_aload_n hx hb d_law_236 rfl (lv_at hl 1 rfl) ?_
  have hPc := hP.sub (ws' := Xw h0 qd qs qv cI cJ (dk, hf, gn, rt, ct, sl, sm, pw, ln, lq, vq, ch)) [0, 1, 2, 3] rfl
  have hDc := hD.sub (ws' := Xw h0 qd qs qv cI cJ (dk, hf, gn, rt, ct, sl, sm, pw, ln, lq, vq, ch)) [0, 1, 2, 3] (by decide) rfl
  have hKc := hK.sub (tys' := [(cI, .int), (cJ, .long)]) [0, 1] rfl
  refine z_lawi (wr := Mw h1 md ms mv mh mn cI2 cJ2 (dk, hf, gn, rt, ct, pw, sl, sm, cu, ln, lk, lq2, vq2, hs, nd)) [0, 1, 2, 3] [4, 5, 6, 7, 8, 9] (va_runV (C := R_X) (b := h0) (As := []) (rest := []) ⟨hx, hb, hml, hown, hts⟩ (c_sync l dC dI h0 qd qs qv cI cJ _ dk hf gn rt ct sl sm pw ln lq vq ch ) (cwV 0 hts g_law_40 rfl rfl rfl (by decide +kernel) ⟨(Nat.le_of_ble_eq_true rfl), (Nat.le_of_ble_eq_true rfl)⟩) (z_preV (va_recv (q0 := 0) hKc hPc rfl rfl) hPc hKc hDc) rfl rfl hl.1 rfl (lv_room (Nat.le_of_ble_eq_true rfl)) d_law_237 ⟨(Nat.le_of_ble_eq_true rfl), (Nat.le_of_ble_eq_true rfl)⟩) rfl rfl (by decide) (by decide) hS hP hD hA (fun r1 u1 H locs hr1 hP hD hS => ?_)
  have hP := hP.sub (ws' := Xw h0 qd qs qv cI cJ u1 ++ Mw h1 md ms mv mh mn cI2 cJ2 (dk, hf, gn, rt, ct, pw, sl, sm, cu, ln, lk, lq2, vq2, hs, nd)) [6, 7, 8, 9, 0, 1, 2, 3, 4, 5] rfl
  have hD := hD.sub (ws' := Xw h0 qd qs qv cI cJ u1 ++ Mw h1 md ms mv mh mn cI2 cJ2 (dk, hf, gn, rt, ct, pw, sl, sm, cu, ln, lk, lq2, vq2, hs, nd)) [6, 7, 8, 9, 0, 1, 2, 3, 4, 5] (by decide) rfl
  refine lv_aload_n hx hb d_law_240 rfl (lv_at hl 2 rfl) ?_
  have hPc := hP.sub (ws' := Mw h1 md ms mv mh mn cI2 cJ2 (dk, hf, gn, rt, ct, pw, sl, sm, cu, ln, lk, lq2, vq2, hs, nd)) [4, 5, 6, 7, 8, 9] rfl
  have hDc := hD.sub (ws' := Mw h1 md ms mv mh mn cI2 cJ2 (dk, hf, gn, rt, ct, pw, sl, sm, cu, ln, lk, lq2, vq2, hs, nd)) [4, 5, 6, 7, 8, 9] (by decide) rfl
  have hKc := hK.sub (tys' := [(cI2, .int), (cJ2, .long)]) [2, 3] rfl
  refine z_lawi (wr := Xw h0 qd qs qv cI cJ u1) [4, 5, 6, 7, 8, 9] [0, 1, 2, 3] (va_runV (C := R_M) (b := h1) (As := []) (rest := [.int r1]) ⟨hx, hb, hml, hown, hts⟩ (mc_sync l dC dI h1 md ms mv mh mn cI2 cJ2 _ dk hf gn rt ct pw sl sm cu ln lk lq2 vq2 hs nd ) (cwV 0 hts g_law_43 rfl rfl rfl (by decide +kernel) ⟨(Nat.le_of_ble_eq_true rfl), (Nat.le_of_ble_eq_true rfl)⟩) (z_preV (va_recv (q0 := 0) hKc hPc rfl rfl) hPc hKc hDc) rfl rfl hl.1 rfl (lv_room (Nat.le_of_ble_eq_true rfl)) d_law_241 ⟨(Nat.le_of_ble_eq_true rfl), (Nat.le_of_ble_eq_true rfl)⟩) rfl rfl (by decide) (by decide) hS hP hD hA (fun r2 u2 H locs hr2 hP hD hS => ?_)
  have hP : va_P (dC, dI) classes (Xw h0 qd qs qv cI cJ u1 ++ Mw h1 md ms mv mh mn cI2 cJ2 u2) H := hP
  have hD : va_D A (Xw h0 qd qs qv cI cJ u1 ++ Mw h1 md ms mv mh mn cI2 cJ2 u2) := hD
  obtain ⟨he, hRl⟩ := rl_sync hR hr1 hr2
  refine lv_icmp_eq (tgt := 380) hx hb d_law_244 (by decide) (fun _ => ?_) (fun h9 => absurd he h9)
  exact kk _ _ ls _ _ (Rl_up hRl) hl hP hD hS
set_option maxHeartbeats 1000000 in
set_option maxRecDepth 100000 in
theorem lw_case6 {p : Program} {l : Launch} {e : Env} {s : State} {m : MethodId} {below : List Frame} {meth : Method} {c : Code} {b L : Nat} {xs : Nat → Int32} (C0 : lw_At p s m meth c b L xs) (hL : L ≤ 2048) {dC : Nat → ClassId} {dI : Nat → Nat → Nat} {h0 qd qs qv : Nat} {cI cJ : ClassId} {h1 md ms mv mh mn : Nat} {cI2 cJ2 : ClassId} {A : Nat → Prop} (hbA : ¬ A b) (hA : ∀ q, s.heap.size ≤ q → A q) (hK : va_K (dC, dI) classes [(cI, .int), (cJ, .long), (cI2, .int), (cJ2, .long)] s) {i n : Nat} (hi : i + 4 ≤ L) (hn : n ≤ 100000) {u1 : XS} {u2 : MS} (hRl : Rl u1 u2 n) {ls : Array Slot} {H : Heap} {locs : List Loc} (hl : lv_has ls 4 [(0, .ref b), (1, .ref h0), (2, .ref h1), (3, .int (nI i))]) (hP : va_P (dC, dI) classes (Xw h0 qd qs qv cI cJ u1 ++ Mw h1 md ms mv mh mn cI2 cJ2 u2) H) (hD : va_D A (Xw h0 qd qs qv cI cJ u1 ++ Mw h1 md ms mv mh mn cI2 cJ2 u2)) (hS : va_S A s.heap H locs) (kk : ∀ (u1 : XS) (u2 : MS) (ls : Array Slot) (H : Heap) (locs : List Loc), Rl u1 u2 (n + 2) → lv_has ls 4 [(0, .ref b), (1, .ref h0), (2, .ref h1), (3, .int (nI i))] → va_P (dC, dI) classes (Xw h0 qd qs qv cI cJ u1 ++ Mw h1 md ms mv mh mn cI2 cJ2 u2) H → va_D A (Xw h0 qd qs qv cI cJ u1 ++ Mw h1 md ms mv mh mn cI2 cJ2 u2) → va_S A s.heap H locs → W p l e room_1 s m #[Value.ref b] below meth c H locs 10 275 (lw_Z below #[Value.ref b] s) (F0 m 380 ls [])) : W p l e room_1 s m #[Value.ref b] below meth c H locs 10 275 (lw_Z below #[Value.ref b] s) (F0 m 249 ls []) := by
  obtain ⟨hx, hb, hr, hml, hown, hts0, hX, hbl, hlocks, hgv⟩ := C0
  have hts := fun (w : Cond) (h : w ∈ lw_U) => hts0 w (List.mem_filter.mp h).1
  obtain ⟨dk, hf, gn, rt, ct, sl, sm, pw, ln, lq, vq, ch, cu, lk, lq2, vq2, hs, nd, rfl, rfl, hR⟩ := hRl
  have h_f := hR.1
  have h_n := hR.2.1
  refine lv_aload_n hx hb d_law_249 rfl (lv_at hl 1 rfl) ?_
  have hPc := hP.sub (ws' := Xw h0 qd qs qv cI cJ (dk, hf, gn, rt, ct, sl, sm, pw, ln, lq, vq, ch)) [0, 1, 2, 3] rfl
  have hDc := hD.sub (ws' := Xw h0 qd qs qv cI cJ (dk, hf, gn, rt, ct, sl, sm, pw, ln, lq, vq, ch)) [0, 1, 2, 3] (by decide) rfl
  have hKc := hK.sub (tys' := [(cI, .int), (cJ, .long)]) [0, 1] rfl
  refine z_lawi (wr := Mw h1 md ms mv mh mn cI2 cJ2 (dk, hf, gn, rt, ct, pw, sl, sm, cu, ln, lk, lq2, vq2, hs, nd)) [0, 1, 2, 3] [4, 5, 6, 7, 8, 9] (va_runV (C := R_X) (b := h0) (As := []) (rest := []) ⟨hx, hb, hml, hown, hts⟩ (c_checkpoint l dC dI h0 qd qs qv cI cJ _ dk hf gn rt ct sl sm pw ln lq vq ch  (by omega) (by omega)) (cwV 0 hts g_law_44 rfl rfl rfl (by decide +kernel) ⟨(Nat.le_of_ble_eq_true rfl), (Nat.le_of_ble_eq_true rfl)⟩) (z_preV (va_recv (q0 := 0) hKc hPc rfl rfl) hPc hKc hDc) rfl rfl hl.1 rfl (lv_room (Nat.le_of_ble_eq_true rfl)) d_law_250 ⟨(Nat.le_of_ble_eq_true rfl), (Nat.le_of_ble_eq_true rfl)⟩) rfl rfl (by decide) (by decide) hS hP hD hA (fun r1 u1 H locs hr1 hP hD hS => ?_)
  have hP := hP.sub (ws' := Xw h0 qd qs qv cI cJ u1 ++ Mw h1 md ms mv mh mn cI2 cJ2 (dk, hf, gn, rt, ct, pw, sl, sm, cu, ln, lk, lq2, vq2, hs, nd)) [6, 7, 8, 9, 0, 1, 2, 3, 4, 5] rfl
  have hD := hD.sub (ws' := Xw h0 qd qs qv cI cJ u1 ++ Mw h1 md ms mv mh mn cI2 cJ2 (dk, hf, gn, rt, ct, pw, sl, sm, cu, ln, lk, lq2, vq2, hs, nd)) [6, 7, 8, 9, 0, 1, 2, 3, 4, 5] (by decide) rfl
  refine lv_aload_n hx hb d_law_253 rfl (lv_at hl 2 rfl) ?_
  have hPc := hP.sub (ws' := Mw h1 md ms mv mh mn cI2 cJ2 (dk, hf, gn, rt, ct, pw, sl, sm, cu, ln, lk, lq2, vq2, hs, nd)) [4, 5, 6, 7, 8, 9] rfl
  have hDc := hD.sub (ws' := Mw h1 md ms mv mh mn cI2 cJ2 (dk, hf, gn, rt, ct, pw, sl, sm, cu, ln, lk, lq2, vq2, hs, nd)) [4, 5, 6, 7, 8, 9] (by decide) rfl
  have hKc := hK.sub (tys' := [(cI2, .int), (cJ2, .long)]) [2, 3] rfl
  refine z_lawi (wr := Xw h0 qd qs qv cI cJ u1) [4, 5, 6, 7, 8, 9] [0, 1, 2, 3] (va_runV (C := R_M) (b := h1) (As := []) (rest := [.int r1]) ⟨hx, hb, hml, hown, hts⟩ (mc_checkpoint l dC dI h1 md ms mv mh mn cI2 cJ2 _ dk hf gn rt ct pw sl sm cu ln lk lq2 vq2 hs nd  (by omega) (by omega)) (cwV 0 hts g_law_47 rfl rfl rfl (by decide +kernel) ⟨(Nat.le_of_ble_eq_true rfl), (Nat.le_of_ble_eq_true rfl)⟩) (z_preV (va_recv (q0 := 0) hKc hPc rfl rfl) hPc hKc hDc) rfl rfl hl.1 rfl (lv_room (Nat.le_of_ble_eq_true rfl)) d_law_254 ⟨(Nat.le_of_ble_eq_true rfl), (Nat.le_of_ble_eq_true rfl)⟩) rfl rfl (by decide) (by decide) hS hP hD hA (fun r2 u2 H locs hr2 hP hD hS => ?_)
  have hP : va_P (dC, dI) classes (Xw h0 qd qs qv cI cJ u1 ++ Mw h1 md ms mv mh mn cI2 cJ2 u2) H := hP
  have hD : va_D A (Xw h0 qd qs qv cI cJ u1 ++ Mw h1 md ms mv mh mn cI2 cJ2 u2) := hD
  obtain ⟨he, hRl⟩ := rl_check hR (by omega) hr1 hr2
  refine lv_icmp_eq (tgt := 380) hx hb d_law_257 (by decide) (fun _ => ?_) (fun h9 => absurd he h9)
  exact kk _ _ ls _ _ (Rl_up hRl) hl hP hD hS
set_option maxHeartbeats 1000000 in
set_option maxRecDepth 100000 in
theorem lw_case7 {p : Program} {l : Launch} {e : Env} {s : State} {m : MethodId} {below : List Frame} {meth : Method} {c : Code} {b L : Nat} {xs : Nat → Int32} (C0 : lw_At p s m meth c b L xs) (hL : L ≤ 2048) {dC : Nat → ClassId} {dI : Nat → Nat → Nat} {h0 qd qs qv : Nat} {cI cJ : ClassId} {h1 md ms mv mh mn : Nat} {cI2 cJ2 : ClassId} {A : Nat → Prop} (hbA : ¬ A b) (hA : ∀ q, s.heap.size ≤ q → A q) (hK : va_K (dC, dI) classes [(cI, .int), (cJ, .long), (cI2, .int), (cJ2, .long)] s) {i n : Nat} (hi : i + 4 ≤ L) (hn : n ≤ 100000) {u1 : XS} {u2 : MS} (hRl : Rl u1 u2 n) {ls : Array Slot} {H : Heap} {locs : List Loc} (hl : lv_has ls 4 [(0, .ref b), (1, .ref h0), (2, .ref h1), (3, .int (nI i))]) (hP : va_P (dC, dI) classes (Xw h0 qd qs qv cI cJ u1 ++ Mw h1 md ms mv mh mn cI2 cJ2 u2) H) (hD : va_D A (Xw h0 qd qs qv cI cJ u1 ++ Mw h1 md ms mv mh mn cI2 cJ2 u2)) (hS : va_S A s.heap H locs) (kk : ∀ (u1 : XS) (u2 : MS) (ls : Array Slot) (H : Heap) (locs : List Loc), Rl u1 u2 (n + 2) → lv_has ls 4 [(0, .ref b), (1, .ref h0), (2, .ref h1), (3, .int (nI i))] → va_P (dC, dI) classes (Xw h0 qd qs qv cI cJ u1 ++ Mw h1 md ms mv mh mn cI2 cJ2 u2) H → va_D A (Xw h0 qd qs qv cI cJ u1 ++ Mw h1 md ms mv mh mn cI2 cJ2 u2) → va_S A s.heap H locs → W p l e room_1 s m #[Value.ref b] below meth c H locs 10 275 (lw_Z below #[Value.ref b] s) (F0 m 380 ls [])) : W p l e room_1 s m #[Value.ref b] below meth c H locs 10 275 (lw_Z below #[Value.ref b] s) (F0 m 262 ls []) := by
  obtain ⟨hx, hb, hr, hml, hown, hts0, hX, hbl, hlocks, hgv⟩ := C0
  have hts := fun (w : Cond) (h : w ∈ lw_U) => hts0 w (List.mem_filter.mp h).1
  obtain ⟨dk, hf, gn, rt, ct, sl, sm, pw, ln, lq, vq, ch, cu, lk, lq2, vq2, hs, nd, rfl, rfl, hR⟩ := hRl
  have h_f := hR.1
  have h_n := hR.2.1
  refine lv_aload_n hx hb d_law_262 rfl (lv_at hl 1 rfl) ?_
  refine lv_aload_n hx hb d_law_263 rfl (lv_at hl 0 rfl) ?_
  refine lv_iload_n hx hb d_law_264 rfl (lv_at hl 3 rfl) ?_
  refine lv_iconst (v := nI 1) hx hb d_law_265 (by decide) ?_
  refine lv_iadd hx hb d_law_266 ?_
  refine z_top (nI_add _ _) ?_
  refine z_sld hx hb hX hbl hbA hS (by omega) (by omega) d_law_267 ?_
  refine lv_aload_n hx hb d_law_268 rfl (lv_at hl 0 rfl) ?_
  refine lv_iload_n hx hb d_law_269 rfl (lv_at hl 3 rfl) ?_
  refine lv_iconst (v := nI 2) hx hb d_law_270 (by decide) ?_
  refine lv_iadd hx hb d_law_271 ?_
  refine z_top (nI_add _ _) ?_
  refine z_sld hx hb hX hbl hbA hS (by omega) (by omega) d_law_272 ?_
  have hPc := hP.sub (ws' := Xw h0 qd qs qv cI cJ (dk, hf, gn, rt, ct, sl, sm, pw, ln, lq, vq, ch)) [0, 1, 2, 3] rfl
  have hDc := hD.sub (ws' := Xw h0 qd qs qv cI cJ (dk, hf, gn, rt, ct, sl, sm, pw, ln, lq, vq, ch)) [0, 1, 2, 3] (by decide) rfl
  have hKc := hK.sub (tys' := [(cI, .int), (cJ, .long)]) [0, 1] rfl
  refine z_lawi (wr := Mw h1 md ms mv mh mn cI2 cJ2 (dk, hf, gn, rt, ct, pw, sl, sm, cu, ln, lk, lq2, vq2, hs, nd)) [0, 1, 2, 3] [4, 5, 6, 7, 8, 9] (va_runV (C := R_X) (b := h0) (As := [.int (xs (i + 1)), .int (xs (i + 2))]) (rest := []) ⟨hx, hb, hml, hown, hts⟩ (c_alter l dC dI h0 qd qs qv cI cJ _ dk hf gn rt ct sl sm pw ln lq vq ch (xs (i + 1)) (xs (i + 2))) (cwV 2 hts g_law_48 rfl rfl rfl (by decide +kernel) ⟨(Nat.le_of_ble_eq_true rfl), (Nat.le_of_ble_eq_true rfl)⟩) (z_preV (va_recv (q0 := 0) hKc hPc rfl rfl) hPc hKc hDc) rfl rfl hl.1 rfl (lv_room (Nat.le_of_ble_eq_true rfl)) d_law_273 ⟨(Nat.le_of_ble_eq_true rfl), (Nat.le_of_ble_eq_true rfl)⟩) rfl rfl (by decide) (by decide) hS hP hD hA (fun r1 u1 H locs hr1 hP hD hS => ?_)
  have hP := hP.sub (ws' := Xw h0 qd qs qv cI cJ u1 ++ Mw h1 md ms mv mh mn cI2 cJ2 (dk, hf, gn, rt, ct, pw, sl, sm, cu, ln, lk, lq2, vq2, hs, nd)) [6, 7, 8, 9, 0, 1, 2, 3, 4, 5] rfl
  have hD := hD.sub (ws' := Xw h0 qd qs qv cI cJ u1 ++ Mw h1 md ms mv mh mn cI2 cJ2 (dk, hf, gn, rt, ct, pw, sl, sm, cu, ln, lk, lq2, vq2, hs, nd)) [6, 7, 8, 9, 0, 1, 2, 3, 4, 5] (by decide) rfl
  refine lv_aload_n hx hb d_law_276 rfl (lv_at hl 2 rfl) ?_
  refine lv_aload_n hx hb d_law_277 rfl (lv_at hl 0 rfl) ?_
  refine lv_iload_n hx hb d_law_278 rfl (lv_at hl 3 rfl) ?_
  refine lv_iconst (v := nI 1) hx hb d_law_279 (by decide) ?_
  refine lv_iadd hx hb d_law_280 ?_
  refine z_top (nI_add _ _) ?_
  refine z_sld hx hb hX hbl hbA hS (by omega) (by omega) d_law_281 ?_
  refine lv_aload_n hx hb d_law_282 rfl (lv_at hl 0 rfl) ?_
  refine lv_iload_n hx hb d_law_283 rfl (lv_at hl 3 rfl) ?_
  refine lv_iconst (v := nI 2) hx hb d_law_284 (by decide) ?_
  refine lv_iadd hx hb d_law_285 ?_
  refine z_top (nI_add _ _) ?_
  refine z_sld hx hb hX hbl hbA hS (by omega) (by omega) d_law_286 ?_
  have hPc := hP.sub (ws' := Mw h1 md ms mv mh mn cI2 cJ2 (dk, hf, gn, rt, ct, pw, sl, sm, cu, ln, lk, lq2, vq2, hs, nd)) [4, 5, 6, 7, 8, 9] rfl
  have hDc := hD.sub (ws' := Mw h1 md ms mv mh mn cI2 cJ2 (dk, hf, gn, rt, ct, pw, sl, sm, cu, ln, lk, lq2, vq2, hs, nd)) [4, 5, 6, 7, 8, 9] (by decide) rfl
  have hKc := hK.sub (tys' := [(cI2, .int), (cJ2, .long)]) [2, 3] rfl
  refine z_lawi (wr := Xw h0 qd qs qv cI cJ u1) [4, 5, 6, 7, 8, 9] [0, 1, 2, 3] (va_runV (C := R_M) (b := h1) (As := [.int (xs (i + 1)), .int (xs (i + 2))]) (rest := [.int r1]) ⟨hx, hb, hml, hown, hts⟩ (mc_alter l dC dI h1 md ms mv mh mn cI2 cJ2 _ dk hf gn rt ct pw sl sm cu ln lk lq2 vq2 hs nd (xs (i + 1)) (xs (i + 2))) (cwV 2 hts g_law_52 rfl rfl rfl (by decide +kernel) ⟨(Nat.le_of_ble_eq_true rfl), (Nat.le_of_ble_eq_true rfl)⟩) (z_preV (va_recv (q0 := 0) hKc hPc rfl rfl) hPc hKc hDc) rfl rfl hl.1 rfl (lv_room (Nat.le_of_ble_eq_true rfl)) d_law_287 ⟨(Nat.le_of_ble_eq_true rfl), (Nat.le_of_ble_eq_true rfl)⟩) rfl rfl (by decide) (by decide) hS hP hD hA (fun r2 u2 H locs hr2 hP hD hS => ?_)
  have hP : va_P (dC, dI) classes (Xw h0 qd qs qv cI cJ u1 ++ Mw h1 md ms mv mh mn cI2 cJ2 u2) H := hP
  have hD : va_D A (Xw h0 qd qs qv cI cJ u1 ++ Mw h1 md ms mv mh mn cI2 cJ2 u2) := hD
  obtain ⟨he, hRl⟩ := rl_alter hR hr1 hr2
  refine lv_icmp_eq (tgt := 380) hx hb d_law_290 (by decide) (fun _ => ?_) (fun h9 => absurd he h9)
  exact kk _ _ ls _ _ (Rl_up hRl) hl hP hD hS
set_option maxHeartbeats 1000000 in
set_option maxRecDepth 100000 in
theorem lw_case8 {p : Program} {l : Launch} {e : Env} {s : State} {m : MethodId} {below : List Frame} {meth : Method} {c : Code} {b L : Nat} {xs : Nat → Int32} (C0 : lw_At p s m meth c b L xs) (hL : L ≤ 2048) {dC : Nat → ClassId} {dI : Nat → Nat → Nat} {h0 qd qs qv : Nat} {cI cJ : ClassId} {h1 md ms mv mh mn : Nat} {cI2 cJ2 : ClassId} {A : Nat → Prop} (hbA : ¬ A b) (hA : ∀ q, s.heap.size ≤ q → A q) (hK : va_K (dC, dI) classes [(cI, .int), (cJ, .long), (cI2, .int), (cJ2, .long)] s) {i n : Nat} (hi : i + 4 ≤ L) (hn : n ≤ 100000) {u1 : XS} {u2 : MS} (hRl : Rl u1 u2 n) {ls : Array Slot} {H : Heap} {locs : List Loc} (hl : lv_has ls 4 [(0, .ref b), (1, .ref h0), (2, .ref h1), (3, .int (nI i))]) (hP : va_P (dC, dI) classes (Xw h0 qd qs qv cI cJ u1 ++ Mw h1 md ms mv mh mn cI2 cJ2 u2) H) (hD : va_D A (Xw h0 qd qs qv cI cJ u1 ++ Mw h1 md ms mv mh mn cI2 cJ2 u2)) (hS : va_S A s.heap H locs) (kk : ∀ (u1 : XS) (u2 : MS) (ls : Array Slot) (H : Heap) (locs : List Loc), Rl u1 u2 (n + 2) → lv_has ls 4 [(0, .ref b), (1, .ref h0), (2, .ref h1), (3, .int (nI i))] → va_P (dC, dI) classes (Xw h0 qd qs qv cI cJ u1 ++ Mw h1 md ms mv mh mn cI2 cJ2 u2) H → va_D A (Xw h0 qd qs qv cI cJ u1 ++ Mw h1 md ms mv mh mn cI2 cJ2 u2) → va_S A s.heap H locs → W p l e room_1 s m #[Value.ref b] below meth c H locs 10 275 (lw_Z below #[Value.ref b] s) (F0 m 380 ls [])) : W p l e room_1 s m #[Value.ref b] below meth c H locs 10 275 (lw_Z below #[Value.ref b] s) (F0 m 295 ls []) := by
  obtain ⟨hx, hb, hr, hml, hown, hts0, hX, hbl, hlocks, hgv⟩ := C0
  have hts := fun (w : Cond) (h : w ∈ lw_U) => hts0 w (List.mem_filter.mp h).1
  obtain ⟨dk, hf, gn, rt, ct, sl, sm, pw, ln, lq, vq, ch, cu, lk, lq2, vq2, hs, nd, rfl, rfl, hR⟩ := hRl
  have h_f := hR.1
  have h_n := hR.2.1
  refine lv_aload_n hx hb d_law_295 rfl (lv_at hl 1 rfl) ?_
  refine lv_aload_n hx hb d_law_296 rfl (lv_at hl 0 rfl) ?_
  refine lv_iload_n hx hb d_law_297 rfl (lv_at hl 3 rfl) ?_
  refine lv_iconst (v := nI 1) hx hb d_law_298 (by decide) ?_
  refine lv_iadd hx hb d_law_299 ?_
  refine z_top (nI_add _ _) ?_
  refine z_sld hx hb hX hbl hbA hS (by omega) (by omega) d_law_300 ?_
  have hPc := hP.sub (ws' := Xw h0 qd qs qv cI cJ (dk, hf, gn, rt, ct, sl, sm, pw, ln, lq, vq, ch)) [0, 1, 2, 3] rfl
  have hDc := hD.sub (ws' := Xw h0 qd qs qv cI cJ (dk, hf, gn, rt, ct, sl, sm, pw, ln, lq, vq, ch)) [0, 1, 2, 3] (by decide) rfl
  have hKc := hK.sub (tys' := [(cI, .int), (cJ, .long)]) [0, 1] rfl
  refine vp_callSi (W.runV (C := R_X) (b := h0) (As := [.int (xs (i + 1))]) (rest := []) ⟨hx, hb, hml, hown, hts⟩ (c_peek l dC dI h0 qd qs qv cI cJ _ dk hf gn rt ct sl sm pw ln lq vq ch (xs (i + 1))) (cwV 1 hts g_law_53 rfl rfl rfl (by decide +kernel) ⟨(Nat.le_of_ble_eq_true rfl), (Nat.le_of_ble_eq_true rfl)⟩) (z_preV (va_recv (q0 := 0) hKc hPc rfl rfl) hPc hKc hDc) rfl rfl hl.1 rfl (lv_room (Nat.le_of_ble_eq_true rfl)) d_law_301 ⟨(Nat.le_of_ble_eq_true rfl), (Nat.le_of_ble_eq_true rfl)⟩) (fun r1 hr1 => ?_)
  refine lv_aload_n hx hb d_law_304 rfl (lv_at hl 2 rfl) ?_
  refine lv_aload_n hx hb d_law_305 rfl (lv_at hl 0 rfl) ?_
  refine lv_iload_n hx hb d_law_306 rfl (lv_at hl 3 rfl) ?_
  refine lv_iconst (v := nI 1) hx hb d_law_307 (by decide) ?_
  refine lv_iadd hx hb d_law_308 ?_
  refine z_top (nI_add _ _) ?_
  refine z_sld hx hb hX hbl hbA hS (by omega) (by omega) d_law_309 ?_
  have hPc := hP.sub (ws' := Mw h1 md ms mv mh mn cI2 cJ2 (dk, hf, gn, rt, ct, pw, sl, sm, cu, ln, lk, lq2, vq2, hs, nd)) [4, 5, 6, 7, 8, 9] rfl
  have hDc := hD.sub (ws' := Mw h1 md ms mv mh mn cI2 cJ2 (dk, hf, gn, rt, ct, pw, sl, sm, cu, ln, lk, lq2, vq2, hs, nd)) [4, 5, 6, 7, 8, 9] (by decide) rfl
  have hKc := hK.sub (tys' := [(cI2, .int), (cJ2, .long)]) [2, 3] rfl
  refine vp_callSi (W.runV (C := R_M) (b := h1) (As := [.int (xs (i + 1))]) (rest := [.int r1]) ⟨hx, hb, hml, hown, hts⟩ (mc_peek l dC dI h1 md ms mv mh mn cI2 cJ2 _ dk hf gn rt ct pw sl sm cu ln lk lq2 vq2 hs nd (xs (i + 1))) (cwV 1 hts g_law_57 rfl rfl rfl (by decide +kernel) ⟨(Nat.le_of_ble_eq_true rfl), (Nat.le_of_ble_eq_true rfl)⟩) (z_preV (va_recv (q0 := 0) hKc hPc rfl rfl) hPc hKc hDc) rfl rfl hl.1 rfl (lv_room (Nat.le_of_ble_eq_true rfl)) d_law_310 ⟨(Nat.le_of_ble_eq_true rfl), (Nat.le_of_ble_eq_true rfl)⟩) (fun r2 hr2 => ?_)
  have he : r1 = r2 := hr1.trans hr2.symm
  refine lv_icmp_eq (tgt := 380) hx hb d_law_313 (by decide) (fun _ => ?_) (fun h9 => absurd he h9)
  exact kk _ _ ls _ _ (Rl_up (Rl_up (Rl_mk hR))) hl hP hD hS
set_option maxHeartbeats 1000000 in
set_option maxRecDepth 100000 in
theorem lw_case9 {p : Program} {l : Launch} {e : Env} {s : State} {m : MethodId} {below : List Frame} {meth : Method} {c : Code} {b L : Nat} {xs : Nat → Int32} (C0 : lw_At p s m meth c b L xs) (hL : L ≤ 2048) {dC : Nat → ClassId} {dI : Nat → Nat → Nat} {h0 qd qs qv : Nat} {cI cJ : ClassId} {h1 md ms mv mh mn : Nat} {cI2 cJ2 : ClassId} {A : Nat → Prop} (hbA : ¬ A b) (hA : ∀ q, s.heap.size ≤ q → A q) (hK : va_K (dC, dI) classes [(cI, .int), (cJ, .long), (cI2, .int), (cJ2, .long)] s) {i n : Nat} (hi : i + 4 ≤ L) (hn : n ≤ 100000) {u1 : XS} {u2 : MS} (hRl : Rl u1 u2 n) {ls : Array Slot} {H : Heap} {locs : List Loc} (hl : lv_has ls 4 [(0, .ref b), (1, .ref h0), (2, .ref h1), (3, .int (nI i))]) (hP : va_P (dC, dI) classes (Xw h0 qd qs qv cI cJ u1 ++ Mw h1 md ms mv mh mn cI2 cJ2 u2) H) (hD : va_D A (Xw h0 qd qs qv cI cJ u1 ++ Mw h1 md ms mv mh mn cI2 cJ2 u2)) (hS : va_S A s.heap H locs) (kk : ∀ (u1 : XS) (u2 : MS) (ls : Array Slot) (H : Heap) (locs : List Loc), Rl u1 u2 (n + 2) → lv_has ls 4 [(0, .ref b), (1, .ref h0), (2, .ref h1), (3, .int (nI i))] → va_P (dC, dI) classes (Xw h0 qd qs qv cI cJ u1 ++ Mw h1 md ms mv mh mn cI2 cJ2 u2) H → va_D A (Xw h0 qd qs qv cI cJ u1 ++ Mw h1 md ms mv mh mn cI2 cJ2 u2) → va_S A s.heap H locs → W p l e room_1 s m #[Value.ref b] below meth c H locs 10 275 (lw_Z below #[Value.ref b] s) (F0 m 380 ls [])) : W p l e room_1 s m #[Value.ref b] below meth c H locs 10 275 (lw_Z below #[Value.ref b] s) (F0 m 318 ls []) := by
  obtain ⟨hx, hb, hr, hml, hown, hts0, hX, hbl, hlocks, hgv⟩ := C0
  have hts := fun (w : Cond) (h : w ∈ lw_U) => hts0 w (List.mem_filter.mp h).1
  obtain ⟨dk, hf, gn, rt, ct, sl, sm, pw, ln, lq, vq, ch, cu, lk, lq2, vq2, hs, nd, rfl, rfl, hR⟩ := hRl
  have h_f := hR.1
  have h_n := hR.2.1
  refine lv_aload_n hx hb d_law_318 rfl (lv_at hl 1 rfl) ?_
  refine lv_aload_n hx hb d_law_319 rfl (lv_at hl 0 rfl) ?_
  refine lv_iload_n hx hb d_law_320 rfl (lv_at hl 3 rfl) ?_
  refine lv_iconst (v := nI 1) hx hb d_law_321 (by decide) ?_
  refine lv_iadd hx hb d_law_322 ?_
  refine z_top (nI_add _ _) ?_
  refine z_sld hx hb hX hbl hbA hS (by omega) (by omega) d_law_323 ?_
  have hPc := hP.sub (ws' := Xw h0 qd qs qv cI cJ (dk, hf, gn, rt, ct, sl, sm, pw, ln, lq, vq, ch)) [0, 1, 2, 3] rfl
  have hDc := hD.sub (ws' := Xw h0 qd qs qv cI cJ (dk, hf, gn, rt, ct, sl, sm, pw, ln, lq, vq, ch)) [0, 1, 2, 3] (by decide) rfl
  have hKc := hK.sub (tys' := [(cI, .int), (cJ, .long)]) [0, 1] rfl
  refine vp_callSi (W.runV (C := R_X) (b := h0) (As := [.int (xs (i + 1))]) (rest := []) ⟨hx, hb, hml, hown, hts⟩ (c_seal l dC dI h0 qd qs qv cI cJ _ dk hf gn rt ct sl sm pw ln lq vq ch (xs (i + 1))) (cwV 1 hts g_law_58 rfl rfl rfl (by decide +kernel) ⟨(Nat.le_of_ble_eq_true rfl), (Nat.le_of_ble_eq_true rfl)⟩) (z_preV (va_recv (q0 := 0) hKc hPc rfl rfl) hPc hKc hDc) rfl rfl hl.1 rfl (lv_room (Nat.le_of_ble_eq_true rfl)) d_law_324 ⟨(Nat.le_of_ble_eq_true rfl), (Nat.le_of_ble_eq_true rfl)⟩) (fun r1 hr1 => ?_)
  refine lv_aload_n hx hb d_law_327 rfl (lv_at hl 2 rfl) ?_
  refine lv_aload_n hx hb d_law_328 rfl (lv_at hl 0 rfl) ?_
  refine lv_iload_n hx hb d_law_329 rfl (lv_at hl 3 rfl) ?_
  refine lv_iconst (v := nI 1) hx hb d_law_330 (by decide) ?_
  refine lv_iadd hx hb d_law_331 ?_
  refine z_top (nI_add _ _) ?_
  refine z_sld hx hb hX hbl hbA hS (by omega) (by omega) d_law_332 ?_
  have hPc := hP.sub (ws' := Mw h1 md ms mv mh mn cI2 cJ2 (dk, hf, gn, rt, ct, pw, sl, sm, cu, ln, lk, lq2, vq2, hs, nd)) [4, 5, 6, 7, 8, 9] rfl
  have hDc := hD.sub (ws' := Mw h1 md ms mv mh mn cI2 cJ2 (dk, hf, gn, rt, ct, pw, sl, sm, cu, ln, lk, lq2, vq2, hs, nd)) [4, 5, 6, 7, 8, 9] (by decide) rfl
  have hKc := hK.sub (tys' := [(cI2, .int), (cJ2, .long)]) [2, 3] rfl
  refine vp_callSi (W.runV (C := R_M) (b := h1) (As := [.int (xs (i + 1))]) (rest := [.int r1]) ⟨hx, hb, hml, hown, hts⟩ (mc_seal l dC dI h1 md ms mv mh mn cI2 cJ2 _ dk hf gn rt ct pw sl sm cu ln lk lq2 vq2 hs nd (xs (i + 1))) (cwV 1 hts g_law_61 rfl rfl rfl (by decide +kernel) ⟨(Nat.le_of_ble_eq_true rfl), (Nat.le_of_ble_eq_true rfl)⟩) (z_preV (va_recv (q0 := 0) hKc hPc rfl rfl) hPc hKc hDc) rfl rfl hl.1 rfl (lv_room (Nat.le_of_ble_eq_true rfl)) d_law_333 ⟨(Nat.le_of_ble_eq_true rfl), (Nat.le_of_ble_eq_true rfl)⟩) (fun r2 hr2 => ?_)
  have he : r1 = r2 := hr1.trans hr2.symm
  refine lv_icmp_eq (tgt := 380) hx hb d_law_336 (by decide) (fun _ => ?_) (fun h9 => absurd he h9)
  exact kk _ _ ls _ _ (Rl_up (Rl_up (Rl_mk hR))) hl hP hD hS
set_option maxHeartbeats 1000000 in
set_option maxRecDepth 100000 in
theorem lw_case10 {p : Program} {l : Launch} {e : Env} {s : State} {m : MethodId} {below : List Frame} {meth : Method} {c : Code} {b L : Nat} {xs : Nat → Int32} (C0 : lw_At p s m meth c b L xs) (hL : L ≤ 2048) {dC : Nat → ClassId} {dI : Nat → Nat → Nat} {h0 qd qs qv : Nat} {cI cJ : ClassId} {h1 md ms mv mh mn : Nat} {cI2 cJ2 : ClassId} {A : Nat → Prop} (hbA : ¬ A b) (hA : ∀ q, s.heap.size ≤ q → A q) (hK : va_K (dC, dI) classes [(cI, .int), (cJ, .long), (cI2, .int), (cJ2, .long)] s) {i n : Nat} (hi : i + 4 ≤ L) (hn : n ≤ 100000) {u1 : XS} {u2 : MS} (hRl : Rl u1 u2 n) {ls : Array Slot} {H : Heap} {locs : List Loc} (hl : lv_has ls 4 [(0, .ref b), (1, .ref h0), (2, .ref h1), (3, .int (nI i))]) (hP : va_P (dC, dI) classes (Xw h0 qd qs qv cI cJ u1 ++ Mw h1 md ms mv mh mn cI2 cJ2 u2) H) (hD : va_D A (Xw h0 qd qs qv cI cJ u1 ++ Mw h1 md ms mv mh mn cI2 cJ2 u2)) (hS : va_S A s.heap H locs) (kk : ∀ (u1 : XS) (u2 : MS) (ls : Array Slot) (H : Heap) (locs : List Loc), Rl u1 u2 (n + 2) → lv_has ls 4 [(0, .ref b), (1, .ref h0), (2, .ref h1), (3, .int (nI i))] → va_P (dC, dI) classes (Xw h0 qd qs qv cI cJ u1 ++ Mw h1 md ms mv mh mn cI2 cJ2 u2) H → va_D A (Xw h0 qd qs qv cI cJ u1 ++ Mw h1 md ms mv mh mn cI2 cJ2 u2) → va_S A s.heap H locs → W p l e room_1 s m #[Value.ref b] below meth c H locs 10 275 (lw_Z below #[Value.ref b] s) (F0 m 380 ls [])) : W p l e room_1 s m #[Value.ref b] below meth c H locs 10 275 (lw_Z below #[Value.ref b] s) (F0 m 341 ls []) := by
  obtain ⟨hx, hb, hr, hml, hown, hts0, hX, hbl, hlocks, hgv⟩ := C0
  have hts := fun (w : Cond) (h : w ∈ lw_U) => hts0 w (List.mem_filter.mp h).1
  obtain ⟨dk, hf, gn, rt, ct, sl, sm, pw, ln, lq, vq, ch, cu, lk, lq2, vq2, hs, nd, rfl, rfl, hR⟩ := hRl
  have h_f := hR.1
  have h_n := hR.2.1
  refine lv_aload_n hx hb d_law_341 rfl (lv_at hl 1 rfl) ?_
  have hPc := hP.sub (ws' := Xw h0 qd qs qv cI cJ (dk, hf, gn, rt, ct, sl, sm, pw, ln, lq, vq, ch)) [0, 1, 2, 3] rfl
  have hDc := hD.sub (ws' := Xw h0 qd qs qv cI cJ (dk, hf, gn, rt, ct, sl, sm, pw, ln, lq, vq, ch)) [0, 1, 2, 3] (by decide) rfl
  have hKc := hK.sub (tys' := [(cI, .int), (cJ, .long)]) [0, 1] rfl
  refine vp_callSi (W.runV (C := R_X) (b := h0) (As := []) (rest := []) ⟨hx, hb, hml, hown, hts⟩ (c_writes l dC dI h0 qd qs qv cI cJ _ dk hf gn rt ct sl sm pw ln lq vq ch ) (cwV 0 hts g_law_62 rfl rfl rfl (by decide +kernel) ⟨(Nat.le_of_ble_eq_true rfl), (Nat.le_of_ble_eq_true rfl)⟩) (z_preV (va_recv (q0 := 0) hKc hPc rfl rfl) hPc hKc hDc) rfl rfl hl.1 rfl (lv_room (Nat.le_of_ble_eq_true rfl)) d_law_342 ⟨(Nat.le_of_ble_eq_true rfl), (Nat.le_of_ble_eq_true rfl)⟩) (fun r1 hr1 => ?_)
  refine lv_aload_n hx hb d_law_345 rfl (lv_at hl 2 rfl) ?_
  have hPc := hP.sub (ws' := Mw h1 md ms mv mh mn cI2 cJ2 (dk, hf, gn, rt, ct, pw, sl, sm, cu, ln, lk, lq2, vq2, hs, nd)) [4, 5, 6, 7, 8, 9] rfl
  have hDc := hD.sub (ws' := Mw h1 md ms mv mh mn cI2 cJ2 (dk, hf, gn, rt, ct, pw, sl, sm, cu, ln, lk, lq2, vq2, hs, nd)) [4, 5, 6, 7, 8, 9] (by decide) rfl
  have hKc := hK.sub (tys' := [(cI2, .int), (cJ2, .long)]) [2, 3] rfl
  refine vp_callSi (W.runV (C := R_M) (b := h1) (As := []) (rest := [.int r1]) ⟨hx, hb, hml, hown, hts⟩ (mc_writes l dC dI h1 md ms mv mh mn cI2 cJ2 _ dk hf gn rt ct pw sl sm cu ln lk lq2 vq2 hs nd ) (cwV 0 hts g_law_65 rfl rfl rfl (by decide +kernel) ⟨(Nat.le_of_ble_eq_true rfl), (Nat.le_of_ble_eq_true rfl)⟩) (z_preV (va_recv (q0 := 0) hKc hPc rfl rfl) hPc hKc hDc) rfl rfl hl.1 rfl (lv_room (Nat.le_of_ble_eq_true rfl)) d_law_346 ⟨(Nat.le_of_ble_eq_true rfl), (Nat.le_of_ble_eq_true rfl)⟩) (fun r2 hr2 => ?_)
  have he : r1 = r2 := hr1.trans hr2.symm
  refine lv_icmp_eq (tgt := 380) hx hb d_law_349 (by decide) (fun _ => ?_) (fun h9 => absurd he h9)
  exact kk _ _ ls _ _ (Rl_up (Rl_up (Rl_mk hR))) hl hP hD hS
set_option maxHeartbeats 1000000 in
set_option maxRecDepth 100000 in
theorem lw_case11 {p : Program} {l : Launch} {e : Env} {s : State} {m : MethodId} {below : List Frame} {meth : Method} {c : Code} {b L : Nat} {xs : Nat → Int32} (C0 : lw_At p s m meth c b L xs) (hL : L ≤ 2048) {dC : Nat → ClassId} {dI : Nat → Nat → Nat} {h0 qd qs qv : Nat} {cI cJ : ClassId} {h1 md ms mv mh mn : Nat} {cI2 cJ2 : ClassId} {A : Nat → Prop} (hbA : ¬ A b) (hA : ∀ q, s.heap.size ≤ q → A q) (hK : va_K (dC, dI) classes [(cI, .int), (cJ, .long), (cI2, .int), (cJ2, .long)] s) {i n : Nat} (hi : i + 4 ≤ L) (hn : n ≤ 100000) {u1 : XS} {u2 : MS} (hRl : Rl u1 u2 n) {ls : Array Slot} {H : Heap} {locs : List Loc} (hl : lv_has ls 4 [(0, .ref b), (1, .ref h0), (2, .ref h1), (3, .int (nI i))]) (hP : va_P (dC, dI) classes (Xw h0 qd qs qv cI cJ u1 ++ Mw h1 md ms mv mh mn cI2 cJ2 u2) H) (hD : va_D A (Xw h0 qd qs qv cI cJ u1 ++ Mw h1 md ms mv mh mn cI2 cJ2 u2)) (hS : va_S A s.heap H locs) (kk : ∀ (u1 : XS) (u2 : MS) (ls : Array Slot) (H : Heap) (locs : List Loc), Rl u1 u2 (n + 2) → lv_has ls 4 [(0, .ref b), (1, .ref h0), (2, .ref h1), (3, .int (nI i))] → va_P (dC, dI) classes (Xw h0 qd qs qv cI cJ u1 ++ Mw h1 md ms mv mh mn cI2 cJ2 u2) H → va_D A (Xw h0 qd qs qv cI cJ u1 ++ Mw h1 md ms mv mh mn cI2 cJ2 u2) → va_S A s.heap H locs → W p l e room_1 s m #[Value.ref b] below meth c H locs 10 275 (lw_Z below #[Value.ref b] s) (F0 m 380 ls [])) : W p l e room_1 s m #[Value.ref b] below meth c H locs 10 275 (lw_Z below #[Value.ref b] s) (F0 m 354 ls []) := by
  obtain ⟨hx, hb, hr, hml, hown, hts0, hX, hbl, hlocks, hgv⟩ := C0
  have hts := fun (w : Cond) (h : w ∈ lw_U) => hts0 w (List.mem_filter.mp h).1
  obtain ⟨dk, hf, gn, rt, ct, sl, sm, pw, ln, lq, vq, ch, cu, lk, lq2, vq2, hs, nd, rfl, rfl, hR⟩ := hRl
  have h_f := hR.1
  have h_n := hR.2.1
  refine lv_aload_n hx hb d_law_354 rfl (lv_at hl 1 rfl) ?_
  have hPc := hP.sub (ws' := Xw h0 qd qs qv cI cJ (dk, hf, gn, rt, ct, sl, sm, pw, ln, lq, vq, ch)) [0, 1, 2, 3] rfl
  have hDc := hD.sub (ws' := Xw h0 qd qs qv cI cJ (dk, hf, gn, rt, ct, sl, sm, pw, ln, lq, vq, ch)) [0, 1, 2, 3] (by decide) rfl
  have hKc := hK.sub (tys' := [(cI, .int), (cJ, .long)]) [0, 1] rfl
  refine vp_callSi (W.runV (C := R_X) (b := h0) (As := []) (rest := []) ⟨hx, hb, hml, hown, hts⟩ (c_sound l dC dI h0 qd qs qv cI cJ _ dk hf gn rt ct sl sm pw ln lq vq ch  (by omega) (by omega)) (cwV 0 hts g_law_66 rfl rfl rfl (by decide +kernel) ⟨(Nat.le_of_ble_eq_true rfl), (Nat.le_of_ble_eq_true rfl)⟩) (z_preV (va_recv (q0 := 0) hKc hPc rfl rfl) hPc hKc hDc) rfl rfl hl.1 rfl (lv_room (Nat.le_of_ble_eq_true rfl)) d_law_355 ⟨(Nat.le_of_ble_eq_true rfl), (Nat.le_of_ble_eq_true rfl)⟩) (fun r1 hr1 => ?_)
  refine lv_aload_n hx hb d_law_358 rfl (lv_at hl 2 rfl) ?_
  have hPc := hP.sub (ws' := Mw h1 md ms mv mh mn cI2 cJ2 (dk, hf, gn, rt, ct, pw, sl, sm, cu, ln, lk, lq2, vq2, hs, nd)) [4, 5, 6, 7, 8, 9] rfl
  have hDc := hD.sub (ws' := Mw h1 md ms mv mh mn cI2 cJ2 (dk, hf, gn, rt, ct, pw, sl, sm, cu, ln, lk, lq2, vq2, hs, nd)) [4, 5, 6, 7, 8, 9] (by decide) rfl
  have hKc := hK.sub (tys' := [(cI2, .int), (cJ2, .long)]) [2, 3] rfl
  refine vp_callSi (W.runV (C := R_M) (b := h1) (As := []) (rest := [.int r1]) ⟨hx, hb, hml, hown, hts⟩ (mc_sound l dC dI h1 md ms mv mh mn cI2 cJ2 _ dk hf gn rt ct pw sl sm cu ln lk lq2 vq2 hs nd  (by omega) (by omega)) (cwV 0 hts g_law_69 rfl rfl rfl (by decide +kernel) ⟨(Nat.le_of_ble_eq_true rfl), (Nat.le_of_ble_eq_true rfl)⟩) (z_preV (va_recv (q0 := 0) hKc hPc rfl rfl) hPc hKc hDc) rfl rfl hl.1 rfl (lv_room (Nat.le_of_ble_eq_true rfl)) d_law_359 ⟨(Nat.le_of_ble_eq_true rfl), (Nat.le_of_ble_eq_true rfl)⟩) (fun r2 hr2 => ?_)
  have he : r1 = r2 := rl_sound hR hr1 hr2
  refine lv_icmp_eq (tgt := 380) hx hb d_law_362 (by decide) (fun _ => ?_) (fun h9 => absurd he h9)
  exact kk _ _ ls _ _ (Rl_up (Rl_up (Rl_mk hR))) hl hP hD hS
set_option maxHeartbeats 1000000 in
set_option maxRecDepth 100000 in
theorem lw_case12 {p : Program} {l : Launch} {e : Env} {s : State} {m : MethodId} {below : List Frame} {meth : Method} {c : Code} {b L : Nat} {xs : Nat → Int32} (C0 : lw_At p s m meth c b L xs) (hL : L ≤ 2048) {dC : Nat → ClassId} {dI : Nat → Nat → Nat} {h0 qd qs qv : Nat} {cI cJ : ClassId} {h1 md ms mv mh mn : Nat} {cI2 cJ2 : ClassId} {A : Nat → Prop} (hbA : ¬ A b) (hA : ∀ q, s.heap.size ≤ q → A q) (hK : va_K (dC, dI) classes [(cI, .int), (cJ, .long), (cI2, .int), (cJ2, .long)] s) {i n : Nat} (hi : i + 4 ≤ L) (hn : n ≤ 100000) {u1 : XS} {u2 : MS} (hRl : Rl u1 u2 n) {ls : Array Slot} {H : Heap} {locs : List Loc} (hl : lv_has ls 4 [(0, .ref b), (1, .ref h0), (2, .ref h1), (3, .int (nI i))]) (hP : va_P (dC, dI) classes (Xw h0 qd qs qv cI cJ u1 ++ Mw h1 md ms mv mh mn cI2 cJ2 u2) H) (hD : va_D A (Xw h0 qd qs qv cI cJ u1 ++ Mw h1 md ms mv mh mn cI2 cJ2 u2)) (hS : va_S A s.heap H locs) (kk : ∀ (u1 : XS) (u2 : MS) (ls : Array Slot) (H : Heap) (locs : List Loc), Rl u1 u2 (n + 2) → lv_has ls 4 [(0, .ref b), (1, .ref h0), (2, .ref h1), (3, .int (nI i))] → va_P (dC, dI) classes (Xw h0 qd qs qv cI cJ u1 ++ Mw h1 md ms mv mh mn cI2 cJ2 u2) H → va_D A (Xw h0 qd qs qv cI cJ u1 ++ Mw h1 md ms mv mh mn cI2 cJ2 u2) → va_S A s.heap H locs → W p l e room_1 s m #[Value.ref b] below meth c H locs 10 275 (lw_Z below #[Value.ref b] s) (F0 m 380 ls [])) : W p l e room_1 s m #[Value.ref b] below meth c H locs 10 275 (lw_Z below #[Value.ref b] s) (F0 m 367 ls []) := by
  obtain ⟨hx, hb, hr, hml, hown, hts0, hX, hbl, hlocks, hgv⟩ := C0
  have hts := fun (w : Cond) (h : w ∈ lw_U) => hts0 w (List.mem_filter.mp h).1
  obtain ⟨dk, hf, gn, rt, ct, sl, sm, pw, ln, lq, vq, ch, cu, lk, lq2, vq2, hs, nd, rfl, rfl, hR⟩ := hRl
  have h_f := hR.1
  have h_n := hR.2.1
  refine lv_aload_n hx hb d_law_367 rfl (lv_at hl 1 rfl) ?_
  have hPc := hP.sub (ws' := Xw h0 qd qs qv cI cJ (dk, hf, gn, rt, ct, sl, sm, pw, ln, lq, vq, ch)) [0, 1, 2, 3] rfl
  have hDc := hD.sub (ws' := Xw h0 qd qs qv cI cJ (dk, hf, gn, rt, ct, sl, sm, pw, ln, lq, vq, ch)) [0, 1, 2, 3] (by decide) rfl
  have hKc := hK.sub (tys' := [(cI, .int), (cJ, .long)]) [0, 1] rfl
  refine vp_callSi (W.runV (C := R_X) (b := h0) (As := []) (rest := []) ⟨hx, hb, hml, hown, hts⟩ (c_steps l dC dI h0 qd qs qv cI cJ _ dk hf gn rt ct sl sm pw ln lq vq ch ) (cwV 0 hts g_law_70 rfl rfl rfl (by decide +kernel) ⟨(Nat.le_of_ble_eq_true rfl), (Nat.le_of_ble_eq_true rfl)⟩) (z_preV (va_recv (q0 := 0) hKc hPc rfl rfl) hPc hKc hDc) rfl rfl hl.1 rfl (lv_room (Nat.le_of_ble_eq_true rfl)) d_law_368 ⟨(Nat.le_of_ble_eq_true rfl), (Nat.le_of_ble_eq_true rfl)⟩) (fun r1 hr1 => ?_)
  refine lv_aload_n hx hb d_law_371 rfl (lv_at hl 2 rfl) ?_
  have hPc := hP.sub (ws' := Mw h1 md ms mv mh mn cI2 cJ2 (dk, hf, gn, rt, ct, pw, sl, sm, cu, ln, lk, lq2, vq2, hs, nd)) [4, 5, 6, 7, 8, 9] rfl
  have hDc := hD.sub (ws' := Mw h1 md ms mv mh mn cI2 cJ2 (dk, hf, gn, rt, ct, pw, sl, sm, cu, ln, lk, lq2, vq2, hs, nd)) [4, 5, 6, 7, 8, 9] (by decide) rfl
  have hKc := hK.sub (tys' := [(cI2, .int), (cJ2, .long)]) [2, 3] rfl
  refine vp_callSi (W.runV (C := R_M) (b := h1) (As := []) (rest := [.int r1]) ⟨hx, hb, hml, hown, hts⟩ (mc_steps l dC dI h1 md ms mv mh mn cI2 cJ2 _ dk hf gn rt ct pw sl sm cu ln lk lq2 vq2 hs nd ) (cwV 0 hts g_law_73 rfl rfl rfl (by decide +kernel) ⟨(Nat.le_of_ble_eq_true rfl), (Nat.le_of_ble_eq_true rfl)⟩) (z_preV (va_recv (q0 := 0) hKc hPc rfl rfl) hPc hKc hDc) rfl rfl hl.1 rfl (lv_room (Nat.le_of_ble_eq_true rfl)) d_law_372 ⟨(Nat.le_of_ble_eq_true rfl), (Nat.le_of_ble_eq_true rfl)⟩) (fun r2 hr2 => ?_)
  have he : r1 = r2 := hr1.trans hr2.symm
  refine lv_icmp_eq (tgt := 380) hx hb d_law_375 (by decide) (fun _ => ?_) (fun h9 => absurd he h9)
  exact kk _ _ ls _ _ (Rl_up (Rl_up (Rl_mk hR))) hl hP hD hS
end
section
set_option maxHeartbeats 1000000 in
set_option maxRecDepth 100000 in
theorem lw_loop {p : Program} {l : Launch} {e : Env} {s : State} {m : MethodId} {below : List Frame} {meth : Method} {c : Code} {b L : Nat} {xs : Nat → Int32} (C0 : lw_At p s m meth c b L xs) (hL : L ≤ 2048) {dC : Nat → ClassId} {dI : Nat → Nat → Nat} {h0 qd qs qv : Nat} {cI cJ : ClassId} {h1 md ms mv mh mn : Nat} {cI2 cJ2 : ClassId} (hK : va_K (dC, dI) classes [(cI, .int), (cJ, .long), (cI2, .int), (cJ2, .long)] s) : ∀ (f i n : Nat) (u1 : XS) (u2 : MS) (ls : Array Slot) (H : Heap) (locs : List Loc), L ≤ i + 4 * f → i ≤ 3000 → n + 2 * f ≤ 3000 → Rl u1 u2 n → lv_has ls 4 [(0, .ref b), (1, .ref h0), (2, .ref h1), (3, .int (nI i))] → va_P (dC, dI) classes (Xw h0 qd qs qv cI cJ u1 ++ Mw h1 md ms mv mh mn cI2 cJ2 u2) H → va_D (fun q => s.heap.size ≤ q) (Xw h0 qd qs qv cI cJ u1 ++ Mw h1 md ms mv mh mn cI2 cJ2 u2) → va_S (fun q => s.heap.size ≤ q) s.heap H locs → W p l e room_1 s m #[Value.ref b] below meth c H locs 10 275 (lw_Z below #[Value.ref b] s) (F0 m 18 ls []) := by
  have C1 := C0
  obtain ⟨hx, hb, hr, hml, hown, hts0, hX, hbl, hlocks, hgv⟩ := C0
  have hts := fun (w : Cond) (h : w ∈ lw_U) => hts0 w (List.mem_filter.mp h).1
  have hbA : ¬ (fun q => s.heap.size ≤ q) b := Nat.not_le.mpr hbl
  have hA : ∀ q : Nat, s.heap.size ≤ q → (fun q => s.heap.size ≤ q) q := fun q h => h
  have hend : ∀ (i : Nat) (u1 : XS) (u2 : MS) (ls : Array Slot) (H : Heap) (locs : List Loc), ¬ i + 4 ≤ L → i ≤ 3000 → lv_has ls 4 [(0, .ref b), (1, .ref h0), (2, .ref h1), (3, .int (nI i))] → va_P (dC, dI) classes (Xw h0 qd qs qv cI cJ u1 ++ Mw h1 md ms mv mh mn cI2 cJ2 u2) H → va_D (fun q => s.heap.size ≤ q) (Xw h0 qd qs qv cI cJ u1 ++ Mw h1 md ms mv mh mn cI2 cJ2 u2) → va_S (fun q => s.heap.size ≤ q) s.heap H locs → W p l e room_1 s m #[Value.ref b] below meth c H locs 10 275 (lw_Z below #[Value.ref b] s) (F0 m 18 ls []) := by
    intro i u1 u2 ls H locs h4 hi hl hP hD hS
    refine lv_iload_n hx hb d_law_18 rfl (lv_at hl 3 rfl) ?_
    refine lv_aload_n hx hb d_law_19 rfl (lv_at hl 0 rfl) ?_
    refine va_slen hx hb hX hbl hbA hS d_law_20 ?_
    refine lv_iconst (v := nI 4) hx hb d_law_21 (by decide) ?_
    refine lv_isub hx hb d_law_22 ?_
    refine z_top rfl ?_
    refine lv_icmp_gt (tgt := 386) hx hb d_law_23 (by decide) (fun _ => ?_) (fun h9 => absurd (z_end h4 hL (by omega)) h9)
    refine lv_iconst (v := (1 : Int32)) hx hb d_law_386 (by decide) ?_
    refine va_forget hS.2.2 ?_
    refine W.widen (k := 10) (n := 275) (by decide) (by decide) ?_
    exact lw_ret hx hb hr hlocks d_law_387
  intro f
  induction f with
  | zero => exact fun i n u1 u2 ls H locs hf hi hn hRl hl hP hD hS => hend i u1 u2 ls H locs (by omega) hi hl hP hD hS
  | succ f ih =>
    intro i n u1 u2 ls H locs hf hi hn hRl hl hP hD hS
    by_cases h4 : i + 4 ≤ L
    · have next : ∀ (u1 : XS) (u2 : MS) (ls : Array Slot) (H : Heap) (locs : List Loc), Rl u1 u2 (n + 2) → lv_has ls 4 [(0, .ref b), (1, .ref h0), (2, .ref h1), (3, .int (nI i))] → va_P (dC, dI) classes (Xw h0 qd qs qv cI cJ u1 ++ Mw h1 md ms mv mh mn cI2 cJ2 u2) H → va_D (fun q => s.heap.size ≤ q) (Xw h0 qd qs qv cI cJ u1 ++ Mw h1 md ms mv mh mn cI2 cJ2 u2) → va_S (fun q => s.heap.size ≤ q) s.heap H locs → W p l e room_1 s m #[Value.ref b] below meth c H locs 10 275 (lw_Z below #[Value.ref b] s) (F0 m 380 ls []) := by
        intro u1 u2 ls H locs hRl hl hP hD hS
        refine lv_iinc (k := 3) hx hb d_law_380 hl rfl (z_inc _ 4) (by decide) rfl (fun ls hl => ?_)
        have hl : lv_has ls 4 [(3, .int (nI (i + 4))), (0, .ref b), (1, .ref h0), (2, .ref h1)] := hl
        refine lv_goto (tgt := 18) hx hb d_law_383 (by decide) ?_
        exact ih (i + 4) (n + 2) u1 u2 ls H locs (by omega) (by omega) (by omega) hRl (lv_sub hl [1, 2, 3, 0] rfl) hP hD hS
      refine lv_iload_n hx hb d_law_18 rfl (lv_at hl 3 rfl) ?_
      refine lv_aload_n hx hb d_law_19 rfl (lv_at hl 0 rfl) ?_
      refine va_slen hx hb hX hbl hbA hS d_law_20 ?_
      refine lv_iconst (v := nI 4) hx hb d_law_21 (by decide) ?_
      refine lv_isub hx hb d_law_22 ?_
      refine z_top (pk_sub (by omega)) ?_
      refine lv_icmp_gt (tgt := 386) hx hb d_law_23 (by decide) (fun h9 => absurd h9 (fun q => absurd ((nI_ltI (by omega) (by omega)).mp q) (by omega))) (fun _ => ?_)
      refine lv_aload_n hx hb d_law_26 rfl (lv_at hl 0 rfl) ?_
      refine lv_iload_n hx hb d_law_27 rfl (lv_at hl 3 rfl) ?_
      refine z_sld hx hb hX hbl hbA hS (by omega) (by omega) d_law_28 ?_
      refine lv_bipush (v := (15 : Int32)) hx hb d_law_29 (by decide) ?_
      refine lv_iand hx hb d_law_31 ?_
      obtain ⟨j, hj, ej⟩ := pk_andE (xs i) (m := 15) 4 (by decide)
      refine z_top ej ?_
      rcases (show j = 0 ∨ j = 1 ∨ j = 2 ∨ j = 3 ∨ j = 4 ∨ j = 5 ∨ j = 6 ∨ j = 7 ∨ j = 8 ∨ j = 9 ∨ j = 10 ∨ j = 11 ∨ j = 12 ∨ j = 13 ∨ j = 14 ∨ j = 15 by omega) with rfl | rfl | rfl | rfl | rfl | rfl | rfl | rfl | rfl | rfl | rfl | rfl | rfl | rfl | rfl | rfl
      · refine lv_tableIn (tgt := 100) hx hb d_law_32 (by decide) (by decide) rfl (by decide) ?_
        exact lw_case0 C1 hL hbA hA hK h4 (by omega) hRl hl hP hD hS next
      · refine lv_tableIn (tgt := 113) hx hb d_law_32 (by decide) (by decide) rfl (by decide) ?_
        exact lw_case1 C1 hL hbA hA hK h4 (by omega) hRl hl hP hD hS next
      · refine lv_tableIn (tgt := 136) hx hb d_law_32 (by decide) (by decide) rfl (by decide) ?_
        exact lw_case2 C1 hL hbA hA hK h4 (by omega) hRl hl hP hD hS next
      · refine lv_tableIn (tgt := 149) hx hb d_law_32 (by decide) (by decide) rfl (by decide) ?_
        exact lw_case3 C1 hL hbA hA hK h4 (by omega) hRl hl hP hD hS next
      · refine lv_tableIn (tgt := 212) hx hb d_law_32 (by decide) (by decide) rfl (by decide) ?_
        exact lw_case4 C1 hL hbA hA hK h4 (by omega) hRl hl hP hD hS next
      · refine lv_tableIn (tgt := 236) hx hb d_law_32 (by decide) (by decide) rfl (by decide) ?_
        exact lw_case5 C1 hL hbA hA hK h4 (by omega) hRl hl hP hD hS next
      · refine lv_tableIn (tgt := 249) hx hb d_law_32 (by decide) (by decide) rfl (by decide) ?_
        exact lw_case6 C1 hL hbA hA hK h4 (by omega) hRl hl hP hD hS next
      · refine lv_tableIn (tgt := 262) hx hb d_law_32 (by decide) (by decide) rfl (by decide) ?_
        exact lw_case7 C1 hL hbA hA hK h4 (by omega) hRl hl hP hD hS next
      · refine lv_tableIn (tgt := 295) hx hb d_law_32 (by decide) (by decide) rfl (by decide) ?_
        exact lw_case8 C1 hL hbA hA hK h4 (by omega) hRl hl hP hD hS next
      · refine lv_tableIn (tgt := 318) hx hb d_law_32 (by decide) (by decide) rfl (by decide) ?_
        exact lw_case9 C1 hL hbA hA hK h4 (by omega) hRl hl hP hD hS next
      · refine lv_tableIn (tgt := 341) hx hb d_law_32 (by decide) (by decide) rfl (by decide) ?_
        exact lw_case10 C1 hL hbA hA hK h4 (by omega) hRl hl hP hD hS next
      · refine lv_tableIn (tgt := 354) hx hb d_law_32 (by decide) (by decide) rfl (by decide) ?_
        exact lw_case11 C1 hL hbA hA hK h4 (by omega) hRl hl hP hD hS next
      · refine lv_tableIn (tgt := 367) hx hb d_law_32 (by decide) (by decide) rfl (by decide) ?_
        exact lw_case12 C1 hL hbA hA hK h4 (by omega) hRl hl hP hD hS next
      · refine lv_tableOut (tgt := 380) hx hb d_law_32 (Or.inr (by decide)) (by decide) ?_
        exact next u1 u2 ls H locs (Rl_up (Rl_up hRl)) hl hP hD hS
      · refine lv_tableOut (tgt := 380) hx hb d_law_32 (Or.inr (by decide)) (by decide) ?_
        exact next u1 u2 ls H locs (Rl_up (Rl_up hRl)) hl hP hD hS
      · refine lv_tableOut (tgt := 380) hx hb d_law_32 (Or.inr (by decide)) (by decide) ?_
        exact next u1 u2 ls H locs (Rl_up (Rl_up hRl)) hl hP hD hS
    · exact hend i u1 u2 ls H locs h4 hi hl hP hD hS
end
section
set_option maxHeartbeats 1000000 in
set_option maxRecDepth 100000 in
theorem whole_start {p : Program} {e : Env} {s : State} {m : MethodId} {below : List Frame} {meth : Method} {c : Code} (l : Launch) {b L : Nat} {xs : Nat → Int32} (hL : L ≤ 2048) (C0 : lw_At p s m meth c b L xs) : W p l e room_1 s m #[Value.ref b] below meth c s.heap [] 0 0 (lw_Z below #[Value.ref b] s) (entryFrame m ([Value.ref b] : List Value).toArray 4) := by
  have C1 := C0
  obtain ⟨hx, hb, hr, hml, hown, hts0, hX, hbl, hlocks, hgv⟩ := C0
  have hts := fun (w : Cond) (h : w ∈ lw_U) => hts0 w (List.mem_filter.mp h).1
  obtain ⟨cx, ix, hkx⟩ := u_known (C := R_X) (T := F_X) (N := 12) hts lay_X (hts _ m_36)
  obtain ⟨cm, im, hkm⟩ := u_known (C := R_M) (T := F_M) (N := 15) hts lay_M (hts _ m_248)
  obtain ⟨dC, hdC⟩ : ∃ d : Nat → ClassId, d 0 = cx ∧ d 1 = cm := ⟨fun k => if k = 0 then cx else cm, rfl, rfl⟩
  obtain ⟨dI, hdI⟩ : ∃ d : Nat → Nat → Nat, d 0 = ix ∧ d 1 = im := ⟨fun k => if k = 0 then ix else im, rfl, rfl⟩
  have hK : va_K (dC, dI) classes [] s := by
    refine ⟨fun k q hq => ?_, fun k q hk => by simp at hk⟩
    rcases k with _ | _ | k
    · cases hq; show u_Kn s R_X F_X 12 (dC 0) (dI 0); rw [hdC.1, hdI.1]; exact hkx
    · cases hq; show u_Kn s R_M F_M 15 (dC 1) (dI 1); rw [hdC.2, hdI.2]; exact hkm
    · cases hq
  have hA : ∀ q : Nat, s.heap.size ≤ q → (fun q => s.heap.size ≤ q) q := fun q h => h
  have hS : va_S (fun q => s.heap.size ≤ q) s.heap s.heap [] := va_S.rf
  have hP : va_P (dC, dI) classes [] s.heap := fun k q h => by simp at h
  have hD : va_D (fun q => s.heap.size ≤ q) [] := ⟨fun i j p q h => by simp at h, fun k q h => by simp at h⟩
  have hl := lv_entry ([.ref b]) (n := 4) (Nat.le_of_ble_eq_true rfl)
  rw [lg_entry_eq]
  generalize (lg_sl ([.ref b]) ++ List.replicate (4 - (lg_sl ([.ref b])).length) Slot.unset).toArray = ls at hl ⊢
  have hl : lv_has ls 4 [(0, .ref b)] := hl
  refine va_new (ci := 0) (fs := [.null, .int 0, .int 0, .int 0, .int 0, .int 0, .int 0, .int 0, .int 0, .null, .null, .int 0]) (C := R_X) (T := F_X) (N := 12) hx hb hts lay_X t_X t_X_ok hown (hts _ m_35) (hts _ m_36) (hts _ m_33) hK hP hD hS hA rfl (fun j hj => by rcases (show j = 0 ∨ j = 1 ∨ j = 2 ∨ j = 3 ∨ j = 4 ∨ j = 5 ∨ j = 6 ∨ j = 7 ∨ j = 8 ∨ j = 9 ∨ j = 10 ∨ j = 11 by omega) with rfl | rfl | rfl | rfl | rfl | rfl | rfl | rfl | rfl | rfl | rfl | rfl <;> rfl) (Nat.le_of_ble_eq_true rfl) (Nat.le_of_ble_eq_true rfl) d_law_0 (fun h0 H hP hD hS => ?_)
  have hP : va_P (dC, dI) classes ([(h0, .inr (0, [.null, .int 0, .int 0, .int 0, .int 0, .int 0, .int 0, .int 0, .int 0, .null, .null, .int 0]))]) H := hP
  have hD : va_D (fun q => s.heap.size ≤ q) ([(h0, .inr (0, [.null, .int 0, .int 0, .int 0, .int 0, .int 0, .int 0, .int 0, .int 0, .null, .null, .int 0]))]) := hD
  refine W.widen (k := 1) (n := 12) (by omega) (by omega) ?_
  refine lv_dup hx hb d_law_3 rfl ?_
  have hPc := hP.sub (ws' := [(h0, .inr (0, [.null, .int 0, .int 0, .int 0, .int 0, .int 0, .int 0, .int 0, .int 0, .null, .null, .int 0]))]) [0] rfl
  have hDc := hD.sub (ws' := [(h0, .inr (0, [.null, .int 0, .int 0, .int 0, .int 0, .int 0, .int 0, .int 0, .int 0, .null, .null, .int 0]))]) [0] (by decide) rfl
  have hKc := hK.sub (tys' := []) [] rfl
  have hFc := va_free (wc := [(h0, .inr (0, [.null, .int 0, .int 0, .int 0, .int 0, .int 0, .int 0, .int 0, .int 0, .null, .null, .int 0]))]) hD hS hA [0] rfl
  refine va_callv (va_runI (As := []) (rest := [.ref h0]) ⟨hx, hb, hml, hown, hts⟩ (c_init l dC dI h0 H.size) (cwI 0 hts g_law_9 rfl rfl rfl (hts _ m_33) (hts _ m_37) (hts _ m_38) rfl (by decide +kernel) ⟨(Nat.le_of_ble_eq_true rfl), (Nat.le_of_ble_eq_true rfl)⟩) (z_preS (As := [.ref h0]) hPc hKc hDc) rfl rfl hl.1 rfl (lv_room (Nat.le_of_ble_eq_true rfl)) d_law_4 ⟨(Nat.le_of_ble_eq_true rfl), (Nat.le_of_ble_eq_true rfl)⟩) hS (fun q _ h => hFc q h) hFc (fun u t H1 locs ht hvm h5 hB hz1 hk1 hS => ?_)
  obtain ⟨qd, qs, qv, cI, cJ⟩ := u
  obtain ⟨hP1, hK1, hD1⟩ := hB
  rw [ht] at hP1
  have hK1 := va_K.moved hvm.symm hK1
  have hK1 : va_K (dC, dI) classes [(cI, .int), (cJ, .long)] s := hK1
  obtain ⟨hP, hD⟩ := va_join (wr := []) (w1 := Xw h0 qd qs qv cI cJ iniX) hP hD [0] [] rfl rfl (by decide) (by decide) hk1 hFc hP1 hD1
  have hK := (hK.sub (tys' := []) [] rfl).app hK1
  generalize H1 = H at hP hS ⊢
  have hP : va_P (dC, dI) classes (Xw h0 qd qs qv cI cJ iniX) H := hP
  have hD : va_D (fun q => s.heap.size ≤ q) (Xw h0 qd qs qv cI cJ iniX) := hD
  have hK : va_K (dC, dI) classes [(cI, .int), (cJ, .long)] s := hK
  refine W.widen (k := 4) (n := 124) (by omega) (by omega) ?_
  refine lv_astore_n hx hb d_law_7 rfl hl (by decide) rfl (fun ls hl => ?_)
  have hl : lv_has ls 4 [(1, .ref h0), (0, .ref b)] := hl
  refine va_new (ci := 1) (fs := [.null, .int 0, .int 0, .int 0, .int 0, .int 0, .int 0, .int 0, .int 0, .int 0, .int 0, .null, .null, .null, .null]) (C := R_M) (T := F_M) (N := 15) hx hb hts lay_M t_M t_M_ok hown (hts _ m_247) (hts _ m_248) (hts _ m_34) hK hP hD hS hA rfl (fun j hj => by rcases (show j = 0 ∨ j = 1 ∨ j = 2 ∨ j = 3 ∨ j = 4 ∨ j = 5 ∨ j = 6 ∨ j = 7 ∨ j = 8 ∨ j = 9 ∨ j = 10 ∨ j = 11 ∨ j = 12 ∨ j = 13 ∨ j = 14 by omega) with rfl | rfl | rfl | rfl | rfl | rfl | rfl | rfl | rfl | rfl | rfl | rfl | rfl | rfl | rfl <;> rfl) (Nat.le_of_ble_eq_true rfl) (Nat.le_of_ble_eq_true rfl) d_law_8 (fun h1 H hP hD hS => ?_)
  have hP : va_P (dC, dI) classes (Xw h0 qd qs qv cI cJ iniX ++ [(h1, .inr (1, [.null, .int 0, .int 0, .int 0, .int 0, .int 0, .int 0, .int 0, .int 0, .int 0, .int 0, .null, .null, .null, .null]))]) H := hP
  have hD : va_D (fun q => s.heap.size ≤ q) (Xw h0 qd qs qv cI cJ iniX ++ [(h1, .inr (1, [.null, .int 0, .int 0, .int 0, .int 0, .int 0, .int 0, .int 0, .int 0, .int 0, .int 0, .null, .null, .null, .null]))]) := hD
  refine W.widen (k := 5) (n := 139) (by omega) (by omega) ?_
  refine lv_dup hx hb d_law_11 rfl ?_
  have hPc := hP.sub (ws' := [(h1, .inr (1, [.null, .int 0, .int 0, .int 0, .int 0, .int 0, .int 0, .int 0, .int 0, .int 0, .int 0, .null, .null, .null, .null]))]) [4] rfl
  have hDc := hD.sub (ws' := [(h1, .inr (1, [.null, .int 0, .int 0, .int 0, .int 0, .int 0, .int 0, .int 0, .int 0, .int 0, .int 0, .null, .null, .null, .null]))]) [4] (by decide) rfl
  have hKc := hK.sub (tys' := []) [] rfl
  have hFc := va_free (wc := [(h1, .inr (1, [.null, .int 0, .int 0, .int 0, .int 0, .int 0, .int 0, .int 0, .int 0, .int 0, .int 0, .null, .null, .null, .null]))]) hD hS hA [4] rfl
  refine va_callv (va_runI (As := []) (rest := [.ref h1]) ⟨hx, hb, hml, hown, hts⟩ (mc_init l dC dI h1 H.size) (cwI 0 hts g_law_12 rfl rfl rfl (hts _ m_34) (hts _ m_249) (hts _ m_250) rfl (by decide +kernel) ⟨(Nat.le_of_ble_eq_true rfl), (Nat.le_of_ble_eq_true rfl)⟩) (z_preS (As := [.ref h1]) hPc hKc hDc) rfl rfl hl.1 rfl (lv_room (Nat.le_of_ble_eq_true rfl)) d_law_12 ⟨(Nat.le_of_ble_eq_true rfl), (Nat.le_of_ble_eq_true rfl)⟩) hS (fun q _ h => hFc q h) hFc (fun u t H1 locs ht hvm h5 hB hz1 hk1 hS => ?_)
  obtain ⟨md, ms, mv, mh, mn, cI2, cJ2, hs⟩ := u
  obtain ⟨hP1, hK1, hD1⟩ := hB
  rw [ht] at hP1
  have hK1 := va_K.moved hvm.symm hK1
  have hK1 : va_K (dC, dI) classes [(cI2, .int), (cJ2, .long)] s := hK1
  obtain ⟨hP, hD⟩ := va_join (wr := Xw h0 qd qs qv cI cJ iniX) (w1 := Mw h1 md ms mv mh mn cI2 cJ2 (iniM hs)) hP hD [4] [0, 1, 2, 3] rfl rfl (by decide) (by decide) hk1 hFc hP1 hD1
  have hK := (hK.sub (tys' := [(cI, .int), (cJ, .long)]) [0, 1] rfl).app hK1
  generalize H1 = H at hP hS ⊢
  have hP : va_P (dC, dI) classes (Xw h0 qd qs qv cI cJ iniX ++ Mw h1 md ms mv mh mn cI2 cJ2 (iniM hs)) H := hP
  have hD : va_D (fun q => s.heap.size ≤ q) (Xw h0 qd qs qv cI cJ iniX ++ Mw h1 md ms mv mh mn cI2 cJ2 (iniM hs)) := hD
  have hK : va_K (dC, dI) classes [(cI, .int), (cJ, .long), (cI2, .int), (cJ2, .long)] s := hK
  refine W.widen (k := 10) (n := 275) (by omega) (by omega) ?_
  refine lv_astore_n hx hb d_law_15 rfl hl (by decide) rfl (fun ls hl => ?_)
  have hl : lv_has ls 4 [(2, .ref h1), (1, .ref h0), (0, .ref b)] := hl
  refine lv_iconst (v := nI 0) hx hb d_law_16 (by decide) ?_
  refine lv_istore_n hx hb d_law_17 rfl hl (by decide) rfl (fun ls hl => ?_)
  exact lw_loop C1 hL hK 513 0 1 _ _ ls _ _ (by omega) (by omega) (by omega) (rl_init hs) (lv_sub hl [3, 2, 1, 0] rfl) hP hD hS
end
section
set_option maxHeartbeats 4000000 in
theorem lw_walk (l : Launch) (b : Addr) (xs : List Int32) : MetFree l x (headSpec (Jvm.Cond.code x code maxLocals ret :: tables_1) room_1) (lw_P b xs) (fun _ _ _ _ _ => True) lw_Q := by
  refine MetFree.of_bodyS (code := code) (maxLocals := maxLocals) (ret := ret) (by decide) ?_ ?_
  · intro args s m h hn
    obtain ⟨meth, c, h1, h2, h3, h4, h5, h6, -, -⟩ := Cond.code_spec hn (atoms_spec (ws := Jvm.Cond.code x code maxLocals ret :: tables_1) h _ List.mem_cons_self)
    exact ⟨meth, c, h1, h2, h3, h4, h5, h6⟩
  · intro p e s m args below meth c s₁ B hml0 hP _
    obtain ⟨rfl, hx, hbd, hgv⟩ := hP
    obtain ⟨scr, harrAt, hlist, hof, hsmall⟩ := hx
    obtain ⟨hcb, hkn, -, -⟩ := State.arrayAt?_spec harrAt
    have hown : s.vm.findClass R_law = some m.cls := findClass_of_methodNamed B.named
    have hts0 : ∀ c ∈ (Jvm.Cond.code x code maxLocals ret :: tables_1), c.before #[Value.ref b] s = true := atoms_spec (ws := Jvm.Cond.code x code maxLocals ret :: tables_1) B.pre
    have hts : ∀ w ∈ lw_tbl, w.before #[Value.ref b] s = true := k2_hts_sels lw_privs (fun w hw => hts0 w (List.mem_cons_of_mem _ hw)) lw_privs_ok
    have hml : c.maxLocals = 4 := B.maxLocals_eq (hts0 _ List.mem_cons_self)
    have X₀ : Stand p l e room_1 s m #[Value.ref b] below meth c s₁ [] 0 0 := Stand.of_body B
    have hh0 : s₁.heap = s.heap := by rw [B.state]; rfl
    have hsz : scr.slots.size = xs.length := by rw [← Array.length_toList, hlist, List.length_map]
    have hval : ∀ j : Nat, j < xs.length → scr.slots[j]? = some (.int (xs.getD j 0)) := fun j hj => by
      rw [← Array.getElem?_toList, hlist]
      simp [hj]
    have hbl : b < s.heap.size := (Array.getElem?_eq_some_iff.mp hcb).1
    have hX : va_X b xs.length (fun j => xs.getD j 0) s s.heap := ⟨scr, hcb, hof, hkn, hsz, hval⟩
    have K : W p l e room_1 s m #[Value.ref b] below meth c s₁.heap [] 0 0 (lw_Z below #[Value.ref b] s) (entryFrame m ([Value.ref b] : List Value).toArray 4) := by
      rw [hh0]
      exact whole_start l hbd ⟨B.exec, B.bytes, B.returns, hml, hown, hts, hX, hbl, B.notSynchronized, hgv⟩
    obtain ⟨t, a1, o, b1, b2, b3⟩ := K s₁ rfl X₀
    exact ⟨t, o, a1, b1, b2, b3⟩
theorem lw_pre_spec {args : Array Value} {s : State} (h : (Jvm.Cond.and given_1 narrow_1).before args s = true) (hr : rest_1_c.before args s = true) : ∃ (b : Addr) (xs : List Int32), lw_P b xs args s := by
  have hs := flat_of_before _ h
  have hq := flat_of_before _ hr
  have hc : (Cond.count 1).before args s = true := hs _ (by decide +kernel)
  have harr : (Cond.arrayOf (.arg 0) .int).before args s = true := hs _ (by decide +kernel)
  have hle : (Cond.le (.length (.arg 0)) (.int 2048)).before args s = true := hs _ (by decide +kernel)
  have hlen : (Cond.isInt (.length (.arg 0))).before args s = true := hq _ (by decide +kernel)
  have hall : (Cond.all (.arg 0) (.isInt (.elem (.arg 0) (.index 0)))).before args s = true := hq _ (by decide +kernel)
  obtain ⟨b, xs, hb, hx⟩ := State.ints_of_pre rfl harr hlen hall
  have hsm : xs.length < 2 ^ 31 := hx.choose_spec.2.2.2
  have hev : (Term.length (.arg 0)).eval args s none [] s = some (.int xs.length.toInt32) := hx.length_eval hb
  have hv := Cond.le_ints hev (show (Term.int 2048).eval args s none [] s = some (.int 2048) from rfl)
  have hd : xs.length.toInt32 ≤ 2048 := by
    simpa [Cond.before, Cond.holds, hv] using hle
  have hN : xs.length ≤ 2048 := (Int32.ofNat_le_ofNat hsm (by decide)).mp (show Int32.ofNat xs.length ≤ Int32.ofNat 2048 from hd)
  exact ⟨b, xs, Cond.one_arg hc (show args[0]? = some (.ref b) from hb), hx, hN, h⟩
theorem lw_comes (l : Launch) : Comes l x (Jvm.Cond.code x code maxLocals ret :: tables_1) room_1 (fun tb e args s => Calls_1 tb e args s ∧ rest_1 tb e args s ∧ Pre_1 tb e args s)
    (fun _ _ args s o t => lw_Q args s o t) := by
  intro p e ha hc hk s m args below hf hfit hheap happ hpre
  obtain ⟨b, xs, hP⟩ := lw_pre_spec hpre.2.2 hpre.2.1
  obtain ⟨k, o, h1, h2, h3, hQ⟩ := lw_walk l b xs p e ha hc hk s m args below hf ((Spec.applies_iff_loose hf).mp happ).1 hP trivial
  exact ⟨k, o, h1, h2, h3, hQ⟩
theorem lw_frame {s t : State} {o : Outcome} {args : Array Value} (h : Framed s o t [] 10 275) :
    Framed s o t (fieldLocs frame_1_writes args s ++ arrayLocs frame_1_arrays args s ++ staticLocs frame_1_statics s) 10 275 := h
theorem lw_limb (L : Cond) (hL : ∀ (args : Array Value) (s t : State), L.after args s (.returned (some (.int 1))) t = true) :
    ArmFor flags0 classFile x code maxLocals ret World_1 tables_1 room_1 Calls_1 rest_1 Pre_1
      (fun tb e a s o t => postC L tb e a s o t ∧ Framed s o t (fieldLocs frame_1_writes a s ++ arrayLocs frame_1_arrays a s ++ staticLocs frame_1_statics s) 10 275) := by
  intro l _ _ _ p e ha hc hk s m args below hf hfit hheap happ hpre
  obtain ⟨k, o, h1, h2, h3, rfl, hF⟩ := lw_comes l p e ha hc hk s m args below hf hfit hheap happ hpre
  exact ⟨k, _, h1, h2, h3, hL args s _, lw_frame hF⟩
theorem i_vc : Claimed_1_1 ∧ Claimed_1_2 := ⟨lw_limb limb_1_1 (fun args s t => by simp [limb_1_1, Cond.after, Cond.holds, Cond.value]), lw_limb limb_1_2 (fun args s t => Cond.after_iff.mpr (by
  first | (rw [show limb_1_2 = Cond.eq .result (.int 1) from rfl, Cond.eq_ints (x := 1) (y := 1) rfl rfl]; simp; done) | (simp [limb_1_2, Cond.value, Term.eval]; done)))⟩
end
