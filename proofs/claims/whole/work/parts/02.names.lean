/-- the words of lw_tbl that a contract may ask for -/
def lw_U : List Cond := lw_tbl.filter goodWord
def R_X : String := "SealedSectors"
def F_X : u_T := fun k => match k with
  | 0 => ("SealedSectors", "disk", "[I", true)
  | 1 => ("SealedSectors", "half", "I", false)
  | 2 => ("SealedSectors", "generation", "I", false)
  | 3 => ("SealedSectors", "root", "I", false)
  | 4 => ("SealedSectors", "count", "I", false)
  | 5 => ("SealedSectors", "stepsLeft", "I", false)
  | 6 => ("SealedSectors", "stepsMade", "I", false)
  | 7 => ("SealedSectors", "on", "Z", false)
  | 8 => ("SealedSectors", "listSize", "I", false)
  | 9 => ("SealedSectors", "listSectors", "[I", true)
  | 10 => ("SealedSectors", "listValues", "[J", true)
  | _ => ("SealedSectors", "chain", "I", false)
def t_X : Nat → FieldType := fun k => match k with
  | 0 => .array .int
  | 1 => .int
  | 2 => .int
  | 3 => .int
  | 4 => .int
  | 5 => .int
  | 6 => .int
  | 7 => .boolean
  | 8 => .int
  | 9 => .array .int
  | 10 => .array .long
  | _ => .int
theorem n_X : ∀ a, a < 12 → ∀ b, b < 12 → a ≠ b → (F_X a).2.1 ≠ (F_X b).2.1 := by decide +kernel
theorem t_X_ok : ∀ k, k < 12 → parseFieldDescriptor (F_X k).2.2.1 = some (t_X k) := by decide +kernel
def R_M : String := "SealedSectorsModel"
def F_M : u_T := fun k => match k with
  | 0 => ("SealedSectorsModel", "disk", "[I", true)
  | 1 => ("SealedSectorsModel", "half", "I", false)
  | 2 => ("SealedSectorsModel", "generation", "I", false)
  | 3 => ("SealedSectorsModel", "root", "I", false)
  | 4 => ("SealedSectorsModel", "count", "I", false)
  | 5 => ("SealedSectorsModel", "power", "Z", false)
  | 6 => ("SealedSectorsModel", "armed", "I", false)
  | 7 => ("SealedSectorsModel", "steps", "I", false)
  | 8 => ("SealedSectorsModel", "cut", "Z", false)
  | 9 => ("SealedSectorsModel", "listed", "I", false)
  | 10 => ("SealedSectorsModel", "link", "I", false)
  | 11 => ("SealedSectorsModel", "sectorOf", "[I", true)
  | 12 => ("SealedSectorsModel", "valueOf", "[J", true)
  | 13 => ("SealedSectorsModel", "has", "[J", true)
  | _ => ("SealedSectorsModel", "node", "[I", true)
def t_M : Nat → FieldType := fun k => match k with
  | 0 => .array .int
  | 1 => .int
  | 2 => .int
  | 3 => .int
  | 4 => .int
  | 5 => .boolean
  | 6 => .int
  | 7 => .int
  | 8 => .boolean
  | 9 => .int
  | 10 => .int
  | 11 => .array .int
  | 12 => .array .long
  | 13 => .array .long
  | _ => .array .int
theorem n_M : ∀ a, a < 15 → ∀ b, b < 15 → a ≠ b → (F_M a).2.1 ≠ (F_M b).2.1 := by decide +kernel
theorem t_M_ok : ∀ k, k < 15 → parseFieldDescriptor (F_M k).2.2.1 = some (t_M k) := by decide +kernel
abbrev b_X_init : ByteArray := prog_1_method_1_code
def y_X_init : MethodName := ⟨R_X, "<init>", "()V"⟩
abbrev w_X_init : List Cond := .code y_X_init b_X_init 2 none :: lw_U
abbrev b_X_encipher : ByteArray := prog_1_method_16_code
def y_X_encipher : MethodName := ⟨R_X, "encipher", "(III)I"⟩
abbrev w_X_encipher : List Cond := .code y_X_encipher b_X_encipher 3 (some .int) :: lw_U
abbrev b_X_digest : ByteArray := prog_1_method_15_code
def y_X_digest : MethodName := ⟨R_X, "digest", "(II)I"⟩
abbrev w_X_digest : List Cond := .code y_X_digest b_X_digest 3 (some .int) :: lw_U
abbrev b_X_nodePlace : ByteArray := prog_1_method_22_code
def y_X_nodePlace : MethodName := ⟨R_X, "nodePlace", "(II)I"⟩
abbrev w_X_nodePlace : List Cond := .code y_X_nodePlace b_X_nodePlace 2 (some .int) :: lw_U
abbrev b_X_dueNode : ByteArray := prog_1_method_24_code
def y_X_dueNode : MethodName := ⟨R_X, "dueNode", "(III)I"⟩
abbrev w_X_dueNode : List Cond := .code y_X_dueNode b_X_dueNode 6 (some .int) :: lw_U
abbrev b_X_sectorPlace : ByteArray := prog_1_method_21_code
def y_X_sectorPlace : MethodName := ⟨R_X, "sectorPlace", "(II)I"⟩
abbrev w_X_sectorPlace : List Cond := .code y_X_sectorPlace b_X_sectorPlace 2 (some .int) :: lw_U
abbrev b_X_mount : ByteArray := prog_1_method_2_code
def y_X_mount : MethodName := ⟨R_X, "mount", "()I"⟩
abbrev w_X_mount : List Cond := .code y_X_mount b_X_mount 1 (some .int) :: lw_U
abbrev b_X_takeJournal : ByteArray := prog_1_method_34_code
def y_X_takeJournal : MethodName := ⟨R_X, "takeJournal", "()V"⟩
abbrev w_X_takeJournal : List Cond := .code y_X_takeJournal b_X_takeJournal 7 none :: lw_U
abbrev b_X_beginList : ByteArray := prog_1_method_31_code
def y_X_beginList : MethodName := ⟨R_X, "beginList", "()V"⟩
abbrev w_X_beginList : List Cond := .code y_X_beginList b_X_beginList 1 none :: lw_U
abbrev b_X_recordPlace : ByteArray := prog_1_method_23_code
def y_X_recordPlace : MethodName := ⟨R_X, "recordPlace", "(II)I"⟩
abbrev w_X_recordPlace : List Cond := .code y_X_recordPlace b_X_recordPlace 2 (some .int) :: lw_U
abbrev b_X_chainBehind : ByteArray := prog_1_method_32_code
def y_X_chainBehind : MethodName := ⟨R_X, "chainBehind", "(I)I"⟩
abbrev w_X_chainBehind : List Cond := .code y_X_chainBehind b_X_chainBehind 2 (some .int) :: lw_U
abbrev b_X_valueAt : ByteArray := prog_1_method_25_code
def y_X_valueAt : MethodName := ⟨R_X, "valueAt", "(I)J"⟩
abbrev w_X_valueAt : List Cond := .code y_X_valueAt b_X_valueAt 6 (some .long) :: lw_U
abbrev b_X_markOf : ByteArray := prog_1_method_33_code
def y_X_markOf : MethodName := ⟨R_X, "markOf", "(I)I"⟩
abbrev w_X_markOf : List Cond := .code y_X_markOf b_X_markOf 1 (some .int) :: lw_U
abbrev b_X_isSector : ByteArray := prog_1_method_19_code
def y_X_isSector : MethodName := ⟨R_X, "isSector", "(I)Z"⟩
abbrev w_X_isSector : List Cond := .code y_X_isSector b_X_isSector 1 (some .boolean) :: lw_U
abbrev b_X_addToList : ByteArray := prog_1_method_30_code
def y_X_addToList : MethodName := ⟨R_X, "addToList", "(IJ)V"⟩
abbrev w_X_addToList : List Cond := .code y_X_addToList b_X_addToList 4 none :: lw_U
abbrev b_X_forget : ByteArray := prog_1_method_29_code
def y_X_forget : MethodName := ⟨R_X, "forget", "()V"⟩
abbrev w_X_forget : List Cond := .code y_X_forget b_X_forget 1 none :: lw_U
abbrev b_X_arm : ByteArray := prog_1_method_3_code
def y_X_arm : MethodName := ⟨R_X, "arm", "(I)Z"⟩
abbrev w_X_arm : List Cond := .code y_X_arm b_X_arm 2 (some .boolean) :: lw_U
abbrev b_X_isOn : ByteArray := prog_1_method_4_code
def y_X_isOn : MethodName := ⟨R_X, "isOn", "()Z"⟩
abbrev w_X_isOn : List Cond := .code y_X_isOn b_X_isOn 1 (some .boolean) :: lw_U
abbrev b_X_write : ByteArray := prog_1_method_5_code
def y_X_write : MethodName := ⟨R_X, "write", "(IJ)I"⟩
abbrev w_X_write : List Cond := .code y_X_write b_X_write 5 (some .int) :: lw_U
abbrev b_X_moveToOtherHalf : ByteArray := prog_1_method_43_code
def y_X_moveToOtherHalf : MethodName := ⟨R_X, "moveToOtherHalf", "()I"⟩
abbrev w_X_moveToOtherHalf : List Cond := .code y_X_moveToOtherHalf b_X_moveToOtherHalf 3 (some .int) :: lw_U
abbrev b_X_soundSectors : ByteArray := prog_1_method_28_code
def y_X_soundSectors : MethodName := ⟨R_X, "soundSectors", "()I"⟩
abbrev w_X_soundSectors : List Cond := .code y_X_soundSectors b_X_soundSectors 3 (some .int) :: lw_U
abbrev b_X_valueOf : ByteArray := prog_1_method_27_code
def y_X_valueOf : MethodName := ⟨R_X, "valueOf", "(I)J"⟩
abbrev w_X_valueOf : List Cond := .code y_X_valueOf b_X_valueOf 4 (some .long) :: lw_U
abbrev b_X_rootAbove : ByteArray := prog_1_method_26_code
def y_X_rootAbove : MethodName := ⟨R_X, "rootAbove", "(I)I"⟩
abbrev w_X_rootAbove : List Cond := .code y_X_rootAbove b_X_rootAbove 5 (some .int) :: lw_U
abbrev b_X_clearMarks : ByteArray := prog_1_method_40_code
def y_X_clearMarks : MethodName := ⟨R_X, "clearMarks", "(I)Z"⟩
abbrev w_X_clearMarks : List Cond := .code y_X_clearMarks b_X_clearMarks 3 (some .boolean) :: lw_U
abbrev b_X_storeWord : ByteArray := prog_1_method_36_code
def y_X_storeWord : MethodName := ⟨R_X, "storeWord", "(II)Z"⟩
abbrev w_X_storeWord : List Cond := .code y_X_storeWord b_X_storeWord 3 (some .boolean) :: lw_U
abbrev b_X_stepHappens : ByteArray := prog_1_method_35_code
def y_X_stepHappens : MethodName := ⟨R_X, "stepHappens", "()Z"⟩
abbrev w_X_stepHappens : List Cond := .code y_X_stepHappens b_X_stepHappens 1 (some .boolean) :: lw_U
abbrev b_X_storeSectors : ByteArray := prog_1_method_41_code
def y_X_storeSectors : MethodName := ⟨R_X, "storeSectors", "(II)Z"⟩
abbrev w_X_storeSectors : List Cond := .code y_X_storeSectors b_X_storeSectors 4 (some .boolean) :: lw_U
abbrev b_X_storeValue : ByteArray := prog_1_method_37_code
def y_X_storeValue : MethodName := ⟨R_X, "storeValue", "(IJI)Z"⟩
abbrev w_X_storeValue : List Cond := .code y_X_storeValue b_X_storeValue 5 (some .boolean) :: lw_U
abbrev b_X_upper : ByteArray := prog_1_method_17_code
def y_X_upper : MethodName := ⟨R_X, "upper", "(J)I"⟩
abbrev w_X_upper : List Cond := .code y_X_upper b_X_upper 2 (some .int) :: lw_U
abbrev b_X_lower : ByteArray := prog_1_method_18_code
def y_X_lower : MethodName := ⟨R_X, "lower", "(J)I"⟩
abbrev w_X_lower : List Cond := .code y_X_lower b_X_lower 2 (some .int) :: lw_U
abbrev b_X_storeNodes : ByteArray := prog_1_method_42_code
def y_X_storeNodes : MethodName := ⟨R_X, "storeNodes", "(II)Z"⟩
abbrev w_X_storeNodes : List Cond := .code y_X_storeNodes b_X_storeNodes 4 (some .boolean) :: lw_U
abbrev b_X_changeSeal : ByteArray := prog_1_method_38_code
def y_X_changeSeal : MethodName := ⟨R_X, "changeSeal", "(IIII)Z"⟩
abbrev w_X_changeSeal : List Cond := .code y_X_changeSeal b_X_changeSeal 5 (some .boolean) :: lw_U
abbrev b_X_storeRecord : ByteArray := prog_1_method_39_code
def y_X_storeRecord : MethodName := ⟨R_X, "storeRecord", "(IJ)Z"⟩
abbrev w_X_storeRecord : List Cond := .code y_X_storeRecord b_X_storeRecord 6 (some .boolean) :: lw_U
abbrev b_X_read : ByteArray := prog_1_method_6_code
def y_X_read : MethodName := ⟨R_X, "read", "(I)J"⟩
abbrev w_X_read : List Cond := .code y_X_read b_X_read 2 (some .long) :: lw_U
abbrev b_X_sync : ByteArray := prog_1_method_7_code
def y_X_sync : MethodName := ⟨R_X, "sync", "()I"⟩
abbrev w_X_sync : List Cond := .code y_X_sync b_X_sync 1 (some .int) :: lw_U
abbrev b_X_checkpoint : ByteArray := prog_1_method_8_code
def y_X_checkpoint : MethodName := ⟨R_X, "checkpoint", "()I"⟩
abbrev w_X_checkpoint : List Cond := .code y_X_checkpoint b_X_checkpoint 1 (some .int) :: lw_U
abbrev b_X_alter : ByteArray := prog_1_method_9_code
def y_X_alter : MethodName := ⟨R_X, "alter", "(II)Z"⟩
abbrev w_X_alter : List Cond := .code y_X_alter b_X_alter 3 (some .boolean) :: lw_U
abbrev b_X_isPlace : ByteArray := prog_1_method_20_code
def y_X_isPlace : MethodName := ⟨R_X, "isPlace", "(I)Z"⟩
abbrev w_X_isPlace : List Cond := .code y_X_isPlace b_X_isPlace 1 (some .boolean) :: lw_U
abbrev b_X_peek : ByteArray := prog_1_method_10_code
def y_X_peek : MethodName := ⟨R_X, "peek", "(I)I"⟩
abbrev w_X_peek : List Cond := .code y_X_peek b_X_peek 2 (some .int) :: lw_U
abbrev b_X_seal : ByteArray := prog_1_method_11_code
def y_X_seal : MethodName := ⟨R_X, "seal", "(I)I"⟩
abbrev w_X_seal : List Cond := .code y_X_seal b_X_seal 2 (some .int) :: lw_U
abbrev b_X_writes : ByteArray := prog_1_method_12_code
def y_X_writes : MethodName := ⟨R_X, "writes", "()I"⟩
abbrev w_X_writes : List Cond := .code y_X_writes b_X_writes 1 (some .int) :: lw_U
abbrev b_X_sound : ByteArray := prog_1_method_13_code
def y_X_sound : MethodName := ⟨R_X, "sound", "()I"⟩
abbrev w_X_sound : List Cond := .code y_X_sound b_X_sound 1 (some .int) :: lw_U
abbrev b_X_steps : ByteArray := prog_1_method_14_code
def y_X_steps : MethodName := ⟨R_X, "steps", "()I"⟩
abbrev w_X_steps : List Cond := .code y_X_steps b_X_steps 1 (some .int) :: lw_U
abbrev b_M_init : ByteArray := prog_3_method_1_code
def y_M_init : MethodName := ⟨R_M, "<init>", "()V"⟩
abbrev w_M_init : List Cond := .code y_M_init b_M_init 2 none :: lw_U
abbrev b_M_key : ByteArray := prog_3_method_3_code
def y_M_key : MethodName := ⟨R_M, "key", "(II)I"⟩
abbrev w_M_key : List Cond := .code y_M_key b_M_key 2 (some .int) :: lw_U
abbrev b_M_digest : ByteArray := prog_3_method_2_code
def y_M_digest : MethodName := ⟨R_M, "digest", "(II)I"⟩
abbrev w_M_digest : List Cond := .code y_M_digest b_M_digest 4 (some .int) :: lw_U
abbrev b_M_nodes : ByteArray := prog_3_method_7_code
def y_M_nodes : MethodName := ⟨R_M, "nodes", "(II)V"⟩
abbrev w_M_nodes : List Cond := .code y_M_nodes b_M_nodes 4 none :: lw_U
abbrev b_M_leaf : ByteArray := prog_3_method_6_code
def y_M_leaf : MethodName := ⟨R_M, "leaf", "(IIII)I"⟩
abbrev w_M_leaf : List Cond := .code y_M_leaf b_M_leaf 6 (some .int) :: lw_U
abbrev b_M_arm : ByteArray := prog_3_method_11_code
def y_M_arm : MethodName := ⟨R_M, "arm", "(I)Z"⟩
abbrev w_M_arm : List Cond := .code y_M_arm b_M_arm 2 (some .boolean) :: lw_U
abbrev b_M_isOn : ByteArray := prog_3_method_12_code
def y_M_isOn : MethodName := ⟨R_M, "isOn", "()Z"⟩
abbrev w_M_isOn : List Cond := .code y_M_isOn b_M_isOn 1 (some .boolean) :: lw_U
abbrev b_M_mount : ByteArray := prog_3_method_17_code
def y_M_mount : MethodName := ⟨R_M, "mount", "()I"⟩
abbrev w_M_mount : List Cond := .code y_M_mount b_M_mount 3 (some .int) :: lw_U
abbrev b_M_due : ByteArray := prog_3_method_16_code
def y_M_due : MethodName := ⟨R_M, "due", "(I)Z"⟩
abbrev w_M_due : List Cond := .code y_M_due b_M_due 3 (some .boolean) :: lw_U
abbrev b_M_entryAt : ByteArray := prog_3_method_13_code
def y_M_entryAt : MethodName := ⟨R_M, "entryAt", "(I)I"⟩
abbrev w_M_entryAt : List Cond := .code y_M_entryAt b_M_entryAt 2 (some .int) :: lw_U
abbrev b_M_clear : ByteArray := prog_3_method_4_code
def y_M_clear : MethodName := ⟨R_M, "clear", "(II)I"⟩
abbrev w_M_clear : List Cond := .code y_M_clear b_M_clear 3 (some .int) :: lw_U
abbrev b_M_chain : ByteArray := prog_3_method_14_code
def y_M_chain : MethodName := ⟨R_M, "chain", "(I)I"⟩
abbrev w_M_chain : List Cond := .code y_M_chain b_M_chain 5 (some .int) :: lw_U
abbrev b_M_recorded : ByteArray := prog_3_method_15_code
def y_M_recorded : MethodName := ⟨R_M, "recorded", "(I)J"⟩
abbrev w_M_recorded : List Cond := .code y_M_recorded b_M_recorded 5 (some .long) :: lw_U
abbrev b_M_joined : ByteArray := prog_3_method_5_code
def y_M_joined : MethodName := ⟨R_M, "joined", "(II)J"⟩
abbrev w_M_joined : List Cond := .code y_M_joined b_M_joined 2 (some .long) :: lw_U
abbrev b_M_read : ByteArray := prog_3_method_20_code
def y_M_read : MethodName := ⟨R_M, "read", "(I)J"⟩
abbrev w_M_read : List Cond := .code y_M_read b_M_read 4 (some .long) :: lw_U
abbrev b_M_value : ByteArray := prog_3_method_19_code
def y_M_value : MethodName := ⟨R_M, "value", "(I)J"⟩
abbrev w_M_value : List Cond := .code y_M_value b_M_value 3 (some .long) :: lw_U
abbrev b_M_looked : ByteArray := prog_3_method_18_code
def y_M_looked : MethodName := ⟨R_M, "looked", "(I)J"⟩
abbrev w_M_looked : List Cond := .code y_M_looked b_M_looked 6 (some .long) :: lw_U
abbrev b_M_sound : ByteArray := prog_3_method_21_code
def y_M_sound : MethodName := ⟨R_M, "sound", "()I"⟩
abbrev w_M_sound : List Cond := .code y_M_sound b_M_sound 3 (some .int) :: lw_U
abbrev b_M_checkpoint : ByteArray := prog_3_method_23_code
def y_M_checkpoint : MethodName := ⟨R_M, "checkpoint", "()I"⟩
abbrev w_M_checkpoint : List Cond := .code y_M_checkpoint b_M_checkpoint 2 (some .int) :: lw_U
abbrev b_M_change : ByteArray := prog_3_method_22_code
def y_M_change : MethodName := ⟨R_M, "change", "()I"⟩
abbrev w_M_change : List Cond := .code y_M_change b_M_change 6 (some .int) :: lw_U
abbrev b_M_put : ByteArray := prog_3_method_9_code
def y_M_put : MethodName := ⟨R_M, "put", "(II)V"⟩
abbrev w_M_put : List Cond := .code y_M_put b_M_put 3 none :: lw_U
abbrev b_M_step : ByteArray := prog_3_method_8_code
def y_M_step : MethodName := ⟨R_M, "step", "()Z"⟩
abbrev w_M_step : List Cond := .code y_M_step b_M_step 1 (some .boolean) :: lw_U
abbrev b_M_changeSeal : ByteArray := prog_3_method_10_code
def y_M_changeSeal : MethodName := ⟨R_M, "changeSeal", "(IIII)V"⟩
abbrev w_M_changeSeal : List Cond := .code y_M_changeSeal b_M_changeSeal 5 none :: lw_U
abbrev b_M_write : ByteArray := prog_3_method_24_code
def y_M_write : MethodName := ⟨R_M, "write", "(IJ)I"⟩
abbrev w_M_write : List Cond := .code y_M_write b_M_write 11 (some .int) :: lw_U
abbrev b_M_sync : ByteArray := prog_3_method_25_code
def y_M_sync : MethodName := ⟨R_M, "sync", "()I"⟩
abbrev w_M_sync : List Cond := .code y_M_sync b_M_sync 2 (some .int) :: lw_U
abbrev b_M_alter : ByteArray := prog_3_method_27_code
def y_M_alter : MethodName := ⟨R_M, "alter", "(II)Z"⟩
abbrev w_M_alter : List Cond := .code y_M_alter b_M_alter 3 (some .boolean) :: lw_U
abbrev b_M_place : ByteArray := prog_3_method_26_code
def y_M_place : MethodName := ⟨R_M, "place", "(I)Z"⟩
abbrev w_M_place : List Cond := .code y_M_place b_M_place 1 (some .boolean) :: lw_U
abbrev b_M_peek : ByteArray := prog_3_method_28_code
def y_M_peek : MethodName := ⟨R_M, "peek", "(I)I"⟩
abbrev w_M_peek : List Cond := .code y_M_peek b_M_peek 2 (some .int) :: lw_U
abbrev b_M_seal : ByteArray := prog_3_method_29_code
def y_M_seal : MethodName := ⟨R_M, "seal", "(I)I"⟩
abbrev w_M_seal : List Cond := .code y_M_seal b_M_seal 2 (some .int) :: lw_U
abbrev b_M_writes : ByteArray := prog_3_method_30_code
def y_M_writes : MethodName := ⟨R_M, "writes", "()I"⟩
abbrev w_M_writes : List Cond := .code y_M_writes b_M_writes 1 (some .int) :: lw_U
abbrev b_M_steps : ByteArray := prog_3_method_31_code
def y_M_steps : MethodName := ⟨R_M, "steps", "()I"⟩
abbrev w_M_steps : List Cond := .code y_M_steps b_M_steps 1 (some .int) :: lw_U
abbrev classes : List vw_C := [(R_X, F_X, 12), (R_M, F_M, 15)]
theorem tbl_good : GoodIn lw_U lw_U := fun w h => ⟨h, good_of_word (List.mem_filter.mp h).2⟩
theorem m_0 : Cond.selects R_X y_X_dueNode y_X_dueNode ∈ lw_U := List.mem_filter.mpr ⟨List.mem_of_getElem? (i := 0) rfl, rfl⟩
theorem m_1 : Cond.selects R_X y_X_takeJournal y_X_takeJournal ∈ lw_U := List.mem_filter.mpr ⟨List.mem_of_getElem? (i := 1) rfl, rfl⟩
theorem m_2 : Cond.selects R_X y_X_beginList y_X_beginList ∈ lw_U := List.mem_filter.mpr ⟨List.mem_of_getElem? (i := 2) rfl, rfl⟩
theorem m_3 : Cond.selects R_X y_X_chainBehind y_X_chainBehind ∈ lw_U := List.mem_filter.mpr ⟨List.mem_of_getElem? (i := 3) rfl, rfl⟩
theorem m_4 : Cond.selects R_X y_X_valueAt y_X_valueAt ∈ lw_U := List.mem_filter.mpr ⟨List.mem_of_getElem? (i := 4) rfl, rfl⟩
theorem m_5 : Cond.selects R_X y_X_addToList y_X_addToList ∈ lw_U := List.mem_filter.mpr ⟨List.mem_of_getElem? (i := 5) rfl, rfl⟩
theorem m_6 : Cond.selects R_X y_X_forget y_X_forget ∈ lw_U := List.mem_filter.mpr ⟨List.mem_of_getElem? (i := 6) rfl, rfl⟩
theorem m_7 : Cond.selects R_X y_X_moveToOtherHalf y_X_moveToOtherHalf ∈ lw_U := List.mem_filter.mpr ⟨List.mem_of_getElem? (i := 7) rfl, rfl⟩
theorem m_8 : Cond.selects R_X y_X_soundSectors y_X_soundSectors ∈ lw_U := List.mem_filter.mpr ⟨List.mem_of_getElem? (i := 8) rfl, rfl⟩
theorem m_9 : Cond.selects R_X y_X_valueOf y_X_valueOf ∈ lw_U := List.mem_filter.mpr ⟨List.mem_of_getElem? (i := 9) rfl, rfl⟩
theorem m_10 : Cond.selects R_X y_X_rootAbove y_X_rootAbove ∈ lw_U := List.mem_filter.mpr ⟨List.mem_of_getElem? (i := 10) rfl, rfl⟩
theorem m_11 : Cond.selects R_X y_X_clearMarks y_X_clearMarks ∈ lw_U := List.mem_filter.mpr ⟨List.mem_of_getElem? (i := 11) rfl, rfl⟩
theorem m_12 : Cond.selects R_X y_X_storeWord y_X_storeWord ∈ lw_U := List.mem_filter.mpr ⟨List.mem_of_getElem? (i := 12) rfl, rfl⟩
theorem m_13 : Cond.selects R_X y_X_stepHappens y_X_stepHappens ∈ lw_U := List.mem_filter.mpr ⟨List.mem_of_getElem? (i := 13) rfl, rfl⟩
theorem m_14 : Cond.selects R_X y_X_storeSectors y_X_storeSectors ∈ lw_U := List.mem_filter.mpr ⟨List.mem_of_getElem? (i := 14) rfl, rfl⟩
theorem m_15 : Cond.selects R_X y_X_storeValue y_X_storeValue ∈ lw_U := List.mem_filter.mpr ⟨List.mem_of_getElem? (i := 15) rfl, rfl⟩
theorem m_16 : Cond.selects R_X y_X_storeNodes y_X_storeNodes ∈ lw_U := List.mem_filter.mpr ⟨List.mem_of_getElem? (i := 16) rfl, rfl⟩
theorem m_17 : Cond.selects R_X y_X_changeSeal y_X_changeSeal ∈ lw_U := List.mem_filter.mpr ⟨List.mem_of_getElem? (i := 17) rfl, rfl⟩
theorem m_18 : Cond.selects R_X y_X_storeRecord y_X_storeRecord ∈ lw_U := List.mem_filter.mpr ⟨List.mem_of_getElem? (i := 18) rfl, rfl⟩
theorem m_19 : Cond.selects R_M y_M_nodes y_M_nodes ∈ lw_U := List.mem_filter.mpr ⟨List.mem_of_getElem? (i := 19) rfl, rfl⟩
theorem m_20 : Cond.selects R_M y_M_leaf y_M_leaf ∈ lw_U := List.mem_filter.mpr ⟨List.mem_of_getElem? (i := 20) rfl, rfl⟩
theorem m_21 : Cond.selects R_M y_M_due y_M_due ∈ lw_U := List.mem_filter.mpr ⟨List.mem_of_getElem? (i := 21) rfl, rfl⟩
theorem m_22 : Cond.selects R_M y_M_entryAt y_M_entryAt ∈ lw_U := List.mem_filter.mpr ⟨List.mem_of_getElem? (i := 22) rfl, rfl⟩
theorem m_23 : Cond.selects R_M y_M_clear y_M_clear ∈ lw_U := List.mem_filter.mpr ⟨List.mem_of_getElem? (i := 23) rfl, rfl⟩
theorem m_24 : Cond.selects R_M y_M_chain y_M_chain ∈ lw_U := List.mem_filter.mpr ⟨List.mem_of_getElem? (i := 24) rfl, rfl⟩
theorem m_25 : Cond.selects R_M y_M_recorded y_M_recorded ∈ lw_U := List.mem_filter.mpr ⟨List.mem_of_getElem? (i := 25) rfl, rfl⟩
theorem m_26 : Cond.selects R_M y_M_value y_M_value ∈ lw_U := List.mem_filter.mpr ⟨List.mem_of_getElem? (i := 26) rfl, rfl⟩
theorem m_27 : Cond.selects R_M y_M_looked y_M_looked ∈ lw_U := List.mem_filter.mpr ⟨List.mem_of_getElem? (i := 27) rfl, rfl⟩
theorem m_28 : Cond.selects R_M y_M_change y_M_change ∈ lw_U := List.mem_filter.mpr ⟨List.mem_of_getElem? (i := 28) rfl, rfl⟩
theorem m_29 : Cond.selects R_M y_M_put y_M_put ∈ lw_U := List.mem_filter.mpr ⟨List.mem_of_getElem? (i := 29) rfl, rfl⟩
theorem m_30 : Cond.selects R_M y_M_step y_M_step ∈ lw_U := List.mem_filter.mpr ⟨List.mem_of_getElem? (i := 30) rfl, rfl⟩
theorem m_31 : Cond.selects R_M y_M_changeSeal y_M_changeSeal ∈ lw_U := List.mem_filter.mpr ⟨List.mem_of_getElem? (i := 31) rfl, rfl⟩
theorem m_32 : Cond.initialized R_law ∈ lw_U := List.mem_filter.mpr ⟨List.mem_of_getElem? (i := 32) rfl, rfl⟩
theorem m_33 : Cond.initialized R_X ∈ lw_U := List.mem_filter.mpr ⟨List.mem_of_getElem? (i := 33) rfl, rfl⟩
theorem m_34 : Cond.initialized R_M ∈ lw_U := List.mem_filter.mpr ⟨List.mem_of_getElem? (i := 34) rfl, rfl⟩
theorem m_35 : Cond.classLink R_law 7 R_X ∈ lw_U := List.mem_filter.mpr ⟨List.mem_of_getElem? (i := 35) rfl, rfl⟩
theorem m_36 : Cond.instantiable R_X 12 ∈ lw_U := List.mem_filter.mpr ⟨List.mem_of_getElem? (i := 36) rfl, rfl⟩
theorem m_37 : Cond.methodLink R_law 9 y_X_init ∈ lw_U := List.mem_filter.mpr ⟨List.mem_of_getElem? (i := 37) rfl, rfl⟩
theorem m_38 : Cond.instanceMethod y_X_init ∈ lw_U := List.mem_filter.mpr ⟨List.mem_of_getElem? (i := 38) rfl, rfl⟩
theorem m_39 : Cond.code y_X_init b_X_init 2 none ∈ lw_U := List.mem_filter.mpr ⟨List.mem_of_getElem? (i := 39) rfl, rfl⟩
theorem m_40 : Cond.methodLink R_X 3 objectInit ∈ lw_U := List.mem_filter.mpr ⟨List.mem_of_getElem? (i := 40) rfl, rfl⟩
theorem m_41 : Cond.instanceMethod objectInit ∈ lw_U := List.mem_filter.mpr ⟨List.mem_of_getElem? (i := 41) rfl, rfl⟩
theorem m_42 : Cond.code objectInit ⟨#[0xb1]⟩ 1 none ∈ lw_U := List.mem_filter.mpr ⟨List.mem_of_getElem? (i := 42) rfl, rfl⟩
theorem m_43 : Cond.methodLink R_X 27 y_X_encipher ∈ lw_U := List.mem_filter.mpr ⟨List.mem_of_getElem? (i := 43) rfl, rfl⟩
theorem m_44 : Cond.static y_X_encipher ∈ lw_U := List.mem_filter.mpr ⟨List.mem_of_getElem? (i := 44) rfl, rfl⟩
theorem m_45 : Cond.code y_X_encipher b_X_encipher 3 (some .int) ∈ lw_U := List.mem_filter.mpr ⟨List.mem_of_getElem? (i := 45) rfl, rfl⟩
theorem m_46 : Cond.constant R_X 99 (19088743) ∈ lw_U := List.mem_filter.mpr ⟨List.mem_of_getElem? (i := 46) rfl, rfl⟩
theorem m_47 : Cond.methodLink R_X 100 y_X_digest ∈ lw_U := List.mem_filter.mpr ⟨List.mem_of_getElem? (i := 47) rfl, rfl⟩
theorem m_48 : Cond.static y_X_digest ∈ lw_U := List.mem_filter.mpr ⟨List.mem_of_getElem? (i := 48) rfl, rfl⟩
theorem m_49 : Cond.code y_X_digest b_X_digest 3 (some .int) ∈ lw_U := List.mem_filter.mpr ⟨List.mem_of_getElem? (i := 49) rfl, rfl⟩
theorem m_50 : Cond.constant R_X 97 (668265263) ∈ lw_U := List.mem_filter.mpr ⟨List.mem_of_getElem? (i := 50) rfl, rfl⟩
theorem m_51 : Cond.constant R_X 98 (-1640531527) ∈ lw_U := List.mem_filter.mpr ⟨List.mem_of_getElem? (i := 51) rfl, rfl⟩
theorem m_52 : Cond.methodLink R_X 31 y_X_nodePlace ∈ lw_U := List.mem_filter.mpr ⟨List.mem_of_getElem? (i := 52) rfl, rfl⟩
theorem m_53 : Cond.static y_X_nodePlace ∈ lw_U := List.mem_filter.mpr ⟨List.mem_of_getElem? (i := 53) rfl, rfl⟩
theorem m_54 : Cond.code y_X_nodePlace b_X_nodePlace 2 (some .int) ∈ lw_U := List.mem_filter.mpr ⟨List.mem_of_getElem? (i := 54) rfl, rfl⟩
theorem m_55 : Cond.methodLink R_X 35 y_X_dueNode ∈ lw_U := List.mem_filter.mpr ⟨List.mem_of_getElem? (i := 55) rfl, rfl⟩
theorem m_57 : Cond.instanceMethod y_X_dueNode ∈ lw_U := List.mem_filter.mpr ⟨List.mem_of_getElem? (i := 57) rfl, rfl⟩
theorem m_58 : Cond.code y_X_dueNode b_X_dueNode 6 (some .int) ∈ lw_U := List.mem_filter.mpr ⟨List.mem_of_getElem? (i := 58) rfl, rfl⟩
theorem m_59 : Cond.methodLink R_X 103 y_X_sectorPlace ∈ lw_U := List.mem_filter.mpr ⟨List.mem_of_getElem? (i := 59) rfl, rfl⟩
theorem m_60 : Cond.static y_X_sectorPlace ∈ lw_U := List.mem_filter.mpr ⟨List.mem_of_getElem? (i := 60) rfl, rfl⟩
theorem m_61 : Cond.code y_X_sectorPlace b_X_sectorPlace 2 (some .int) ∈ lw_U := List.mem_filter.mpr ⟨List.mem_of_getElem? (i := 61) rfl, rfl⟩
theorem m_62 : Cond.fieldLink R_X 9 "SealedSectors" "disk" "[I" ∈ lw_U := List.mem_filter.mpr ⟨List.mem_of_getElem? (i := 62) rfl, rfl⟩
theorem m_63 : Cond.fieldLink R_X 81 "SealedSectors" "half" "I" ∈ lw_U := List.mem_filter.mpr ⟨List.mem_of_getElem? (i := 63) rfl, rfl⟩
theorem m_64 : Cond.fieldLink R_X 24 "SealedSectors" "generation" "I" ∈ lw_U := List.mem_filter.mpr ⟨List.mem_of_getElem? (i := 64) rfl, rfl⟩
theorem m_65 : Cond.fieldLink R_X 38 "SealedSectors" "root" "I" ∈ lw_U := List.mem_filter.mpr ⟨List.mem_of_getElem? (i := 65) rfl, rfl⟩
theorem m_66 : Cond.fieldLink R_X 47 "SealedSectors" "count" "I" ∈ lw_U := List.mem_filter.mpr ⟨List.mem_of_getElem? (i := 66) rfl, rfl⟩
theorem m_67 : Cond.fieldLink R_X 20 "SealedSectors" "stepsLeft" "I" ∈ lw_U := List.mem_filter.mpr ⟨List.mem_of_getElem? (i := 67) rfl, rfl⟩
theorem m_68 : Cond.fieldLink R_X 94 "SealedSectors" "stepsMade" "I" ∈ lw_U := List.mem_filter.mpr ⟨List.mem_of_getElem? (i := 68) rfl, rfl⟩
theorem m_69 : Cond.fieldLink R_X 53 "SealedSectors" "on" "Z" ∈ lw_U := List.mem_filter.mpr ⟨List.mem_of_getElem? (i := 69) rfl, rfl⟩
theorem m_70 : Cond.fieldLink R_X 44 "SealedSectors" "listSize" "I" ∈ lw_U := List.mem_filter.mpr ⟨List.mem_of_getElem? (i := 70) rfl, rfl⟩
theorem m_71 : Cond.fieldLink R_X 13 "SealedSectors" "listSectors" "[I" ∈ lw_U := List.mem_filter.mpr ⟨List.mem_of_getElem? (i := 71) rfl, rfl⟩
theorem m_72 : Cond.fieldLink R_X 16 "SealedSectors" "listValues" "[J" ∈ lw_U := List.mem_filter.mpr ⟨List.mem_of_getElem? (i := 72) rfl, rfl⟩
theorem m_73 : Cond.fieldLink R_X 117 "SealedSectors" "chain" "I" ∈ lw_U := List.mem_filter.mpr ⟨List.mem_of_getElem? (i := 73) rfl, rfl⟩
theorem m_99 : Cond.arrayClass .int ∈ lw_U := List.mem_filter.mpr ⟨List.mem_of_getElem? (i := 99) rfl, rfl⟩
theorem m_100 : Cond.arrayClass .long ∈ lw_U := List.mem_filter.mpr ⟨List.mem_of_getElem? (i := 100) rfl, rfl⟩
theorem m_101 : Cond.methodLink R_law 13 y_X_mount ∈ lw_U := List.mem_filter.mpr ⟨List.mem_of_getElem? (i := 101) rfl, rfl⟩
theorem m_102 : Cond.instanceMethod y_X_mount ∈ lw_U := List.mem_filter.mpr ⟨List.mem_of_getElem? (i := 102) rfl, rfl⟩
theorem m_103 : Cond.selects R_X y_X_mount y_X_mount ∈ lw_U := List.mem_filter.mpr ⟨List.mem_of_getElem? (i := 103) rfl, rfl⟩
theorem m_104 : Cond.code y_X_mount b_X_mount 1 (some .int) ∈ lw_U := List.mem_filter.mpr ⟨List.mem_of_getElem? (i := 104) rfl, rfl⟩
theorem m_105 : Cond.methodLink R_X 41 y_X_takeJournal ∈ lw_U := List.mem_filter.mpr ⟨List.mem_of_getElem? (i := 105) rfl, rfl⟩
theorem m_107 : Cond.instanceMethod y_X_takeJournal ∈ lw_U := List.mem_filter.mpr ⟨List.mem_of_getElem? (i := 107) rfl, rfl⟩
theorem m_108 : Cond.code y_X_takeJournal b_X_takeJournal 7 none ∈ lw_U := List.mem_filter.mpr ⟨List.mem_of_getElem? (i := 108) rfl, rfl⟩
theorem m_109 : Cond.methodLink R_X 120 y_X_beginList ∈ lw_U := List.mem_filter.mpr ⟨List.mem_of_getElem? (i := 109) rfl, rfl⟩
theorem m_111 : Cond.instanceMethod y_X_beginList ∈ lw_U := List.mem_filter.mpr ⟨List.mem_of_getElem? (i := 111) rfl, rfl⟩
theorem m_112 : Cond.code y_X_beginList b_X_beginList 1 none ∈ lw_U := List.mem_filter.mpr ⟨List.mem_of_getElem? (i := 112) rfl, rfl⟩
theorem m_113 : Cond.methodLink R_X 123 y_X_recordPlace ∈ lw_U := List.mem_filter.mpr ⟨List.mem_of_getElem? (i := 113) rfl, rfl⟩
theorem m_114 : Cond.static y_X_recordPlace ∈ lw_U := List.mem_filter.mpr ⟨List.mem_of_getElem? (i := 114) rfl, rfl⟩
theorem m_115 : Cond.code y_X_recordPlace b_X_recordPlace 2 (some .int) ∈ lw_U := List.mem_filter.mpr ⟨List.mem_of_getElem? (i := 115) rfl, rfl⟩
theorem m_116 : Cond.methodLink R_X 126 y_X_chainBehind ∈ lw_U := List.mem_filter.mpr ⟨List.mem_of_getElem? (i := 116) rfl, rfl⟩
theorem m_118 : Cond.instanceMethod y_X_chainBehind ∈ lw_U := List.mem_filter.mpr ⟨List.mem_of_getElem? (i := 118) rfl, rfl⟩
theorem m_119 : Cond.code y_X_chainBehind b_X_chainBehind 2 (some .int) ∈ lw_U := List.mem_filter.mpr ⟨List.mem_of_getElem? (i := 119) rfl, rfl⟩
theorem m_120 : Cond.methodLink R_X 114 y_X_valueAt ∈ lw_U := List.mem_filter.mpr ⟨List.mem_of_getElem? (i := 120) rfl, rfl⟩
theorem m_122 : Cond.instanceMethod y_X_valueAt ∈ lw_U := List.mem_filter.mpr ⟨List.mem_of_getElem? (i := 122) rfl, rfl⟩
theorem m_123 : Cond.code y_X_valueAt b_X_valueAt 6 (some .long) ∈ lw_U := List.mem_filter.mpr ⟨List.mem_of_getElem? (i := 123) rfl, rfl⟩
theorem m_124 : Cond.constantLong R_X 106 (4294967295) ∈ lw_U := List.mem_filter.mpr ⟨List.mem_of_getElem? (i := 124) rfl, rfl⟩
theorem m_125 : Cond.methodLink R_X 129 y_X_markOf ∈ lw_U := List.mem_filter.mpr ⟨List.mem_of_getElem? (i := 125) rfl, rfl⟩
theorem m_126 : Cond.static y_X_markOf ∈ lw_U := List.mem_filter.mpr ⟨List.mem_of_getElem? (i := 126) rfl, rfl⟩
theorem m_127 : Cond.code y_X_markOf b_X_markOf 1 (some .int) ∈ lw_U := List.mem_filter.mpr ⟨List.mem_of_getElem? (i := 127) rfl, rfl⟩
theorem m_128 : Cond.methodLink R_X 57 y_X_isSector ∈ lw_U := List.mem_filter.mpr ⟨List.mem_of_getElem? (i := 128) rfl, rfl⟩
theorem m_129 : Cond.static y_X_isSector ∈ lw_U := List.mem_filter.mpr ⟨List.mem_of_getElem? (i := 129) rfl, rfl⟩
theorem m_130 : Cond.code y_X_isSector b_X_isSector 1 (some .boolean) ∈ lw_U := List.mem_filter.mpr ⟨List.mem_of_getElem? (i := 130) rfl, rfl⟩
theorem m_131 : Cond.methodLink R_X 69 y_X_addToList ∈ lw_U := List.mem_filter.mpr ⟨List.mem_of_getElem? (i := 131) rfl, rfl⟩
theorem m_133 : Cond.instanceMethod y_X_addToList ∈ lw_U := List.mem_filter.mpr ⟨List.mem_of_getElem? (i := 133) rfl, rfl⟩
theorem m_134 : Cond.code y_X_addToList b_X_addToList 4 none ∈ lw_U := List.mem_filter.mpr ⟨List.mem_of_getElem? (i := 134) rfl, rfl⟩
theorem m_135 : Cond.methodLink R_X 50 y_X_forget ∈ lw_U := List.mem_filter.mpr ⟨List.mem_of_getElem? (i := 135) rfl, rfl⟩
theorem m_137 : Cond.instanceMethod y_X_forget ∈ lw_U := List.mem_filter.mpr ⟨List.mem_of_getElem? (i := 137) rfl, rfl⟩
theorem m_138 : Cond.code y_X_forget b_X_forget 1 none ∈ lw_U := List.mem_filter.mpr ⟨List.mem_of_getElem? (i := 138) rfl, rfl⟩
theorem m_139 : Cond.methodLink R_law 18 y_X_arm ∈ lw_U := List.mem_filter.mpr ⟨List.mem_of_getElem? (i := 139) rfl, rfl⟩
theorem m_140 : Cond.instanceMethod y_X_arm ∈ lw_U := List.mem_filter.mpr ⟨List.mem_of_getElem? (i := 140) rfl, rfl⟩
theorem m_141 : Cond.selects R_X y_X_arm y_X_arm ∈ lw_U := List.mem_filter.mpr ⟨List.mem_of_getElem? (i := 141) rfl, rfl⟩
theorem m_142 : Cond.code y_X_arm b_X_arm 2 (some .boolean) ∈ lw_U := List.mem_filter.mpr ⟨List.mem_of_getElem? (i := 142) rfl, rfl⟩
theorem m_143 : Cond.methodLink R_law 23 y_X_isOn ∈ lw_U := List.mem_filter.mpr ⟨List.mem_of_getElem? (i := 143) rfl, rfl⟩
theorem m_144 : Cond.instanceMethod y_X_isOn ∈ lw_U := List.mem_filter.mpr ⟨List.mem_of_getElem? (i := 144) rfl, rfl⟩
theorem m_145 : Cond.selects R_X y_X_isOn y_X_isOn ∈ lw_U := List.mem_filter.mpr ⟨List.mem_of_getElem? (i := 145) rfl, rfl⟩
theorem m_146 : Cond.code y_X_isOn b_X_isOn 1 (some .boolean) ∈ lw_U := List.mem_filter.mpr ⟨List.mem_of_getElem? (i := 146) rfl, rfl⟩
theorem m_147 : Cond.methodLink R_law 30 y_X_write ∈ lw_U := List.mem_filter.mpr ⟨List.mem_of_getElem? (i := 147) rfl, rfl⟩
theorem m_148 : Cond.instanceMethod y_X_write ∈ lw_U := List.mem_filter.mpr ⟨List.mem_of_getElem? (i := 148) rfl, rfl⟩
theorem m_149 : Cond.selects R_X y_X_write y_X_write ∈ lw_U := List.mem_filter.mpr ⟨List.mem_of_getElem? (i := 149) rfl, rfl⟩
theorem m_150 : Cond.code y_X_write b_X_write 5 (some .int) ∈ lw_U := List.mem_filter.mpr ⟨List.mem_of_getElem? (i := 150) rfl, rfl⟩
theorem m_151 : Cond.methodLink R_X 61 y_X_moveToOtherHalf ∈ lw_U := List.mem_filter.mpr ⟨List.mem_of_getElem? (i := 151) rfl, rfl⟩
theorem m_153 : Cond.instanceMethod y_X_moveToOtherHalf ∈ lw_U := List.mem_filter.mpr ⟨List.mem_of_getElem? (i := 153) rfl, rfl⟩
theorem m_154 : Cond.code y_X_moveToOtherHalf b_X_moveToOtherHalf 3 (some .int) ∈ lw_U := List.mem_filter.mpr ⟨List.mem_of_getElem? (i := 154) rfl, rfl⟩
theorem m_155 : Cond.methodLink R_X 91 y_X_soundSectors ∈ lw_U := List.mem_filter.mpr ⟨List.mem_of_getElem? (i := 155) rfl, rfl⟩
theorem m_157 : Cond.instanceMethod y_X_soundSectors ∈ lw_U := List.mem_filter.mpr ⟨List.mem_of_getElem? (i := 157) rfl, rfl⟩
theorem m_158 : Cond.code y_X_soundSectors b_X_soundSectors 3 (some .int) ∈ lw_U := List.mem_filter.mpr ⟨List.mem_of_getElem? (i := 158) rfl, rfl⟩
theorem m_159 : Cond.methodLink R_X 77 y_X_valueOf ∈ lw_U := List.mem_filter.mpr ⟨List.mem_of_getElem? (i := 159) rfl, rfl⟩
theorem m_161 : Cond.instanceMethod y_X_valueOf ∈ lw_U := List.mem_filter.mpr ⟨List.mem_of_getElem? (i := 161) rfl, rfl⟩
theorem m_162 : Cond.code y_X_valueOf b_X_valueOf 4 (some .long) ∈ lw_U := List.mem_filter.mpr ⟨List.mem_of_getElem? (i := 162) rfl, rfl⟩
theorem m_163 : Cond.methodLink R_X 108 y_X_rootAbove ∈ lw_U := List.mem_filter.mpr ⟨List.mem_of_getElem? (i := 163) rfl, rfl⟩
theorem m_165 : Cond.instanceMethod y_X_rootAbove ∈ lw_U := List.mem_filter.mpr ⟨List.mem_of_getElem? (i := 165) rfl, rfl⟩
theorem m_166 : Cond.code y_X_rootAbove b_X_rootAbove 5 (some .int) ∈ lw_U := List.mem_filter.mpr ⟨List.mem_of_getElem? (i := 166) rfl, rfl⟩
theorem m_167 : Cond.constantLong R_X 112 (-3) ∈ lw_U := List.mem_filter.mpr ⟨List.mem_of_getElem? (i := 167) rfl, rfl⟩
theorem m_168 : Cond.methodLink R_X 151 y_X_clearMarks ∈ lw_U := List.mem_filter.mpr ⟨List.mem_of_getElem? (i := 168) rfl, rfl⟩
theorem m_170 : Cond.instanceMethod y_X_clearMarks ∈ lw_U := List.mem_filter.mpr ⟨List.mem_of_getElem? (i := 170) rfl, rfl⟩
theorem m_171 : Cond.code y_X_clearMarks b_X_clearMarks 3 (some .boolean) ∈ lw_U := List.mem_filter.mpr ⟨List.mem_of_getElem? (i := 171) rfl, rfl⟩
theorem m_172 : Cond.methodLink R_X 140 y_X_storeWord ∈ lw_U := List.mem_filter.mpr ⟨List.mem_of_getElem? (i := 172) rfl, rfl⟩
theorem m_174 : Cond.instanceMethod y_X_storeWord ∈ lw_U := List.mem_filter.mpr ⟨List.mem_of_getElem? (i := 174) rfl, rfl⟩
theorem m_175 : Cond.code y_X_storeWord b_X_storeWord 3 (some .boolean) ∈ lw_U := List.mem_filter.mpr ⟨List.mem_of_getElem? (i := 175) rfl, rfl⟩
theorem m_176 : Cond.methodLink R_X 132 y_X_stepHappens ∈ lw_U := List.mem_filter.mpr ⟨List.mem_of_getElem? (i := 176) rfl, rfl⟩
theorem m_178 : Cond.instanceMethod y_X_stepHappens ∈ lw_U := List.mem_filter.mpr ⟨List.mem_of_getElem? (i := 178) rfl, rfl⟩
theorem m_179 : Cond.code y_X_stepHappens b_X_stepHappens 1 (some .boolean) ∈ lw_U := List.mem_filter.mpr ⟨List.mem_of_getElem? (i := 179) rfl, rfl⟩
theorem m_180 : Cond.methodLink R_X 154 y_X_storeSectors ∈ lw_U := List.mem_filter.mpr ⟨List.mem_of_getElem? (i := 180) rfl, rfl⟩
theorem m_182 : Cond.instanceMethod y_X_storeSectors ∈ lw_U := List.mem_filter.mpr ⟨List.mem_of_getElem? (i := 182) rfl, rfl⟩
theorem m_183 : Cond.code y_X_storeSectors b_X_storeSectors 4 (some .boolean) ∈ lw_U := List.mem_filter.mpr ⟨List.mem_of_getElem? (i := 183) rfl, rfl⟩
theorem m_184 : Cond.methodLink R_X 147 y_X_storeValue ∈ lw_U := List.mem_filter.mpr ⟨List.mem_of_getElem? (i := 184) rfl, rfl⟩
theorem m_186 : Cond.instanceMethod y_X_storeValue ∈ lw_U := List.mem_filter.mpr ⟨List.mem_of_getElem? (i := 186) rfl, rfl⟩
theorem m_187 : Cond.code y_X_storeValue b_X_storeValue 5 (some .boolean) ∈ lw_U := List.mem_filter.mpr ⟨List.mem_of_getElem? (i := 187) rfl, rfl⟩
theorem m_188 : Cond.methodLink R_X 136 y_X_upper ∈ lw_U := List.mem_filter.mpr ⟨List.mem_of_getElem? (i := 188) rfl, rfl⟩
theorem m_189 : Cond.static y_X_upper ∈ lw_U := List.mem_filter.mpr ⟨List.mem_of_getElem? (i := 189) rfl, rfl⟩
theorem m_190 : Cond.code y_X_upper b_X_upper 2 (some .int) ∈ lw_U := List.mem_filter.mpr ⟨List.mem_of_getElem? (i := 190) rfl, rfl⟩
theorem m_191 : Cond.methodLink R_X 144 y_X_lower ∈ lw_U := List.mem_filter.mpr ⟨List.mem_of_getElem? (i := 191) rfl, rfl⟩
theorem m_192 : Cond.static y_X_lower ∈ lw_U := List.mem_filter.mpr ⟨List.mem_of_getElem? (i := 192) rfl, rfl⟩
theorem m_193 : Cond.code y_X_lower b_X_lower 2 (some .int) ∈ lw_U := List.mem_filter.mpr ⟨List.mem_of_getElem? (i := 193) rfl, rfl⟩
theorem m_194 : Cond.methodLink R_X 157 y_X_storeNodes ∈ lw_U := List.mem_filter.mpr ⟨List.mem_of_getElem? (i := 194) rfl, rfl⟩
theorem m_196 : Cond.instanceMethod y_X_storeNodes ∈ lw_U := List.mem_filter.mpr ⟨List.mem_of_getElem? (i := 196) rfl, rfl⟩
theorem m_197 : Cond.code y_X_storeNodes b_X_storeNodes 4 (some .boolean) ∈ lw_U := List.mem_filter.mpr ⟨List.mem_of_getElem? (i := 197) rfl, rfl⟩
theorem m_198 : Cond.methodLink R_X 84 y_X_changeSeal ∈ lw_U := List.mem_filter.mpr ⟨List.mem_of_getElem? (i := 198) rfl, rfl⟩
theorem m_200 : Cond.instanceMethod y_X_changeSeal ∈ lw_U := List.mem_filter.mpr ⟨List.mem_of_getElem? (i := 200) rfl, rfl⟩
theorem m_201 : Cond.code y_X_changeSeal b_X_changeSeal 5 (some .boolean) ∈ lw_U := List.mem_filter.mpr ⟨List.mem_of_getElem? (i := 201) rfl, rfl⟩
theorem m_202 : Cond.methodLink R_X 65 y_X_storeRecord ∈ lw_U := List.mem_filter.mpr ⟨List.mem_of_getElem? (i := 202) rfl, rfl⟩
theorem m_204 : Cond.instanceMethod y_X_storeRecord ∈ lw_U := List.mem_filter.mpr ⟨List.mem_of_getElem? (i := 204) rfl, rfl⟩
theorem m_205 : Cond.code y_X_storeRecord b_X_storeRecord 6 (some .boolean) ∈ lw_U := List.mem_filter.mpr ⟨List.mem_of_getElem? (i := 205) rfl, rfl⟩
theorem m_206 : Cond.methodLink R_law 35 y_X_read ∈ lw_U := List.mem_filter.mpr ⟨List.mem_of_getElem? (i := 206) rfl, rfl⟩
theorem m_207 : Cond.instanceMethod y_X_read ∈ lw_U := List.mem_filter.mpr ⟨List.mem_of_getElem? (i := 207) rfl, rfl⟩
theorem m_208 : Cond.selects R_X y_X_read y_X_read ∈ lw_U := List.mem_filter.mpr ⟨List.mem_of_getElem? (i := 208) rfl, rfl⟩
theorem m_209 : Cond.code y_X_read b_X_read 2 (some .long) ∈ lw_U := List.mem_filter.mpr ⟨List.mem_of_getElem? (i := 209) rfl, rfl⟩
theorem m_210 : Cond.constantLong R_X 73 (-1) ∈ lw_U := List.mem_filter.mpr ⟨List.mem_of_getElem? (i := 210) rfl, rfl⟩
theorem m_211 : Cond.constantLong R_X 75 (-2) ∈ lw_U := List.mem_filter.mpr ⟨List.mem_of_getElem? (i := 211) rfl, rfl⟩
theorem m_212 : Cond.methodLink R_law 40 y_X_sync ∈ lw_U := List.mem_filter.mpr ⟨List.mem_of_getElem? (i := 212) rfl, rfl⟩
theorem m_213 : Cond.instanceMethod y_X_sync ∈ lw_U := List.mem_filter.mpr ⟨List.mem_of_getElem? (i := 213) rfl, rfl⟩
theorem m_214 : Cond.selects R_X y_X_sync y_X_sync ∈ lw_U := List.mem_filter.mpr ⟨List.mem_of_getElem? (i := 214) rfl, rfl⟩
theorem m_215 : Cond.code y_X_sync b_X_sync 1 (some .int) ∈ lw_U := List.mem_filter.mpr ⟨List.mem_of_getElem? (i := 215) rfl, rfl⟩
theorem m_216 : Cond.methodLink R_law 44 y_X_checkpoint ∈ lw_U := List.mem_filter.mpr ⟨List.mem_of_getElem? (i := 216) rfl, rfl⟩
theorem m_217 : Cond.instanceMethod y_X_checkpoint ∈ lw_U := List.mem_filter.mpr ⟨List.mem_of_getElem? (i := 217) rfl, rfl⟩
theorem m_218 : Cond.selects R_X y_X_checkpoint y_X_checkpoint ∈ lw_U := List.mem_filter.mpr ⟨List.mem_of_getElem? (i := 218) rfl, rfl⟩
theorem m_219 : Cond.code y_X_checkpoint b_X_checkpoint 1 (some .int) ∈ lw_U := List.mem_filter.mpr ⟨List.mem_of_getElem? (i := 219) rfl, rfl⟩
theorem m_220 : Cond.methodLink R_law 48 y_X_alter ∈ lw_U := List.mem_filter.mpr ⟨List.mem_of_getElem? (i := 220) rfl, rfl⟩
theorem m_221 : Cond.instanceMethod y_X_alter ∈ lw_U := List.mem_filter.mpr ⟨List.mem_of_getElem? (i := 221) rfl, rfl⟩
theorem m_222 : Cond.selects R_X y_X_alter y_X_alter ∈ lw_U := List.mem_filter.mpr ⟨List.mem_of_getElem? (i := 222) rfl, rfl⟩
theorem m_223 : Cond.code y_X_alter b_X_alter 3 (some .boolean) ∈ lw_U := List.mem_filter.mpr ⟨List.mem_of_getElem? (i := 223) rfl, rfl⟩
theorem m_224 : Cond.methodLink R_X 88 y_X_isPlace ∈ lw_U := List.mem_filter.mpr ⟨List.mem_of_getElem? (i := 224) rfl, rfl⟩
theorem m_225 : Cond.static y_X_isPlace ∈ lw_U := List.mem_filter.mpr ⟨List.mem_of_getElem? (i := 225) rfl, rfl⟩
theorem m_226 : Cond.code y_X_isPlace b_X_isPlace 1 (some .boolean) ∈ lw_U := List.mem_filter.mpr ⟨List.mem_of_getElem? (i := 226) rfl, rfl⟩
theorem m_227 : Cond.methodLink R_law 53 y_X_peek ∈ lw_U := List.mem_filter.mpr ⟨List.mem_of_getElem? (i := 227) rfl, rfl⟩
theorem m_228 : Cond.instanceMethod y_X_peek ∈ lw_U := List.mem_filter.mpr ⟨List.mem_of_getElem? (i := 228) rfl, rfl⟩
theorem m_229 : Cond.selects R_X y_X_peek y_X_peek ∈ lw_U := List.mem_filter.mpr ⟨List.mem_of_getElem? (i := 229) rfl, rfl⟩
theorem m_230 : Cond.code y_X_peek b_X_peek 2 (some .int) ∈ lw_U := List.mem_filter.mpr ⟨List.mem_of_getElem? (i := 230) rfl, rfl⟩
theorem m_231 : Cond.methodLink R_law 58 y_X_seal ∈ lw_U := List.mem_filter.mpr ⟨List.mem_of_getElem? (i := 231) rfl, rfl⟩
theorem m_232 : Cond.instanceMethod y_X_seal ∈ lw_U := List.mem_filter.mpr ⟨List.mem_of_getElem? (i := 232) rfl, rfl⟩
theorem m_233 : Cond.selects R_X y_X_seal y_X_seal ∈ lw_U := List.mem_filter.mpr ⟨List.mem_of_getElem? (i := 233) rfl, rfl⟩
theorem m_234 : Cond.code y_X_seal b_X_seal 2 (some .int) ∈ lw_U := List.mem_filter.mpr ⟨List.mem_of_getElem? (i := 234) rfl, rfl⟩
theorem m_235 : Cond.methodLink R_law 62 y_X_writes ∈ lw_U := List.mem_filter.mpr ⟨List.mem_of_getElem? (i := 235) rfl, rfl⟩
theorem m_236 : Cond.instanceMethod y_X_writes ∈ lw_U := List.mem_filter.mpr ⟨List.mem_of_getElem? (i := 236) rfl, rfl⟩
theorem m_237 : Cond.selects R_X y_X_writes y_X_writes ∈ lw_U := List.mem_filter.mpr ⟨List.mem_of_getElem? (i := 237) rfl, rfl⟩
theorem m_238 : Cond.code y_X_writes b_X_writes 1 (some .int) ∈ lw_U := List.mem_filter.mpr ⟨List.mem_of_getElem? (i := 238) rfl, rfl⟩
theorem m_239 : Cond.methodLink R_law 66 y_X_sound ∈ lw_U := List.mem_filter.mpr ⟨List.mem_of_getElem? (i := 239) rfl, rfl⟩
theorem m_240 : Cond.instanceMethod y_X_sound ∈ lw_U := List.mem_filter.mpr ⟨List.mem_of_getElem? (i := 240) rfl, rfl⟩
theorem m_241 : Cond.selects R_X y_X_sound y_X_sound ∈ lw_U := List.mem_filter.mpr ⟨List.mem_of_getElem? (i := 241) rfl, rfl⟩
theorem m_242 : Cond.code y_X_sound b_X_sound 1 (some .int) ∈ lw_U := List.mem_filter.mpr ⟨List.mem_of_getElem? (i := 242) rfl, rfl⟩
theorem m_243 : Cond.methodLink R_law 70 y_X_steps ∈ lw_U := List.mem_filter.mpr ⟨List.mem_of_getElem? (i := 243) rfl, rfl⟩
theorem m_244 : Cond.instanceMethod y_X_steps ∈ lw_U := List.mem_filter.mpr ⟨List.mem_of_getElem? (i := 244) rfl, rfl⟩
theorem m_245 : Cond.selects R_X y_X_steps y_X_steps ∈ lw_U := List.mem_filter.mpr ⟨List.mem_of_getElem? (i := 245) rfl, rfl⟩
theorem m_246 : Cond.code y_X_steps b_X_steps 1 (some .int) ∈ lw_U := List.mem_filter.mpr ⟨List.mem_of_getElem? (i := 246) rfl, rfl⟩
theorem m_247 : Cond.classLink R_law 10 R_M ∈ lw_U := List.mem_filter.mpr ⟨List.mem_of_getElem? (i := 247) rfl, rfl⟩
theorem m_248 : Cond.instantiable R_M 15 ∈ lw_U := List.mem_filter.mpr ⟨List.mem_of_getElem? (i := 248) rfl, rfl⟩
theorem m_249 : Cond.methodLink R_law 12 y_M_init ∈ lw_U := List.mem_filter.mpr ⟨List.mem_of_getElem? (i := 249) rfl, rfl⟩
theorem m_250 : Cond.instanceMethod y_M_init ∈ lw_U := List.mem_filter.mpr ⟨List.mem_of_getElem? (i := 250) rfl, rfl⟩
theorem m_251 : Cond.code y_M_init b_M_init 2 none ∈ lw_U := List.mem_filter.mpr ⟨List.mem_of_getElem? (i := 251) rfl, rfl⟩
theorem m_252 : Cond.methodLink R_M 1 objectInit ∈ lw_U := List.mem_filter.mpr ⟨List.mem_of_getElem? (i := 252) rfl, rfl⟩
theorem m_253 : Cond.methodLink R_M 33 y_M_key ∈ lw_U := List.mem_filter.mpr ⟨List.mem_of_getElem? (i := 253) rfl, rfl⟩
theorem m_254 : Cond.static y_M_key ∈ lw_U := List.mem_filter.mpr ⟨List.mem_of_getElem? (i := 254) rfl, rfl⟩
theorem m_255 : Cond.code y_M_key b_M_key 2 (some .int) ∈ lw_U := List.mem_filter.mpr ⟨List.mem_of_getElem? (i := 255) rfl, rfl⟩
theorem m_256 : Cond.constant R_M 46 (19088743) ∈ lw_U := List.mem_filter.mpr ⟨List.mem_of_getElem? (i := 256) rfl, rfl⟩
theorem m_257 : Cond.methodLink R_M 47 y_M_digest ∈ lw_U := List.mem_filter.mpr ⟨List.mem_of_getElem? (i := 257) rfl, rfl⟩
theorem m_258 : Cond.static y_M_digest ∈ lw_U := List.mem_filter.mpr ⟨List.mem_of_getElem? (i := 258) rfl, rfl⟩
theorem m_259 : Cond.code y_M_digest b_M_digest 4 (some .int) ∈ lw_U := List.mem_filter.mpr ⟨List.mem_of_getElem? (i := 259) rfl, rfl⟩
theorem m_260 : Cond.constant R_M 44 (668265263) ∈ lw_U := List.mem_filter.mpr ⟨List.mem_of_getElem? (i := 260) rfl, rfl⟩
theorem m_261 : Cond.constant R_M 45 (-1640531527) ∈ lw_U := List.mem_filter.mpr ⟨List.mem_of_getElem? (i := 261) rfl, rfl⟩
theorem m_262 : Cond.methodLink R_M 37 y_M_nodes ∈ lw_U := List.mem_filter.mpr ⟨List.mem_of_getElem? (i := 262) rfl, rfl⟩
theorem m_264 : Cond.instanceMethod y_M_nodes ∈ lw_U := List.mem_filter.mpr ⟨List.mem_of_getElem? (i := 264) rfl, rfl⟩
theorem m_265 : Cond.code y_M_nodes b_M_nodes 4 none ∈ lw_U := List.mem_filter.mpr ⟨List.mem_of_getElem? (i := 265) rfl, rfl⟩
theorem m_266 : Cond.methodLink R_M 52 y_M_leaf ∈ lw_U := List.mem_filter.mpr ⟨List.mem_of_getElem? (i := 266) rfl, rfl⟩
theorem m_268 : Cond.instanceMethod y_M_leaf ∈ lw_U := List.mem_filter.mpr ⟨List.mem_of_getElem? (i := 268) rfl, rfl⟩
theorem m_269 : Cond.code y_M_leaf b_M_leaf 6 (some .int) ∈ lw_U := List.mem_filter.mpr ⟨List.mem_of_getElem? (i := 269) rfl, rfl⟩
theorem m_270 : Cond.fieldLink R_M 7 "SealedSectorsModel" "disk" "[I" ∈ lw_U := List.mem_filter.mpr ⟨List.mem_of_getElem? (i := 270) rfl, rfl⟩
theorem m_271 : Cond.fieldLink R_M 73 "SealedSectorsModel" "half" "I" ∈ lw_U := List.mem_filter.mpr ⟨List.mem_of_getElem? (i := 271) rfl, rfl⟩
theorem m_272 : Cond.fieldLink R_M 13 "SealedSectorsModel" "generation" "I" ∈ lw_U := List.mem_filter.mpr ⟨List.mem_of_getElem? (i := 272) rfl, rfl⟩
theorem m_273 : Cond.fieldLink R_M 41 "SealedSectorsModel" "root" "I" ∈ lw_U := List.mem_filter.mpr ⟨List.mem_of_getElem? (i := 273) rfl, rfl⟩
theorem m_274 : Cond.fieldLink R_M 76 "SealedSectorsModel" "count" "I" ∈ lw_U := List.mem_filter.mpr ⟨List.mem_of_getElem? (i := 274) rfl, rfl⟩
theorem m_275 : Cond.fieldLink R_M 60 "SealedSectorsModel" "power" "Z" ∈ lw_U := List.mem_filter.mpr ⟨List.mem_of_getElem? (i := 275) rfl, rfl⟩
theorem m_276 : Cond.fieldLink R_M 17 "SealedSectorsModel" "armed" "I" ∈ lw_U := List.mem_filter.mpr ⟨List.mem_of_getElem? (i := 276) rfl, rfl⟩
theorem m_277 : Cond.fieldLink R_M 66 "SealedSectorsModel" "steps" "I" ∈ lw_U := List.mem_filter.mpr ⟨List.mem_of_getElem? (i := 277) rfl, rfl⟩
theorem m_278 : Cond.fieldLink R_M 56 "SealedSectorsModel" "cut" "Z" ∈ lw_U := List.mem_filter.mpr ⟨List.mem_of_getElem? (i := 278) rfl, rfl⟩
theorem m_279 : Cond.fieldLink R_M 63 "SealedSectorsModel" "listed" "I" ∈ lw_U := List.mem_filter.mpr ⟨List.mem_of_getElem? (i := 279) rfl, rfl⟩
theorem m_280 : Cond.fieldLink R_M 101 "SealedSectorsModel" "link" "I" ∈ lw_U := List.mem_filter.mpr ⟨List.mem_of_getElem? (i := 280) rfl, rfl⟩
theorem m_281 : Cond.fieldLink R_M 20 "SealedSectorsModel" "sectorOf" "[I" ∈ lw_U := List.mem_filter.mpr ⟨List.mem_of_getElem? (i := 281) rfl, rfl⟩
theorem m_282 : Cond.fieldLink R_M 23 "SealedSectorsModel" "valueOf" "[J" ∈ lw_U := List.mem_filter.mpr ⟨List.mem_of_getElem? (i := 282) rfl, rfl⟩
theorem m_283 : Cond.fieldLink R_M 27 "SealedSectorsModel" "has" "[J" ∈ lw_U := List.mem_filter.mpr ⟨List.mem_of_getElem? (i := 283) rfl, rfl⟩
theorem m_284 : Cond.fieldLink R_M 30 "SealedSectorsModel" "node" "[I" ∈ lw_U := List.mem_filter.mpr ⟨List.mem_of_getElem? (i := 284) rfl, rfl⟩
theorem m_316 : Cond.methodLink R_law 22 y_M_arm ∈ lw_U := List.mem_filter.mpr ⟨List.mem_of_getElem? (i := 316) rfl, rfl⟩
theorem m_317 : Cond.instanceMethod y_M_arm ∈ lw_U := List.mem_filter.mpr ⟨List.mem_of_getElem? (i := 317) rfl, rfl⟩
theorem m_318 : Cond.selects R_M y_M_arm y_M_arm ∈ lw_U := List.mem_filter.mpr ⟨List.mem_of_getElem? (i := 318) rfl, rfl⟩
theorem m_319 : Cond.code y_M_arm b_M_arm 2 (some .boolean) ∈ lw_U := List.mem_filter.mpr ⟨List.mem_of_getElem? (i := 319) rfl, rfl⟩
theorem m_320 : Cond.methodLink R_law 27 y_M_isOn ∈ lw_U := List.mem_filter.mpr ⟨List.mem_of_getElem? (i := 320) rfl, rfl⟩
theorem m_321 : Cond.instanceMethod y_M_isOn ∈ lw_U := List.mem_filter.mpr ⟨List.mem_of_getElem? (i := 321) rfl, rfl⟩
theorem m_322 : Cond.selects R_M y_M_isOn y_M_isOn ∈ lw_U := List.mem_filter.mpr ⟨List.mem_of_getElem? (i := 322) rfl, rfl⟩
theorem m_323 : Cond.code y_M_isOn b_M_isOn 1 (some .boolean) ∈ lw_U := List.mem_filter.mpr ⟨List.mem_of_getElem? (i := 323) rfl, rfl⟩
theorem m_324 : Cond.methodLink R_law 17 y_M_mount ∈ lw_U := List.mem_filter.mpr ⟨List.mem_of_getElem? (i := 324) rfl, rfl⟩
theorem m_325 : Cond.instanceMethod y_M_mount ∈ lw_U := List.mem_filter.mpr ⟨List.mem_of_getElem? (i := 325) rfl, rfl⟩
theorem m_326 : Cond.selects R_M y_M_mount y_M_mount ∈ lw_U := List.mem_filter.mpr ⟨List.mem_of_getElem? (i := 326) rfl, rfl⟩
theorem m_327 : Cond.code y_M_mount b_M_mount 3 (some .int) ∈ lw_U := List.mem_filter.mpr ⟨List.mem_of_getElem? (i := 327) rfl, rfl⟩
theorem m_328 : Cond.methodLink R_M 97 y_M_due ∈ lw_U := List.mem_filter.mpr ⟨List.mem_of_getElem? (i := 328) rfl, rfl⟩
theorem m_330 : Cond.instanceMethod y_M_due ∈ lw_U := List.mem_filter.mpr ⟨List.mem_of_getElem? (i := 330) rfl, rfl⟩
theorem m_331 : Cond.code y_M_due b_M_due 3 (some .boolean) ∈ lw_U := List.mem_filter.mpr ⟨List.mem_of_getElem? (i := 331) rfl, rfl⟩
theorem m_332 : Cond.methodLink R_M 79 y_M_entryAt ∈ lw_U := List.mem_filter.mpr ⟨List.mem_of_getElem? (i := 332) rfl, rfl⟩
theorem m_334 : Cond.instanceMethod y_M_entryAt ∈ lw_U := List.mem_filter.mpr ⟨List.mem_of_getElem? (i := 334) rfl, rfl⟩
theorem m_335 : Cond.code y_M_entryAt b_M_entryAt 2 (some .int) ∈ lw_U := List.mem_filter.mpr ⟨List.mem_of_getElem? (i := 335) rfl, rfl⟩
theorem m_336 : Cond.methodLink R_M 83 y_M_clear ∈ lw_U := List.mem_filter.mpr ⟨List.mem_of_getElem? (i := 336) rfl, rfl⟩
theorem m_338 : Cond.instanceMethod y_M_clear ∈ lw_U := List.mem_filter.mpr ⟨List.mem_of_getElem? (i := 338) rfl, rfl⟩
theorem m_339 : Cond.code y_M_clear b_M_clear 3 (some .int) ∈ lw_U := List.mem_filter.mpr ⟨List.mem_of_getElem? (i := 339) rfl, rfl⟩
theorem m_340 : Cond.methodLink R_M 90 y_M_chain ∈ lw_U := List.mem_filter.mpr ⟨List.mem_of_getElem? (i := 340) rfl, rfl⟩
theorem m_342 : Cond.instanceMethod y_M_chain ∈ lw_U := List.mem_filter.mpr ⟨List.mem_of_getElem? (i := 342) rfl, rfl⟩
theorem m_343 : Cond.code y_M_chain b_M_chain 5 (some .int) ∈ lw_U := List.mem_filter.mpr ⟨List.mem_of_getElem? (i := 343) rfl, rfl⟩
theorem m_344 : Cond.methodLink R_M 93 y_M_recorded ∈ lw_U := List.mem_filter.mpr ⟨List.mem_of_getElem? (i := 344) rfl, rfl⟩
theorem m_346 : Cond.instanceMethod y_M_recorded ∈ lw_U := List.mem_filter.mpr ⟨List.mem_of_getElem? (i := 346) rfl, rfl⟩
theorem m_347 : Cond.code y_M_recorded b_M_recorded 5 (some .long) ∈ lw_U := List.mem_filter.mpr ⟨List.mem_of_getElem? (i := 347) rfl, rfl⟩
theorem m_348 : Cond.methodLink R_M 86 y_M_joined ∈ lw_U := List.mem_filter.mpr ⟨List.mem_of_getElem? (i := 348) rfl, rfl⟩
theorem m_349 : Cond.static y_M_joined ∈ lw_U := List.mem_filter.mpr ⟨List.mem_of_getElem? (i := 349) rfl, rfl⟩
theorem m_350 : Cond.code y_M_joined b_M_joined 2 (some .long) ∈ lw_U := List.mem_filter.mpr ⟨List.mem_of_getElem? (i := 350) rfl, rfl⟩
theorem m_351 : Cond.constantLong R_M 50 (4294967295) ∈ lw_U := List.mem_filter.mpr ⟨List.mem_of_getElem? (i := 351) rfl, rfl⟩
theorem m_352 : Cond.methodLink R_law 39 y_M_read ∈ lw_U := List.mem_filter.mpr ⟨List.mem_of_getElem? (i := 352) rfl, rfl⟩
theorem m_353 : Cond.instanceMethod y_M_read ∈ lw_U := List.mem_filter.mpr ⟨List.mem_of_getElem? (i := 353) rfl, rfl⟩
theorem m_354 : Cond.selects R_M y_M_read y_M_read ∈ lw_U := List.mem_filter.mpr ⟨List.mem_of_getElem? (i := 354) rfl, rfl⟩
theorem m_355 : Cond.code y_M_read b_M_read 4 (some .long) ∈ lw_U := List.mem_filter.mpr ⟨List.mem_of_getElem? (i := 355) rfl, rfl⟩
theorem m_356 : Cond.constantLong R_M 104 (-1) ∈ lw_U := List.mem_filter.mpr ⟨List.mem_of_getElem? (i := 356) rfl, rfl⟩
theorem m_357 : Cond.constantLong R_M 109 (-2) ∈ lw_U := List.mem_filter.mpr ⟨List.mem_of_getElem? (i := 357) rfl, rfl⟩
theorem m_358 : Cond.methodLink R_M 111 y_M_value ∈ lw_U := List.mem_filter.mpr ⟨List.mem_of_getElem? (i := 358) rfl, rfl⟩
theorem m_360 : Cond.instanceMethod y_M_value ∈ lw_U := List.mem_filter.mpr ⟨List.mem_of_getElem? (i := 360) rfl, rfl⟩
theorem m_361 : Cond.code y_M_value b_M_value 3 (some .long) ∈ lw_U := List.mem_filter.mpr ⟨List.mem_of_getElem? (i := 361) rfl, rfl⟩
theorem m_362 : Cond.methodLink R_M 106 y_M_looked ∈ lw_U := List.mem_filter.mpr ⟨List.mem_of_getElem? (i := 362) rfl, rfl⟩
theorem m_364 : Cond.instanceMethod y_M_looked ∈ lw_U := List.mem_filter.mpr ⟨List.mem_of_getElem? (i := 364) rfl, rfl⟩
theorem m_365 : Cond.code y_M_looked b_M_looked 6 (some .long) ∈ lw_U := List.mem_filter.mpr ⟨List.mem_of_getElem? (i := 365) rfl, rfl⟩
theorem m_366 : Cond.constantLong R_M 114 (-3) ∈ lw_U := List.mem_filter.mpr ⟨List.mem_of_getElem? (i := 366) rfl, rfl⟩
theorem m_367 : Cond.methodLink R_law 69 y_M_sound ∈ lw_U := List.mem_filter.mpr ⟨List.mem_of_getElem? (i := 367) rfl, rfl⟩
theorem m_368 : Cond.instanceMethod y_M_sound ∈ lw_U := List.mem_filter.mpr ⟨List.mem_of_getElem? (i := 368) rfl, rfl⟩
theorem m_369 : Cond.selects R_M y_M_sound y_M_sound ∈ lw_U := List.mem_filter.mpr ⟨List.mem_of_getElem? (i := 369) rfl, rfl⟩
theorem m_370 : Cond.code y_M_sound b_M_sound 3 (some .int) ∈ lw_U := List.mem_filter.mpr ⟨List.mem_of_getElem? (i := 370) rfl, rfl⟩
theorem m_371 : Cond.methodLink R_law 47 y_M_checkpoint ∈ lw_U := List.mem_filter.mpr ⟨List.mem_of_getElem? (i := 371) rfl, rfl⟩
theorem m_372 : Cond.instanceMethod y_M_checkpoint ∈ lw_U := List.mem_filter.mpr ⟨List.mem_of_getElem? (i := 372) rfl, rfl⟩
theorem m_373 : Cond.selects R_M y_M_checkpoint y_M_checkpoint ∈ lw_U := List.mem_filter.mpr ⟨List.mem_of_getElem? (i := 373) rfl, rfl⟩
theorem m_374 : Cond.code y_M_checkpoint b_M_checkpoint 2 (some .int) ∈ lw_U := List.mem_filter.mpr ⟨List.mem_of_getElem? (i := 374) rfl, rfl⟩
theorem m_375 : Cond.methodLink R_M 123 y_M_change ∈ lw_U := List.mem_filter.mpr ⟨List.mem_of_getElem? (i := 375) rfl, rfl⟩
theorem m_377 : Cond.instanceMethod y_M_change ∈ lw_U := List.mem_filter.mpr ⟨List.mem_of_getElem? (i := 377) rfl, rfl⟩
theorem m_378 : Cond.code y_M_change b_M_change 6 (some .int) ∈ lw_U := List.mem_filter.mpr ⟨List.mem_of_getElem? (i := 378) rfl, rfl⟩
theorem m_379 : Cond.methodLink R_M 116 y_M_put ∈ lw_U := List.mem_filter.mpr ⟨List.mem_of_getElem? (i := 379) rfl, rfl⟩
theorem m_381 : Cond.instanceMethod y_M_put ∈ lw_U := List.mem_filter.mpr ⟨List.mem_of_getElem? (i := 381) rfl, rfl⟩
theorem m_382 : Cond.code y_M_put b_M_put 3 none ∈ lw_U := List.mem_filter.mpr ⟨List.mem_of_getElem? (i := 382) rfl, rfl⟩
theorem m_383 : Cond.methodLink R_M 69 y_M_step ∈ lw_U := List.mem_filter.mpr ⟨List.mem_of_getElem? (i := 383) rfl, rfl⟩
theorem m_385 : Cond.instanceMethod y_M_step ∈ lw_U := List.mem_filter.mpr ⟨List.mem_of_getElem? (i := 385) rfl, rfl⟩
theorem m_386 : Cond.code y_M_step b_M_step 1 (some .boolean) ∈ lw_U := List.mem_filter.mpr ⟨List.mem_of_getElem? (i := 386) rfl, rfl⟩
theorem m_387 : Cond.methodLink R_M 119 y_M_changeSeal ∈ lw_U := List.mem_filter.mpr ⟨List.mem_of_getElem? (i := 387) rfl, rfl⟩
theorem m_389 : Cond.instanceMethod y_M_changeSeal ∈ lw_U := List.mem_filter.mpr ⟨List.mem_of_getElem? (i := 389) rfl, rfl⟩
theorem m_390 : Cond.code y_M_changeSeal b_M_changeSeal 5 none ∈ lw_U := List.mem_filter.mpr ⟨List.mem_of_getElem? (i := 390) rfl, rfl⟩
theorem m_391 : Cond.methodLink R_law 34 y_M_write ∈ lw_U := List.mem_filter.mpr ⟨List.mem_of_getElem? (i := 391) rfl, rfl⟩
theorem m_392 : Cond.instanceMethod y_M_write ∈ lw_U := List.mem_filter.mpr ⟨List.mem_of_getElem? (i := 392) rfl, rfl⟩
theorem m_393 : Cond.selects R_M y_M_write y_M_write ∈ lw_U := List.mem_filter.mpr ⟨List.mem_of_getElem? (i := 393) rfl, rfl⟩
theorem m_394 : Cond.code y_M_write b_M_write 11 (some .int) ∈ lw_U := List.mem_filter.mpr ⟨List.mem_of_getElem? (i := 394) rfl, rfl⟩
theorem m_395 : Cond.methodLink R_law 43 y_M_sync ∈ lw_U := List.mem_filter.mpr ⟨List.mem_of_getElem? (i := 395) rfl, rfl⟩
theorem m_396 : Cond.instanceMethod y_M_sync ∈ lw_U := List.mem_filter.mpr ⟨List.mem_of_getElem? (i := 396) rfl, rfl⟩
theorem m_397 : Cond.selects R_M y_M_sync y_M_sync ∈ lw_U := List.mem_filter.mpr ⟨List.mem_of_getElem? (i := 397) rfl, rfl⟩
theorem m_398 : Cond.code y_M_sync b_M_sync 2 (some .int) ∈ lw_U := List.mem_filter.mpr ⟨List.mem_of_getElem? (i := 398) rfl, rfl⟩
theorem m_399 : Cond.methodLink R_law 52 y_M_alter ∈ lw_U := List.mem_filter.mpr ⟨List.mem_of_getElem? (i := 399) rfl, rfl⟩
theorem m_400 : Cond.instanceMethod y_M_alter ∈ lw_U := List.mem_filter.mpr ⟨List.mem_of_getElem? (i := 400) rfl, rfl⟩
theorem m_401 : Cond.selects R_M y_M_alter y_M_alter ∈ lw_U := List.mem_filter.mpr ⟨List.mem_of_getElem? (i := 401) rfl, rfl⟩
theorem m_402 : Cond.code y_M_alter b_M_alter 3 (some .boolean) ∈ lw_U := List.mem_filter.mpr ⟨List.mem_of_getElem? (i := 402) rfl, rfl⟩
theorem m_403 : Cond.methodLink R_M 127 y_M_place ∈ lw_U := List.mem_filter.mpr ⟨List.mem_of_getElem? (i := 403) rfl, rfl⟩
theorem m_404 : Cond.static y_M_place ∈ lw_U := List.mem_filter.mpr ⟨List.mem_of_getElem? (i := 404) rfl, rfl⟩
theorem m_405 : Cond.code y_M_place b_M_place 1 (some .boolean) ∈ lw_U := List.mem_filter.mpr ⟨List.mem_of_getElem? (i := 405) rfl, rfl⟩
theorem m_406 : Cond.methodLink R_law 57 y_M_peek ∈ lw_U := List.mem_filter.mpr ⟨List.mem_of_getElem? (i := 406) rfl, rfl⟩
theorem m_407 : Cond.instanceMethod y_M_peek ∈ lw_U := List.mem_filter.mpr ⟨List.mem_of_getElem? (i := 407) rfl, rfl⟩
theorem m_408 : Cond.selects R_M y_M_peek y_M_peek ∈ lw_U := List.mem_filter.mpr ⟨List.mem_of_getElem? (i := 408) rfl, rfl⟩
theorem m_409 : Cond.code y_M_peek b_M_peek 2 (some .int) ∈ lw_U := List.mem_filter.mpr ⟨List.mem_of_getElem? (i := 409) rfl, rfl⟩
theorem m_410 : Cond.methodLink R_law 61 y_M_seal ∈ lw_U := List.mem_filter.mpr ⟨List.mem_of_getElem? (i := 410) rfl, rfl⟩
theorem m_411 : Cond.instanceMethod y_M_seal ∈ lw_U := List.mem_filter.mpr ⟨List.mem_of_getElem? (i := 411) rfl, rfl⟩
theorem m_412 : Cond.selects R_M y_M_seal y_M_seal ∈ lw_U := List.mem_filter.mpr ⟨List.mem_of_getElem? (i := 412) rfl, rfl⟩
theorem m_413 : Cond.code y_M_seal b_M_seal 2 (some .int) ∈ lw_U := List.mem_filter.mpr ⟨List.mem_of_getElem? (i := 413) rfl, rfl⟩
theorem m_414 : Cond.methodLink R_law 65 y_M_writes ∈ lw_U := List.mem_filter.mpr ⟨List.mem_of_getElem? (i := 414) rfl, rfl⟩
theorem m_415 : Cond.instanceMethod y_M_writes ∈ lw_U := List.mem_filter.mpr ⟨List.mem_of_getElem? (i := 415) rfl, rfl⟩
theorem m_416 : Cond.selects R_M y_M_writes y_M_writes ∈ lw_U := List.mem_filter.mpr ⟨List.mem_of_getElem? (i := 416) rfl, rfl⟩
theorem m_417 : Cond.code y_M_writes b_M_writes 1 (some .int) ∈ lw_U := List.mem_filter.mpr ⟨List.mem_of_getElem? (i := 417) rfl, rfl⟩
theorem m_418 : Cond.methodLink R_law 73 y_M_steps ∈ lw_U := List.mem_filter.mpr ⟨List.mem_of_getElem? (i := 418) rfl, rfl⟩
theorem m_419 : Cond.instanceMethod y_M_steps ∈ lw_U := List.mem_filter.mpr ⟨List.mem_of_getElem? (i := 419) rfl, rfl⟩
theorem m_420 : Cond.selects R_M y_M_steps y_M_steps ∈ lw_U := List.mem_filter.mpr ⟨List.mem_of_getElem? (i := 420) rfl, rfl⟩
theorem m_421 : Cond.code y_M_steps b_M_steps 1 (some .int) ∈ lw_U := List.mem_filter.mpr ⟨List.mem_of_getElem? (i := 421) rfl, rfl⟩
theorem m_422 : Cond.constantLong R_law 28 (4294967295) ∈ lw_U := List.mem_filter.mpr ⟨List.mem_of_getElem? (i := 422) rfl, rfl⟩
theorem lay_X : ∀ w ∈ u_ws R_X F_X 12, w ∈ lw_U := fun w h => (goodIn_of (u_ws R_X F_X 12) (by decide +kernel) w h).1
theorem lay_M : ∀ w ∈ u_ws R_M F_M 15, w ∈ lw_U := fun w h => (goodIn_of (u_ws R_M F_M 15) (by decide +kernel) w h).1
theorem z_gV {own C : String} {idx : Nat} {y : MethodName} {c1 : Cond} (h1 : Cond.methodLink own idx y ∈ lw_U) (h2 : Cond.instanceMethod y ∈ lw_U) (h3 : Cond.selects C y y ∈ lw_U) (h4 : Cond.initialized C ∈ lw_U) (hc : c1 ∈ lw_U) : GoodIn lw_U (wsV own idx C y (c1 :: lw_U)) := by
  intro w hw
  refine tbl_good w ?_
  rcases List.mem_append.mp hw with hw | hw
  · simp only [List.mem_cons, List.not_mem_nil, or_false] at hw
    rcases hw with rfl | rfl | rfl | rfl <;> assumption
  · rcases List.mem_cons.mp hw with rfl | hw <;> assumption
theorem z_gS {own : String} {idx : Nat} {y : MethodName} {c1 : Cond} (h1 : Cond.methodLink own idx y ∈ lw_U) (h2 : Cond.static y ∈ lw_U) (h3 : Cond.initialized own ∈ lw_U) (hc : c1 ∈ lw_U) : GoodIn lw_U (wsS own idx y (c1 :: lw_U)) := by
  intro w hw
  refine tbl_good w ?_
  rcases List.mem_append.mp hw with hw | hw
  · simp only [List.mem_cons, List.not_mem_nil, or_false] at hw
    rcases hw with rfl | rfl | rfl <;> assumption
  · rcases List.mem_cons.mp hw with rfl | hw <;> assumption
theorem z_gI {c1 : Cond} (hc : c1 ∈ lw_U) : GoodIn lw_U (c1 :: lw_U) := by
  intro w hw
  refine tbl_good w ?_
  rcases List.mem_cons.mp hw with rfl | hw <;> assumption
theorem g_law_9 : GoodIn lw_U w_X_init := z_gI m_39
theorem g_X_27 : GoodIn lw_U (wsS R_X 27 y_X_encipher w_X_encipher) := z_gS m_43 m_44 m_33 m_45
theorem g_X_100 : GoodIn lw_U (wsS R_X 100 y_X_digest w_X_digest) := z_gS m_47 m_48 m_33 m_49
theorem g_X_31 : GoodIn lw_U (wsS R_X 31 y_X_nodePlace w_X_nodePlace) := z_gS m_52 m_53 m_33 m_54
theorem g_X_35 : GoodIn lw_U (wsV R_X 35 R_X y_X_dueNode w_X_dueNode) := z_gV m_55 m_57 m_0 m_33 m_58
theorem g_X_103 : GoodIn lw_U (wsS R_X 103 y_X_sectorPlace w_X_sectorPlace) := z_gS m_59 m_60 m_33 m_61
theorem g_law_13 : GoodIn lw_U (wsV R_law 13 R_X y_X_mount w_X_mount) := z_gV m_101 m_102 m_103 m_33 m_104
theorem g_X_41 : GoodIn lw_U (wsV R_X 41 R_X y_X_takeJournal w_X_takeJournal) := z_gV m_105 m_107 m_1 m_33 m_108
theorem g_X_120 : GoodIn lw_U (wsV R_X 120 R_X y_X_beginList w_X_beginList) := z_gV m_109 m_111 m_2 m_33 m_112
theorem g_X_123 : GoodIn lw_U (wsS R_X 123 y_X_recordPlace w_X_recordPlace) := z_gS m_113 m_114 m_33 m_115
theorem g_X_126 : GoodIn lw_U (wsV R_X 126 R_X y_X_chainBehind w_X_chainBehind) := z_gV m_116 m_118 m_3 m_33 m_119
theorem g_X_114 : GoodIn lw_U (wsV R_X 114 R_X y_X_valueAt w_X_valueAt) := z_gV m_120 m_122 m_4 m_33 m_123
theorem g_X_129 : GoodIn lw_U (wsS R_X 129 y_X_markOf w_X_markOf) := z_gS m_125 m_126 m_33 m_127
theorem g_X_57 : GoodIn lw_U (wsS R_X 57 y_X_isSector w_X_isSector) := z_gS m_128 m_129 m_33 m_130
theorem g_X_69 : GoodIn lw_U (wsV R_X 69 R_X y_X_addToList w_X_addToList) := z_gV m_131 m_133 m_5 m_33 m_134
theorem g_X_50 : GoodIn lw_U (wsV R_X 50 R_X y_X_forget w_X_forget) := z_gV m_135 m_137 m_6 m_33 m_138
theorem g_law_18 : GoodIn lw_U (wsV R_law 18 R_X y_X_arm w_X_arm) := z_gV m_139 m_140 m_141 m_33 m_142
theorem g_law_23 : GoodIn lw_U (wsV R_law 23 R_X y_X_isOn w_X_isOn) := z_gV m_143 m_144 m_145 m_33 m_146
theorem g_law_30 : GoodIn lw_U (wsV R_law 30 R_X y_X_write w_X_write) := z_gV m_147 m_148 m_149 m_33 m_150
theorem g_X_61 : GoodIn lw_U (wsV R_X 61 R_X y_X_moveToOtherHalf w_X_moveToOtherHalf) := z_gV m_151 m_153 m_7 m_33 m_154
theorem g_X_91 : GoodIn lw_U (wsV R_X 91 R_X y_X_soundSectors w_X_soundSectors) := z_gV m_155 m_157 m_8 m_33 m_158
theorem g_X_77 : GoodIn lw_U (wsV R_X 77 R_X y_X_valueOf w_X_valueOf) := z_gV m_159 m_161 m_9 m_33 m_162
theorem g_X_108 : GoodIn lw_U (wsV R_X 108 R_X y_X_rootAbove w_X_rootAbove) := z_gV m_163 m_165 m_10 m_33 m_166
theorem g_X_151 : GoodIn lw_U (wsV R_X 151 R_X y_X_clearMarks w_X_clearMarks) := z_gV m_168 m_170 m_11 m_33 m_171
theorem g_X_140 : GoodIn lw_U (wsV R_X 140 R_X y_X_storeWord w_X_storeWord) := z_gV m_172 m_174 m_12 m_33 m_175
theorem g_X_132 : GoodIn lw_U (wsV R_X 132 R_X y_X_stepHappens w_X_stepHappens) := z_gV m_176 m_178 m_13 m_33 m_179
theorem g_X_154 : GoodIn lw_U (wsV R_X 154 R_X y_X_storeSectors w_X_storeSectors) := z_gV m_180 m_182 m_14 m_33 m_183
theorem g_X_147 : GoodIn lw_U (wsV R_X 147 R_X y_X_storeValue w_X_storeValue) := z_gV m_184 m_186 m_15 m_33 m_187
theorem g_X_136 : GoodIn lw_U (wsS R_X 136 y_X_upper w_X_upper) := z_gS m_188 m_189 m_33 m_190
theorem g_X_144 : GoodIn lw_U (wsS R_X 144 y_X_lower w_X_lower) := z_gS m_191 m_192 m_33 m_193
theorem g_X_157 : GoodIn lw_U (wsV R_X 157 R_X y_X_storeNodes w_X_storeNodes) := z_gV m_194 m_196 m_16 m_33 m_197
theorem g_X_84 : GoodIn lw_U (wsV R_X 84 R_X y_X_changeSeal w_X_changeSeal) := z_gV m_198 m_200 m_17 m_33 m_201
theorem g_X_65 : GoodIn lw_U (wsV R_X 65 R_X y_X_storeRecord w_X_storeRecord) := z_gV m_202 m_204 m_18 m_33 m_205
theorem g_law_35 : GoodIn lw_U (wsV R_law 35 R_X y_X_read w_X_read) := z_gV m_206 m_207 m_208 m_33 m_209
theorem g_law_40 : GoodIn lw_U (wsV R_law 40 R_X y_X_sync w_X_sync) := z_gV m_212 m_213 m_214 m_33 m_215
theorem g_law_44 : GoodIn lw_U (wsV R_law 44 R_X y_X_checkpoint w_X_checkpoint) := z_gV m_216 m_217 m_218 m_33 m_219
theorem g_law_48 : GoodIn lw_U (wsV R_law 48 R_X y_X_alter w_X_alter) := z_gV m_220 m_221 m_222 m_33 m_223
theorem g_X_88 : GoodIn lw_U (wsS R_X 88 y_X_isPlace w_X_isPlace) := z_gS m_224 m_225 m_33 m_226
theorem g_law_53 : GoodIn lw_U (wsV R_law 53 R_X y_X_peek w_X_peek) := z_gV m_227 m_228 m_229 m_33 m_230
theorem g_law_58 : GoodIn lw_U (wsV R_law 58 R_X y_X_seal w_X_seal) := z_gV m_231 m_232 m_233 m_33 m_234
theorem g_law_62 : GoodIn lw_U (wsV R_law 62 R_X y_X_writes w_X_writes) := z_gV m_235 m_236 m_237 m_33 m_238
theorem g_law_66 : GoodIn lw_U (wsV R_law 66 R_X y_X_sound w_X_sound) := z_gV m_239 m_240 m_241 m_33 m_242
theorem g_law_70 : GoodIn lw_U (wsV R_law 70 R_X y_X_steps w_X_steps) := z_gV m_243 m_244 m_245 m_33 m_246
theorem g_law_12 : GoodIn lw_U w_M_init := z_gI m_251
theorem g_M_33 : GoodIn lw_U (wsS R_M 33 y_M_key w_M_key) := z_gS m_253 m_254 m_34 m_255
theorem g_M_47 : GoodIn lw_U (wsS R_M 47 y_M_digest w_M_digest) := z_gS m_257 m_258 m_34 m_259
theorem g_M_37 : GoodIn lw_U (wsV R_M 37 R_M y_M_nodes w_M_nodes) := z_gV m_262 m_264 m_19 m_34 m_265
theorem g_M_52 : GoodIn lw_U (wsV R_M 52 R_M y_M_leaf w_M_leaf) := z_gV m_266 m_268 m_20 m_34 m_269
theorem g_law_22 : GoodIn lw_U (wsV R_law 22 R_M y_M_arm w_M_arm) := z_gV m_316 m_317 m_318 m_34 m_319
theorem g_law_27 : GoodIn lw_U (wsV R_law 27 R_M y_M_isOn w_M_isOn) := z_gV m_320 m_321 m_322 m_34 m_323
theorem g_law_17 : GoodIn lw_U (wsV R_law 17 R_M y_M_mount w_M_mount) := z_gV m_324 m_325 m_326 m_34 m_327
theorem g_M_97 : GoodIn lw_U (wsV R_M 97 R_M y_M_due w_M_due) := z_gV m_328 m_330 m_21 m_34 m_331
theorem g_M_79 : GoodIn lw_U (wsV R_M 79 R_M y_M_entryAt w_M_entryAt) := z_gV m_332 m_334 m_22 m_34 m_335
theorem g_M_83 : GoodIn lw_U (wsV R_M 83 R_M y_M_clear w_M_clear) := z_gV m_336 m_338 m_23 m_34 m_339
theorem g_M_90 : GoodIn lw_U (wsV R_M 90 R_M y_M_chain w_M_chain) := z_gV m_340 m_342 m_24 m_34 m_343
theorem g_M_93 : GoodIn lw_U (wsV R_M 93 R_M y_M_recorded w_M_recorded) := z_gV m_344 m_346 m_25 m_34 m_347
theorem g_M_86 : GoodIn lw_U (wsS R_M 86 y_M_joined w_M_joined) := z_gS m_348 m_349 m_34 m_350
theorem g_law_39 : GoodIn lw_U (wsV R_law 39 R_M y_M_read w_M_read) := z_gV m_352 m_353 m_354 m_34 m_355
theorem g_M_111 : GoodIn lw_U (wsV R_M 111 R_M y_M_value w_M_value) := z_gV m_358 m_360 m_26 m_34 m_361
theorem g_M_106 : GoodIn lw_U (wsV R_M 106 R_M y_M_looked w_M_looked) := z_gV m_362 m_364 m_27 m_34 m_365
theorem g_law_69 : GoodIn lw_U (wsV R_law 69 R_M y_M_sound w_M_sound) := z_gV m_367 m_368 m_369 m_34 m_370
theorem g_law_47 : GoodIn lw_U (wsV R_law 47 R_M y_M_checkpoint w_M_checkpoint) := z_gV m_371 m_372 m_373 m_34 m_374
theorem g_M_123 : GoodIn lw_U (wsV R_M 123 R_M y_M_change w_M_change) := z_gV m_375 m_377 m_28 m_34 m_378
theorem g_M_116 : GoodIn lw_U (wsV R_M 116 R_M y_M_put w_M_put) := z_gV m_379 m_381 m_29 m_34 m_382
theorem g_M_69 : GoodIn lw_U (wsV R_M 69 R_M y_M_step w_M_step) := z_gV m_383 m_385 m_30 m_34 m_386
theorem g_M_119 : GoodIn lw_U (wsV R_M 119 R_M y_M_changeSeal w_M_changeSeal) := z_gV m_387 m_389 m_31 m_34 m_390
theorem g_law_34 : GoodIn lw_U (wsV R_law 34 R_M y_M_write w_M_write) := z_gV m_391 m_392 m_393 m_34 m_394
theorem g_law_43 : GoodIn lw_U (wsV R_law 43 R_M y_M_sync w_M_sync) := z_gV m_395 m_396 m_397 m_34 m_398
theorem g_law_52 : GoodIn lw_U (wsV R_law 52 R_M y_M_alter w_M_alter) := z_gV m_399 m_400 m_401 m_34 m_402
theorem g_M_127 : GoodIn lw_U (wsS R_M 127 y_M_place w_M_place) := z_gS m_403 m_404 m_34 m_405
theorem g_law_57 : GoodIn lw_U (wsV R_law 57 R_M y_M_peek w_M_peek) := z_gV m_406 m_407 m_408 m_34 m_409
theorem g_law_61 : GoodIn lw_U (wsV R_law 61 R_M y_M_seal w_M_seal) := z_gV m_410 m_411 m_412 m_34 m_413
theorem g_law_65 : GoodIn lw_U (wsV R_law 65 R_M y_M_writes w_M_writes) := z_gV m_414 m_415 m_416 m_34 m_417
theorem g_law_73 : GoodIn lw_U (wsV R_law 73 R_M y_M_steps w_M_steps) := z_gV m_418 m_419 m_420 m_34 m_421
