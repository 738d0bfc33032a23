-- ===== PART A: goes FIRST, ahead of the names: the tables' words, and 'selects' of the private methods out of them =====
/-- a private method of a class that the tables say can be made, by its rows of tables_1 -/
def lw_okq (q : MethodName × Nat) : Prop := (q.1.cls ≠ "java/lang/invoke/MethodHandle" ∧ q.1.cls ≠ "java/lang/invoke/VarHandle") ∧ Cond.instantiable q.1.cls q.2 ∈ tables_1 ∧ Cond.privateMethod q.1 ∈ tables_1 ∧ Cond.instanceMethod q.1 ∈ tables_1
theorem lw_p0 : lw_okq (⟨"EntityDesk", "beginReading", "()V"⟩, 14) := ⟨⟨by decide +kernel, by decide +kernel⟩, List.mem_of_getElem? (i := 7) (by decide +kernel), List.mem_of_getElem? (i := 117) (by decide +kernel), List.mem_of_getElem? (i := 118) (by decide +kernel)⟩
theorem lw_p1 : lw_okq (⟨"EntityDesk$Reader", "begin", "()V"⟩, 3) := ⟨⟨by decide +kernel, by decide +kernel⟩, List.mem_of_getElem? (i := 44) (by decide +kernel), List.mem_of_getElem? (i := 121) (by decide +kernel), List.mem_of_getElem? (i := 122) (by decide +kernel)⟩
theorem lw_p2 : lw_okq (⟨"EntityDesk$Entities", "has", "(I)Z"⟩, 6) := ⟨⟨by decide +kernel, by decide +kernel⟩, List.mem_of_getElem? (i := 15) (by decide +kernel), List.mem_of_getElem? (i := 125) (by decide +kernel), List.mem_of_getElem? (i := 126) (by decide +kernel)⟩
theorem lw_p3 : lw_okq (⟨"EntityDesk", "draftText", "(I)V"⟩, 14) := ⟨⟨by decide +kernel, by decide +kernel⟩, List.mem_of_getElem? (i := 7) (by decide +kernel), List.mem_of_getElem? (i := 129) (by decide +kernel), List.mem_of_getElem? (i := 130) (by decide +kernel)⟩
theorem lw_p4 : lw_okq (⟨"EntityDesk$Entities", "beginDraft", "()V"⟩, 6) := ⟨⟨by decide +kernel, by decide +kernel⟩, List.mem_of_getElem? (i := 15) (by decide +kernel), List.mem_of_getElem? (i := 133) (by decide +kernel), List.mem_of_getElem? (i := 134) (by decide +kernel)⟩
theorem lw_p5 : lw_okq (⟨"EntityDesk$Reader", "isWithin", "()Z"⟩, 3) := ⟨⟨by decide +kernel, by decide +kernel⟩, List.mem_of_getElem? (i := 44) (by decide +kernel), List.mem_of_getElem? (i := 137) (by decide +kernel), List.mem_of_getElem? (i := 138) (by decide +kernel)⟩
theorem lw_p6 : lw_okq (⟨"EntityDesk", "draftCharacter", "(II)V"⟩, 14) := ⟨⟨by decide +kernel, by decide +kernel⟩, List.mem_of_getElem? (i := 7) (by decide +kernel), List.mem_of_getElem? (i := 141) (by decide +kernel), List.mem_of_getElem? (i := 142) (by decide +kernel)⟩
theorem lw_p7 : lw_okq (⟨"EntityDesk", "readOn", "(II)I"⟩, 14) := ⟨⟨by decide +kernel, by decide +kernel⟩, List.mem_of_getElem? (i := 7) (by decide +kernel), List.mem_of_getElem? (i := 145) (by decide +kernel), List.mem_of_getElem? (i := 146) (by decide +kernel)⟩
theorem lw_p8 : lw_okq (⟨"EntityDesk$Reader", "read", "(I)I"⟩, 3) := ⟨⟨by decide +kernel, by decide +kernel⟩, List.mem_of_getElem? (i := 44) (by decide +kernel), List.mem_of_getElem? (i := 149) (by decide +kernel), List.mem_of_getElem? (i := 150) (by decide +kernel)⟩
theorem lw_p9 : lw_okq (⟨"EntityDesk$Reader", "readBehindAmpersand", "(I)I"⟩, 3) := ⟨⟨by decide +kernel, by decide +kernel⟩, List.mem_of_getElem? (i := 44) (by decide +kernel), List.mem_of_getElem? (i := 153) (by decide +kernel), List.mem_of_getElem? (i := 154) (by decide +kernel)⟩
theorem lw_p10 : lw_okq (⟨"EntityDesk$Reader", "goOn", "(I)I"⟩, 3) := ⟨⟨by decide +kernel, by decide +kernel⟩, List.mem_of_getElem? (i := 44) (by decide +kernel), List.mem_of_getElem? (i := 157) (by decide +kernel), List.mem_of_getElem? (i := 158) (by decide +kernel)⟩
theorem lw_p11 : lw_okq (⟨"EntityDesk$Reader", "finish", "(I)I"⟩, 3) := ⟨⟨by decide +kernel, by decide +kernel⟩, List.mem_of_getElem? (i := 44) (by decide +kernel), List.mem_of_getElem? (i := 161) (by decide +kernel), List.mem_of_getElem? (i := 162) (by decide +kernel)⟩
theorem lw_p12 : lw_okq (⟨"EntityDesk$Reader", "readDigit", "(III)I"⟩, 3) := ⟨⟨by decide +kernel, by decide +kernel⟩, List.mem_of_getElem? (i := 44) (by decide +kernel), List.mem_of_getElem? (i := 165) (by decide +kernel), List.mem_of_getElem? (i := 166) (by decide +kernel)⟩
theorem lw_p13 : lw_okq (⟨"EntityDesk$Reader", "finishNumber", "()I"⟩, 3) := ⟨⟨by decide +kernel, by decide +kernel⟩, List.mem_of_getElem? (i := 44) (by decide +kernel), List.mem_of_getElem? (i := 175) (by decide +kernel), List.mem_of_getElem? (i := 176) (by decide +kernel)⟩
theorem lw_p14 : lw_okq (⟨"EntityDesk", "fail", "(II)V"⟩, 14) := ⟨⟨by decide +kernel, by decide +kernel⟩, List.mem_of_getElem? (i := 7) (by decide +kernel), List.mem_of_getElem? (i := 182) (by decide +kernel), List.mem_of_getElem? (i := 183) (by decide +kernel)⟩
theorem lw_p15 : lw_okq (⟨"EntityDesk$Entities", "draft", "(I)V"⟩, 6) := ⟨⟨by decide +kernel, by decide +kernel⟩, List.mem_of_getElem? (i := 15) (by decide +kernel), List.mem_of_getElem? (i := 186) (by decide +kernel), List.mem_of_getElem? (i := 187) (by decide +kernel)⟩
def lw_privs_1 : List (MethodName × Nat) := [(⟨"EntityDesk", "beginReading", "()V"⟩, 14), (⟨"EntityDesk$Reader", "begin", "()V"⟩, 3), (⟨"EntityDesk$Entities", "has", "(I)Z"⟩, 6), (⟨"EntityDesk", "draftText", "(I)V"⟩, 14), (⟨"EntityDesk$Entities", "beginDraft", "()V"⟩, 6), (⟨"EntityDesk$Reader", "isWithin", "()Z"⟩, 3), (⟨"EntityDesk", "draftCharacter", "(II)V"⟩, 14), (⟨"EntityDesk", "readOn", "(II)I"⟩, 14), (⟨"EntityDesk$Reader", "read", "(I)I"⟩, 3), (⟨"EntityDesk$Reader", "readBehindAmpersand", "(I)I"⟩, 3), (⟨"EntityDesk$Reader", "goOn", "(I)I"⟩, 3), (⟨"EntityDesk$Reader", "finish", "(I)I"⟩, 3), (⟨"EntityDesk$Reader", "readDigit", "(III)I"⟩, 3), (⟨"EntityDesk$Reader", "finishNumber", "()I"⟩, 3), (⟨"EntityDesk", "fail", "(II)V"⟩, 14), (⟨"EntityDesk$Entities", "draft", "(I)V"⟩, 6)]
theorem lw_r1 : ∀ q ∈ lw_privs_1, lw_okq q := List.forall_mem_cons.mpr ⟨lw_p0, List.forall_mem_cons.mpr ⟨lw_p1, List.forall_mem_cons.mpr ⟨lw_p2, List.forall_mem_cons.mpr ⟨lw_p3, List.forall_mem_cons.mpr ⟨lw_p4, List.forall_mem_cons.mpr ⟨lw_p5, List.forall_mem_cons.mpr ⟨lw_p6, List.forall_mem_cons.mpr ⟨lw_p7, List.forall_mem_cons.mpr ⟨lw_p8, List.forall_mem_cons.mpr ⟨lw_p9, List.forall_mem_cons.mpr ⟨lw_p10, List.forall_mem_cons.mpr ⟨lw_p11, List.forall_mem_cons.mpr ⟨lw_p12, List.forall_mem_cons.mpr ⟨lw_p13, List.forall_mem_cons.mpr ⟨lw_p14, List.forall_mem_cons.mpr ⟨lw_p15, fun _ h => absurd h List.not_mem_nil⟩⟩⟩⟩⟩⟩⟩⟩⟩⟩⟩⟩⟩⟩⟩⟩
theorem lw_p16 : lw_okq (⟨"EntityDesk$Entities", "draftFits", "()Z"⟩, 6) := ⟨⟨by decide +kernel, by decide +kernel⟩, List.mem_of_getElem? (i := 15) (by decide +kernel), List.mem_of_getElem? (i := 190) (by decide +kernel), List.mem_of_getElem? (i := 191) (by decide +kernel)⟩
theorem lw_p17 : lw_okq (⟨"EntityDesk$Entities", "keepDraft", "(I)V"⟩, 6) := ⟨⟨by decide +kernel, by decide +kernel⟩, List.mem_of_getElem? (i := 15) (by decide +kernel), List.mem_of_getElem? (i := 194) (by decide +kernel), List.mem_of_getElem? (i := 195) (by decide +kernel)⟩
theorem lw_p18 : lw_okq (⟨"EntityDesk$Entities", "lengthOf", "(I)I"⟩, 6) := ⟨⟨by decide +kernel, by decide +kernel⟩, List.mem_of_getElem? (i := 15) (by decide +kernel), List.mem_of_getElem? (i := 198) (by decide +kernel), List.mem_of_getElem? (i := 199) (by decide +kernel)⟩
theorem lw_p19 : lw_okq (⟨"EntityDesk", "goOver", "([IIII)V"⟩, 14) := ⟨⟨by decide +kernel, by decide +kernel⟩, List.mem_of_getElem? (i := 7) (by decide +kernel), List.mem_of_getElem? (i := 207) (by decide +kernel), List.mem_of_getElem? (i := 208) (by decide +kernel)⟩
theorem lw_p20 : lw_okq (⟨"EntityDesk", "goOverCharacter", "(III)V"⟩, 14) := ⟨⟨by decide +kernel, by decide +kernel⟩, List.mem_of_getElem? (i := 7) (by decide +kernel), List.mem_of_getElem? (i := 211) (by decide +kernel), List.mem_of_getElem? (i := 212) (by decide +kernel)⟩
theorem lw_p21 : lw_okq (⟨"EntityDesk", "give", "(I)V"⟩, 14) := ⟨⟨by decide +kernel, by decide +kernel⟩, List.mem_of_getElem? (i := 7) (by decide +kernel), List.mem_of_getElem? (i := 215) (by decide +kernel), List.mem_of_getElem? (i := 216) (by decide +kernel)⟩
theorem lw_p22 : lw_okq (⟨"EntityDesk", "goInto", "(II)V"⟩, 14) := ⟨⟨by decide +kernel, by decide +kernel⟩, List.mem_of_getElem? (i := 7) (by decide +kernel), List.mem_of_getElem? (i := 219) (by decide +kernel), List.mem_of_getElem? (i := 220) (by decide +kernel)⟩
theorem lw_p23 : lw_okq (⟨"EntityDesk", "faultOfEntity", "(II)I"⟩, 14) := ⟨⟨by decide +kernel, by decide +kernel⟩, List.mem_of_getElem? (i := 7) (by decide +kernel), List.mem_of_getElem? (i := 223) (by decide +kernel), List.mem_of_getElem? (i := 224) (by decide +kernel)⟩
theorem lw_p24 : lw_okq (⟨"EntityDesk$Entities", "startOf", "(I)I"⟩, 6) := ⟨⟨by decide +kernel, by decide +kernel⟩, List.mem_of_getElem? (i := 15) (by decide +kernel), List.mem_of_getElem? (i := 230) (by decide +kernel), List.mem_of_getElem? (i := 231) (by decide +kernel)⟩
theorem lw_p25 : lw_okq (⟨"EntityDesk$Entities", "characterOf", "(II)I"⟩, 6) := ⟨⟨by decide +kernel, by decide +kernel⟩, List.mem_of_getElem? (i := 15) (by decide +kernel), List.mem_of_getElem? (i := 246) (by decide +kernel), List.mem_of_getElem? (i := 247) (by decide +kernel)⟩
theorem lw_p26 : lw_okq (⟨"EntityDeskModel", "begin", "()V"⟩, 24) := ⟨⟨by decide +kernel, by decide +kernel⟩, List.mem_of_getElem? (i := 254) (by decide +kernel), List.mem_of_getElem? (i := 342) (by decide +kernel), List.mem_of_getElem? (i := 343) (by decide +kernel)⟩
theorem lw_p27 : lw_okq (⟨"EntityDeskModel", "peek", "()I"⟩, 24) := ⟨⟨by decide +kernel, by decide +kernel⟩, List.mem_of_getElem? (i := 254) (by decide +kernel), List.mem_of_getElem? (i := 346) (by decide +kernel), List.mem_of_getElem? (i := 347) (by decide +kernel)⟩
theorem lw_p28 : lw_okq (⟨"EntityDeskModel", "pass", "()V"⟩, 24) := ⟨⟨by decide +kernel, by decide +kernel⟩, List.mem_of_getElem? (i := 254) (by decide +kernel), List.mem_of_getElem? (i := 350) (by decide +kernel), List.mem_of_getElem? (i := 351) (by decide +kernel)⟩
theorem lw_p29 : lw_okq (⟨"EntityDeskModel", "reference", "(I)I"⟩, 24) := ⟨⟨by decide +kernel, by decide +kernel⟩, List.mem_of_getElem? (i := 254) (by decide +kernel), List.mem_of_getElem? (i := 354) (by decide +kernel), List.mem_of_getElem? (i := 355) (by decide +kernel)⟩
theorem lw_p30 : lw_okq (⟨"EntityDeskModel", "broken", "()I"⟩, 24) := ⟨⟨by decide +kernel, by decide +kernel⟩, List.mem_of_getElem? (i := 254) (by decide +kernel), List.mem_of_getElem? (i := 361) (by decide +kernel), List.mem_of_getElem? (i := 362) (by decide +kernel)⟩
theorem lw_p31 : lw_okq (⟨"EntityDeskModel", "fail", "(II)I"⟩, 24) := ⟨⟨by decide +kernel, by decide +kernel⟩, List.mem_of_getElem? (i := 254) (by decide +kernel), List.mem_of_getElem? (i := 365) (by decide +kernel), List.mem_of_getElem? (i := 366) (by decide +kernel)⟩
def lw_privs_2 : List (MethodName × Nat) := [(⟨"EntityDesk$Entities", "draftFits", "()Z"⟩, 6), (⟨"EntityDesk$Entities", "keepDraft", "(I)V"⟩, 6), (⟨"EntityDesk$Entities", "lengthOf", "(I)I"⟩, 6), (⟨"EntityDesk", "goOver", "([IIII)V"⟩, 14), (⟨"EntityDesk", "goOverCharacter", "(III)V"⟩, 14), (⟨"EntityDesk", "give", "(I)V"⟩, 14), (⟨"EntityDesk", "goInto", "(II)V"⟩, 14), (⟨"EntityDesk", "faultOfEntity", "(II)I"⟩, 14), (⟨"EntityDesk$Entities", "startOf", "(I)I"⟩, 6), (⟨"EntityDesk$Entities", "characterOf", "(II)I"⟩, 6), (⟨"EntityDeskModel", "begin", "()V"⟩, 24), (⟨"EntityDeskModel", "peek", "()I"⟩, 24), (⟨"EntityDeskModel", "pass", "()V"⟩, 24), (⟨"EntityDeskModel", "reference", "(I)I"⟩, 24), (⟨"EntityDeskModel", "broken", "()I"⟩, 24), (⟨"EntityDeskModel", "fail", "(II)I"⟩, 24)]
theorem lw_r2 : ∀ q ∈ lw_privs_2, lw_okq q := List.forall_mem_cons.mpr ⟨lw_p16, List.forall_mem_cons.mpr ⟨lw_p17, List.forall_mem_cons.mpr ⟨lw_p18, List.forall_mem_cons.mpr ⟨lw_p19, List.forall_mem_cons.mpr ⟨lw_p20, List.forall_mem_cons.mpr ⟨lw_p21, List.forall_mem_cons.mpr ⟨lw_p22, List.forall_mem_cons.mpr ⟨lw_p23, List.forall_mem_cons.mpr ⟨lw_p24, List.forall_mem_cons.mpr ⟨lw_p25, List.forall_mem_cons.mpr ⟨lw_p26, List.forall_mem_cons.mpr ⟨lw_p27, List.forall_mem_cons.mpr ⟨lw_p28, List.forall_mem_cons.mpr ⟨lw_p29, List.forall_mem_cons.mpr ⟨lw_p30, List.forall_mem_cons.mpr ⟨lw_p31, fun _ h => absurd h List.not_mem_nil⟩⟩⟩⟩⟩⟩⟩⟩⟩⟩⟩⟩⟩⟩⟩⟩
theorem lw_p32 : lw_okq (⟨"EntityDeskModel", "step", "(I)I"⟩, 24) := ⟨⟨by decide +kernel, by decide +kernel⟩, List.mem_of_getElem? (i := 254) (by decide +kernel), List.mem_of_getElem? (i := 380) (by decide +kernel), List.mem_of_getElem? (i := 381) (by decide +kernel)⟩
theorem lw_p33 : lw_okq (⟨"EntityDeskModel", "give", "(II)I"⟩, 24) := ⟨⟨by decide +kernel, by decide +kernel⟩, List.mem_of_getElem? (i := 254) (by decide +kernel), List.mem_of_getElem? (i := 384) (by decide +kernel), List.mem_of_getElem? (i := 385) (by decide +kernel)⟩
theorem lw_p34 : lw_okq (⟨"EntityDeskModel", "enter", "(II)I"⟩, 24) := ⟨⟨by decide +kernel, by decide +kernel⟩, List.mem_of_getElem? (i := 254) (by decide +kernel), List.mem_of_getElem? (i := 388) (by decide +kernel), List.mem_of_getElem? (i := 389) (by decide +kernel)⟩
def lw_privs_3 : List (MethodName × Nat) := [(⟨"EntityDeskModel", "step", "(I)I"⟩, 24), (⟨"EntityDeskModel", "give", "(II)I"⟩, 24), (⟨"EntityDeskModel", "enter", "(II)I"⟩, 24)]
theorem lw_r3 : ∀ q ∈ lw_privs_3, lw_okq q := List.forall_mem_cons.mpr ⟨lw_p32, List.forall_mem_cons.mpr ⟨lw_p33, List.forall_mem_cons.mpr ⟨lw_p34, fun _ h => absurd h List.not_mem_nil⟩⟩⟩
def lw_privs : List (MethodName × Nat) := lw_privs_1 ++ (lw_privs_2 ++ (lw_privs_3))
def lw_tbl : List Cond := k2_sels lw_privs ++ tables_1
theorem lw_privs_ok : ∀ q ∈ lw_privs, lw_okq q := by
  show ∀ q ∈ lw_privs_1 ++ (lw_privs_2 ++ (lw_privs_3)), lw_okq q
  exact List.forall_mem_append.mpr ⟨lw_r1, List.forall_mem_append.mpr ⟨lw_r2, lw_r3⟩⟩
abbrev R_Desk : String := "EntityDesk"
abbrev R_Ents : String := "EntityDesk$Entities"
abbrev R_Reader : String := "EntityDesk$Reader"
abbrev R_Model : String := "EntityDeskModel"
abbrev R_Law : String := "EntityDeskLaw"
def F_Desk : u_T := fun k => match k with
  | 0 => ("EntityDesk", "hand", "[I", true)
  | 1 => ("EntityDesk", "inHand", "I", false)
  | 2 => ("EntityDesk", "entities", "LEntityDesk$Entities;", true)
  | 3 => ("EntityDesk", "reader", "LEntityDesk$Reader;", true)
  | 4 => ("EntityDesk", "fault", "I", false)
  | 5 => ("EntityDesk", "faultPlace", "I", false)
  | 6 => ("EntityDesk", "outerPlace", "I", false)
  | 7 => ("EntityDesk", "output", "[I", true)
  | 8 => ("EntityDesk", "outputLength", "I", false)
  | 9 => ("EntityDesk", "open", "[Z", true)
  | 10 => ("EntityDesk", "meterLimit", "I", false)
  | 11 => ("EntityDesk", "meter", "I", false)
  | 12 => ("EntityDesk", "putIn", "I", false)
  | _ => ("EntityDesk", "deepest", "I", false)
def t_Desk : Nat → FieldType := fun k => match k with
  | 0 => .array .int
  | 1 => .int
  | 2 => .object "EntityDesk$Entities"
  | 3 => .object "EntityDesk$Reader"
  | 4 => .int
  | 5 => .int
  | 6 => .int
  | 7 => .array .int
  | 8 => .int
  | 9 => .array .boolean
  | 10 => .int
  | 11 => .int
  | 12 => .int
  | _ => .int
theorem n_Desk : ∀ a, a < 14 → ∀ b, b < 14 → a ≠ b → (F_Desk a).2.1 ≠ (F_Desk b).2.1 := by decide +kernel
theorem t_Desk_ok : ∀ k, k < 14 → parseFieldDescriptor (F_Desk k).2.2.1 = some (t_Desk k) := by decide +kernel
def F_Ents : u_T := fun k => match k with
  | 0 => ("EntityDesk$Entities", "row", "[I", true)
  | 1 => ("EntityDesk$Entities", "starts", "[I", true)
  | 2 => ("EntityDesk$Entities", "lengths", "[I", true)
  | 3 => ("EntityDesk$Entities", "declared", "I", false)
  | 4 => ("EntityDesk$Entities", "kept", "I", false)
  | _ => ("EntityDesk$Entities", "drafted", "I", false)
def t_Ents : Nat → FieldType := fun k => match k with
  | 0 => .array .int
  | 1 => .array .int
  | 2 => .array .int
  | 3 => .int
  | 4 => .int
  | _ => .int
theorem n_Ents : ∀ a, a < 6 → ∀ b, b < 6 → a ≠ b → (F_Ents a).2.1 ≠ (F_Ents b).2.1 := by decide +kernel
theorem t_Ents_ok : ∀ k, k < 6 → parseFieldDescriptor (F_Ents k).2.2.1 = some (t_Ents k) := by decide +kernel
def F_Reader : u_T := fun k => match k with
  | 0 => ("EntityDesk$Reader", "state", "I", false)
  | 1 => ("EntityDesk$Reader", "name", "I", false)
  | _ => ("EntityDesk$Reader", "number", "I", false)
def t_Reader : Nat → FieldType := fun k => match k with
  | 0 => .int
  | 1 => .int
  | _ => .int
theorem n_Reader : ∀ a, a < 3 → ∀ b, b < 3 → a ≠ b → (F_Reader a).2.1 ≠ (F_Reader b).2.1 := by decide +kernel
theorem t_Reader_ok : ∀ k, k < 3 → parseFieldDescriptor (F_Reader k).2.2.1 = some (t_Reader k) := by decide +kernel
def F_Model : u_T := fun k => match k with
  | 0 => ("EntityDeskModel", "hand", "[I", true)
  | 1 => ("EntityDeskModel", "size", "I", false)
  | 2 => ("EntityDeskModel", "texts", "[I", true)
  | 3 => ("EntityDeskModel", "used", "I", false)
  | 4 => ("EntityDeskModel", "begins", "[I", true)
  | 5 => ("EntityDeskModel", "ends", "[I", true)
  | 6 => ("EntityDeskModel", "has", "[Z", true)
  | 7 => ("EntityDeskModel", "entities", "I", false)
  | 8 => ("EntityDeskModel", "row", "[I", true)
  | 9 => ("EntityDeskModel", "left", "I", false)
  | 10 => ("EntityDeskModel", "open", "[Z", true)
  | 11 => ("EntityDeskModel", "depth", "I", false)
  | 12 => ("EntityDeskModel", "next", "I", false)
  | 13 => ("EntityDeskModel", "outer", "I", false)
  | 14 => ("EntityDeskModel", "out", "[I", true)
  | 15 => ("EntityDeskModel", "outs", "I", false)
  | 16 => ("EntityDeskModel", "fine", "Z", false)
  | 17 => ("EntityDeskModel", "meter", "I", false)
  | 18 => ("EntityDeskModel", "puts", "I", false)
  | 19 => ("EntityDeskModel", "deepest", "I", false)
  | 20 => ("EntityDeskModel", "fault", "I", false)
  | 21 => ("EntityDeskModel", "place", "I", false)
  | 22 => ("EntityDeskModel", "name", "I", false)
  | _ => ("EntityDeskModel", "number", "J", false)
def t_Model : Nat → FieldType := fun k => match k with
  | 0 => .array .int
  | 1 => .int
  | 2 => .array .int
  | 3 => .int
  | 4 => .array .int
  | 5 => .array .int
  | 6 => .array .boolean
  | 7 => .int
  | 8 => .array .int
  | 9 => .int
  | 10 => .array .boolean
  | 11 => .int
  | 12 => .int
  | 13 => .int
  | 14 => .array .int
  | 15 => .int
  | 16 => .boolean
  | 17 => .int
  | 18 => .int
  | 19 => .int
  | 20 => .int
  | 21 => .int
  | 22 => .int
  | _ => .long
theorem n_Model : ∀ a, a < 24 → ∀ b, b < 24 → a ≠ b → (F_Model a).2.1 ≠ (F_Model b).2.1 := by decide +kernel
theorem t_Model_ok : ∀ k, k < 24 → parseFieldDescriptor (F_Model k).2.2.1 = some (t_Model k) := by decide +kernel
abbrev classes : List vw_C := [(R_Desk, F_Desk, 14), (R_Ents, F_Ents, 6), (R_Reader, F_Reader, 3), (R_Model, F_Model, 24)]
abbrev b_Desk_init : ByteArray := prog_1_method_1_code
abbrev y_Desk_init : MethodName := ⟨"EntityDesk", "<init>", "()V"⟩
abbrev b_Ents_init : ByteArray := prog_2_method_1_code
abbrev y_Ents_init : MethodName := ⟨"EntityDesk$Entities", "<init>", "()V"⟩
abbrev b_Reader_init : ByteArray := prog_3_method_1_code
abbrev y_Reader_init : MethodName := ⟨"EntityDesk$Reader", "<init>", "()V"⟩
abbrev b_Desk_put : ByteArray := prog_1_method_2_code
abbrev y_Desk_put : MethodName := ⟨"EntityDesk", "put", "(JI)Z"⟩
abbrev b_Desk_declare : ByteArray := prog_1_method_3_code
abbrev y_Desk_declare : MethodName := ⟨"EntityDesk", "declare", "(I)I"⟩
abbrev b_Desk_isName : ByteArray := prog_1_method_9_code
abbrev y_Desk_isName : MethodName := ⟨"EntityDesk", "isName", "(I)Z"⟩
abbrev b_Desk_beginReading : ByteArray := prog_1_method_10_code
abbrev y_Desk_beginReading : MethodName := ⟨"EntityDesk", "beginReading", "()V"⟩
abbrev b_Reader_begin : ByteArray := prog_3_method_2_code
abbrev y_Reader_begin : MethodName := ⟨"EntityDesk$Reader", "begin", "()V"⟩
abbrev b_Ents_has : ByteArray := prog_2_method_2_code
abbrev y_Ents_has : MethodName := ⟨"EntityDesk$Entities", "has", "(I)Z"⟩
abbrev b_Desk_draftText : ByteArray := prog_1_method_13_code
abbrev y_Desk_draftText : MethodName := ⟨"EntityDesk", "draftText", "(I)V"⟩
abbrev b_Ents_beginDraft : ByteArray := prog_2_method_6_code
abbrev y_Ents_beginDraft : MethodName := ⟨"EntityDesk$Entities", "beginDraft", "()V"⟩
abbrev b_Reader_isWithin : ByteArray := prog_3_method_3_code
abbrev y_Reader_isWithin : MethodName := ⟨"EntityDesk$Reader", "isWithin", "()Z"⟩
abbrev b_Desk_draftCharacter : ByteArray := prog_1_method_14_code
abbrev y_Desk_draftCharacter : MethodName := ⟨"EntityDesk", "draftCharacter", "(II)V"⟩
abbrev b_Desk_readOn : ByteArray := prog_1_method_12_code
abbrev y_Desk_readOn : MethodName := ⟨"EntityDesk", "readOn", "(II)I"⟩
abbrev b_Reader_read : ByteArray := prog_3_method_4_code
abbrev y_Reader_read : MethodName := ⟨"EntityDesk$Reader", "read", "(I)I"⟩
abbrev b_Reader_readBehindAmpersand : ByteArray := prog_3_method_5_code
abbrev y_Reader_readBehindAmpersand : MethodName := ⟨"EntityDesk$Reader", "readBehindAmpersand", "(I)I"⟩
abbrev b_Reader_goOn : ByteArray := prog_3_method_10_code
abbrev y_Reader_goOn : MethodName := ⟨"EntityDesk$Reader", "goOn", "(I)I"⟩
abbrev b_Reader_finish : ByteArray := prog_3_method_11_code
abbrev y_Reader_finish : MethodName := ⟨"EntityDesk$Reader", "finish", "(I)I"⟩
abbrev b_Reader_readDigit : ByteArray := prog_3_method_6_code
abbrev y_Reader_readDigit : MethodName := ⟨"EntityDesk$Reader", "readDigit", "(III)I"⟩
abbrev b_Reader_valueOf : ByteArray := prog_3_method_7_code
abbrev y_Reader_valueOf : MethodName := ⟨"EntityDesk$Reader", "valueOf", "(I)I"⟩
abbrev b_Reader_finishNumber : ByteArray := prog_3_method_9_code
abbrev y_Reader_finishNumber : MethodName := ⟨"EntityDesk$Reader", "finishNumber", "()I"⟩
abbrev b_Reader_mayBe : ByteArray := prog_3_method_8_code
abbrev y_Reader_mayBe : MethodName := ⟨"EntityDesk$Reader", "mayBe", "(I)Z"⟩
abbrev b_Desk_fail : ByteArray := prog_1_method_11_code
abbrev y_Desk_fail : MethodName := ⟨"EntityDesk", "fail", "(II)V"⟩
abbrev b_Ents_draft : ByteArray := prog_2_method_7_code
abbrev y_Ents_draft : MethodName := ⟨"EntityDesk$Entities", "draft", "(I)V"⟩
abbrev b_Ents_draftFits : ByteArray := prog_2_method_8_code
abbrev y_Ents_draftFits : MethodName := ⟨"EntityDesk$Entities", "draftFits", "()Z"⟩
abbrev b_Ents_keepDraft : ByteArray := prog_2_method_9_code
abbrev y_Ents_keepDraft : MethodName := ⟨"EntityDesk$Entities", "keepDraft", "(I)V"⟩
abbrev b_Ents_lengthOf : ByteArray := prog_2_method_4_code
abbrev y_Ents_lengthOf : MethodName := ⟨"EntityDesk$Entities", "lengthOf", "(I)I"⟩
abbrev b_Desk_expand : ByteArray := prog_1_method_4_code
abbrev y_Desk_expand : MethodName := ⟨"EntityDesk", "expand", "(I)I"⟩
abbrev b_Desk_goOver : ByteArray := prog_1_method_15_code
abbrev y_Desk_goOver : MethodName := ⟨"EntityDesk", "goOver", "([IIII)V"⟩
abbrev b_Desk_goOverCharacter : ByteArray := prog_1_method_16_code
abbrev y_Desk_goOverCharacter : MethodName := ⟨"EntityDesk", "goOverCharacter", "(III)V"⟩
abbrev b_Desk_give : ByteArray := prog_1_method_17_code
abbrev y_Desk_give : MethodName := ⟨"EntityDesk", "give", "(I)V"⟩
abbrev b_Desk_goInto : ByteArray := prog_1_method_18_code
abbrev y_Desk_goInto : MethodName := ⟨"EntityDesk", "goInto", "(II)V"⟩
abbrev b_Desk_faultOfEntity : ByteArray := prog_1_method_19_code
abbrev y_Desk_faultOfEntity : MethodName := ⟨"EntityDesk", "faultOfEntity", "(II)I"⟩
abbrev b_Ents_startOf : ByteArray := prog_2_method_3_code
abbrev y_Ents_startOf : MethodName := ⟨"EntityDesk$Entities", "startOf", "(I)I"⟩
abbrev b_Desk_place : ByteArray := prog_1_method_5_code
abbrev y_Desk_place : MethodName := ⟨"EntityDesk", "place", "()I"⟩
abbrev b_Desk_given : ByteArray := prog_1_method_6_code
abbrev y_Desk_given : MethodName := ⟨"EntityDesk", "given", "(I)I"⟩
abbrev b_Desk_text : ByteArray := prog_1_method_7_code
abbrev y_Desk_text : MethodName := ⟨"EntityDesk", "text", "(II)I"⟩
abbrev b_Ents_characterOf : ByteArray := prog_2_method_5_code
abbrev y_Ents_characterOf : MethodName := ⟨"EntityDesk$Entities", "characterOf", "(II)I"⟩
abbrev b_Desk_count : ByteArray := prog_1_method_8_code
abbrev y_Desk_count : MethodName := ⟨"EntityDesk", "count", "(I)I"⟩
abbrev b_Model_init : ByteArray := prog_5_method_1_code
abbrev y_Model_init : MethodName := ⟨"EntityDeskModel", "<init>", "()V"⟩
abbrev b_Model_put : ByteArray := prog_5_method_2_code
abbrev y_Model_put : MethodName := ⟨"EntityDeskModel", "put", "(JI)Z"⟩
abbrev b_Model_declare : ByteArray := prog_5_method_10_code
abbrev y_Model_declare : MethodName := ⟨"EntityDeskModel", "declare", "(I)I"⟩
abbrev b_Model_begin : ByteArray := prog_5_method_9_code
abbrev y_Model_begin : MethodName := ⟨"EntityDeskModel", "begin", "()V"⟩
abbrev b_Model_peek : ByteArray := prog_5_method_4_code
abbrev y_Model_peek : MethodName := ⟨"EntityDeskModel", "peek", "()I"⟩
abbrev b_Model_pass : ByteArray := prog_5_method_5_code
abbrev y_Model_pass : MethodName := ⟨"EntityDeskModel", "pass", "()V"⟩
abbrev b_Model_reference : ByteArray := prog_5_method_8_code
abbrev y_Model_reference : MethodName := ⟨"EntityDeskModel", "reference", "(I)I"⟩
abbrev b_Model_digit : ByteArray := prog_5_method_6_code
abbrev y_Model_digit : MethodName := ⟨"EntityDeskModel", "digit", "(II)I"⟩
abbrev b_Model_broken : ByteArray := prog_5_method_7_code
abbrev y_Model_broken : MethodName := ⟨"EntityDeskModel", "broken", "()I"⟩
abbrev b_Model_fail : ByteArray := prog_5_method_3_code
abbrev y_Model_fail : MethodName := ⟨"EntityDeskModel", "fail", "(II)I"⟩
abbrev b_Model_expand : ByteArray := prog_5_method_14_code
abbrev y_Model_expand : MethodName := ⟨"EntityDeskModel", "expand", "(I)I"⟩
abbrev b_Model_step : ByteArray := prog_5_method_13_code
abbrev y_Model_step : MethodName := ⟨"EntityDeskModel", "step", "(I)I"⟩
abbrev b_Model_give : ByteArray := prog_5_method_12_code
abbrev y_Model_give : MethodName := ⟨"EntityDeskModel", "give", "(II)I"⟩
abbrev b_Model_enter : ByteArray := prog_5_method_11_code
abbrev y_Model_enter : MethodName := ⟨"EntityDeskModel", "enter", "(II)I"⟩
abbrev b_Model_place : ByteArray := prog_5_method_15_code
abbrev y_Model_place : MethodName := ⟨"EntityDeskModel", "place", "()I"⟩
abbrev b_Model_given : ByteArray := prog_5_method_16_code
abbrev y_Model_given : MethodName := ⟨"EntityDeskModel", "given", "(I)I"⟩
abbrev b_Model_text : ByteArray := prog_5_method_17_code
abbrev y_Model_text : MethodName := ⟨"EntityDeskModel", "text", "(II)I"⟩
abbrev b_Model_count : ByteArray := prog_5_method_18_code
abbrev y_Model_count : MethodName := ⟨"EntityDeskModel", "count", "(I)I"⟩
