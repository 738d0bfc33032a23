section
-- ===== PART A: goes FIRST, ahead of the names: the tables' words, and 'selects' of the private methods out of them =====
/-- a private method of a class that the tables say can be made, by its rows of tables_1 -/
def lw_okq (q : MethodName × Nat) : Prop := (q.1.cls ≠ "java/lang/invoke/MethodHandle" ∧ q.1.cls ≠ "java/lang/invoke/VarHandle") ∧ Cond.instantiable q.1.cls q.2 ∈ tables_1 ∧ Cond.privateMethod q.1 ∈ tables_1 ∧ Cond.instanceMethod q.1 ∈ tables_1
theorem lw_p0 : lw_okq (⟨"EntityDesk", "beginReading", "()V"⟩, 14) := ⟨⟨by decide +kernel, by decide +kernel⟩, List.mem_of_getElem? (i := 7) (by decide +kernel), List.mem_of_getElem? (i := 117) (by decide +kernel), List.mem_of_getElem? (i := 118) (by decide +kernel)⟩
theorem lw_p1 : lw_okq (⟨"EntityDesk$Reader", "begin", "()V"⟩, 3) := ⟨⟨by decide +kernel, by decide +kernel⟩, List.mem_of_getElem? (i := 44) (by decide +kernel), List.mem_of_getElem? (i := 121) (by decide +kernel), List.mem_of_getElem? (i := 122) (by decide +kernel)⟩
theorem lw_p2 : lw_okq (⟨"EntityDesk$Entities", "has", "(I)Z"⟩, 6) := ⟨⟨by decide +kernel, by decide +kernel⟩, List.mem_of_getElem? (i := 15) (by decide +kernel), List.mem_of_getElem? (i := 125) (by decide +kernel), List.mem_of_getElem? (i := 126) (by decide +kernel)⟩
theorem lw_p3 : lw_okq (⟨"EntityDesk", "draftText", "(I)V"⟩, 14) := ⟨⟨by decide +kernel, by decide +kernel⟩, List.mem_of_getElem? (i := 7) (by decide +kernel), List.mem_of_getElem? (i := 129) (by decide +kernel), List.mem_of_getElem? (i := 130) (by decide +kernel)⟩
theorem lw_p4 : lw_okq (⟨"EntityDesk$Entities", "beginDraft", "()V"⟩, 6) := ⟨⟨by decide +kernel, by decide +kernel⟩, List.mem_of_getElem? (i := 15) (by decide +kernel), List.mem_of_getElem? (i := 133) (by decide +kernel), List.mem_of_getElem? (i := 134) (by decide +kernel)⟩
theorem lw_p5 : lw_okq (⟨"EntityDesk$Reader", "isWithin", "()Z"⟩, 3) := ⟨⟨by decide +kernel, by decide +kernel⟩, List.mem_of_getElem? (i := 44) (by decide +kernel), List.mem_of_getElem? (i := 137) (by decide +kernel), List.mem_of_getElem? (i := 138) (by decide +kernel)⟩
theorem lw_p6 : lw_okq (⟨"EntityDesk", "draftCharacter", "(II)V"⟩, 14) := ⟨⟨by decide +kernel, by decide +kernel⟩, List.mem_of_getElem? (i := 7) (by decide +kernel), List.mem_of_getElem? (i := 141) (by decide +kernel), List.mem_of_getElem? (i := 142) (by decide +kernel)⟩
theorem lw_p7 : lw_okq (⟨"EntityDesk", "readOn", "(II)I"⟩, 14) := ⟨⟨by decide +kernel, by decide +kernel⟩, List.mem_of_getElem? (i := 7) (by decide +kernel), List.mem_of_getElem? (i := 145) (by decide +kernel), List.mem_of_getElem? (i := 146) (by decide +kernel)⟩
theorem lw_p8 : lw_okq (⟨"EntityDesk$Reader", "read", "(I)I"⟩, 3) := ⟨⟨by decide +kernel, by decide +kernel⟩, List.mem_of_getElem? (i := 44) (by decide +kernel), List.mem_of_getElem? (i := 149) (by decide +kernel), List.mem_of_getElem? (i := 150) (by decide +kernel)⟩
theorem lw_p9 : lw_okq (⟨"EntityDesk$Reader", "readBehindAmpersand", "(I)I"⟩, 3) := ⟨⟨by decide +kernel, by decide +kernel⟩, List.mem_of_getElem? (i := 44) (by decide +kernel), List.mem_of_getElem? (i := 153) (by decide +kernel), List.mem_of_getElem? (i := 154) (by decide +kernel)⟩
theorem lw_p10 : lw_okq (⟨"EntityDesk$Reader", "goOn", "(I)I"⟩, 3) := ⟨⟨by decide +kernel, by decide +kernel⟩, List.mem_of_getElem? (i := 44) (by decide +kernel), List.mem_of_getElem? (i := 157) (by decide +kernel), List.mem_of_getElem? (i := 158) (by decide +kernel)⟩
theorem lw_p11 : lw_okq (⟨"EntityDesk$Reader", "finish", "(I)I"⟩, 3) := ⟨⟨by decide +kernel, by decide +kernel⟩, List.mem_of_getElem? (i := 44) (by decide +kernel), List.mem_of_getElem? (i := 161) (by decide +kernel), List.mem_of_getElem? (i := 162) (by decide +kernel)⟩
theorem lw_p12 : lw_okq (⟨"EntityDesk$Reader", "readDigit", "(III)I"⟩, 3) := ⟨⟨by decide +kernel, by decide +kernel⟩, List.mem_of_getElem? (i := 44) (by decide +kernel), List.mem_of_getElem? (i := 165) (by decide +kernel), List.mem_of_getElem? (i := 166) (by decide +kernel)⟩
theorem lw_p13 : lw_okq (⟨"EntityDesk$Reader", "finishNumber", "()I"⟩, 3) := ⟨⟨by decide +kernel, by decide +kernel⟩, List.mem_of_getElem? (i := 44) (by decide +kernel), List.mem_of_getElem? (i := 175) (by decide +kernel), List.mem_of_getElem? (i := 176) (by decide +kernel)⟩
theorem lw_p14 : lw_okq (⟨"EntityDesk", "fail", "(II)V"⟩, 14) := ⟨⟨by decide +kernel, by decide +kernel⟩, List.mem_of_getElem? (i := 7) (by decide +kernel), List.mem_of_getElem? (i := 182) (by decide +kernel), List.mem_of_getElem? (i := 183) (by decide +kernel)⟩
theorem lw_p15 : lw_okq (⟨"EntityDesk$Entities", "draft", "(I)V"⟩, 6) := ⟨⟨by decide +kernel, by decide +kernel⟩, List.mem_of_getElem? (i := 15) (by decide +kernel), List.mem_of_getElem? (i := 186) (by decide +kernel), List.mem_of_getElem? (i := 187) (by decide +kernel)⟩
def lw_privs_1 : List (MethodName × Nat) := [(⟨"EntityDesk", "beginReading", "()V"⟩, 14), (⟨"EntityDesk$Reader", "begin", "()V"⟩, 3), (⟨"EntityDesk$Entities", "has", "(I)Z"⟩, 6), (⟨"EntityDesk", "draftText", "(I)V"⟩, 14), (⟨"EntityDesk$Entities", "beginDraft", "()V"⟩, 6), (⟨"EntityDesk$Reader", "isWithin", "()Z"⟩, 3), (⟨"EntityDesk", "draftCharacter", "(II)V"⟩, 14), (⟨"EntityDesk", "readOn", "(II)I"⟩, 14), (⟨"EntityDesk$Reader", "read", "(I)I"⟩, 3), (⟨"EntityDesk$Reader", "readBehindAmpersand", "(I)I"⟩, 3), (⟨"EntityDesk$Reader", "goOn", "(I)I"⟩, 3), (⟨"EntityDesk$Reader", "finish", "(I)I"⟩, 3), (⟨"EntityDesk$Reader", "readDigit", "(III)I"⟩, 3), (⟨"EntityDesk$Reader", "finishNumber", "()I"⟩, 3), (⟨"EntityDesk", "fail", "(II)V"⟩, 14), (⟨"EntityDesk$Entities", "draft", "(I)V"⟩, 6)]
theorem lw_r1 : ∀ q ∈ lw_privs_1, lw_okq q := List.forall_mem_cons.mpr ⟨lw_p0, List.forall_mem_cons.mpr ⟨lw_p1, List.forall_mem_cons.mpr ⟨lw_p2, List.forall_mem_cons.mpr ⟨lw_p3, List.forall_mem_cons.mpr ⟨lw_p4, List.forall_mem_cons.mpr ⟨lw_p5, List.forall_mem_cons.mpr ⟨lw_p6, List.forall_mem_cons.mpr ⟨lw_p7, List.forall_mem_cons.mpr ⟨lw_p8, List.forall_mem_cons.mpr ⟨lw_p9, List.forall_mem_cons.mpr ⟨lw_p10, List.forall_mem_cons.mpr ⟨lw_p11, List.forall_mem_cons.mpr ⟨lw_p12, List.forall_mem_cons.mpr ⟨lw_p13, List.forall_mem_cons.mpr ⟨lw_p14, List.forall_mem_cons.mpr ⟨lw_p15, fun _ h => absurd h List.not_mem_nil⟩⟩⟩⟩⟩⟩⟩⟩⟩⟩⟩⟩⟩⟩⟩⟩
theorem lw_p16 : lw_okq (⟨"EntityDesk$Entities", "draftFits", "()Z"⟩, 6) := ⟨⟨by decide +kernel, by decide +kernel⟩, List.mem_of_getElem? (i := 15) (by decide +kernel), List.mem_of_getElem? (i := 190) (by decide +kernel), List.mem_of_getElem? (i := 191) (by decide +kernel)⟩
theorem lw_p17 : lw_okq (⟨"EntityDesk$Entities", "keepDraft", "(I)V"⟩, 6) := ⟨⟨by decide +kernel, by decide +kernel⟩, List.mem_of_getElem? (i := 15) (by decide +kernel), List.mem_of_getElem? (i := 194) (by decide +kernel), List.mem_of_getElem? (i := 195) (by decide +kernel)⟩
theorem lw_p18 : lw_okq (⟨"EntityDesk$Entities", "lengthOf", "(I)I"⟩, 6) := ⟨⟨by decide +kernel, by decide +kernel⟩, List.mem_of_getElem? (i := 15) (by decide +kernel), List.mem_of_getElem? (i := 198) (by decide +kernel), List.mem_of_getElem? (i := 199) (by decide +kernel)⟩
theorem lw_p19 : lw_okq (⟨"EntityDesk", "goOver", "([IIII)V"⟩, 14) := ⟨⟨by decide +kernel, by decide +kernel⟩, List.mem_of_getElem? (i := 7) (by decide +kernel), List.mem_of_getElem? (i := 207) (by decide +kernel), List.mem_of_getElem? (i := 208) (by decide +kernel)⟩
theorem lw_p20 : lw_okq (⟨"EntityDesk", "goOverCharacter", "(III)V"⟩, 14) := ⟨⟨by decide +kernel, by decide +kernel⟩, List.mem_of_getElem? (i := 7) (by decide +kernel), List.mem_of_getElem? (i := 211) (by decide +kernel), List.mem_of_getElem? (i := 212) (by decide +kernel)⟩
theorem lw_p21 : lw_okq (⟨"EntityDesk", "give", "(I)V"⟩, 14) := ⟨⟨by decide +kernel, by decide +kernel⟩, List.mem_of_getElem? (i := 7) (by decide +kernel), List.mem_of_getElem? (i := 215) (by decide +kernel), List.mem_of_getElem? (i := 216) (by decide +kernel)⟩
theorem lw_p22 : lw_okq (⟨"EntityDesk", "goInto", "(II)V"⟩, 14) := ⟨⟨by decide +kernel, by decide +kernel⟩, List.mem_of_getElem? (i := 7) (by decide +kernel), List.mem_of_getElem? (i := 219) (by decide +kernel), List.mem_of_getElem? (i := 220) (by decide +kernel)⟩
theorem lw_p23 : lw_okq (⟨"EntityDesk", "faultOfEntity", "(II)I"⟩, 14) := ⟨⟨by decide +kernel, by decide +kernel⟩, List.mem_of_getElem? (i := 7) (by decide +kernel), List.mem_of_getElem? (i := 223) (by decide +kernel), List.mem_of_getElem? (i := 224) (by decide +kernel)⟩
theorem lw_p24 : lw_okq (⟨"EntityDesk$Entities", "startOf", "(I)I"⟩, 6) := ⟨⟨by decide +kernel, by decide +kernel⟩, List.mem_of_getElem? (i := 15) (by decide +kernel), List.mem_of_getElem? (i := 230) (by decide +kernel), List.mem_of_getElem? (i := 231) (by decide +kernel)⟩
theorem lw_p25 : lw_okq (⟨"EntityDesk$Entities", "characterOf", "(II)I"⟩, 6) := ⟨⟨by decide +kernel, by decide +kernel⟩, List.mem_of_getElem? (i := 15) (by decide +kernel), List.mem_of_getElem? (i := 246) (by decide +kernel), List.mem_of_getElem? (i := 247) (by decide +kernel)⟩
theorem lw_p26 : lw_okq (⟨"EntityDeskModel", "begin", "()V"⟩, 24) := ⟨⟨by decide +kernel, by decide +kernel⟩, List.mem_of_getElem? (i := 254) (by decide +kernel), List.mem_of_getElem? (i := 342) (by decide +kernel), List.mem_of_getElem? (i := 343) (by decide +kernel)⟩
theorem lw_p27 : lw_okq (⟨"EntityDeskModel", "peek", "()I"⟩, 24) := ⟨⟨by decide +kernel, by decide +kernel⟩, List.mem_of_getElem? (i := 254) (by decide +kernel), List.mem_of_getElem? (i := 346) (by decide +kernel), List.mem_of_getElem? (i := 347) (by decide +kernel)⟩
theorem lw_p28 : lw_okq (⟨"EntityDeskModel", "pass", "()V"⟩, 24) := ⟨⟨by decide +kernel, by decide +kernel⟩, List.mem_of_getElem? (i := 254) (by decide +kernel), List.mem_of_getElem? (i := 350) (by decide +kernel), List.mem_of_getElem? (i := 351) (by decide +kernel)⟩
theorem lw_p29 : lw_okq (⟨"EntityDeskModel", "reference", "(I)I"⟩, 24) := ⟨⟨by decide +kernel, by decide +kernel⟩, List.mem_of_getElem? (i := 254) (by decide +kernel), List.mem_of_getElem? (i := 354) (by decide +kernel), List.mem_of_getElem? (i := 355) (by decide +kernel)⟩
theorem lw_p30 : lw_okq (⟨"EntityDeskModel", "broken", "()I"⟩, 24) := ⟨⟨by decide +kernel, by decide +kernel⟩, List.mem_of_getElem? (i := 254) (by decide +kernel), List.mem_of_getElem? (i := 361) (by decide +kernel), List.mem_of_getElem? (i := 362) (by decide +kernel)⟩
theorem lw_p31 : lw_okq (⟨"EntityDeskModel", "fail", "(II)I"⟩, 24) := ⟨⟨by decide +kernel, by decide +kernel⟩, List.mem_of_getElem? (i := 254) (by decide +kernel), List.mem_of_getElem? (i := 365) (by decide +kernel), List.mem_of_getElem? (i := 366) (by decide +kernel)⟩
def lw_privs_2 : List (MethodName × Nat) := [(⟨"EntityDesk$Entities", "draftFits", "()Z"⟩, 6), (⟨"EntityDesk$Entities", "keepDraft", "(I)V"⟩, 6), (⟨"EntityDesk$Entities", "lengthOf", "(I)I"⟩, 6), (⟨"EntityDesk", "goOver", "([IIII)V"⟩, 14), (⟨"EntityDesk", "goOverCharacter", "(III)V"⟩, 14), (⟨"EntityDesk", "give", "(I)V"⟩, 14), (⟨"EntityDesk", "goInto", "(II)V"⟩, 14), (⟨"EntityDesk", "faultOfEntity", "(II)I"⟩, 14), (⟨"EntityDesk$Entities", "startOf", "(I)I"⟩, 6), (⟨"EntityDesk$Entities", "characterOf", "(II)I"⟩, 6), (⟨"EntityDeskModel", "begin", "()V"⟩, 24), (⟨"EntityDeskModel", "peek", "()I"⟩, 24), (⟨"EntityDeskModel", "pass", "()V"⟩, 24), (⟨"EntityDeskModel", "reference", "(I)I"⟩, 24), (⟨"EntityDeskModel", "broken", "()I"⟩, 24), (⟨"EntityDeskModel", "fail", "(II)I"⟩, 24)]
theorem lw_r2 : ∀ q ∈ lw_privs_2, lw_okq q := List.forall_mem_cons.mpr ⟨lw_p16, List.forall_mem_cons.mpr ⟨lw_p17, List.forall_mem_cons.mpr ⟨lw_p18, List.forall_mem_cons.mpr ⟨lw_p19, List.forall_mem_cons.mpr ⟨lw_p20, List.forall_mem_cons.mpr ⟨lw_p21, List.forall_mem_cons.mpr ⟨lw_p22, List.forall_mem_cons.mpr ⟨lw_p23, List.forall_mem_cons.mpr ⟨lw_p24, List.forall_mem_cons.mpr ⟨lw_p25, List.forall_mem_cons.mpr ⟨lw_p26, List.forall_mem_cons.mpr ⟨lw_p27, List.forall_mem_cons.mpr ⟨lw_p28, List.forall_mem_cons.mpr ⟨lw_p29, List.forall_mem_cons.mpr ⟨lw_p30, List.forall_mem_cons.mpr ⟨lw_p31, fun _ h => absurd h List.not_mem_nil⟩⟩⟩⟩⟩⟩⟩⟩⟩⟩⟩⟩⟩⟩⟩⟩
theorem lw_p32 : lw_okq (⟨"EntityDeskModel", "step", "(I)I"⟩, 24) := ⟨⟨by decide +kernel, by decide +kernel⟩, List.mem_of_getElem? (i := 254) (by decide +kernel), List.mem_of_getElem? (i := 380) (by decide +kernel), List.mem_of_getElem? (i := 381) (by decide +kernel)⟩
theorem lw_p33 : lw_okq (⟨"EntityDeskModel", "give", "(II)I"⟩, 24) := ⟨⟨by decide +kernel, by decide +kernel⟩, List.mem_of_getElem? (i := 254) (by decide +kernel), List.mem_of_getElem? (i := 384) (by decide +kernel), List.mem_of_getElem? (i := 385) (by decide +kernel)⟩
theorem lw_p34 : lw_okq (⟨"EntityDeskModel", "enter", "(II)I"⟩, 24) := ⟨⟨by decide +kernel, by decide +kernel⟩, List.mem_of_getElem? (i := 254) (by decide +kernel), List.mem_of_getElem? (i := 388) (by decide +kernel), List.mem_of_getElem? (i := 389) (by decide +kernel)⟩
def lw_privs_3 : List (MethodName × Nat) := [(⟨"EntityDeskModel", "step", "(I)I"⟩, 24), (⟨"EntityDeskModel", "give", "(II)I"⟩, 24), (⟨"EntityDeskModel", "enter", "(II)I"⟩, 24)]
theorem lw_r3 : ∀ q ∈ lw_privs_3, lw_okq q := List.forall_mem_cons.mpr ⟨lw_p32, List.forall_mem_cons.mpr ⟨lw_p33, List.forall_mem_cons.mpr ⟨lw_p34, fun _ h => absurd h List.not_mem_nil⟩⟩⟩
def lw_privs : List (MethodName × Nat) := lw_privs_1 ++ (lw_privs_2 ++ (lw_privs_3))
def lw_tbl : List Cond := k2_sels lw_privs ++ tables_1
theorem lw_privs_ok : ∀ q ∈ lw_privs, lw_okq q := by
  show ∀ q ∈ lw_privs_1 ++ (lw_privs_2 ++ (lw_privs_3)), lw_okq q
  exact List.forall_mem_append.mpr ⟨lw_r1, List.forall_mem_append.mpr ⟨lw_r2, lw_r3⟩⟩
abbrev R_Desk : String := "EntityDesk"
abbrev R_Ents : String := "EntityDesk$Entities"
abbrev R_Reader : String := "EntityDesk$Reader"
abbrev R_Model : String := "EntityDeskModel"
abbrev R_Law : String := "EntityDeskLaw"
def F_Desk : u_T := fun k => match k with
  | 0 => ("EntityDesk", "hand", "[I", true)
  | 1 => ("EntityDesk", "inHand", "I", false)
  | 2 => ("EntityDesk", "entities", "LEntityDesk$Entities;", true)
  | 3 => ("EntityDesk", "reader", "LEntityDesk$Reader;", true)
  | 4 => ("EntityDesk", "fault", "I", false)
  | 5 => ("EntityDesk", "faultPlace", "I", false)
  | 6 => ("EntityDesk", "outerPlace", "I", false)
  | 7 => ("EntityDesk", "output", "[I", true)
  | 8 => ("EntityDesk", "outputLength", "I", false)
  | 9 => ("EntityDesk", "open", "[Z", true)
  | 10 => ("EntityDesk", "meterLimit", "I", false)
  | 11 => ("EntityDesk", "meter", "I", false)
  | 12 => ("EntityDesk", "putIn", "I", false)
  | _ => ("EntityDesk", "deepest", "I", false)
def t_Desk : Nat → FieldType := fun k => match k with
  | 0 => .array .int
  | 1 => .int
  | 2 => .object "EntityDesk$Entities"
  | 3 => .object "EntityDesk$Reader"
  | 4 => .int
  | 5 => .int
  | 6 => .int
  | 7 => .array .int
  | 8 => .int
  | 9 => .array .boolean
  | 10 => .int
  | 11 => .int
  | 12 => .int
  | _ => .int
theorem n_Desk : ∀ a, a < 14 → ∀ b, b < 14 → a ≠ b → (F_Desk a).2.1 ≠ (F_Desk b).2.1 := by decide +kernel
theorem t_Desk_ok : ∀ k, k < 14 → parseFieldDescriptor (F_Desk k).2.2.1 = some (t_Desk k) := by decide +kernel
def F_Ents : u_T := fun k => match k with
  | 0 => ("EntityDesk$Entities", "row", "[I", true)
  | 1 => ("EntityDesk$Entities", "starts", "[I", true)
  | 2 => ("EntityDesk$Entities", "lengths", "[I", true)
  | 3 => ("EntityDesk$Entities", "declared", "I", false)
  | 4 => ("EntityDesk$Entities", "kept", "I", false)
  | _ => ("EntityDesk$Entities", "drafted", "I", false)
def t_Ents : Nat → FieldType := fun k => match k with
  | 0 => .array .int
  | 1 => .array .int
  | 2 => .array .int
  | 3 => .int
  | 4 => .int
  | _ => .int
theorem n_Ents : ∀ a, a < 6 → ∀ b, b < 6 → a ≠ b → (F_Ents a).2.1 ≠ (F_Ents b).2.1 := by decide +kernel
theorem t_Ents_ok : ∀ k, k < 6 → parseFieldDescriptor (F_Ents k).2.2.1 = some (t_Ents k) := by decide +kernel
def F_Reader : u_T := fun k => match k with
  | 0 => ("EntityDesk$Reader", "state", "I", false)
  | 1 => ("EntityDesk$Reader", "name", "I", false)
  | _ => ("EntityDesk$Reader", "number", "I", false)
def t_Reader : Nat → FieldType := fun k => match k with
  | 0 => .int
  | 1 => .int
  | _ => .int
theorem n_Reader : ∀ a, a < 3 → ∀ b, b < 3 → a ≠ b → (F_Reader a).2.1 ≠ (F_Reader b).2.1 := by decide +kernel
theorem t_Reader_ok : ∀ k, k < 3 → parseFieldDescriptor (F_Reader k).2.2.1 = some (t_Reader k) := by decide +kernel
def F_Model : u_T := fun k => match k with
  | 0 => ("EntityDeskModel", "hand", "[I", true)
  | 1 => ("EntityDeskModel", "size", "I", false)
  | 2 => ("EntityDeskModel", "texts", "[I", true)
  | 3 => ("EntityDeskModel", "used", "I", false)
  | 4 => ("EntityDeskModel", "begins", "[I", true)
  | 5 => ("EntityDeskModel", "ends", "[I", true)
  | 6 => ("EntityDeskModel", "has", "[Z", true)
  | 7 => ("EntityDeskModel", "entities", "I", false)
  | 8 => ("EntityDeskModel", "row", "[I", true)
  | 9 => ("EntityDeskModel", "left", "I", false)
  | 10 => ("EntityDeskModel", "open", "[Z", true)
  | 11 => ("EntityDeskModel", "depth", "I", false)
  | 12 => ("EntityDeskModel", "next", "I", false)
  | 13 => ("EntityDeskModel", "outer", "I", false)
  | 14 => ("EntityDeskModel", "out", "[I", true)
  | 15 => ("EntityDeskModel", "outs", "I", false)
  | 16 => ("EntityDeskModel", "fine", "Z", false)
  | 17 => ("EntityDeskModel", "meter", "I", false)
  | 18 => ("EntityDeskModel", "puts", "I", false)
  | 19 => ("EntityDeskModel", "deepest", "I", false)
  | 20 => ("EntityDeskModel", "fault", "I", false)
  | 21 => ("EntityDeskModel", "place", "I", false)
  | 22 => ("EntityDeskModel", "name", "I", false)
  | _ => ("EntityDeskModel", "number", "J", false)
def t_Model : Nat → FieldType := fun k => match k with
  | 0 => .array .int
  | 1 => .int
  | 2 => .array .int
  | 3 => .int
  | 4 => .array .int
  | 5 => .array .int
  | 6 => .array .boolean
  | 7 => .int
  | 8 => .array .int
  | 9 => .int
  | 10 => .array .boolean
  | 11 => .int
  | 12 => .int
  | 13 => .int
  | 14 => .array .int
  | 15 => .int
  | 16 => .boolean
  | 17 => .int
  | 18 => .int
  | 19 => .int
  | 20 => .int
  | 21 => .int
  | 22 => .int
  | _ => .long
theorem n_Model : ∀ a, a < 24 → ∀ b, b < 24 → a ≠ b → (F_Model a).2.1 ≠ (F_Model b).2.1 := by decide +kernel
theorem t_Model_ok : ∀ k, k < 24 → parseFieldDescriptor (F_Model k).2.2.1 = some (t_Model k) := by decide +kernel
abbrev classes : List vw_C := [(R_Desk, F_Desk, 14), (R_Ents, F_Ents, 6), (R_Reader, F_Reader, 3), (R_Model, F_Model, 24)]
abbrev b_Desk_init : ByteArray := prog_1_method_1_code
abbrev y_Desk_init : MethodName := ⟨"EntityDesk", "<init>", "()V"⟩
abbrev b_Ents_init : ByteArray := prog_2_method_1_code
abbrev y_Ents_init : MethodName := ⟨"EntityDesk$Entities", "<init>", "()V"⟩
abbrev b_Reader_init : ByteArray := prog_3_method_1_code
abbrev y_Reader_init : MethodName := ⟨"EntityDesk$Reader", "<init>", "()V"⟩
abbrev b_Desk_put : ByteArray := prog_1_method_2_code
abbrev y_Desk_put : MethodName := ⟨"EntityDesk", "put", "(JI)Z"⟩
abbrev b_Desk_declare : ByteArray := prog_1_method_3_code
abbrev y_Desk_declare : MethodName := ⟨"EntityDesk", "declare", "(I)I"⟩
abbrev b_Desk_isName : ByteArray := prog_1_method_9_code
abbrev y_Desk_isName : MethodName := ⟨"EntityDesk", "isName", "(I)Z"⟩
abbrev b_Desk_beginReading : ByteArray := prog_1_method_10_code
abbrev y_Desk_beginReading : MethodName := ⟨"EntityDesk", "beginReading", "()V"⟩
abbrev b_Reader_begin : ByteArray := prog_3_method_2_code
abbrev y_Reader_begin : MethodName := ⟨"EntityDesk$Reader", "begin", "()V"⟩
abbrev b_Ents_has : ByteArray := prog_2_method_2_code
abbrev y_Ents_has : MethodName := ⟨"EntityDesk$Entities", "has", "(I)Z"⟩
abbrev b_Desk_draftText : ByteArray := prog_1_method_13_code
abbrev y_Desk_draftText : MethodName := ⟨"EntityDesk", "draftText", "(I)V"⟩
abbrev b_Ents_beginDraft : ByteArray := prog_2_method_6_code
abbrev y_Ents_beginDraft : MethodName := ⟨"EntityDesk$Entities", "beginDraft", "()V"⟩
abbrev b_Reader_isWithin : ByteArray := prog_3_method_3_code
abbrev y_Reader_isWithin : MethodName := ⟨"EntityDesk$Reader", "isWithin", "()Z"⟩
abbrev b_Desk_draftCharacter : ByteArray := prog_1_method_14_code
abbrev y_Desk_draftCharacter : MethodName := ⟨"EntityDesk", "draftCharacter", "(II)V"⟩
abbrev b_Desk_readOn : ByteArray := prog_1_method_12_code
abbrev y_Desk_readOn : MethodName := ⟨"EntityDesk", "readOn", "(II)I"⟩
abbrev b_Reader_read : ByteArray := prog_3_method_4_code
abbrev y_Reader_read : MethodName := ⟨"EntityDesk$Reader", "read", "(I)I"⟩
abbrev b_Reader_readBehindAmpersand : ByteArray := prog_3_method_5_code
abbrev y_Reader_readBehindAmpersand : MethodName := ⟨"EntityDesk$Reader", "readBehindAmpersand", "(I)I"⟩
abbrev b_Reader_goOn : ByteArray := prog_3_method_10_code
abbrev y_Reader_goOn : MethodName := ⟨"EntityDesk$Reader", "goOn", "(I)I"⟩
abbrev b_Reader_finish : ByteArray := prog_3_method_11_code
abbrev y_Reader_finish : MethodName := ⟨"EntityDesk$Reader", "finish", "(I)I"⟩
abbrev b_Reader_readDigit : ByteArray := prog_3_method_6_code
abbrev y_Reader_readDigit : MethodName := ⟨"EntityDesk$Reader", "readDigit", "(III)I"⟩
abbrev b_Reader_valueOf : ByteArray := prog_3_method_7_code
abbrev y_Reader_valueOf : MethodName := ⟨"EntityDesk$Reader", "valueOf", "(I)I"⟩
abbrev b_Reader_finishNumber : ByteArray := prog_3_method_9_code
abbrev y_Reader_finishNumber : MethodName := ⟨"EntityDesk$Reader", "finishNumber", "()I"⟩
abbrev b_Reader_mayBe : ByteArray := prog_3_method_8_code
abbrev y_Reader_mayBe : MethodName := ⟨"EntityDesk$Reader", "mayBe", "(I)Z"⟩
abbrev b_Desk_fail : ByteArray := prog_1_method_11_code
abbrev y_Desk_fail : MethodName := ⟨"EntityDesk", "fail", "(II)V"⟩
abbrev b_Ents_draft : ByteArray := prog_2_method_7_code
abbrev y_Ents_draft : MethodName := ⟨"EntityDesk$Entities", "draft", "(I)V"⟩
abbrev b_Ents_draftFits : ByteArray := prog_2_method_8_code
abbrev y_Ents_draftFits : MethodName := ⟨"EntityDesk$Entities", "draftFits", "()Z"⟩
abbrev b_Ents_keepDraft : ByteArray := prog_2_method_9_code
abbrev y_Ents_keepDraft : MethodName := ⟨"EntityDesk$Entities", "keepDraft", "(I)V"⟩
abbrev b_Ents_lengthOf : ByteArray := prog_2_method_4_code
abbrev y_Ents_lengthOf : MethodName := ⟨"EntityDesk$Entities", "lengthOf", "(I)I"⟩
abbrev b_Desk_expand : ByteArray := prog_1_method_4_code
abbrev y_Desk_expand : MethodName := ⟨"EntityDesk", "expand", "(I)I"⟩
abbrev b_Desk_goOver : ByteArray := prog_1_method_15_code
abbrev y_Desk_goOver : MethodName := ⟨"EntityDesk", "goOver", "([IIII)V"⟩
abbrev b_Desk_goOverCharacter : ByteArray := prog_1_method_16_code
abbrev y_Desk_goOverCharacter : MethodName := ⟨"EntityDesk", "goOverCharacter", "(III)V"⟩
abbrev b_Desk_give : ByteArray := prog_1_method_17_code
abbrev y_Desk_give : MethodName := ⟨"EntityDesk", "give", "(I)V"⟩
abbrev b_Desk_goInto : ByteArray := prog_1_method_18_code
abbrev y_Desk_goInto : MethodName := ⟨"EntityDesk", "goInto", "(II)V"⟩
abbrev b_Desk_faultOfEntity : ByteArray := prog_1_method_19_code
abbrev y_Desk_faultOfEntity : MethodName := ⟨"EntityDesk", "faultOfEntity", "(II)I"⟩
abbrev b_Ents_startOf : ByteArray := prog_2_method_3_code
abbrev y_Ents_startOf : MethodName := ⟨"EntityDesk$Entities", "startOf", "(I)I"⟩
abbrev b_Desk_place : ByteArray := prog_1_method_5_code
abbrev y_Desk_place : MethodName := ⟨"EntityDesk", "place", "()I"⟩
abbrev b_Desk_given : ByteArray := prog_1_method_6_code
abbrev y_Desk_given : MethodName := ⟨"EntityDesk", "given", "(I)I"⟩
abbrev b_Desk_text : ByteArray := prog_1_method_7_code
abbrev y_Desk_text : MethodName := ⟨"EntityDesk", "text", "(II)I"⟩
abbrev b_Ents_characterOf : ByteArray := prog_2_method_5_code
abbrev y_Ents_characterOf : MethodName := ⟨"EntityDesk$Entities", "characterOf", "(II)I"⟩
abbrev b_Desk_count : ByteArray := prog_1_method_8_code
abbrev y_Desk_count : MethodName := ⟨"EntityDesk", "count", "(I)I"⟩
abbrev b_Model_init : ByteArray := prog_5_method_1_code
abbrev y_Model_init : MethodName := ⟨"EntityDeskModel", "<init>", "()V"⟩
abbrev b_Model_put : ByteArray := prog_5_method_2_code
abbrev y_Model_put : MethodName := ⟨"EntityDeskModel", "put", "(JI)Z"⟩
abbrev b_Model_declare : ByteArray := prog_5_method_10_code
abbrev y_Model_declare : MethodName := ⟨"EntityDeskModel", "declare", "(I)I"⟩
abbrev b_Model_begin : ByteArray := prog_5_method_9_code
abbrev y_Model_begin : MethodName := ⟨"EntityDeskModel", "begin", "()V"⟩
abbrev b_Model_peek : ByteArray := prog_5_method_4_code
abbrev y_Model_peek : MethodName := ⟨"EntityDeskModel", "peek", "()I"⟩
abbrev b_Model_pass : ByteArray := prog_5_method_5_code
abbrev y_Model_pass : MethodName := ⟨"EntityDeskModel", "pass", "()V"⟩
abbrev b_Model_reference : ByteArray := prog_5_method_8_code
abbrev y_Model_reference : MethodName := ⟨"EntityDeskModel", "reference", "(I)I"⟩
abbrev b_Model_digit : ByteArray := prog_5_method_6_code
abbrev y_Model_digit : MethodName := ⟨"EntityDeskModel", "digit", "(II)I"⟩
abbrev b_Model_broken : ByteArray := prog_5_method_7_code
abbrev y_Model_broken : MethodName := ⟨"EntityDeskModel", "broken", "()I"⟩
abbrev b_Model_fail : ByteArray := prog_5_method_3_code
abbrev y_Model_fail : MethodName := ⟨"EntityDeskModel", "fail", "(II)I"⟩
abbrev b_Model_expand : ByteArray := prog_5_method_14_code
abbrev y_Model_expand : MethodName := ⟨"EntityDeskModel", "expand", "(I)I"⟩
abbrev b_Model_step : ByteArray := prog_5_method_13_code
abbrev y_Model_step : MethodName := ⟨"EntityDeskModel", "step", "(I)I"⟩
abbrev b_Model_give : ByteArray := prog_5_method_12_code
abbrev y_Model_give : MethodName := ⟨"EntityDeskModel", "give", "(II)I"⟩
abbrev b_Model_enter : ByteArray := prog_5_method_11_code
abbrev y_Model_enter : MethodName := ⟨"EntityDeskModel", "enter", "(II)I"⟩
abbrev b_Model_place : ByteArray := prog_5_method_15_code
abbrev y_Model_place : MethodName := ⟨"EntityDeskModel", "place", "()I"⟩
abbrev b_Model_given : ByteArray := prog_5_method_16_code
abbrev y_Model_given : MethodName := ⟨"EntityDeskModel", "given", "(I)I"⟩
abbrev b_Model_text : ByteArray := prog_5_method_17_code
abbrev y_Model_text : MethodName := ⟨"EntityDeskModel", "text", "(II)I"⟩
abbrev b_Model_count : ByteArray := prog_5_method_18_code
abbrev y_Model_count : MethodName := ⟨"EntityDeskModel", "count", "(I)I"⟩
end
section
/-! THE FRAME: every contract stands over the same words (gw, and the nest words nw), a walk's fixed facts are one fact (Cx), its world is one fact (Wd). -/
def gw : List Cond := lw_tbl.filter goodWord
theorem gw_good : ∀ w ∈ gw, goodWord w = true := fun _ h => (List.mem_filter.mp h).2
theorem gw_tbl : ∀ w ∈ gw, w ∈ lw_tbl := fun _ h => (List.mem_filter.mp h).1
theorem gw_in {w : Cond} (h : w ∈ lw_tbl) (g : goodWord w = true) : w ∈ gw := List.mem_filter.mpr ⟨h, g⟩
theorem gw_inCode {y : MethodName} {b : ByteArray} {n : Nat} {r : Option FieldType} {i : Nat} (h : lw_tbl[i]? = some (.code y b n r)) : Cond.code y b n r ∈ gw := gw_in (List.mem_of_getElem? h) rfl
theorem gi_gw {big : List Cond} (hb : ∀ w ∈ gw, w ∈ big) {y : MethodName} {b : ByteArray} {n : Nat} {r : Option FieldType} (h : Cond.code y b n r ∈ gw) : GoodIn big (Cond.code y b n r :: gw) := by
  intro w hw
  rcases List.mem_cons.mp hw with rfl | hw
  · exact ⟨hb _ h, good_of_word (gw_good _ h)⟩
  · exact ⟨hb _ hw, good_of_word (gw_good _ hw)⟩
def isNest : Cond → Bool
  | .fieldLinkNest .. => true
  | .methodLinkNest .. => true
  | _ => false
def nw : List Cond := lw_tbl.filter isNest
theorem nw_in {w : Cond} (h : w ∈ lw_tbl) (g : isNest w = true) : w ∈ nw := List.mem_filter.mpr ⟨h, g⟩
theorem nest_tab {w : Cond} (hn : isNest w = true) : w.onTables = true := by
  unfold isNest at hn
  split at hn
  · rfl
  · rfl
  · cases hn
theorem nest_warm {w : Cond} (hn : isNest w = true) {s U : State} (hW : s.WarmedH U.vm) (h : va_Nw w s) : va_Nw w U := by
  unfold isNest at hn
  split at hn
  · exact va_Nw.warmF hW h
  · exact va_Nw.warmM hW h
  · cases hn
def NW (U : State) : Prop := ∀ w ∈ nw, va_Nw w U
theorem NW.warm {s U : State} (hW : s.WarmedH U.vm) (h : NW s) : NW U := fun w hw => nest_warm (List.mem_filter.mp hw).2 hW (h w hw)
theorem NW.same {u U : State} (hv : u.vm = U.vm) (h : NW u) : NW U := fun w hw => va_Nw.same (nest_tab (List.mem_filter.mp hw).2) hv (h w hw)
def KN (D : va_G) (cI cZ : ClassId) (U : State) : Prop := va_K D classes [(cI, .int), (cZ, .boolean)] U ∧ NW U
theorem KN.warm {D : va_G} {cI cZ : ClassId} {s U : State} (hW : s.WarmedH U.vm) (h : KN D cI cZ s) : KN D cI cZ U := ⟨va_K.moved hW.alike h.1, NW.warm hW h.2⟩
theorem KN.calling {D : va_G} {cI cZ : ClassId} {U : State} {g : JFrame} {mk : MethodId} {a : Array Value} (h : KN D cI cZ U) : KN D cI cZ (U.calling g mk a) := ⟨va_K.moved (u := U) (U := U.calling g mk a) (Vm.Alike.refl U.vm) h.1, NW.same (u := U) (U := U.calling g mk a) rfl h.2⟩
def PcS (D : va_G) (cI cZ : ClassId) (av : List Value) (ws : va_W) (sz : Nat) : Array Value → State → Prop := va_Pc av (fun U => U.heap.size = sz ∧ va_P D classes ws U.heap ∧ KN D cI cZ U ∧ va_D (fun _ => True) ws)
theorem PcS.blind {D : va_G} {cI cZ : ClassId} {av : List Value} {ws : va_W} {sz : Nat} : FrameBlind (PcS D cI cZ av ws sz) := by
  intro a U g mk q
  obtain ⟨q0, q1, qP, qK, qD⟩ := q
  exact ⟨q0, q1, qP, qK.calling, qD⟩
def BS {S : Type} (D : va_G) (wo : S → va_W) (A : Nat → Prop) (u : S) (t : State) : Prop := va_P D classes (wo u) t.heap ∧ va_D A (wo u)
/-- a contract that answers an int (or a boolean) -/
def Mi {S : Type} (l : Launch) (y : MethodName) (cc : ByteArray) (nL : Nat) (ret : Option FieldType) (rm : Room) (D : va_G) (cI cZ : ClassId) (av : List Value) (ws : va_W) (post : Int32 → S → Prop) (wo : S → va_W) : Prop :=
  ∀ sz : Nat, Met l y (.code y cc nL ret :: gw) rm (PcS D cI cZ av ws sz) (va_Qi post (BS D wo (va_A ws sz)) (va_A ws sz)) 0 0 (va_A ws sz)
/-- a contract that answers nothing -/
def Mv {S : Type} (l : Launch) (y : MethodName) (cc : ByteArray) (nL : Nat) (rm : Room) (D : va_G) (cI cZ : ClassId) (av : List Value) (ws : va_W) (post : S → Prop) (wo : S → va_W) (mc ms : Nat) : Prop :=
  ∀ sz : Nat, Met l y (.code y cc nL none :: gw) rm (PcS D cI cZ av ws sz) (va_Qv post (BS D wo (va_A ws sz)) (va_A ws sz)) mc ms (va_A ws sz)
/-- the fixed facts of a walk -/
def Cx (p : Program) (s : State) (m : MethodId) (args : Array Value) (meth : Method) (c : Code) (cc : ByteArray) (nL : Nat) (ret : Option FieldType) (own : String) (D : va_G) (cI cZ : ClassId) (A : Nat → Prop) : Prop :=
  p.tables.exec = Jvm.exec ∧ c.code = cc ∧ c.maxLocals = nL ∧ meth.sig.returnType = ret ∧ meth.locks = false ∧ s.vm.findClass own = some m.cls ∧ (∀ w ∈ gw, w.before args s = true) ∧ KN D cI cZ s ∧ (∀ q, s.heap.size ≤ q → A q)
def Wd (D : va_G) (A : Nat → Prop) (H0 : Heap) (ws : va_W) (H : Heap) (locs : List Loc) : Prop := va_P D classes ws H ∧ va_D A ws ∧ va_S A H0 H locs
def QI {S : Type} (below : List Frame) (D : va_G) (post : Int32 → S → Prop) (wo : S → va_W) (A : Nat → Prop) (args : Array Value) (s : State) : State → Prop := MQ below (va_Qi post (BS D wo A) A) args s 0 0 A
def QV {S : Type} (below : List Frame) (D : va_G) (post : S → Prop) (wo : S → va_W) (A : Nat → Prop) (args : Array Value) (s : State) (mc ms : Nat) : State → Prop := MQ below (va_Qv post (BS D wo A) A) args s mc ms A
theorem Mi.intro {S : Type} {l : Launch} {y : MethodName} {cc : ByteArray} {nL : Nat} {ret : Option FieldType} {rm : Room} {D : va_G} {cI cZ : ClassId} {av : List Value} {ws : va_W} {post : Int32 → S → Prop} {wo : S → va_W} (hy : plainName y.cls = true) (hn : (lg_sl av).length ≤ nL)
    (body : ∀ (p : Program) (e : Env) (s : State) (m : MethodId) (args : Array Value) (below : List Frame) (meth : Method) (c : Code) (A : Nat → Prop) (ls : Array Slot) (R : Room) (Q : State → Prop), R = rm → Q = QI below D post wo A args s → Cx p s m args meth c cc nL ret y.cls D cI cZ A → Wd D A s.heap ws s.heap [] → lv_has ls nL (lv_args 0 av) → W p l e R s m args below meth c s.heap [] 0 0 Q (F0 m 0 ls [])) : Mi l y cc nL ret rm D cI cZ av ws post wo := by
  intro sz
  refine Met.ofW (cc := cc) (maxL := nL) (ret := ret) hy rfl ?_
  intro p e s m args below meth c s₁ B hml hv
  obtain ⟨rfl, hsz, hP, hK, hD0⟩ := hv
  subst hsz
  have hl := lv_entry av (n := nL) hn
  rw [lg_entry_eq]
  exact body p e s m av.toArray below meth c (va_A ws s.heap.size) _ rm _ rfl rfl ⟨B.exec, B.bytes, hml, B.returns, B.notSynchronized, findClass_of_methodNamed B.named, fun w hw => atoms_spec (ws := .code y cc nL ret :: gw) B.pre w (List.mem_cons_of_mem _ hw), hK, fun q h => Or.inr h⟩ ⟨hP, hD0.self (sz := s.heap.size), va_S.rf⟩ hl
theorem Mv.intro {S : Type} {l : Launch} {y : MethodName} {cc : ByteArray} {nL : Nat} {rm : Room} {D : va_G} {cI cZ : ClassId} {av : List Value} {ws : va_W} {post : S → Prop} {wo : S → va_W} {mc ms : Nat} (hy : plainName y.cls = true) (hn : (lg_sl av).length ≤ nL)
    (body : ∀ (p : Program) (e : Env) (s : State) (m : MethodId) (args : Array Value) (below : List Frame) (meth : Method) (c : Code) (A : Nat → Prop) (ls : Array Slot) (R : Room) (Q : State → Prop), R = rm → Q = QV below D post wo A args s mc ms → Cx p s m args meth c cc nL none y.cls D cI cZ A → meth.name = y.name → Wd D A s.heap ws s.heap [] → lv_has ls nL (lv_args 0 av) → W p l e R s m args below meth c s.heap [] 0 0 Q (F0 m 0 ls [])) : Mv l y cc nL rm D cI cZ av ws post wo mc ms := by
  intro sz
  refine Met.ofW (cc := cc) (maxL := nL) (ret := none) hy rfl ?_
  intro p e s m args below meth c s₁ B hml hv
  obtain ⟨rfl, hsz, hP, hK, hD0⟩ := hv
  subst hsz
  have hl := lv_entry av (n := nL) hn
  rw [lg_entry_eq]
  exact body p e s m av.toArray below meth c (va_A ws s.heap.size) _ rm _ rfl rfl ⟨B.exec, B.bytes, hml, B.returns, B.notSynchronized, findClass_of_methodNamed B.named, fun w hw => atoms_spec (ws := .code y cc nL none :: gw) B.pre w (List.mem_cons_of_mem _ hw), hK, fun q h => Or.inr h⟩ (name_of_methodNamed B.named B.method).1 ⟨hP, hD0.self (sz := s.heap.size), va_S.rf⟩ hl
/-! arrays of naturals -/
def aN (f : Nat → Nat) : Nat → Int32 := fun j => nI (f j)
def aM (f : Nat → Nat) : Nat → Int32 := fun j => nI (f j) - 1
def updN (f : Nat → Nat) (k x : Nat) : Nat → Nat := fun j => if j = k then x else f j
theorem upd_aN (f : Nat → Nat) (k x : Nat) : upd (aN f) k (nI x) = aN (updN f k x) := by
  funext j
  unfold upd aN updN
  by_cases h : j = k
  · simp [h]
  · simp [h]
theorem upd_aM (f : Nat → Nat) (k x : Nat) : upd (aM f) k (nI x) = aM (updN f k (x + 1)) := by
  funext j
  unfold upd aM updN
  by_cases h : j = k
  · simp only [h, if_true]; exact (nI_pred x).symm
  · simp [h]
theorem updN_self (f : Nat → Nat) (k : Nat) : updN f k (f k) = f := by
  funext j
  unfold updN
  by_cases h : j = k
  · simp [h]
  · simp [h]
/-- a field as an instruction of class own names it -/
def fdK (own : String) (index ci k : Nat) (fin : Bool) (ty : FieldType) : Prop := ∃ (Cn : String) (T : u_T) (N : Nat) (ty0 : Nat → FieldType), classes[ci]? = some (Cn, T, N) ∧ k < N ∧ (∀ w ∈ u_ws Cn T N, w ∈ gw) ∧ (∀ j, j < N → parseFieldDescriptor (T j).2.2.1 = some (ty0 j)) ∧ (∀ a, a < N → ∀ b, b < N → a ≠ b → (T a).2.1 ≠ (T b).2.1) ∧ (T k).2.2.2 = fin ∧ ty0 k = ty ∧ (T k).1 = own ∧ Cond.fieldLink own index (T k).1 (T k).2.1 (T k).2.2.1 ∈ gw
/-- the same, of a nest mate -/
def fdN (own : String) (index ci k : Nat) : Prop := ∃ (Cn : String) (T : u_T) (N : Nat) (host : String), classes[ci]? = some (Cn, T, N) ∧ k < N ∧ (∀ w ∈ u_ws Cn T N, w ∈ gw) ∧ Cond.fieldLinkNest own index (T k).1 (T k).2.1 (T k).2.2.1 host ∈ nw
section ROWS
variable {p : Program} {l : Launch} {e : Env} {R : Room} {s : State} {m : MethodId} {args : Array Value} {below : List Frame} {meth : Method} {c : Code} {H : Heap} {locs : List Loc} {cells slots : Nat} {Q : State → Prop}
variable {cc : ByteArray} {pc nL : Nat} {ret : Option FieldType} {own : String} {ls : Array Slot} {rest : List Value} {D : va_G} {cI cZ : ClassId} {A : Nat → Prop} {ws ws' : va_W}
theorem r_get (C : Cx p s m args meth c cc nL ret own D cI cZ A) (Z : Wd D A s.heap ws H locs) {a ci k index : Nat} {fin : Bool} {ty : FieldType} {fs : List Value} {v : Value} (q0 : Nat) (F : fdK own index ci k fin ty) (he : ws[q0]? = some (a, .inr (ci, fs))) (hv : fs[k]? = some v) (hdg : decode cc pc = .ok (.getfield index, 3))
    (kk : W p l e R s m args below meth c H locs cells slots Q (F0 m (pc + 3) ls (v :: rest))) : W p l e R s m args below meth c H locs cells slots Q (F0 m pc ls (.ref a :: rest)) := by
  obtain ⟨hx, hb, -, -, -, hown, hts, hK, -⟩ := C
  obtain ⟨Cn, T, N, ty0, h1, h2, h3, h4, h5, h6, h7, h8, h9⟩ := F
  exact va_get hx hb hts h3 hown hK.1 Z.1 q0 he h1 k h2 (hts _ h9) (fun _ h => h) hv hdg kk
theorem r_getN (C : Cx p s m args meth c cc nL ret own D cI cZ A) (Z : Wd D A s.heap ws H locs) {a ci k index : Nat} {fs : List Value} {v : Value} (q0 : Nat) (F : fdN own index ci k) (he : ws[q0]? = some (a, .inr (ci, fs))) (hv : fs[k]? = some v) (hdg : decode cc pc = .ok (.getfield index, 3))
    (kk : W p l e R s m args below meth c H locs cells slots Q (F0 m (pc + 3) ls (v :: rest))) : W p l e R s m args below meth c H locs cells slots Q (F0 m pc ls (.ref a :: rest)) := by
  obtain ⟨hx, hb, -, -, -, hown, hts, hK, -⟩ := C
  obtain ⟨Cn, T, N, host, h1, h2, h3, h9⟩ := F
  exact va_getN hx hb hts h3 hown hK.1 Z.1 q0 he h1 k h2 (va_Nw.use rfl (hK.2 _ h9)) (fun _ h => h) hv hdg kk
theorem r_put (C : Cx p s m args meth c cc nL ret own D cI cZ A) (Z : Wd D A s.heap ws H locs) {a ci k index : Nat} {ty : FieldType} {fs : List Value} {v : Value} (q0 : Nat) (F : fdK own index ci k false ty) (he : ws[q0]? = some (a, .inr (ci, fs))) (hn : narrow ty v = v) (hfit : fits ty v = true) (hl : k < fs.length) (hw : ws.set q0 (a, .inr (ci, fs.set k v)) = ws') (hdg : decode cc pc = .ok (.putfield index, 3))
    (kk : ∀ (H1 : Heap) (locs1 : List Loc), Wd D A s.heap ws' H1 locs1 → W p l e R s m args below meth c H1 locs1 cells slots Q (F0 m (pc + 3) ls rest)) : W p l e R s m args below meth c H locs cells slots Q (F0 m pc ls (v :: .ref a :: rest)) := by
  obtain ⟨hx, hb, -, -, -, hown, hts, hK, -⟩ := C
  obtain ⟨Cn, T, N, ty0, h1, h2, h3, h4, h5, h6, h7, h8, h9⟩ := F
  subst hw
  exact va_put hx hb hts h3 ty0 h4 h5 hown hK.1 Z.1 Z.2.1 Z.2.2 q0 he h1 k h2 (hts _ h9) (fun _ h => h) h6 (ty := ty) (by rw [h4 k h2, h7]) hn hfit hl hdg (fun H1 locs1 a1 a2 a3 => kk H1 locs1 ⟨a1, a2, a3⟩)
theorem r_putF (C : Cx p s m args meth c cc nL ret own D cI cZ A) (Z : Wd D A s.heap ws H locs) (hin : meth.name = "<init>") {a ci k index : Nat} {ty : FieldType} {fs : List Value} {v : Value} (q0 : Nat) (F : fdK own index ci k true ty) (he : ws[q0]? = some (a, .inr (ci, fs))) (hn : narrow ty v = v) (hfit : fits ty v = true) (hl : k < fs.length) (hw : ws.set q0 (a, .inr (ci, fs.set k v)) = ws') (hdg : decode cc pc = .ok (.putfield index, 3))
    (kk : ∀ (H1 : Heap) (locs1 : List Loc), Wd D A s.heap ws' H1 locs1 → W p l e R s m args below meth c H1 locs1 cells slots Q (F0 m (pc + 3) ls rest)) : W p l e R s m args below meth c H locs cells slots Q (F0 m pc ls (v :: .ref a :: rest)) := by
  obtain ⟨hx, hb, -, -, -, hown, hts, hK, -⟩ := C
  obtain ⟨Cn, T, N, ty0, h1, h2, h3, h4, h5, h6, h7, h8, h9⟩ := F
  subst hw
  exact va_putF hx hb hts h3 ty0 h4 h5 hown hK.1 Z.1 Z.2.1 Z.2.2 q0 he h1 k h2 (hts _ h9) (fun _ h => h) h6 hin h8 (ty := ty) (by rw [h4 k h2, h7]) hn hfit hl hdg (fun H1 locs1 a1 a2 a3 => kk H1 locs1 ⟨a1, a2, a3⟩)
theorem r_ild (C : Cx p s m args meth c cc nL ret own D cI cZ A) (Z : Wd D A s.heap ws H locs) {a n i : Nat} {f : Nat → Int32} (q0 : Nat) (he : ws[q0]? = some (a, .inl (cI, n, .inl f))) (hi : i < n) (hn : n < 2 ^ 31) (hdg : decode cc pc = .ok (.iaload, 1))
    (kk : W p l e R s m args below meth c H locs cells slots Q (F0 m (pc + 1) ls (.int (f i) :: rest))) : W p l e R s m args below meth c H locs cells slots Q (F0 m pc ls (.int (nI i) :: .ref a :: rest)) := by
  refine va_iald C.1 C.2.1 C.2.2.2.2.2.2.2.1.1 Z.1 q0 0 he rfl (vp_in_nI hi hn) hdg ?_
  rw [nI_clamp (by omega)]
  exact kk
theorem r_ildN (C : Cx p s m args meth c cc nL ret own D cI cZ A) (Z : Wd D A s.heap ws H locs) {a n i : Nat} {f : Nat → Nat} (q0 : Nat) (he : ws[q0]? = some (a, .inl (cI, n, .inl (aN f)))) (hi : i < n) (hn : n < 2 ^ 31) (hdg : decode cc pc = .ok (.iaload, 1))
    (kk : W p l e R s m args below meth c H locs cells slots Q (F0 m (pc + 1) ls (.int (nI (f i)) :: rest))) : W p l e R s m args below meth c H locs cells slots Q (F0 m pc ls (.int (nI i) :: .ref a :: rest)) := r_ild C Z q0 he hi hn hdg kk
theorem r_ildM (C : Cx p s m args meth c cc nL ret own D cI cZ A) (Z : Wd D A s.heap ws H locs) {a n i : Nat} {f : Nat → Nat} (q0 : Nat) (he : ws[q0]? = some (a, .inl (cI, n, .inl (aM f)))) (hi : i < n) (hn : n < 2 ^ 31) (hdg : decode cc pc = .ok (.iaload, 1))
    (kk : W p l e R s m args below meth c H locs cells slots Q (F0 m (pc + 1) ls (.int (nI (f i) - 1) :: rest))) : W p l e R s m args below meth c H locs cells slots Q (F0 m pc ls (.int (nI i) :: .ref a :: rest)) := r_ild C Z q0 he hi hn hdg kk
theorem r_zldN (C : Cx p s m args meth c cc nL ret own D cI cZ A) (Z : Wd D A s.heap ws H locs) {a n i : Nat} {f : Nat → Nat} (q0 : Nat) (he : ws[q0]? = some (a, .inl (cZ, n, .inl (aN f)))) (hi : i < n) (hn : n < 2 ^ 31) (hdg : decode cc pc = .ok (.baload, 1))
    (kk : W p l e R s m args below meth c H locs cells slots Q (F0 m (pc + 1) ls (.int (nI (f i)) :: rest))) : W p l e R s m args below meth c H locs cells slots Q (F0 m pc ls (.int (nI i) :: .ref a :: rest)) := by
  refine va_zald C.1 C.2.1 C.2.2.2.2.2.2.2.1.1 Z.1 q0 1 he rfl (vp_in_nI hi hn) hdg ?_
  rw [nI_clamp (by omega)]
  exact kk
theorem r_ist (C : Cx p s m args meth c cc nL ret own D cI cZ A) (Z : Wd D A s.heap ws H locs) {a n i : Nat} {x : Int32} {f g : Nat → Int32} (q0 : Nat) (he : ws[q0]? = some (a, .inl (cI, n, .inl f))) (hi : i < n) (hn : n < 2 ^ 31) (hg : upd f i x = g) (hw : ws.set q0 (a, .inl (cI, n, .inl g)) = ws') (hdg : decode cc pc = .ok (.iastore, 1))
    (kk : ∀ (H1 : Heap) (locs1 : List Loc), Wd D A s.heap ws' H1 locs1 → W p l e R s m args below meth c H1 locs1 cells slots Q (F0 m (pc + 1) ls rest)) : W p l e R s m args below meth c H locs cells slots Q (F0 m pc ls (.int x :: .int (nI i) :: .ref a :: rest)) := by
  subst hw
  subst hg
  refine va_iast C.1 C.2.1 C.2.2.2.2.2.2.2.1.1 Z.1 Z.2.1 Z.2.2 q0 0 he rfl (vp_in_nI hi hn) hdg (fun H1 locs1 a1 a2 a3 => ?_)
  rw [nI_clamp (by omega)] at a1 a2
  exact kk H1 locs1 ⟨a1, a2, a3⟩
theorem r_istN (C : Cx p s m args meth c cc nL ret own D cI cZ A) (Z : Wd D A s.heap ws H locs) {a n i x : Nat} {f : Nat → Nat} (q0 : Nat) (he : ws[q0]? = some (a, .inl (cI, n, .inl (aN f)))) (hi : i < n) (hn : n < 2 ^ 31) (hw : ws.set q0 (a, .inl (cI, n, .inl (aN (updN f i x)))) = ws') (hdg : decode cc pc = .ok (.iastore, 1))
    (kk : ∀ (H1 : Heap) (locs1 : List Loc), Wd D A s.heap ws' H1 locs1 → W p l e R s m args below meth c H1 locs1 cells slots Q (F0 m (pc + 1) ls rest)) : W p l e R s m args below meth c H locs cells slots Q (F0 m pc ls (.int (nI x) :: .int (nI i) :: .ref a :: rest)) := r_ist C Z q0 he hi hn (upd_aN f i x) hw hdg kk
theorem r_istM (C : Cx p s m args meth c cc nL ret own D cI cZ A) (Z : Wd D A s.heap ws H locs) {a n i x : Nat} {f : Nat → Nat} (q0 : Nat) (he : ws[q0]? = some (a, .inl (cI, n, .inl (aM f)))) (hi : i < n) (hn : n < 2 ^ 31) (hw : ws.set q0 (a, .inl (cI, n, .inl (aM (updN f i (x + 1))))) = ws') (hdg : decode cc pc = .ok (.iastore, 1))
    (kk : ∀ (H1 : Heap) (locs1 : List Loc), Wd D A s.heap ws' H1 locs1 → W p l e R s m args below meth c H1 locs1 cells slots Q (F0 m (pc + 1) ls rest)) : W p l e R s m args below meth c H locs cells slots Q (F0 m pc ls (.int (nI x) :: .int (nI i) :: .ref a :: rest)) := r_ist C Z q0 he hi hn (upd_aM f i x) hw hdg kk
theorem nar_bool {x : Nat} (hx : x ≤ 1) : vp_nar .boolean (nI x) = nI x := by
  rcases (show x = 0 ∨ x = 1 by omega) with rfl | rfl <;> decide
theorem r_zstN (C : Cx p s m args meth c cc nL ret own D cI cZ A) (Z : Wd D A s.heap ws H locs) {a n i x : Nat} {f : Nat → Nat} (q0 : Nat) (he : ws[q0]? = some (a, .inl (cZ, n, .inl (aN f)))) (hi : i < n) (hn : n < 2 ^ 31) (hx : x ≤ 1) (hw : ws.set q0 (a, .inl (cZ, n, .inl (aN (updN f i x)))) = ws') (hdg : decode cc pc = .ok (.bastore, 1))
    (kk : ∀ (H1 : Heap) (locs1 : List Loc), Wd D A s.heap ws' H1 locs1 → W p l e R s m args below meth c H1 locs1 cells slots Q (F0 m (pc + 1) ls rest)) : W p l e R s m args below meth c H locs cells slots Q (F0 m pc ls (.int (nI x) :: .int (nI i) :: .ref a :: rest)) := by
  subst hw
  refine va_zast C.1 C.2.1 C.2.2.2.2.2.2.2.1.1 Z.1 Z.2.1 Z.2.2 q0 1 he rfl (vp_in_nI hi hn) hdg (fun H1 locs1 a1 a2 a3 => ?_)
  rw [nI_clamp (by omega), nar_bool hx, upd_aN] at a1 a2
  exact kk H1 locs1 ⟨a1, a2, a3⟩
/-! numbers -/
theorem r_add (C : Cx p s m args meth c cc nL ret own D cI cZ A) {x y : Nat} (hdg : decode cc pc = .ok (.iadd, 1)) (k : W p l e R s m args below meth c H locs cells slots Q (F0 m (pc + 1) ls (.int (nI (x + y)) :: rest))) : W p l e R s m args below meth c H locs cells slots Q (F0 m pc ls (.int (nI y) :: .int (nI x) :: rest)) := lv_iadd C.1 C.2.1 hdg (by rw [nI_add]; exact k)
theorem r_sub (C : Cx p s m args meth c cc nL ret own D cI cZ A) {x y : Nat} (h : y ≤ x) (hdg : decode cc pc = .ok (.isub, 1)) (k : W p l e R s m args below meth c H locs cells slots Q (F0 m (pc + 1) ls (.int (nI (x - y)) :: rest))) : W p l e R s m args below meth c H locs cells slots Q (F0 m pc ls (.int (nI y) :: .int (nI x) :: rest)) := lv_isub C.1 C.2.1 hdg (by rw [pk_sub h]; exact k)
theorem r_mul (C : Cx p s m args meth c cc nL ret own D cI cZ A) {x y : Nat} (hdg : decode cc pc = .ok (.imul, 1)) (k : W p l e R s m args below meth c H locs cells slots Q (F0 m (pc + 1) ls (.int (nI (x * y)) :: rest))) : W p l e R s m args below meth c H locs cells slots Q (F0 m pc ls (.int (nI y) :: .int (nI x) :: rest)) := lv_imul C.1 C.2.1 hdg (by rw [pk_mul]; exact k)
theorem r_lt (C : Cx p s m args meth c cc nL ret own D cI cZ A) {x y tgt : Nat} {off : Int} (hdg : decode cc pc = .ok (.if_icmp .lt off, 3)) (ht : (pc : Int) + off = (tgt : Int)) (hx : x < 2 ^ 31) (hy : y < 2 ^ 31)
    (kt : x < y → W p l e R s m args below meth c H locs cells slots Q (F0 m tgt ls rest)) (kf : y ≤ x → W p l e R s m args below meth c H locs cells slots Q (F0 m (pc + 3) ls rest)) : W p l e R s m args below meth c H locs cells slots Q (F0 m pc ls (.int (nI y) :: .int (nI x) :: rest)) :=
  lv_icmp_lt C.1 C.2.1 hdg ht (fun h => kt ((nI_ltI hx hy).mp h)) (fun h => kf (Nat.le_of_not_lt (fun q => h ((nI_ltI hx hy).mpr q))))
theorem r_ge (C : Cx p s m args meth c cc nL ret own D cI cZ A) {x y tgt : Nat} {off : Int} (hdg : decode cc pc = .ok (.if_icmp .ge off, 3)) (ht : (pc : Int) + off = (tgt : Int)) (hx : x < 2 ^ 31) (hy : y < 2 ^ 31)
    (kt : y ≤ x → W p l e R s m args below meth c H locs cells slots Q (F0 m tgt ls rest)) (kf : x < y → W p l e R s m args below meth c H locs cells slots Q (F0 m (pc + 3) ls rest)) : W p l e R s m args below meth c H locs cells slots Q (F0 m pc ls (.int (nI y) :: .int (nI x) :: rest)) :=
  lv_icmp_ge C.1 C.2.1 hdg ht (fun h => kt ((nI_leI hy hx).mp h)) (fun h => kf (Nat.lt_of_not_le (fun q => h ((nI_leI hy hx).mpr q))))
theorem r_gt (C : Cx p s m args meth c cc nL ret own D cI cZ A) {x y tgt : Nat} {off : Int} (hdg : decode cc pc = .ok (.if_icmp .gt off, 3)) (ht : (pc : Int) + off = (tgt : Int)) (hx : x < 2 ^ 31) (hy : y < 2 ^ 31)
    (kt : y < x → W p l e R s m args below meth c H locs cells slots Q (F0 m tgt ls rest)) (kf : x ≤ y → W p l e R s m args below meth c H locs cells slots Q (F0 m (pc + 3) ls rest)) : W p l e R s m args below meth c H locs cells slots Q (F0 m pc ls (.int (nI y) :: .int (nI x) :: rest)) :=
  lv_icmp_gt C.1 C.2.1 hdg ht (fun h => kt ((nI_ltI hy hx).mp h)) (fun h => kf (Nat.le_of_not_lt (fun q => h ((nI_ltI hy hx).mpr q))))
theorem r_le (C : Cx p s m args meth c cc nL ret own D cI cZ A) {x y tgt : Nat} {off : Int} (hdg : decode cc pc = .ok (.if_icmp .le off, 3)) (ht : (pc : Int) + off = (tgt : Int)) (hx : x < 2 ^ 31) (hy : y < 2 ^ 31)
    (kt : x ≤ y → W p l e R s m args below meth c H locs cells slots Q (F0 m tgt ls rest)) (kf : y < x → W p l e R s m args below meth c H locs cells slots Q (F0 m (pc + 3) ls rest)) : W p l e R s m args below meth c H locs cells slots Q (F0 m pc ls (.int (nI y) :: .int (nI x) :: rest)) :=
  lv_icmp_le C.1 C.2.1 hdg ht (fun h => kt ((nI_leI hx hy).mp h)) (fun h => kf (Nat.lt_of_not_le (fun q => h ((nI_leI hx hy).mpr q))))
theorem r_eq (C : Cx p s m args meth c cc nL ret own D cI cZ A) {x y tgt : Nat} {off : Int} (hdg : decode cc pc = .ok (.if_icmp .eq off, 3)) (ht : (pc : Int) + off = (tgt : Int)) (hx : x < 2 ^ 31) (hy : y < 2 ^ 31)
    (kt : x = y → W p l e R s m args below meth c H locs cells slots Q (F0 m tgt ls rest)) (kf : x ≠ y → W p l e R s m args below meth c H locs cells slots Q (F0 m (pc + 3) ls rest)) : W p l e R s m args below meth c H locs cells slots Q (F0 m pc ls (.int (nI y) :: .int (nI x) :: rest)) :=
  lv_icmp_eq C.1 C.2.1 hdg ht (fun h => kt ((nI_eq hx hy).mp h)) (fun h => kf (fun q => h ((nI_eq hx hy).mpr q)))
theorem r_ne (C : Cx p s m args meth c cc nL ret own D cI cZ A) {x y tgt : Nat} {off : Int} (hdg : decode cc pc = .ok (.if_icmp .ne off, 3)) (ht : (pc : Int) + off = (tgt : Int)) (hx : x < 2 ^ 31) (hy : y < 2 ^ 31)
    (kt : x ≠ y → W p l e R s m args below meth c H locs cells slots Q (F0 m tgt ls rest)) (kf : x = y → W p l e R s m args below meth c H locs cells slots Q (F0 m (pc + 3) ls rest)) : W p l e R s m args below meth c H locs cells slots Q (F0 m pc ls (.int (nI y) :: .int (nI x) :: rest)) :=
  lv_icmp_ne C.1 C.2.1 hdg ht (fun h => kt (fun q => h ((nI_eq hx hy).mpr q))) (fun h => kf ((nI_eq hx hy).mp h))
theorem r_zeq (C : Cx p s m args meth c cc nL ret own D cI cZ A) {x tgt : Nat} {off : Int} (hdg : decode cc pc = .ok (.ifCond .eq off, 3)) (ht : (pc : Int) + off = (tgt : Int)) (hx : x < 2 ^ 31)
    (kt : x = 0 → W p l e R s m args below meth c H locs cells slots Q (F0 m tgt ls rest)) (kf : x ≠ 0 → W p l e R s m args below meth c H locs cells slots Q (F0 m (pc + 3) ls rest)) : W p l e R s m args below meth c H locs cells slots Q (F0 m pc ls (.int (nI x) :: rest)) :=
  lv_if_eq C.1 C.2.1 hdg ht (fun h => kt ((nI_eq hx (by decide)).mp (h.trans nI_0.symm))) (fun h => kf (fun q => h (by rw [q]; exact nI_0)))
theorem r_zne (C : Cx p s m args meth c cc nL ret own D cI cZ A) {x tgt : Nat} {off : Int} (hdg : decode cc pc = .ok (.ifCond .ne off, 3)) (ht : (pc : Int) + off = (tgt : Int)) (hx : x < 2 ^ 31)
    (kt : x ≠ 0 → W p l e R s m args below meth c H locs cells slots Q (F0 m tgt ls rest)) (kf : x = 0 → W p l e R s m args below meth c H locs cells slots Q (F0 m (pc + 3) ls rest)) : W p l e R s m args below meth c H locs cells slots Q (F0 m pc ls (.int (nI x) :: rest)) :=
  lv_if_ne C.1 C.2.1 hdg ht (fun h => kt (fun q => h (by rw [q]; exact nI_0))) (fun h => kf ((nI_eq hx (by decide)).mp (h.trans nI_0.symm)))
theorem r_zlt (C : Cx p s m args meth c cc nL ret own D cI cZ A) {x tgt : Nat} {off : Int} (hdg : decode cc pc = .ok (.ifCond .lt off, 3)) (ht : (pc : Int) + off = (tgt : Int)) (hx : x < 2 ^ 31)
    (kf : W p l e R s m args below meth c H locs cells slots Q (F0 m (pc + 3) ls rest)) : W p l e R s m args below meth c H locs cells slots Q (F0 m pc ls (.int (nI x) :: rest)) :=
  lv_if_lt C.1 C.2.1 hdg ht (fun h => absurd h (nI_pos hx)) (fun _ => kf)
theorem r_zge (C : Cx p s m args meth c cc nL ret own D cI cZ A) {x tgt : Nat} {off : Int} (hdg : decode cc pc = .ok (.ifCond .ge off, 3)) (ht : (pc : Int) + off = (tgt : Int)) (hx : x < 2 ^ 31)
    (kt : W p l e R s m args below meth c H locs cells slots Q (F0 m tgt ls rest)) : W p l e R s m args below meth c H locs cells slots Q (F0 m pc ls (.int (nI x) :: rest)) :=
  lv_if_ge C.1 C.2.1 hdg ht (fun _ => kt) (fun h => absurd (nI_pos' hx) h)
theorem r_zle (C : Cx p s m args meth c cc nL ret own D cI cZ A) {x tgt : Nat} {off : Int} (hdg : decode cc pc = .ok (.ifCond .le off, 3)) (ht : (pc : Int) + off = (tgt : Int)) (hx : x < 2 ^ 31)
    (kt : x = 0 → W p l e R s m args below meth c H locs cells slots Q (F0 m tgt ls rest)) (kf : 0 < x → W p l e R s m args below meth c H locs cells slots Q (F0 m (pc + 3) ls rest)) : W p l e R s m args below meth c H locs cells slots Q (F0 m pc ls (.int (nI x) :: rest)) :=
  lv_if_le C.1 C.2.1 hdg ht (fun h => kt (Nat.eq_zero_of_not_pos (fun q => nI_nle q hx h))) (fun h => kf (Nat.pos_of_ne_zero (fun q => h (by rw [q]; decide))))
theorem r_iret {S : Type} {post : Int32 → S → Prop} {wo : S → va_W} (C : Cx p s m args meth c cc nL (some .int) own D cI cZ A) (Z : Wd D A s.heap ws H locs) {r : Int32} (u : S) (hp : post r u) (hw : wo u = ws) (hQ : Q = QI below D post wo A args s) (hdg : decode cc pc = .ok (.ireturn, 1)) : W p l e R s m args below meth c H locs 0 0 Q (F0 m pc ls [.int r]) := by
  subst hw
  subst hQ
  exact W.iret C.1 C.2.1 C.2.2.2.1 (fun t ht _ => ⟨⟨r, u, rfl, hp, by rw [ht]; exact Z.1, Z.2.1⟩, Z.2.2.F ht⟩) Z.2.2.2.2 hdg C.2.2.2.2.1
theorem nar_b {x : Nat} (hx : x ≤ 1) : narrow .boolean (.int (nI x)) = .int (nI x) := by
  rcases (show x = 0 ∨ x = 1 by omega) with rfl | rfl <;> rfl
theorem r_zret {S : Type} {post : Int32 → S → Prop} {wo : S → va_W} (C : Cx p s m args meth c cc nL (some .boolean) own D cI cZ A) (Z : Wd D A s.heap ws H locs) {x : Nat} (hx : x ≤ 1) (u : S) (hp : post (nI x) u) (hw : wo u = ws) (hQ : Q = QI below D post wo A args s) (hdg : decode cc pc = .ok (.ireturn, 1)) : W p l e R s m args below meth c H locs 0 0 Q (F0 m pc ls [.int (nI x)]) := by
  subst hw
  subst hQ
  exact W.zret C.1 C.2.1 C.2.2.2.1 (nar_b hx) (fun t ht _ => ⟨⟨nI x, u, rfl, hp, by rw [ht]; exact Z.1, Z.2.1⟩, Z.2.2.F ht⟩) Z.2.2.2.2 hdg C.2.2.2.2.1
theorem r_vret {S : Type} {post : S → Prop} {wo : S → va_W} (C : Cx p s m args meth c cc nL none own D cI cZ A) (Z : Wd D A s.heap ws H locs) (u : S) (hp : post u) (hw : wo u = ws) (hQ : Q = QV below D post wo A args s cells slots) (hdg : decode cc pc = .ok (.return_, 1)) : W p l e R s m args below meth c H locs cells slots Q (F0 m pc ls []) := by
  subst hw
  subst hQ
  exact W.vret C.1 C.2.1 C.2.2.2.1 (fun t ht _ => ⟨⟨u, rfl, hp, by rw [ht]; exact Z.1, Z.2.1⟩, Z.2.2.F ht⟩) Z.2.2.2.2 hdg C.2.2.2.2.1
theorem fit_b {x : Nat} (hx : x ≤ 1) : fits .boolean (.int (nI x)) = true := by
  rcases (show x = 0 ∨ x = 1 by omega) with rfl | rfl <;> rfl
theorem r_inc1 (x : Nat) : nI x + Int32.ofInt 1 = nI (x + 1) := nI_1 x
theorem m1_sub {x : Nat} (h : x ≠ 0) : nI x - 1 = nI (x - 1) := pk_sub (a := x) (b := 1) (by omega)
theorem m1_eq {x : Nat} (hx : x < 2 ^ 31) : nI x - 1 = -1 ↔ x = 0 := by
  constructor
  · intro h
    rcases Nat.eq_zero_or_pos x with q | q
    · exact q
    · rw [m1_sub (by omega)] at h
      exact absurd (show nI (x - 1) < 0 by rw [h]; decide) (nI_pos (by omega))
  · intro h
    rw [h]
    decide
theorem r_mmin (C : Cx p s m args meth c cc nL ret own D cI cZ A) {index : Nat} (K : Cond.methodLink own index Lib.Math.min.name ∈ gw ∧ Cond.static Lib.Math.min.name ∈ gw ∧ Cond.initialized "java/lang/Math" ∈ gw ∧ Cond.code Lib.Math.min.name Lib.Math.min.code 2 (some .int) ∈ gw) (hls : ls.size = nL) (hf : 1 ≤ R.frames) (hlo : (rest.map fun v => v.category).sum + 13 ≤ R.locals) (hc : cells ≤ R.cells) (hs : slots ≤ R.slots) {x y : Nat} (hx : x < 2 ^ 31) (hy : y < 2 ^ 31) (hdg : decode cc pc = .ok (.invokestatic index, 3))
    (kk : W p l e R s m args below meth c H locs cells slots Q (F0 m (pc + 3) ls (.int (nI (min x y)) :: rest))) : W p l e R s m args below meth c H locs cells slots Q (F0 m pc ls (.int (nI y) :: .int (nI x) :: rest)) := by
  have hts := C.2.2.2.2.2.2.1
  refine va_mmin C.1 C.2.1 (C.2.2.1.trans hls.symm) C.2.2.2.2.2.1 (hts _ K.1) (hts _ K.2.1) (hts _ K.2.2.1) (hts _ K.2.2.2) hf hlo hc hs hdg ?_
  have h2 : (if nI y < nI x then nI y else nI x) = nI (min x y) := by
    by_cases h : y < x
    · rw [if_pos ((nI_ltI hy hx).mpr h), Nat.min_eq_right (by omega)]
    · rw [if_neg (fun q => h ((nI_ltI hy hx).mp q)), Nat.min_eq_left (by omega)]
  rw [h2]
  exact kk
theorem r_mmax (C : Cx p s m args meth c cc nL ret own D cI cZ A) {index : Nat} (K : Cond.methodLink own index Lib.Math.max.name ∈ gw ∧ Cond.static Lib.Math.max.name ∈ gw ∧ Cond.initialized "java/lang/Math" ∈ gw ∧ Cond.code Lib.Math.max.name Lib.Math.max.code 2 (some .int) ∈ gw) (hls : ls.size = nL) (hf : 1 ≤ R.frames) (hlo : (rest.map fun v => v.category).sum + 13 ≤ R.locals) (hc : cells ≤ R.cells) (hs : slots ≤ R.slots) {x y : Nat} (hx : x < 2 ^ 31) (hy : y < 2 ^ 31) (hdg : decode cc pc = .ok (.invokestatic index, 3))
    (kk : W p l e R s m args below meth c H locs cells slots Q (F0 m (pc + 3) ls (.int (nI (max x y)) :: rest))) : W p l e R s m args below meth c H locs cells slots Q (F0 m pc ls (.int (nI y) :: .int (nI x) :: rest)) := by
  have hts := C.2.2.2.2.2.2.1
  refine va_mmax C.1 C.2.1 (C.2.2.1.trans hls.symm) C.2.2.2.2.2.1 (hts _ K.1) (hts _ K.2.1) (hts _ K.2.2.1) (hts _ K.2.2.2) hf hlo hc hs hdg ?_
  have h2 : (if nI x < nI y then nI y else nI x) = nI (max x y) := by
    by_cases h : x < y
    · rw [if_pos ((nI_ltI hx hy).mpr h), Nat.max_eq_right (by omega)]
    · rw [if_neg (fun q => h ((nI_ltI hx hy).mp q)), Nat.max_eq_left (by omega)]
  rw [h2]
  exact kk
theorem r_lmul (C : Cx p s m args meth c cc nL ret own D cI cZ A) {x y : Nat} (hdg : decode cc pc = .ok (.lmul, 1)) (k : W p l e R s m args below meth c H locs cells slots Q (F0 m (pc + 1) ls (.long (lN (x * y)) :: rest))) : W p l e R s m args below meth c H locs cells slots Q (F0 m pc ls (.long (lN y) :: .long (lN x) :: rest)) := lv_lmul C.1 C.2.1 hdg (by rw [lN_mul]; exact k)
theorem r_ladd (C : Cx p s m args meth c cc nL ret own D cI cZ A) {x y : Nat} (hdg : decode cc pc = .ok (.ladd, 1)) (k : W p l e R s m args below meth c H locs cells slots Q (F0 m (pc + 1) ls (.long (lN (x + y)) :: rest))) : W p l e R s m args below meth c H locs cells slots Q (F0 m pc ls (.long (lN y) :: .long (lN x) :: rest)) := lv_ladd C.1 C.2.1 hdg (by rw [lN_add]; exact k)
theorem r_lceq (C : Cx p s m args meth c cc nL ret own D cI cZ A) {x y tgt : Nat} {off : Int} (hd1 : decode cc pc = .ok (.lcmp, 1)) (hd2 : decode cc (pc + 1) = .ok (.ifCond .eq off, 3)) (ht : ((pc + 1 : Nat) : Int) + off = (tgt : Int)) (hx : x < 2 ^ 31) (hy : y < 2 ^ 31)
    (kt : x = y → W p l e R s m args below meth c H locs cells slots Q (F0 m tgt ls rest)) (kf : x ≠ y → W p l e R s m args below meth c H locs cells slots Q (F0 m (pc + 1 + 3) ls rest)) : W p l e R s m args below meth c H locs cells slots Q (F0 m pc ls (.long (lN y) :: .long (lN x) :: rest)) :=
  W.lcmp C.1 C.2.1 hd1 (lv_if_eq C.1 C.2.1 hd2 ht (fun h => kt ((lN_eq hx hy).mp ((lg_cmp_eq _ _).mp h))) (fun h => kf (fun q => h ((lg_cmp_eq _ _).mpr ((lN_eq hx hy).mpr q)))))
theorem r_lcle (C : Cx p s m args meth c cc nL ret own D cI cZ A) {x y tgt : Nat} {off : Int} (hd1 : decode cc pc = .ok (.lcmp, 1)) (hd2 : decode cc (pc + 1) = .ok (.ifCond .le off, 3)) (ht : ((pc + 1 : Nat) : Int) + off = (tgt : Int)) (hx : x < 2 ^ 31) (hy : y < 2 ^ 31)
    (kt : x ≤ y → W p l e R s m args below meth c H locs cells slots Q (F0 m tgt ls rest)) (kf : y < x → W p l e R s m args below meth c H locs cells slots Q (F0 m (pc + 1 + 3) ls rest)) : W p l e R s m args below meth c H locs cells slots Q (F0 m pc ls (.long (lN y) :: .long (lN x) :: rest)) :=
  W.lcmp C.1 C.2.1 hd1 (lv_if_le C.1 C.2.1 hd2 ht (fun h => kt ((lN_le hx hy).mp ((lg_cmp_le _ _).mp h))) (fun h => kf (Nat.lt_of_not_le (fun q => h ((lg_cmp_le _ _).mpr ((lN_le hx hy).mpr q))))))
theorem r_lclt (C : Cx p s m args meth c cc nL ret own D cI cZ A) {x y tgt : Nat} {off : Int} (hd1 : decode cc pc = .ok (.lcmp, 1)) (hd2 : decode cc (pc + 1) = .ok (.ifCond .lt off, 3)) (ht : ((pc + 1 : Nat) : Int) + off = (tgt : Int)) (hx : x < 2 ^ 31) (hy : y < 2 ^ 31)
    (kt : x < y → W p l e R s m args below meth c H locs cells slots Q (F0 m tgt ls rest)) (kf : y ≤ x → W p l e R s m args below meth c H locs cells slots Q (F0 m (pc + 1 + 3) ls rest)) : W p l e R s m args below meth c H locs cells slots Q (F0 m pc ls (.long (lN y) :: .long (lN x) :: rest)) :=
  W.lcmp C.1 C.2.1 hd1 (lv_if_lt C.1 C.2.1 hd2 ht (fun h => kt ((lN_lt hx hy).mp ((lg_cmp_lt _ _).mp h))) (fun h => kf (Nat.le_of_not_lt (fun q => h ((lg_cmp_lt _ _).mpr ((lN_lt hx hy).mpr q))))))
theorem r_lcge (C : Cx p s m args meth c cc nL ret own D cI cZ A) {x y tgt : Nat} {off : Int} (hd1 : decode cc pc = .ok (.lcmp, 1)) (hd2 : decode cc (pc + 1) = .ok (.ifCond .ge off, 3)) (ht : ((pc + 1 : Nat) : Int) + off = (tgt : Int)) (hx : x < 2 ^ 31) (hy : y < 2 ^ 31)
    (kt : y ≤ x → W p l e R s m args below meth c H locs cells slots Q (F0 m tgt ls rest)) (kf : x < y → W p l e R s m args below meth c H locs cells slots Q (F0 m (pc + 1 + 3) ls rest)) : W p l e R s m args below meth c H locs cells slots Q (F0 m pc ls (.long (lN y) :: .long (lN x) :: rest)) :=
  W.lcmp C.1 C.2.1 hd1 (lv_if_ge C.1 C.2.1 hd2 ht (fun h => kt ((lN_le hy hx).mp ((lg_cmp_ge _ _).mp h))) (fun h => kf (Nat.lt_of_not_le (fun q => h ((lg_cmp_ge _ _).mpr ((lN_le hy hx).mpr q))))))
theorem Wd.reArr {a n : Nat} {cA : ClassId} {f g : Nat → Int32} {H0 : Heap} (Z : Wd D A H0 ws H locs) (q0 : Nat) (he : ws[q0]? = some (a, .inl (cA, n, .inl f))) (hfg : ∀ j, j < n → f j = g j) (hw : ws.set q0 (a, .inl (cA, n, .inl g)) = ws') : Wd D A H0 ws' H locs := by
  subst hw
  refine ⟨Z.1.set Z.2.1 he ?_ (fun _ _ => rfl), Z.2.1.set he, Z.2.2⟩
  have h := Z.1 q0 _ he
  show H[a]? = some (vp_cell cA (n, .inl g))
  have h2 : H[a]? = some (vp_cell cA (n, .inl f)) := h
  rw [h2, vp_cell_i, vp_cell_i]
  unfold arrV
  congr 2
  congr 1
  funext j
  show Value.int (f j.val) = Value.int (g j.val)
  rw [hfg j.val j.isLt]
end ROWS
end
section
/-! CALLS: a callee's cells are cut out of the world, come back, and the world stands in its order again. -/
theorem fm_of {α β : Type} {f : α → Option β} {is : List α} {w : List β} (h : is.map f = w.map some) : is.filterMap f = w := by
  have h1 : (is.map f).filterMap id = is.filterMap f := by rw [List.filterMap_map]; rfl
  rw [← h1, h, List.filterMap_map]
  simp
def plainY (y : MethodName) (n : Nat) : Prop := y.cls ≠ "java/lang/invoke/MethodHandle" ∧ y.cls ≠ "java/lang/invoke/VarHandle" ∧ (parseMethodDescriptor y.desc).map (fun d => d.parameters.length) = some n
/-- a call by a class's own (or a public) link: virtual, static, a constructor; of a nest mate -/
def Kv (own : String) (index : Nat) (y : MethodName) (cc : ByteArray) (nL : Nat) (ret : Option FieldType) (n : Nat) : Prop := Cond.methodLink own index y ∈ gw ∧ Cond.instanceMethod y ∈ gw ∧ Cond.selects y.cls y y ∈ gw ∧ Cond.initialized y.cls ∈ gw ∧ Cond.code y cc nL ret ∈ gw ∧ plainY y n
def Kn (own : String) (index : Nat) (y : MethodName) (cc : ByteArray) (nL : Nat) (ret : Option FieldType) (n : Nat) : Prop := (∃ host, Cond.methodLinkNest own index y host ∈ nw) ∧ Cond.instanceMethod y ∈ gw ∧ Cond.selects y.cls y y ∈ gw ∧ Cond.initialized y.cls ∈ gw ∧ Cond.code y cc nL ret ∈ gw ∧ plainY y n
def Ks (own : String) (index : Nat) (y : MethodName) (cc : ByteArray) (nL : Nat) (ret : Option FieldType) (n : Nat) : Prop := Cond.methodLink own index y ∈ gw ∧ Cond.static y ∈ gw ∧ Cond.initialized y.cls ∈ gw ∧ Cond.code y cc nL ret ∈ gw ∧ plainY y n
def Ki (own : String) (index : Nat) (y : MethodName) (cc : ByteArray) (nL n : Nat) : Prop := Cond.methodLink own index y ∈ gw ∧ Cond.instanceMethod y ∈ gw ∧ Cond.initialized y.cls ∈ gw ∧ Cond.code y cc nL none ∈ gw ∧ plainY y n ∧ y.name = "<init>"
def Kj (own : String) (index : Nat) (y : MethodName) (cc : ByteArray) (nL n : Nat) : Prop := (∃ host, Cond.methodLinkNest own index y host ∈ nw) ∧ Cond.instanceMethod y ∈ gw ∧ Cond.initialized y.cls ∈ gw ∧ Cond.code y cc nL none ∈ gw ∧ plainY y n ∧ y.name = "<init>"
section CALLS
variable {p : Program} {l : Launch} {e : Env} {R : Room} {s : State} {m : MethodId} {args : Array Value} {below : List Frame} {meth : Method} {c : Code} {H : Heap} {locs : List Loc} {cells slots : Nat} {Q : State → Prop}
variable {cc : ByteArray} {pc nL : Nat} {ret : Option FieldType} {own : String} {ls : Array Slot} {rest st0 : List Value} {D : va_G} {cI cZ : ClassId} {A : Nat → Prop} {ws wc wr : va_W}
variable {S : Type} {y : MethodName} {cc' : ByteArray} {nL' n index mc ms : Nat} {ret' : Option FieldType} {rm' : Room} {b : Nat} {As : List Value} {wo wn : S → va_W}
/-- behind a call: the int's -/
theorem r_backi {post : Int32 → S → Prop} {a : Array Value} (C : Cx p s m args meth c cc nL ret own D cI cZ A) (Z : Wd D A s.heap ws H locs) (isC isR isN : List Nat) (hC : isC.map (fun i => ws[i]?) = wc.map some) (hRr : isR.map (fun i => ws[i]?) = wr.map some) (hnd : va_nd isR = true) (hdis : ∀ i ∈ isR, i ∉ isC) (hndN : va_nd isN = true) (hN : ∀ u, isN.map (fun i => (wr ++ wo u)[i]?) = (wn u).map some)
    (hr : va_Run p l e R s m args below meth c H locs cells slots 0 0 (F0 m pc ls st0) rest (va_Qi post (BS D wo (va_A wc H.size)) (va_A wc H.size) a) (va_A wc H.size))
    (kk : ∀ (r : Int32) (u : S) (H1 : Heap) (locs1 : List Loc), post r u → Wd D A s.heap (wn u) H1 locs1 → W p l e R s m args below meth c H1 locs1 cells slots Q (F0 m (pc + 3) ls (.int r :: rest))) : W p l e R s m args below meth c H locs cells slots Q (F0 m pc ls st0) := by
  have hFc := va_free (wc := wc) Z.2.1 Z.2.2 C.2.2.2.2.2.2.2.2 isC hC
  refine va_calli hr Z.2.2 (fun q _ h => hFc q h) hFc (fun r u t H1 locs1 ht hvm hw hB hz1 hk1 hS => ?_)
  obtain ⟨hP1, hD1⟩ := hB
  rw [ht] at hP1
  obtain ⟨hPj, hDj⟩ := va_join Z.1 Z.2.1 isC isR hC hRr hnd hdis hk1 hFc hP1 hD1
  exact kk r u H1 locs1 hw ⟨hPj.sub isN (fm_of (hN u)), hDj.sub isN hndN (hN u), hS⟩
theorem r_backv {post : S → Prop} {a : Array Value} (C : Cx p s m args meth c cc nL ret own D cI cZ A) (Z : Wd D A s.heap ws H locs) (isC isR isN : List Nat) (hC : isC.map (fun i => ws[i]?) = wc.map some) (hRr : isR.map (fun i => ws[i]?) = wr.map some) (hnd : va_nd isR = true) (hdis : ∀ i ∈ isR, i ∉ isC) (hndN : va_nd isN = true) (hN : ∀ u, isN.map (fun i => (wr ++ wo u)[i]?) = (wn u).map some)
    (hr : va_Run p l e R s m args below meth c H locs cells slots mc ms (F0 m pc ls st0) rest (va_Qv post (BS D wo (va_A wc H.size)) (va_A wc H.size) a) (va_A wc H.size))
    (kk : ∀ (u : S) (H1 : Heap) (locs1 : List Loc), post u → Wd D A s.heap (wn u) H1 locs1 → W p l e R s m args below meth c H1 locs1 (cells + mc) (slots + ms) Q (F0 m (pc + 3) ls rest)) : W p l e R s m args below meth c H locs cells slots Q (F0 m pc ls st0) := by
  have hFc := va_free (wc := wc) Z.2.1 Z.2.2 C.2.2.2.2.2.2.2.2 isC hC
  refine va_callv hr Z.2.2 (fun q _ h => hFc q h) hFc (fun u t H1 locs1 ht hvm hw hB hz1 hk1 hS => ?_)
  obtain ⟨hP1, hD1⟩ := hB
  rw [ht] at hP1
  obtain ⟨hPj, hDj⟩ := va_join Z.1 Z.2.1 isC isR hC hRr hnd hdis hk1 hFc hP1 hD1
  exact kk u H1 locs1 hw ⟨hPj.sub isN (fm_of (hN u)), hDj.sub isN hndN (hN u), hS⟩
/-- what a callee's start wants -/
theorem prex (C : Cx p s m args meth c cc nL ret own D cI cZ A) (Z : Wd D A s.heap ws H locs) (isC : List Nat) (hndC : va_nd isC = true) (hC : isC.map (fun i => ws[i]?) = wc.map some) (av : List Value) : PreS s H (PcS D cI cZ av wc H.size) av := by
  have hPc := Z.1.sub isC (fm_of hC)
  have hDc := Z.2.1.sub isC hndC hC
  exact ⟨PcS.blind, fun U hU hW => ⟨rfl, by rw [hU], by rw [hU]; exact hPc, C.2.2.2.2.2.2.2.1.warm hW, hDc.weaken (fun _ _ _ _ => trivial)⟩⟩
theorem rcvx (C : Cx p s m args meth c cc nL ret own D cI cZ A) (Z : Wd D A s.heap ws H locs) (q1 : Nat) {ci : Nat} {fs : List Value} {T : u_T} {N : Nat} {Cn : String} (he : ws[q1]? = some (b, .inr (ci, fs))) (hcl : classes[ci]? = some (Cn, T, N)) : ∃ cellB : Cell, H[b]? = some cellB ∧ cellB.vm.isStatics = false ∧ s.vm.findClass Cn = some cellB.cls := va_recv C.2.2.2.2.2.2.2.1.1 Z.1 hcl he
theorem r_callVi {post : Int32 → S → Prop} (C : Cx p s m args meth c cc nL ret own D cI cZ A) (Z : Wd D A s.heap ws H locs) (hM : Mi l y cc' nL' ret' rm' D cI cZ (.ref b :: As) wc post wo) (K : Kv own index y cc' nL' ret' n) (hn : As.length = n) (hR : rm'.frames + 1 ≤ R.frames ∧ 8 + (nL' + 11) + rm'.locals ≤ R.locals) (hc0 : rm'.cells = 0 ∧ rm'.slots = 0)
    (isC isR isN : List Nat) (hndC : va_nd isC = true) (hC : isC.map (fun i => ws[i]?) = wc.map some) (hRr : isR.map (fun i => ws[i]?) = wr.map some) (hnd : va_nd isR = true) (hdis : ∀ i ∈ isR, i ∉ isC) (hndN : va_nd isN = true) (hN : ∀ u, isN.map (fun i => (wr ++ wo u)[i]?) = (wn u).map some)
    (q1 : Nat) {ci : Nat} {fs : List Value} {T : u_T} {N : Nat} (he : ws[q1]? = some (b, .inr (ci, fs))) (hcl : classes[ci]? = some (y.cls, T, N)) (hls : ls.size = nL) (hst : st0 = As.reverse ++ .ref b :: rest) (hrm : (rest.map fun v => v.category).sum ≤ 8) (hdg : decode cc pc = .ok (.invokevirtual index, 3)) (hcs : cells ≤ R.cells ∧ slots ≤ R.slots)
    (kk : ∀ (r : Int32) (u : S) (H1 : Heap) (locs1 : List Loc), post r u → Wd D A s.heap (wn u) H1 locs1 → W p l e R s m args below meth c H1 locs1 cells slots Q (F0 m (pc + 3) ls (.int r :: rest))) : W p l e R s m args below meth c H locs cells slots Q (F0 m pc ls st0) := by
  have hp := prex C Z isC hndC hC (.ref b :: As)
  have hv := rcvx C Z q1 he hcl
  obtain ⟨k1, k2, k3, k4, k5, k6⟩ := K
  have hts := C.2.2.2.2.2.2.1
  exact r_backi C Z isC isR isN hC hRr hnd hdis hndN hN (va_runV (As := As) (rest := rest) (n := n) (C := y.cls) ⟨C.1, C.2.1, C.2.2.1, C.2.2.2.2.2.1, hts⟩ (hM H.size) ⟨callB_of n hts (gi_gw (fun _ h => h) k5) rfl hc0.1 hc0.2 (hts _ k4) (hts _ k1) k6 hR, hts _ k2, hts _ k3⟩ ⟨hp.1, hv, hp.2⟩ rfl hn hls hst (lv_room hrm) hdg hcs) kk
theorem r_callNi {post : Int32 → S → Prop} (C : Cx p s m args meth c cc nL ret own D cI cZ A) (Z : Wd D A s.heap ws H locs) (hM : Mi l y cc' nL' ret' rm' D cI cZ (.ref b :: As) wc post wo) (K : Kn own index y cc' nL' ret' n) (hn : As.length = n) (hR : rm'.frames + 1 ≤ R.frames ∧ 8 + (nL' + 11) + rm'.locals ≤ R.locals) (hc0 : rm'.cells = 0 ∧ rm'.slots = 0)
    (isC isR isN : List Nat) (hndC : va_nd isC = true) (hC : isC.map (fun i => ws[i]?) = wc.map some) (hRr : isR.map (fun i => ws[i]?) = wr.map some) (hnd : va_nd isR = true) (hdis : ∀ i ∈ isR, i ∉ isC) (hndN : va_nd isN = true) (hN : ∀ u, isN.map (fun i => (wr ++ wo u)[i]?) = (wn u).map some)
    (q1 : Nat) {ci : Nat} {fs : List Value} {T : u_T} {N : Nat} (he : ws[q1]? = some (b, .inr (ci, fs))) (hcl : classes[ci]? = some (y.cls, T, N)) (hls : ls.size = nL) (hst : st0 = As.reverse ++ .ref b :: rest) (hrm : (rest.map fun v => v.category).sum ≤ 8) (hdg : decode cc pc = .ok (.invokevirtual index, 3)) (hcs : cells ≤ R.cells ∧ slots ≤ R.slots)
    (kk : ∀ (r : Int32) (u : S) (H1 : Heap) (locs1 : List Loc), post r u → Wd D A s.heap (wn u) H1 locs1 → W p l e R s m args below meth c H1 locs1 cells slots Q (F0 m (pc + 3) ls (.int r :: rest))) : W p l e R s m args below meth c H locs cells slots Q (F0 m pc ls st0) := by
  have hp := prex C Z isC hndC hC (.ref b :: As)
  have hv := rcvx C Z q1 he hcl
  obtain ⟨⟨host, k1⟩, k2, k3, k4, k5, k6⟩ := K
  have hts := C.2.2.2.2.2.2.1
  have hK := C.2.2.2.2.2.2.2.1
  exact r_backi C Z isC isR isN hC hRr hnd hdis hndN hN (va_runVN (As := As) (rest := rest) (n := n) (C := y.cls) ⟨C.1, C.2.1, C.2.2.1, C.2.2.2.2.2.1, hts⟩ (hM H.size) ⟨va_cnB n hts (gi_gw (fun _ h => h) k5) rfl hc0.1 hc0.2 (hK.2 _ k1) (hts _ k4) k6 hR, hts _ k2, hts _ k3⟩ ⟨hp.1, hv, hp.2⟩ rfl hn hls hst (lv_room hrm) hdg hcs) kk
theorem r_callSi {post : Int32 → S → Prop} (C : Cx p s m args meth c cc nL ret own D cI cZ A) (Z : Wd D A s.heap ws H locs) (hM : Mi l y cc' nL' ret' rm' D cI cZ As wc post wo) (K : Ks own index y cc' nL' ret' n) (hn : As.length = n) (hR : rm'.frames + 1 ≤ R.frames ∧ 8 + (nL' + 11) + rm'.locals ≤ R.locals) (hc0 : rm'.cells = 0 ∧ rm'.slots = 0)
    (isC isR isN : List Nat) (hndC : va_nd isC = true) (hC : isC.map (fun i => ws[i]?) = wc.map some) (hRr : isR.map (fun i => ws[i]?) = wr.map some) (hnd : va_nd isR = true) (hdis : ∀ i ∈ isR, i ∉ isC) (hndN : va_nd isN = true) (hN : ∀ u, isN.map (fun i => (wr ++ wo u)[i]?) = (wn u).map some)
    (hls : ls.size = nL) (hst : st0 = As.reverse ++ rest) (hrm : (rest.map fun v => v.category).sum ≤ 8) (hdg : decode cc pc = .ok (.invokestatic index, 3)) (hcs : cells ≤ R.cells ∧ slots ≤ R.slots)
    (kk : ∀ (r : Int32) (u : S) (H1 : Heap) (locs1 : List Loc), post r u → Wd D A s.heap (wn u) H1 locs1 → W p l e R s m args below meth c H1 locs1 cells slots Q (F0 m (pc + 3) ls (.int r :: rest))) : W p l e R s m args below meth c H locs cells slots Q (F0 m pc ls st0) := by
  have hp := prex C Z isC hndC hC As
  obtain ⟨k1, k2, k4, k5, k6⟩ := K
  have hts := C.2.2.2.2.2.2.1
  exact r_backi C Z isC isR isN hC hRr hnd hdis hndN hN (va_runS (As := As) (rest := rest) (n := n) ⟨C.1, C.2.1, C.2.2.1, C.2.2.2.2.2.1, hts⟩ (hM H.size) ⟨callB_of n hts (gi_gw (fun _ h => h) k5) rfl hc0.1 hc0.2 (hts _ k4) (hts _ k1) k6 hR, hts _ k2⟩ hp rfl hn hls hst (lv_room hrm) hdg hcs) kk
theorem r_callVv {post : S → Prop} (C : Cx p s m args meth c cc nL ret own D cI cZ A) (Z : Wd D A s.heap ws H locs) (hM : Mv l y cc' nL' rm' D cI cZ (.ref b :: As) wc post wo 0 0) (K : Kv own index y cc' nL' none n) (hn : As.length = n) (hR : rm'.frames + 1 ≤ R.frames ∧ 8 + (nL' + 11) + rm'.locals ≤ R.locals) (hc0 : rm'.cells = 0 ∧ rm'.slots = 0)
    (isC isR isN : List Nat) (hndC : va_nd isC = true) (hC : isC.map (fun i => ws[i]?) = wc.map some) (hRr : isR.map (fun i => ws[i]?) = wr.map some) (hnd : va_nd isR = true) (hdis : ∀ i ∈ isR, i ∉ isC) (hndN : va_nd isN = true) (hN : ∀ u, isN.map (fun i => (wr ++ wo u)[i]?) = (wn u).map some)
    (q1 : Nat) {ci : Nat} {fs : List Value} {T : u_T} {N : Nat} (he : ws[q1]? = some (b, .inr (ci, fs))) (hcl : classes[ci]? = some (y.cls, T, N)) (hls : ls.size = nL) (hst : st0 = As.reverse ++ .ref b :: rest) (hrm : (rest.map fun v => v.category).sum ≤ 8) (hdg : decode cc pc = .ok (.invokevirtual index, 3)) (hcs : cells ≤ R.cells ∧ slots ≤ R.slots)
    (kk : ∀ (u : S) (H1 : Heap) (locs1 : List Loc), post u → Wd D A s.heap (wn u) H1 locs1 → W p l e R s m args below meth c H1 locs1 cells slots Q (F0 m (pc + 3) ls rest)) : W p l e R s m args below meth c H locs cells slots Q (F0 m pc ls st0) := by
  have hp := prex C Z isC hndC hC (.ref b :: As)
  have hv := rcvx C Z q1 he hcl
  obtain ⟨k1, k2, k3, k4, k5, k6⟩ := K
  have hts := C.2.2.2.2.2.2.1
  exact r_backv C Z isC isR isN hC hRr hnd hdis hndN hN (va_runV (As := As) (rest := rest) (n := n) (C := y.cls) ⟨C.1, C.2.1, C.2.2.1, C.2.2.2.2.2.1, hts⟩ (hM H.size) ⟨callB_of n hts (gi_gw (fun _ h => h) k5) rfl hc0.1 hc0.2 (hts _ k4) (hts _ k1) k6 hR, hts _ k2, hts _ k3⟩ ⟨hp.1, hv, hp.2⟩ rfl hn hls hst (lv_room hrm) hdg hcs) kk
theorem r_callNv {post : S → Prop} (C : Cx p s m args meth c cc nL ret own D cI cZ A) (Z : Wd D A s.heap ws H locs) (hM : Mv l y cc' nL' rm' D cI cZ (.ref b :: As) wc post wo 0 0) (K : Kn own index y cc' nL' none n) (hn : As.length = n) (hR : rm'.frames + 1 ≤ R.frames ∧ 8 + (nL' + 11) + rm'.locals ≤ R.locals) (hc0 : rm'.cells = 0 ∧ rm'.slots = 0)
    (isC isR isN : List Nat) (hndC : va_nd isC = true) (hC : isC.map (fun i => ws[i]?) = wc.map some) (hRr : isR.map (fun i => ws[i]?) = wr.map some) (hnd : va_nd isR = true) (hdis : ∀ i ∈ isR, i ∉ isC) (hndN : va_nd isN = true) (hN : ∀ u, isN.map (fun i => (wr ++ wo u)[i]?) = (wn u).map some)
    (q1 : Nat) {ci : Nat} {fs : List Value} {T : u_T} {N : Nat} (he : ws[q1]? = some (b, .inr (ci, fs))) (hcl : classes[ci]? = some (y.cls, T, N)) (hls : ls.size = nL) (hst : st0 = As.reverse ++ .ref b :: rest) (hrm : (rest.map fun v => v.category).sum ≤ 8) (hdg : decode cc pc = .ok (.invokevirtual index, 3)) (hcs : cells ≤ R.cells ∧ slots ≤ R.slots)
    (kk : ∀ (u : S) (H1 : Heap) (locs1 : List Loc), post u → Wd D A s.heap (wn u) H1 locs1 → W p l e R s m args below meth c H1 locs1 cells slots Q (F0 m (pc + 3) ls rest)) : W p l e R s m args below meth c H locs cells slots Q (F0 m pc ls st0) := by
  have hp := prex C Z isC hndC hC (.ref b :: As)
  have hv := rcvx C Z q1 he hcl
  obtain ⟨⟨host, k1⟩, k2, k3, k4, k5, k6⟩ := K
  have hts := C.2.2.2.2.2.2.1
  have hK := C.2.2.2.2.2.2.2.1
  exact r_backv C Z isC isR isN hC hRr hnd hdis hndN hN (va_runVN (As := As) (rest := rest) (n := n) (C := y.cls) ⟨C.1, C.2.1, C.2.2.1, C.2.2.2.2.2.1, hts⟩ (hM H.size) ⟨va_cnB n hts (gi_gw (fun _ h => h) k5) rfl hc0.1 hc0.2 (hK.2 _ k1) (hts _ k4) k6 hR, hts _ k2, hts _ k3⟩ ⟨hp.1, hv, hp.2⟩ rfl hn hls hst (lv_room hrm) hdg hcs) kk
end CALLS
end
section
theorem gwT {w : Cond} {i : Nat} (h : tables_1[i]? = some w) (g : goodWord w = true) : w ∈ gw := gw_in (List.mem_append_right _ (List.mem_of_getElem? h)) g
theorem gwS {w : Cond} {i : Nat} (h : (k2_sels lw_privs)[i]? = some w) (g : goodWord w = true) : w ∈ gw := gw_in (List.mem_append_left _ (List.mem_of_getElem? h)) g
theorem nwT {w : Cond} {i : Nat} (h : tables_1[i]? = some w) (g : isNest w = true) : w ∈ nw := nw_in (List.mem_append_right _ (List.mem_of_getElem? h)) g
theorem u_Desk_in : ∀ w ∈ u_ws R_Desk F_Desk 14, w ∈ gw := by decide +kernel
theorem gi_Desk : Cond.initialized "EntityDesk" ∈ gw := gwT (i := 1) (by decide +kernel) rfl
theorem u_Ents_in : ∀ w ∈ u_ws R_Ents F_Ents 6, w ∈ gw := by decide +kernel
theorem gi_Ents : Cond.initialized "EntityDesk$Entities" ∈ gw := gwT (i := 2) (by decide +kernel) rfl
theorem u_Reader_in : ∀ w ∈ u_ws R_Reader F_Reader 3, w ∈ gw := by decide +kernel
theorem gi_Reader : Cond.initialized "EntityDesk$Reader" ∈ gw := gwT (i := 3) (by decide +kernel) rfl
theorem u_Model_in : ∀ w ∈ u_ws R_Model F_Model 24, w ∈ gw := by decide +kernel
theorem gi_Model : Cond.initialized "EntityDeskModel" ∈ gw := gwT (i := 4) (by decide +kernel) rfl
theorem gi_Math : Cond.initialized "java/lang/Math" ∈ gw := gwT (i := 5) (by decide +kernel) rfl
theorem ga_I : Cond.arrayClass .int ∈ gw := gwT (i := 42) (by decide +kernel) rfl
theorem ga_Z : Cond.arrayClass .boolean ∈ gw := gwT (i := 104) (by decide +kernel) rfl
theorem gc_Desk_init : Cond.code y_Desk_init b_Desk_init 1 none ∈ gw := gwT (i := 10) rfl rfl
theorem gm_Desk_init : Cond.instanceMethod y_Desk_init ∈ gw := gwT (i := 9) (by decide +kernel) rfl
theorem gp_Desk_init : plainY y_Desk_init 0 := ⟨by decide, by decide, by decide +kernel⟩
theorem gc_Ents_init : Cond.code y_Ents_init b_Ents_init 2 none ∈ gw := gwT (i := 18) rfl rfl
theorem gm_Ents_init : Cond.instanceMethod y_Ents_init ∈ gw := gwT (i := 17) (by decide +kernel) rfl
theorem gp_Ents_init : plainY y_Ents_init 0 := ⟨by decide, by decide, by decide +kernel⟩
theorem gc_Reader_init : Cond.code y_Reader_init b_Reader_init 1 none ∈ gw := gwT (i := 47) rfl rfl
theorem gm_Reader_init : Cond.instanceMethod y_Reader_init ∈ gw := gwT (i := 46) (by decide +kernel) rfl
theorem gp_Reader_init : plainY y_Reader_init 0 := ⟨by decide, by decide, by decide +kernel⟩
theorem gc_Desk_put : Cond.code y_Desk_put b_Desk_put 5 (some .boolean) ∈ gw := gwT (i := 108) rfl rfl
theorem gm_Desk_put : Cond.instanceMethod y_Desk_put ∈ gw := gwT (i := 106) (by decide +kernel) rfl
theorem gl_Desk_put : Cond.selects "EntityDesk" y_Desk_put y_Desk_put ∈ gw := gwT (i := 107) (by decide +kernel) rfl
theorem gp_Desk_put : plainY y_Desk_put 2 := ⟨by decide, by decide, by decide +kernel⟩
theorem gc_Desk_declare : Cond.code y_Desk_declare b_Desk_declare 3 (some .int) ∈ gw := gwT (i := 112) rfl rfl
theorem gm_Desk_declare : Cond.instanceMethod y_Desk_declare ∈ gw := gwT (i := 110) (by decide +kernel) rfl
theorem gl_Desk_declare : Cond.selects "EntityDesk" y_Desk_declare y_Desk_declare ∈ gw := gwT (i := 111) (by decide +kernel) rfl
theorem gp_Desk_declare : plainY y_Desk_declare 1 := ⟨by decide, by decide, by decide +kernel⟩
theorem gc_Desk_isName : Cond.code y_Desk_isName b_Desk_isName 1 (some .boolean) ∈ gw := gwT (i := 115) rfl rfl
theorem gs_Desk_isName : Cond.static y_Desk_isName ∈ gw := gwT (i := 114) (by decide +kernel) rfl
theorem gp_Desk_isName : plainY y_Desk_isName 1 := ⟨by decide, by decide, by decide +kernel⟩
theorem gc_Desk_beginReading : Cond.code y_Desk_beginReading b_Desk_beginReading 1 none ∈ gw := gwT (i := 119) rfl rfl
theorem gm_Desk_beginReading : Cond.instanceMethod y_Desk_beginReading ∈ gw := gwT (i := 118) (by decide +kernel) rfl
theorem gl_Desk_beginReading : Cond.selects "EntityDesk" y_Desk_beginReading y_Desk_beginReading ∈ gw := gwS (i := 0) (by decide +kernel) rfl
theorem gp_Desk_beginReading : plainY y_Desk_beginReading 0 := ⟨by decide, by decide, by decide +kernel⟩
theorem gc_Reader_begin : Cond.code y_Reader_begin b_Reader_begin 1 none ∈ gw := gwT (i := 123) rfl rfl
theorem gm_Reader_begin : Cond.instanceMethod y_Reader_begin ∈ gw := gwT (i := 122) (by decide +kernel) rfl
theorem gl_Reader_begin : Cond.selects "EntityDesk$Reader" y_Reader_begin y_Reader_begin ∈ gw := gwS (i := 1) (by decide +kernel) rfl
theorem gp_Reader_begin : plainY y_Reader_begin 0 := ⟨by decide, by decide, by decide +kernel⟩
theorem gc_Ents_has : Cond.code y_Ents_has b_Ents_has 2 (some .boolean) ∈ gw := gwT (i := 127) rfl rfl
theorem gm_Ents_has : Cond.instanceMethod y_Ents_has ∈ gw := gwT (i := 126) (by decide +kernel) rfl
theorem gl_Ents_has : Cond.selects "EntityDesk$Entities" y_Ents_has y_Ents_has ∈ gw := gwS (i := 2) (by decide +kernel) rfl
theorem gp_Ents_has : plainY y_Ents_has 1 := ⟨by decide, by decide, by decide +kernel⟩
theorem gc_Desk_draftText : Cond.code y_Desk_draftText b_Desk_draftText 3 none ∈ gw := gwT (i := 131) rfl rfl
theorem gm_Desk_draftText : Cond.instanceMethod y_Desk_draftText ∈ gw := gwT (i := 130) (by decide +kernel) rfl
theorem gl_Desk_draftText : Cond.selects "EntityDesk" y_Desk_draftText y_Desk_draftText ∈ gw := gwS (i := 3) (by decide +kernel) rfl
theorem gp_Desk_draftText : plainY y_Desk_draftText 1 := ⟨by decide, by decide, by decide +kernel⟩
theorem gc_Ents_beginDraft : Cond.code y_Ents_beginDraft b_Ents_beginDraft 1 none ∈ gw := gwT (i := 135) rfl rfl
theorem gm_Ents_beginDraft : Cond.instanceMethod y_Ents_beginDraft ∈ gw := gwT (i := 134) (by decide +kernel) rfl
theorem gl_Ents_beginDraft : Cond.selects "EntityDesk$Entities" y_Ents_beginDraft y_Ents_beginDraft ∈ gw := gwS (i := 4) (by decide +kernel) rfl
theorem gp_Ents_beginDraft : plainY y_Ents_beginDraft 0 := ⟨by decide, by decide, by decide +kernel⟩
theorem gc_Reader_isWithin : Cond.code y_Reader_isWithin b_Reader_isWithin 1 (some .boolean) ∈ gw := gwT (i := 139) rfl rfl
theorem gm_Reader_isWithin : Cond.instanceMethod y_Reader_isWithin ∈ gw := gwT (i := 138) (by decide +kernel) rfl
theorem gl_Reader_isWithin : Cond.selects "EntityDesk$Reader" y_Reader_isWithin y_Reader_isWithin ∈ gw := gwS (i := 5) (by decide +kernel) rfl
theorem gp_Reader_isWithin : plainY y_Reader_isWithin 0 := ⟨by decide, by decide, by decide +kernel⟩
theorem gc_Desk_draftCharacter : Cond.code y_Desk_draftCharacter b_Desk_draftCharacter 4 none ∈ gw := gwT (i := 143) rfl rfl
theorem gm_Desk_draftCharacter : Cond.instanceMethod y_Desk_draftCharacter ∈ gw := gwT (i := 142) (by decide +kernel) rfl
theorem gl_Desk_draftCharacter : Cond.selects "EntityDesk" y_Desk_draftCharacter y_Desk_draftCharacter ∈ gw := gwS (i := 6) (by decide +kernel) rfl
theorem gp_Desk_draftCharacter : plainY y_Desk_draftCharacter 2 := ⟨by decide, by decide, by decide +kernel⟩
theorem gc_Desk_readOn : Cond.code y_Desk_readOn b_Desk_readOn 4 (some .int) ∈ gw := gwT (i := 147) rfl rfl
theorem gm_Desk_readOn : Cond.instanceMethod y_Desk_readOn ∈ gw := gwT (i := 146) (by decide +kernel) rfl
theorem gl_Desk_readOn : Cond.selects "EntityDesk" y_Desk_readOn y_Desk_readOn ∈ gw := gwS (i := 7) (by decide +kernel) rfl
theorem gp_Desk_readOn : plainY y_Desk_readOn 2 := ⟨by decide, by decide, by decide +kernel⟩
theorem gc_Reader_read : Cond.code y_Reader_read b_Reader_read 2 (some .int) ∈ gw := gwT (i := 151) rfl rfl
theorem gm_Reader_read : Cond.instanceMethod y_Reader_read ∈ gw := gwT (i := 150) (by decide +kernel) rfl
theorem gl_Reader_read : Cond.selects "EntityDesk$Reader" y_Reader_read y_Reader_read ∈ gw := gwS (i := 8) (by decide +kernel) rfl
theorem gp_Reader_read : plainY y_Reader_read 1 := ⟨by decide, by decide, by decide +kernel⟩
theorem gc_Reader_readBehindAmpersand : Cond.code y_Reader_readBehindAmpersand b_Reader_readBehindAmpersand 2 (some .int) ∈ gw := gwT (i := 155) rfl rfl
theorem gm_Reader_readBehindAmpersand : Cond.instanceMethod y_Reader_readBehindAmpersand ∈ gw := gwT (i := 154) (by decide +kernel) rfl
theorem gl_Reader_readBehindAmpersand : Cond.selects "EntityDesk$Reader" y_Reader_readBehindAmpersand y_Reader_readBehindAmpersand ∈ gw := gwS (i := 9) (by decide +kernel) rfl
theorem gp_Reader_readBehindAmpersand : plainY y_Reader_readBehindAmpersand 1 := ⟨by decide, by decide, by decide +kernel⟩
theorem gc_Reader_goOn : Cond.code y_Reader_goOn b_Reader_goOn 2 (some .int) ∈ gw := gwT (i := 159) rfl rfl
theorem gm_Reader_goOn : Cond.instanceMethod y_Reader_goOn ∈ gw := gwT (i := 158) (by decide +kernel) rfl
theorem gl_Reader_goOn : Cond.selects "EntityDesk$Reader" y_Reader_goOn y_Reader_goOn ∈ gw := gwS (i := 10) (by decide +kernel) rfl
theorem gp_Reader_goOn : plainY y_Reader_goOn 1 := ⟨by decide, by decide, by decide +kernel⟩
theorem gc_Reader_finish : Cond.code y_Reader_finish b_Reader_finish 2 (some .int) ∈ gw := gwT (i := 163) rfl rfl
theorem gm_Reader_finish : Cond.instanceMethod y_Reader_finish ∈ gw := gwT (i := 162) (by decide +kernel) rfl
theorem gl_Reader_finish : Cond.selects "EntityDesk$Reader" y_Reader_finish y_Reader_finish ∈ gw := gwS (i := 11) (by decide +kernel) rfl
theorem gp_Reader_finish : plainY y_Reader_finish 1 := ⟨by decide, by decide, by decide +kernel⟩
theorem gc_Reader_readDigit : Cond.code y_Reader_readDigit b_Reader_readDigit 5 (some .int) ∈ gw := gwT (i := 167) rfl rfl
theorem gm_Reader_readDigit : Cond.instanceMethod y_Reader_readDigit ∈ gw := gwT (i := 166) (by decide +kernel) rfl
theorem gl_Reader_readDigit : Cond.selects "EntityDesk$Reader" y_Reader_readDigit y_Reader_readDigit ∈ gw := gwS (i := 12) (by decide +kernel) rfl
theorem gp_Reader_readDigit : plainY y_Reader_readDigit 3 := ⟨by decide, by decide, by decide +kernel⟩
theorem gc_Reader_valueOf : Cond.code y_Reader_valueOf b_Reader_valueOf 1 (some .int) ∈ gw := gwT (i := 170) rfl rfl
theorem gs_Reader_valueOf : Cond.static y_Reader_valueOf ∈ gw := gwT (i := 169) (by decide +kernel) rfl
theorem gp_Reader_valueOf : plainY y_Reader_valueOf 1 := ⟨by decide, by decide, by decide +kernel⟩
theorem gc_Reader_finishNumber : Cond.code y_Reader_finishNumber b_Reader_finishNumber 1 (some .int) ∈ gw := gwT (i := 177) rfl rfl
theorem gm_Reader_finishNumber : Cond.instanceMethod y_Reader_finishNumber ∈ gw := gwT (i := 176) (by decide +kernel) rfl
theorem gl_Reader_finishNumber : Cond.selects "EntityDesk$Reader" y_Reader_finishNumber y_Reader_finishNumber ∈ gw := gwS (i := 13) (by decide +kernel) rfl
theorem gp_Reader_finishNumber : plainY y_Reader_finishNumber 0 := ⟨by decide, by decide, by decide +kernel⟩
theorem gc_Reader_mayBe : Cond.code y_Reader_mayBe b_Reader_mayBe 1 (some .boolean) ∈ gw := gwT (i := 180) rfl rfl
theorem gs_Reader_mayBe : Cond.static y_Reader_mayBe ∈ gw := gwT (i := 179) (by decide +kernel) rfl
theorem gp_Reader_mayBe : plainY y_Reader_mayBe 1 := ⟨by decide, by decide, by decide +kernel⟩
theorem gc_Desk_fail : Cond.code y_Desk_fail b_Desk_fail 3 none ∈ gw := gwT (i := 184) rfl rfl
theorem gm_Desk_fail : Cond.instanceMethod y_Desk_fail ∈ gw := gwT (i := 183) (by decide +kernel) rfl
theorem gl_Desk_fail : Cond.selects "EntityDesk" y_Desk_fail y_Desk_fail ∈ gw := gwS (i := 14) (by decide +kernel) rfl
theorem gp_Desk_fail : plainY y_Desk_fail 2 := ⟨by decide, by decide, by decide +kernel⟩
theorem gc_Ents_draft : Cond.code y_Ents_draft b_Ents_draft 2 none ∈ gw := gwT (i := 188) rfl rfl
theorem gm_Ents_draft : Cond.instanceMethod y_Ents_draft ∈ gw := gwT (i := 187) (by decide +kernel) rfl
theorem gl_Ents_draft : Cond.selects "EntityDesk$Entities" y_Ents_draft y_Ents_draft ∈ gw := gwS (i := 15) (by decide +kernel) rfl
theorem gp_Ents_draft : plainY y_Ents_draft 1 := ⟨by decide, by decide, by decide +kernel⟩
theorem gc_Ents_draftFits : Cond.code y_Ents_draftFits b_Ents_draftFits 1 (some .boolean) ∈ gw := gwT (i := 192) rfl rfl
theorem gm_Ents_draftFits : Cond.instanceMethod y_Ents_draftFits ∈ gw := gwT (i := 191) (by decide +kernel) rfl
theorem gl_Ents_draftFits : Cond.selects "EntityDesk$Entities" y_Ents_draftFits y_Ents_draftFits ∈ gw := gwS (i := 16) (by decide +kernel) rfl
theorem gp_Ents_draftFits : plainY y_Ents_draftFits 0 := ⟨by decide, by decide, by decide +kernel⟩
theorem gc_Ents_keepDraft : Cond.code y_Ents_keepDraft b_Ents_keepDraft 2 none ∈ gw := gwT (i := 196) rfl rfl
theorem gm_Ents_keepDraft : Cond.instanceMethod y_Ents_keepDraft ∈ gw := gwT (i := 195) (by decide +kernel) rfl
theorem gl_Ents_keepDraft : Cond.selects "EntityDesk$Entities" y_Ents_keepDraft y_Ents_keepDraft ∈ gw := gwS (i := 17) (by decide +kernel) rfl
theorem gp_Ents_keepDraft : plainY y_Ents_keepDraft 1 := ⟨by decide, by decide, by decide +kernel⟩
theorem gc_Ents_lengthOf : Cond.code y_Ents_lengthOf b_Ents_lengthOf 2 (some .int) ∈ gw := gwT (i := 200) rfl rfl
theorem gm_Ents_lengthOf : Cond.instanceMethod y_Ents_lengthOf ∈ gw := gwT (i := 199) (by decide +kernel) rfl
theorem gl_Ents_lengthOf : Cond.selects "EntityDesk$Entities" y_Ents_lengthOf y_Ents_lengthOf ∈ gw := gwS (i := 18) (by decide +kernel) rfl
theorem gp_Ents_lengthOf : plainY y_Ents_lengthOf 1 := ⟨by decide, by decide, by decide +kernel⟩
theorem gc_Desk_expand : Cond.code y_Desk_expand b_Desk_expand 3 (some .int) ∈ gw := gwT (i := 204) rfl rfl
theorem gm_Desk_expand : Cond.instanceMethod y_Desk_expand ∈ gw := gwT (i := 202) (by decide +kernel) rfl
theorem gl_Desk_expand : Cond.selects "EntityDesk" y_Desk_expand y_Desk_expand ∈ gw := gwT (i := 203) (by decide +kernel) rfl
theorem gp_Desk_expand : plainY y_Desk_expand 1 := ⟨by decide, by decide, by decide +kernel⟩
theorem gc_Desk_goOver : Cond.code y_Desk_goOver b_Desk_goOver 6 none ∈ gw := gwT (i := 209) rfl rfl
theorem gm_Desk_goOver : Cond.instanceMethod y_Desk_goOver ∈ gw := gwT (i := 208) (by decide +kernel) rfl
theorem gl_Desk_goOver : Cond.selects "EntityDesk" y_Desk_goOver y_Desk_goOver ∈ gw := gwS (i := 19) (by decide +kernel) rfl
theorem gp_Desk_goOver : plainY y_Desk_goOver 4 := ⟨by decide, by decide, by decide +kernel⟩
theorem gc_Desk_goOverCharacter : Cond.code y_Desk_goOverCharacter b_Desk_goOverCharacter 5 none ∈ gw := gwT (i := 213) rfl rfl
theorem gm_Desk_goOverCharacter : Cond.instanceMethod y_Desk_goOverCharacter ∈ gw := gwT (i := 212) (by decide +kernel) rfl
theorem gl_Desk_goOverCharacter : Cond.selects "EntityDesk" y_Desk_goOverCharacter y_Desk_goOverCharacter ∈ gw := gwS (i := 20) (by decide +kernel) rfl
theorem gp_Desk_goOverCharacter : plainY y_Desk_goOverCharacter 3 := ⟨by decide, by decide, by decide +kernel⟩
theorem gc_Desk_give : Cond.code y_Desk_give b_Desk_give 2 none ∈ gw := gwT (i := 217) rfl rfl
theorem gm_Desk_give : Cond.instanceMethod y_Desk_give ∈ gw := gwT (i := 216) (by decide +kernel) rfl
theorem gl_Desk_give : Cond.selects "EntityDesk" y_Desk_give y_Desk_give ∈ gw := gwS (i := 21) (by decide +kernel) rfl
theorem gp_Desk_give : plainY y_Desk_give 1 := ⟨by decide, by decide, by decide +kernel⟩
theorem gc_Desk_goInto : Cond.code y_Desk_goInto b_Desk_goInto 5 none ∈ gw := gwT (i := 221) rfl rfl
theorem gm_Desk_goInto : Cond.instanceMethod y_Desk_goInto ∈ gw := gwT (i := 220) (by decide +kernel) rfl
theorem gl_Desk_goInto : Cond.selects "EntityDesk" y_Desk_goInto y_Desk_goInto ∈ gw := gwS (i := 22) (by decide +kernel) rfl
theorem gp_Desk_goInto : plainY y_Desk_goInto 2 := ⟨by decide, by decide, by decide +kernel⟩
theorem gc_Desk_faultOfEntity : Cond.code y_Desk_faultOfEntity b_Desk_faultOfEntity 3 (some .int) ∈ gw := gwT (i := 225) rfl rfl
theorem gm_Desk_faultOfEntity : Cond.instanceMethod y_Desk_faultOfEntity ∈ gw := gwT (i := 224) (by decide +kernel) rfl
theorem gl_Desk_faultOfEntity : Cond.selects "EntityDesk" y_Desk_faultOfEntity y_Desk_faultOfEntity ∈ gw := gwS (i := 23) (by decide +kernel) rfl
theorem gp_Desk_faultOfEntity : plainY y_Desk_faultOfEntity 2 := ⟨by decide, by decide, by decide +kernel⟩
theorem gc_Ents_startOf : Cond.code y_Ents_startOf b_Ents_startOf 2 (some .int) ∈ gw := gwT (i := 232) rfl rfl
theorem gm_Ents_startOf : Cond.instanceMethod y_Ents_startOf ∈ gw := gwT (i := 231) (by decide +kernel) rfl
theorem gl_Ents_startOf : Cond.selects "EntityDesk$Entities" y_Ents_startOf y_Ents_startOf ∈ gw := gwS (i := 24) (by decide +kernel) rfl
theorem gp_Ents_startOf : plainY y_Ents_startOf 1 := ⟨by decide, by decide, by decide +kernel⟩
theorem gc_Desk_place : Cond.code y_Desk_place b_Desk_place 1 (some .int) ∈ gw := gwT (i := 236) rfl rfl
theorem gm_Desk_place : Cond.instanceMethod y_Desk_place ∈ gw := gwT (i := 234) (by decide +kernel) rfl
theorem gl_Desk_place : Cond.selects "EntityDesk" y_Desk_place y_Desk_place ∈ gw := gwT (i := 235) (by decide +kernel) rfl
theorem gp_Desk_place : plainY y_Desk_place 0 := ⟨by decide, by decide, by decide +kernel⟩
theorem gc_Desk_given : Cond.code y_Desk_given b_Desk_given 2 (some .int) ∈ gw := gwT (i := 240) rfl rfl
theorem gm_Desk_given : Cond.instanceMethod y_Desk_given ∈ gw := gwT (i := 238) (by decide +kernel) rfl
theorem gl_Desk_given : Cond.selects "EntityDesk" y_Desk_given y_Desk_given ∈ gw := gwT (i := 239) (by decide +kernel) rfl
theorem gp_Desk_given : plainY y_Desk_given 1 := ⟨by decide, by decide, by decide +kernel⟩
theorem gc_Desk_text : Cond.code y_Desk_text b_Desk_text 3 (some .int) ∈ gw := gwT (i := 244) rfl rfl
theorem gm_Desk_text : Cond.instanceMethod y_Desk_text ∈ gw := gwT (i := 242) (by decide +kernel) rfl
theorem gl_Desk_text : Cond.selects "EntityDesk" y_Desk_text y_Desk_text ∈ gw := gwT (i := 243) (by decide +kernel) rfl
theorem gp_Desk_text : plainY y_Desk_text 2 := ⟨by decide, by decide, by decide +kernel⟩
theorem gc_Ents_characterOf : Cond.code y_Ents_characterOf b_Ents_characterOf 3 (some .int) ∈ gw := gwT (i := 248) rfl rfl
theorem gm_Ents_characterOf : Cond.instanceMethod y_Ents_characterOf ∈ gw := gwT (i := 247) (by decide +kernel) rfl
theorem gl_Ents_characterOf : Cond.selects "EntityDesk$Entities" y_Ents_characterOf y_Ents_characterOf ∈ gw := gwS (i := 25) (by decide +kernel) rfl
theorem gp_Ents_characterOf : plainY y_Ents_characterOf 2 := ⟨by decide, by decide, by decide +kernel⟩
theorem gc_Desk_count : Cond.code y_Desk_count b_Desk_count 2 (some .int) ∈ gw := gwT (i := 252) rfl rfl
theorem gm_Desk_count : Cond.instanceMethod y_Desk_count ∈ gw := gwT (i := 250) (by decide +kernel) rfl
theorem gl_Desk_count : Cond.selects "EntityDesk" y_Desk_count y_Desk_count ∈ gw := gwT (i := 251) (by decide +kernel) rfl
theorem gp_Desk_count : plainY y_Desk_count 1 := ⟨by decide, by decide, by decide +kernel⟩
theorem gc_Model_init : Cond.code y_Model_init b_Model_init 1 none ∈ gw := gwT (i := 257) rfl rfl
theorem gm_Model_init : Cond.instanceMethod y_Model_init ∈ gw := gwT (i := 256) (by decide +kernel) rfl
theorem gp_Model_init : plainY y_Model_init 0 := ⟨by decide, by decide, by decide +kernel⟩
theorem gc_Model_put : Cond.code y_Model_put b_Model_put 5 (some .boolean) ∈ gw := gwT (i := 335) rfl rfl
theorem gm_Model_put : Cond.instanceMethod y_Model_put ∈ gw := gwT (i := 333) (by decide +kernel) rfl
theorem gl_Model_put : Cond.selects "EntityDeskModel" y_Model_put y_Model_put ∈ gw := gwT (i := 334) (by decide +kernel) rfl
theorem gp_Model_put : plainY y_Model_put 2 := ⟨by decide, by decide, by decide +kernel⟩
theorem gc_Model_declare : Cond.code y_Model_declare b_Model_declare 9 (some .int) ∈ gw := gwT (i := 340) rfl rfl
theorem gm_Model_declare : Cond.instanceMethod y_Model_declare ∈ gw := gwT (i := 338) (by decide +kernel) rfl
theorem gl_Model_declare : Cond.selects "EntityDeskModel" y_Model_declare y_Model_declare ∈ gw := gwT (i := 339) (by decide +kernel) rfl
theorem gp_Model_declare : plainY y_Model_declare 1 := ⟨by decide, by decide, by decide +kernel⟩
theorem gc_Model_begin : Cond.code y_Model_begin b_Model_begin 2 none ∈ gw := gwT (i := 344) rfl rfl
theorem gm_Model_begin : Cond.instanceMethod y_Model_begin ∈ gw := gwT (i := 343) (by decide +kernel) rfl
theorem gl_Model_begin : Cond.selects "EntityDeskModel" y_Model_begin y_Model_begin ∈ gw := gwS (i := 26) (by decide +kernel) rfl
theorem gp_Model_begin : plainY y_Model_begin 0 := ⟨by decide, by decide, by decide +kernel⟩
theorem gc_Model_peek : Cond.code y_Model_peek b_Model_peek 1 (some .int) ∈ gw := gwT (i := 348) rfl rfl
theorem gm_Model_peek : Cond.instanceMethod y_Model_peek ∈ gw := gwT (i := 347) (by decide +kernel) rfl
theorem gl_Model_peek : Cond.selects "EntityDeskModel" y_Model_peek y_Model_peek ∈ gw := gwS (i := 27) (by decide +kernel) rfl
theorem gp_Model_peek : plainY y_Model_peek 0 := ⟨by decide, by decide, by decide +kernel⟩
theorem gc_Model_pass : Cond.code y_Model_pass b_Model_pass 1 none ∈ gw := gwT (i := 352) rfl rfl
theorem gm_Model_pass : Cond.instanceMethod y_Model_pass ∈ gw := gwT (i := 351) (by decide +kernel) rfl
theorem gl_Model_pass : Cond.selects "EntityDeskModel" y_Model_pass y_Model_pass ∈ gw := gwS (i := 28) (by decide +kernel) rfl
theorem gp_Model_pass : plainY y_Model_pass 0 := ⟨by decide, by decide, by decide +kernel⟩
theorem gc_Model_reference : Cond.code y_Model_reference b_Model_reference 4 (some .int) ∈ gw := gwT (i := 356) rfl rfl
theorem gm_Model_reference : Cond.instanceMethod y_Model_reference ∈ gw := gwT (i := 355) (by decide +kernel) rfl
theorem gl_Model_reference : Cond.selects "EntityDeskModel" y_Model_reference y_Model_reference ∈ gw := gwS (i := 29) (by decide +kernel) rfl
theorem gp_Model_reference : plainY y_Model_reference 1 := ⟨by decide, by decide, by decide +kernel⟩
theorem gc_Model_digit : Cond.code y_Model_digit b_Model_digit 2 (some .int) ∈ gw := gwT (i := 359) rfl rfl
theorem gs_Model_digit : Cond.static y_Model_digit ∈ gw := gwT (i := 358) (by decide +kernel) rfl
theorem gp_Model_digit : plainY y_Model_digit 2 := ⟨by decide, by decide, by decide +kernel⟩
theorem gc_Model_broken : Cond.code y_Model_broken b_Model_broken 1 (some .int) ∈ gw := gwT (i := 363) rfl rfl
theorem gm_Model_broken : Cond.instanceMethod y_Model_broken ∈ gw := gwT (i := 362) (by decide +kernel) rfl
theorem gl_Model_broken : Cond.selects "EntityDeskModel" y_Model_broken y_Model_broken ∈ gw := gwS (i := 30) (by decide +kernel) rfl
theorem gp_Model_broken : plainY y_Model_broken 0 := ⟨by decide, by decide, by decide +kernel⟩
theorem gc_Model_fail : Cond.code y_Model_fail b_Model_fail 3 (some .int) ∈ gw := gwT (i := 367) rfl rfl
theorem gm_Model_fail : Cond.instanceMethod y_Model_fail ∈ gw := gwT (i := 366) (by decide +kernel) rfl
theorem gl_Model_fail : Cond.selects "EntityDeskModel" y_Model_fail y_Model_fail ∈ gw := gwS (i := 31) (by decide +kernel) rfl
theorem gp_Model_fail : plainY y_Model_fail 2 := ⟨by decide, by decide, by decide +kernel⟩
theorem gc_Model_expand : Cond.code y_Model_expand b_Model_expand 3 (some .int) ∈ gw := gwT (i := 377) rfl rfl
theorem gm_Model_expand : Cond.instanceMethod y_Model_expand ∈ gw := gwT (i := 375) (by decide +kernel) rfl
theorem gl_Model_expand : Cond.selects "EntityDeskModel" y_Model_expand y_Model_expand ∈ gw := gwT (i := 376) (by decide +kernel) rfl
theorem gp_Model_expand : plainY y_Model_expand 1 := ⟨by decide, by decide, by decide +kernel⟩
theorem gc_Model_step : Cond.code y_Model_step b_Model_step 4 (some .int) ∈ gw := gwT (i := 382) rfl rfl
theorem gm_Model_step : Cond.instanceMethod y_Model_step ∈ gw := gwT (i := 381) (by decide +kernel) rfl
theorem gl_Model_step : Cond.selects "EntityDeskModel" y_Model_step y_Model_step ∈ gw := gwS (i := 32) (by decide +kernel) rfl
theorem gp_Model_step : plainY y_Model_step 1 := ⟨by decide, by decide, by decide +kernel⟩
theorem gc_Model_give : Cond.code y_Model_give b_Model_give 3 (some .int) ∈ gw := gwT (i := 386) rfl rfl
theorem gm_Model_give : Cond.instanceMethod y_Model_give ∈ gw := gwT (i := 385) (by decide +kernel) rfl
theorem gl_Model_give : Cond.selects "EntityDeskModel" y_Model_give y_Model_give ∈ gw := gwS (i := 33) (by decide +kernel) rfl
theorem gp_Model_give : plainY y_Model_give 2 := ⟨by decide, by decide, by decide +kernel⟩
theorem gc_Model_enter : Cond.code y_Model_enter b_Model_enter 5 (some .int) ∈ gw := gwT (i := 390) rfl rfl
theorem gm_Model_enter : Cond.instanceMethod y_Model_enter ∈ gw := gwT (i := 389) (by decide +kernel) rfl
theorem gl_Model_enter : Cond.selects "EntityDeskModel" y_Model_enter y_Model_enter ∈ gw := gwS (i := 34) (by decide +kernel) rfl
theorem gp_Model_enter : plainY y_Model_enter 2 := ⟨by decide, by decide, by decide +kernel⟩
theorem gc_Model_place : Cond.code y_Model_place b_Model_place 1 (some .int) ∈ gw := gwT (i := 394) rfl rfl
theorem gm_Model_place : Cond.instanceMethod y_Model_place ∈ gw := gwT (i := 392) (by decide +kernel) rfl
theorem gl_Model_place : Cond.selects "EntityDeskModel" y_Model_place y_Model_place ∈ gw := gwT (i := 393) (by decide +kernel) rfl
theorem gp_Model_place : plainY y_Model_place 0 := ⟨by decide, by decide, by decide +kernel⟩
theorem gc_Model_given : Cond.code y_Model_given b_Model_given 2 (some .int) ∈ gw := gwT (i := 398) rfl rfl
theorem gm_Model_given : Cond.instanceMethod y_Model_given ∈ gw := gwT (i := 396) (by decide +kernel) rfl
theorem gl_Model_given : Cond.selects "EntityDeskModel" y_Model_given y_Model_given ∈ gw := gwT (i := 397) (by decide +kernel) rfl
theorem gp_Model_given : plainY y_Model_given 1 := ⟨by decide, by decide, by decide +kernel⟩
theorem gc_Model_text : Cond.code y_Model_text b_Model_text 3 (some .int) ∈ gw := gwT (i := 402) rfl rfl
theorem gm_Model_text : Cond.instanceMethod y_Model_text ∈ gw := gwT (i := 400) (by decide +kernel) rfl
theorem gl_Model_text : Cond.selects "EntityDeskModel" y_Model_text y_Model_text ∈ gw := gwT (i := 401) (by decide +kernel) rfl
theorem gp_Model_text : plainY y_Model_text 2 := ⟨by decide, by decide, by decide +kernel⟩
theorem gc_Model_count : Cond.code y_Model_count b_Model_count 2 (some .int) ∈ gw := gwT (i := 406) rfl rfl
theorem gm_Model_count : Cond.instanceMethod y_Model_count ∈ gw := gwT (i := 404) (by decide +kernel) rfl
theorem gl_Model_count : Cond.selects "EntityDeskModel" y_Model_count y_Model_count ∈ gw := gwT (i := 405) (by decide +kernel) rfl
theorem gp_Model_count : plainY y_Model_count 1 := ⟨by decide, by decide, by decide +kernel⟩
theorem k_Desk_1 : Cond.methodLink "EntityDesk" 1 objectInit ∈ gw := gwT (i := 11) (by decide +kernel) rfl
theorem k_Desk_17 : Cond.classLink "EntityDesk" 17 "EntityDesk$Entities" ∈ gw ∧ Cond.instantiable "EntityDesk$Entities" 6 ∈ gw := ⟨gwT (i := 14) (by decide +kernel) rfl, gwT (i := 15) (by decide +kernel) rfl⟩
theorem k_Desk_19 : Kj "EntityDesk" 19 y_Ents_init b_Ents_init 2 0 := ⟨⟨"EntityDesk", nwT (i := 16) (by decide +kernel) rfl⟩, gm_Ents_init, gi_Ents, gc_Ents_init, gp_Ents_init, rfl⟩
theorem f_Desk_154 : fdN "EntityDesk" 154 1 0 := ⟨_, _, _, "EntityDesk", rfl, by decide, u_Ents_in, nwT (i := 21) (by decide +kernel) rfl⟩
theorem f_Desk_96 : fdN "EntityDesk" 96 1 3 := ⟨_, _, _, "EntityDesk", rfl, by decide, u_Ents_in, nwT (i := 25) (by decide +kernel) rfl⟩
theorem f_Desk_99 : fdN "EntityDesk" 99 1 4 := ⟨_, _, _, "EntityDesk", rfl, by decide, u_Ents_in, nwT (i := 27) (by decide +kernel) rfl⟩
theorem k_Desk_24 : Cond.classLink "EntityDesk" 24 "EntityDesk$Reader" ∈ gw ∧ Cond.instantiable "EntityDesk$Reader" 3 ∈ gw := ⟨gwT (i := 43) (by decide +kernel) rfl, gwT (i := 44) (by decide +kernel) rfl⟩
theorem k_Desk_26 : Kj "EntityDesk" 26 y_Reader_init b_Reader_init 1 0 := ⟨⟨"EntityDesk", nwT (i := 45) (by decide +kernel) rfl⟩, gm_Reader_init, gi_Reader, gc_Reader_init, gp_Reader_init, rfl⟩
theorem f_Desk_130 : fdN "EntityDesk" 130 2 1 := ⟨_, _, _, "EntityDesk", rfl, by decide, u_Reader_in, nwT (i := 51) (by decide +kernel) rfl⟩
theorem f_Desk_127 : fdN "EntityDesk" 127 2 2 := ⟨_, _, _, "EntityDesk", rfl, by decide, u_Reader_in, nwT (i := 53) (by decide +kernel) rfl⟩
theorem f_Desk_9 : fdK "EntityDesk" 9 0 0 true (.array .int) := ⟨_, _, _, t_Desk, rfl, by decide, u_Desk_in, t_Desk_ok, n_Desk, rfl, rfl, rfl, gwT (i := 61) (by decide +kernel) rfl⟩
theorem f_Desk_13 : fdK "EntityDesk" 13 0 1 false .int := ⟨_, _, _, t_Desk, rfl, by decide, u_Desk_in, t_Desk_ok, n_Desk, rfl, rfl, rfl, gwT (i := 62) (by decide +kernel) rfl⟩
theorem f_Desk_20 : fdK "EntityDesk" 20 0 2 true (.object "EntityDesk$Entities") := ⟨_, _, _, t_Desk, rfl, by decide, u_Desk_in, t_Desk_ok, n_Desk, rfl, rfl, rfl, gwT (i := 63) (by decide +kernel) rfl⟩
theorem f_Desk_27 : fdK "EntityDesk" 27 0 3 true (.object "EntityDesk$Reader") := ⟨_, _, _, t_Desk, rfl, by decide, u_Desk_in, t_Desk_ok, n_Desk, rfl, rfl, rfl, gwT (i := 64) (by decide +kernel) rfl⟩
theorem f_Desk_31 : fdK "EntityDesk" 31 0 4 false .int := ⟨_, _, _, t_Desk, rfl, by decide, u_Desk_in, t_Desk_ok, n_Desk, rfl, rfl, rfl, gwT (i := 65) (by decide +kernel) rfl⟩
theorem f_Desk_34 : fdK "EntityDesk" 34 0 5 false .int := ⟨_, _, _, t_Desk, rfl, by decide, u_Desk_in, t_Desk_ok, n_Desk, rfl, rfl, rfl, gwT (i := 66) (by decide +kernel) rfl⟩
theorem f_Desk_37 : fdK "EntityDesk" 37 0 6 false .int := ⟨_, _, _, t_Desk, rfl, by decide, u_Desk_in, t_Desk_ok, n_Desk, rfl, rfl, rfl, gwT (i := 67) (by decide +kernel) rfl⟩
theorem f_Desk_40 : fdK "EntityDesk" 40 0 7 true (.array .int) := ⟨_, _, _, t_Desk, rfl, by decide, u_Desk_in, t_Desk_ok, n_Desk, rfl, rfl, rfl, gwT (i := 68) (by decide +kernel) rfl⟩
theorem f_Desk_43 : fdK "EntityDesk" 43 0 8 false .int := ⟨_, _, _, t_Desk, rfl, by decide, u_Desk_in, t_Desk_ok, n_Desk, rfl, rfl, rfl, gwT (i := 69) (by decide +kernel) rfl⟩
theorem f_Desk_46 : fdK "EntityDesk" 46 0 9 true (.array .boolean) := ⟨_, _, _, t_Desk, rfl, by decide, u_Desk_in, t_Desk_ok, n_Desk, rfl, rfl, rfl, gwT (i := 70) (by decide +kernel) rfl⟩
theorem f_Desk_50 : fdK "EntityDesk" 50 0 10 false .int := ⟨_, _, _, t_Desk, rfl, by decide, u_Desk_in, t_Desk_ok, n_Desk, rfl, rfl, rfl, gwT (i := 71) (by decide +kernel) rfl⟩
theorem f_Desk_53 : fdK "EntityDesk" 53 0 11 false .int := ⟨_, _, _, t_Desk, rfl, by decide, u_Desk_in, t_Desk_ok, n_Desk, rfl, rfl, rfl, gwT (i := 72) (by decide +kernel) rfl⟩
theorem f_Desk_56 : fdK "EntityDesk" 56 0 12 false .int := ⟨_, _, _, t_Desk, rfl, by decide, u_Desk_in, t_Desk_ok, n_Desk, rfl, rfl, rfl, gwT (i := 73) (by decide +kernel) rfl⟩
theorem f_Desk_59 : fdK "EntityDesk" 59 0 13 false .int := ⟨_, _, _, t_Desk, rfl, by decide, u_Desk_in, t_Desk_ok, n_Desk, rfl, rfl, rfl, gwT (i := 74) (by decide +kernel) rfl⟩
theorem k_Desk_62 : Ks "EntityDesk" 62 y_Desk_isName b_Desk_isName 1 (some .boolean) 1 := ⟨gwT (i := 113) (by decide +kernel) rfl, gs_Desk_isName, gi_Desk, gc_Desk_isName, gp_Desk_isName⟩
theorem k_Desk_66 : Kv "EntityDesk" 66 y_Desk_beginReading b_Desk_beginReading 1 none 0 := ⟨gwT (i := 116) (by decide +kernel) rfl, gm_Desk_beginReading, gl_Desk_beginReading, gi_Desk, gc_Desk_beginReading, gp_Desk_beginReading⟩
theorem k_Desk_102 : Kn "EntityDesk" 102 y_Reader_begin b_Reader_begin 1 none 0 := ⟨⟨"EntityDesk", nwT (i := 120) (by decide +kernel) rfl⟩, gm_Reader_begin, gl_Reader_begin, gi_Reader, gc_Reader_begin, gp_Reader_begin⟩
theorem k_Desk_69 : Kn "EntityDesk" 69 y_Ents_has b_Ents_has 2 (some .boolean) 1 := ⟨⟨"EntityDesk", nwT (i := 124) (by decide +kernel) rfl⟩, gm_Ents_has, gl_Ents_has, gi_Ents, gc_Ents_has, gp_Ents_has⟩
theorem k_Desk_72 : Kv "EntityDesk" 72 y_Desk_draftText b_Desk_draftText 3 none 1 := ⟨gwT (i := 128) (by decide +kernel) rfl, gm_Desk_draftText, gl_Desk_draftText, gi_Desk, gc_Desk_draftText, gp_Desk_draftText⟩
theorem k_Desk_112 : Kn "EntityDesk" 112 y_Ents_beginDraft b_Ents_beginDraft 1 none 0 := ⟨⟨"EntityDesk", nwT (i := 132) (by decide +kernel) rfl⟩, gm_Ents_beginDraft, gl_Ents_beginDraft, gi_Ents, gc_Ents_beginDraft, gp_Ents_beginDraft⟩
theorem k_Desk_115 : Kn "EntityDesk" 115 y_Reader_isWithin b_Reader_isWithin 1 (some .boolean) 0 := ⟨⟨"EntityDesk", nwT (i := 136) (by decide +kernel) rfl⟩, gm_Reader_isWithin, gl_Reader_isWithin, gi_Reader, gc_Reader_isWithin, gp_Reader_isWithin⟩
theorem k_Desk_118 : Kv "EntityDesk" 118 y_Desk_draftCharacter b_Desk_draftCharacter 4 none 2 := ⟨gwT (i := 140) (by decide +kernel) rfl, gm_Desk_draftCharacter, gl_Desk_draftCharacter, gi_Desk, gc_Desk_draftCharacter, gp_Desk_draftCharacter⟩
theorem k_Desk_121 : Kv "EntityDesk" 121 y_Desk_readOn b_Desk_readOn 4 (some .int) 2 := ⟨gwT (i := 144) (by decide +kernel) rfl, gm_Desk_readOn, gl_Desk_readOn, gi_Desk, gc_Desk_readOn, gp_Desk_readOn⟩
theorem k_Desk_105 : Kn "EntityDesk" 105 y_Reader_read b_Reader_read 2 (some .int) 1 := ⟨⟨"EntityDesk", nwT (i := 148) (by decide +kernel) rfl⟩, gm_Reader_read, gl_Reader_read, gi_Reader, gc_Reader_read, gp_Reader_read⟩
theorem k_Desk_108 : Kv "EntityDesk" 108 y_Desk_fail b_Desk_fail 3 none 2 := ⟨gwT (i := 181) (by decide +kernel) rfl, gm_Desk_fail, gl_Desk_fail, gi_Desk, gc_Desk_fail, gp_Desk_fail⟩
theorem k_Desk_124 : Kn "EntityDesk" 124 y_Ents_draft b_Ents_draft 2 none 1 := ⟨⟨"EntityDesk", nwT (i := 185) (by decide +kernel) rfl⟩, gm_Ents_draft, gl_Ents_draft, gi_Ents, gc_Ents_draft, gp_Ents_draft⟩
theorem k_Desk_76 : Kn "EntityDesk" 76 y_Ents_draftFits b_Ents_draftFits 1 (some .boolean) 0 := ⟨⟨"EntityDesk", nwT (i := 189) (by decide +kernel) rfl⟩, gm_Ents_draftFits, gl_Ents_draftFits, gi_Ents, gc_Ents_draftFits, gp_Ents_draftFits⟩
theorem k_Desk_80 : Kn "EntityDesk" 80 y_Ents_keepDraft b_Ents_keepDraft 2 none 1 := ⟨⟨"EntityDesk", nwT (i := 193) (by decide +kernel) rfl⟩, gm_Ents_keepDraft, gl_Ents_keepDraft, gi_Ents, gc_Ents_keepDraft, gp_Ents_keepDraft⟩
theorem k_Desk_83 : Kn "EntityDesk" 83 y_Ents_lengthOf b_Ents_lengthOf 2 (some .int) 1 := ⟨⟨"EntityDesk", nwT (i := 197) (by decide +kernel) rfl⟩, gm_Ents_lengthOf, gl_Ents_lengthOf, gi_Ents, gc_Ents_lengthOf, gp_Ents_lengthOf⟩
theorem c_Desk_87 : Cond.constant "EntityDesk" 87 (nI 100000) ∈ gw := gwT (i := 205) (by decide +kernel) rfl
theorem k_Desk_88 : Kv "EntityDesk" 88 y_Desk_goOver b_Desk_goOver 6 none 4 := ⟨gwT (i := 206) (by decide +kernel) rfl, gm_Desk_goOver, gl_Desk_goOver, gi_Desk, gc_Desk_goOver, gp_Desk_goOver⟩
theorem k_Desk_133 : Kv "EntityDesk" 133 y_Desk_goOverCharacter b_Desk_goOverCharacter 5 none 3 := ⟨gwT (i := 210) (by decide +kernel) rfl, gm_Desk_goOverCharacter, gl_Desk_goOverCharacter, gi_Desk, gc_Desk_goOverCharacter, gp_Desk_goOverCharacter⟩
theorem k_Desk_137 : Kv "EntityDesk" 137 y_Desk_give b_Desk_give 2 none 1 := ⟨gwT (i := 214) (by decide +kernel) rfl, gm_Desk_give, gl_Desk_give, gi_Desk, gc_Desk_give, gp_Desk_give⟩
theorem k_Desk_140 : Kv "EntityDesk" 140 y_Desk_goInto b_Desk_goInto 5 none 2 := ⟨gwT (i := 218) (by decide +kernel) rfl, gm_Desk_goInto, gl_Desk_goInto, gi_Desk, gc_Desk_goInto, gp_Desk_goInto⟩
theorem k_Desk_143 : Kv "EntityDesk" 143 y_Desk_faultOfEntity b_Desk_faultOfEntity 3 (some .int) 2 := ⟨gwT (i := 222) (by decide +kernel) rfl, gm_Desk_faultOfEntity, gl_Desk_faultOfEntity, gi_Desk, gc_Desk_faultOfEntity, gp_Desk_faultOfEntity⟩
theorem k_Desk_146 : Cond.methodLink "EntityDesk" 146 Lib.Math.max.name ∈ gw ∧ Cond.static Lib.Math.max.name ∈ gw ∧ Cond.initialized "java/lang/Math" ∈ gw ∧ Cond.code Lib.Math.max.name Lib.Math.max.code 2 (some .int) ∈ gw := ⟨gwT (i := 226) (by decide +kernel) rfl, gwT (i := 227) (by decide +kernel) rfl, gi_Math, gwT (i := 228) (by decide +kernel) rfl⟩
theorem k_Desk_151 : Kn "EntityDesk" 151 y_Ents_startOf b_Ents_startOf 2 (some .int) 1 := ⟨⟨"EntityDesk", nwT (i := 229) (by decide +kernel) rfl⟩, gm_Ents_startOf, gl_Ents_startOf, gi_Ents, gc_Ents_startOf, gp_Ents_startOf⟩
theorem k_Desk_92 : Kn "EntityDesk" 92 y_Ents_characterOf b_Ents_characterOf 3 (some .int) 2 := ⟨⟨"EntityDesk", nwT (i := 245) (by decide +kernel) rfl⟩, gm_Ents_characterOf, gl_Ents_characterOf, gi_Ents, gc_Ents_characterOf, gp_Ents_characterOf⟩
theorem k_Ents_3 : Cond.methodLink "EntityDesk$Entities" 3 objectInit ∈ gw := gwT (i := 19) (by decide +kernel) rfl
theorem f_Ents_9 : fdK "EntityDesk$Entities" 9 1 0 true (.array .int) := ⟨_, _, _, t_Ents, rfl, by decide, u_Ents_in, t_Ents_ok, n_Ents, rfl, rfl, rfl, gwT (i := 20) (by decide +kernel) rfl⟩
theorem f_Ents_15 : fdK "EntityDesk$Entities" 15 1 1 true (.array .int) := ⟨_, _, _, t_Ents, rfl, by decide, u_Ents_in, t_Ents_ok, n_Ents, rfl, rfl, rfl, gwT (i := 22) (by decide +kernel) rfl⟩
theorem f_Ents_18 : fdK "EntityDesk$Entities" 18 1 2 true (.array .int) := ⟨_, _, _, t_Ents, rfl, by decide, u_Ents_in, t_Ents_ok, n_Ents, rfl, rfl, rfl, gwT (i := 23) (by decide +kernel) rfl⟩
theorem f_Ents_21 : fdK "EntityDesk$Entities" 21 1 3 false .int := ⟨_, _, _, t_Ents, rfl, by decide, u_Ents_in, t_Ents_ok, n_Ents, rfl, rfl, rfl, gwT (i := 24) (by decide +kernel) rfl⟩
theorem f_Ents_25 : fdK "EntityDesk$Entities" 25 1 4 false .int := ⟨_, _, _, t_Ents, rfl, by decide, u_Ents_in, t_Ents_ok, n_Ents, rfl, rfl, rfl, gwT (i := 26) (by decide +kernel) rfl⟩
theorem f_Ents_28 : fdK "EntityDesk$Entities" 28 1 5 false .int := ⟨_, _, _, t_Ents, rfl, by decide, u_Ents_in, t_Ents_ok, n_Ents, rfl, rfl, rfl, gwT (i := 28) (by decide +kernel) rfl⟩
theorem k_Reader_3 : Cond.methodLink "EntityDesk$Reader" 3 objectInit ∈ gw := gwT (i := 48) (by decide +kernel) rfl
theorem f_Reader_11 : fdK "EntityDesk$Reader" 11 2 0 false .int := ⟨_, _, _, t_Reader, rfl, by decide, u_Reader_in, t_Reader_ok, n_Reader, rfl, rfl, rfl, gwT (i := 49) (by decide +kernel) rfl⟩
theorem f_Reader_15 : fdK "EntityDesk$Reader" 15 2 1 false .int := ⟨_, _, _, t_Reader, rfl, by decide, u_Reader_in, t_Reader_ok, n_Reader, rfl, rfl, rfl, gwT (i := 50) (by decide +kernel) rfl⟩
theorem f_Reader_18 : fdK "EntityDesk$Reader" 18 2 2 false .int := ⟨_, _, _, t_Reader, rfl, by decide, u_Reader_in, t_Reader_ok, n_Reader, rfl, rfl, rfl, gwT (i := 52) (by decide +kernel) rfl⟩
theorem k_Reader_21 : Kv "EntityDesk$Reader" 21 y_Reader_readBehindAmpersand b_Reader_readBehindAmpersand 2 (some .int) 1 := ⟨gwT (i := 152) (by decide +kernel) rfl, gm_Reader_readBehindAmpersand, gl_Reader_readBehindAmpersand, gi_Reader, gc_Reader_readBehindAmpersand, gp_Reader_readBehindAmpersand⟩
theorem k_Reader_28 : Kv "EntityDesk$Reader" 28 y_Reader_goOn b_Reader_goOn 2 (some .int) 1 := ⟨gwT (i := 156) (by decide +kernel) rfl, gm_Reader_goOn, gl_Reader_goOn, gi_Reader, gc_Reader_goOn, gp_Reader_goOn⟩
theorem k_Reader_25 : Kv "EntityDesk$Reader" 25 y_Reader_finish b_Reader_finish 2 (some .int) 1 := ⟨gwT (i := 160) (by decide +kernel) rfl, gm_Reader_finish, gl_Reader_finish, gi_Reader, gc_Reader_finish, gp_Reader_finish⟩
theorem k_Reader_31 : Kv "EntityDesk$Reader" 31 y_Reader_readDigit b_Reader_readDigit 5 (some .int) 3 := ⟨gwT (i := 164) (by decide +kernel) rfl, gm_Reader_readDigit, gl_Reader_readDigit, gi_Reader, gc_Reader_readDigit, gp_Reader_readDigit⟩
theorem k_Reader_39 : Ks "EntityDesk$Reader" 39 y_Reader_valueOf b_Reader_valueOf 1 (some .int) 1 := ⟨gwT (i := 168) (by decide +kernel) rfl, gs_Reader_valueOf, gi_Reader, gc_Reader_valueOf, gp_Reader_valueOf⟩
theorem k_Reader_42 : Cond.methodLink "EntityDesk$Reader" 42 Lib.Math.min.name ∈ gw ∧ Cond.static Lib.Math.min.name ∈ gw ∧ Cond.initialized "java/lang/Math" ∈ gw ∧ Cond.code Lib.Math.min.name Lib.Math.min.code 2 (some .int) ∈ gw := ⟨gwT (i := 171) (by decide +kernel) rfl, gwT (i := 172) (by decide +kernel) rfl, gi_Math, gwT (i := 173) (by decide +kernel) rfl⟩
theorem k_Reader_35 : Kv "EntityDesk$Reader" 35 y_Reader_finishNumber b_Reader_finishNumber 1 (some .int) 0 := ⟨gwT (i := 174) (by decide +kernel) rfl, gm_Reader_finishNumber, gl_Reader_finishNumber, gi_Reader, gc_Reader_finishNumber, gp_Reader_finishNumber⟩
theorem k_Reader_48 : Ks "EntityDesk$Reader" 48 y_Reader_mayBe b_Reader_mayBe 1 (some .boolean) 1 := ⟨gwT (i := 178) (by decide +kernel) rfl, gs_Reader_mayBe, gi_Reader, gc_Reader_mayBe, gp_Reader_mayBe⟩
theorem k_Model_1 : Cond.methodLink "EntityDeskModel" 1 objectInit ∈ gw := gwT (i := 258) (by decide +kernel) rfl
theorem f_Model_7 : fdK "EntityDeskModel" 7 3 0 true (.array .int) := ⟨_, _, _, t_Model, rfl, by decide, u_Model_in, t_Model_ok, n_Model, rfl, rfl, rfl, gwT (i := 259) (by decide +kernel) rfl⟩
theorem f_Model_39 : fdK "EntityDeskModel" 39 3 1 false .int := ⟨_, _, _, t_Model, rfl, by decide, u_Model_in, t_Model_ok, n_Model, rfl, rfl, rfl, gwT (i := 260) (by decide +kernel) rfl⟩
theorem f_Model_13 : fdK "EntityDeskModel" 13 3 2 true (.array .int) := ⟨_, _, _, t_Model, rfl, by decide, u_Model_in, t_Model_ok, n_Model, rfl, rfl, rfl, gwT (i := 261) (by decide +kernel) rfl⟩
theorem f_Model_98 : fdK "EntityDeskModel" 98 3 3 false .int := ⟨_, _, _, t_Model, rfl, by decide, u_Model_in, t_Model_ok, n_Model, rfl, rfl, rfl, gwT (i := 262) (by decide +kernel) rfl⟩
theorem f_Model_16 : fdK "EntityDeskModel" 16 3 4 true (.array .int) := ⟨_, _, _, t_Model, rfl, by decide, u_Model_in, t_Model_ok, n_Model, rfl, rfl, rfl, gwT (i := 263) (by decide +kernel) rfl⟩
theorem f_Model_19 : fdK "EntityDeskModel" 19 3 5 true (.array .int) := ⟨_, _, _, t_Model, rfl, by decide, u_Model_in, t_Model_ok, n_Model, rfl, rfl, rfl, gwT (i := 264) (by decide +kernel) rfl⟩
theorem f_Model_22 : fdK "EntityDeskModel" 22 3 6 true (.array .boolean) := ⟨_, _, _, t_Model, rfl, by decide, u_Model_in, t_Model_ok, n_Model, rfl, rfl, rfl, gwT (i := 265) (by decide +kernel) rfl⟩
theorem f_Model_105 : fdK "EntityDeskModel" 105 3 7 false .int := ⟨_, _, _, t_Model, rfl, by decide, u_Model_in, t_Model_ok, n_Model, rfl, rfl, rfl, gwT (i := 266) (by decide +kernel) rfl⟩
theorem f_Model_26 : fdK "EntityDeskModel" 26 3 8 true (.array .int) := ⟨_, _, _, t_Model, rfl, by decide, u_Model_in, t_Model_ok, n_Model, rfl, rfl, rfl, gwT (i := 267) (by decide +kernel) rfl⟩
theorem f_Model_53 : fdK "EntityDeskModel" 53 3 9 false .int := ⟨_, _, _, t_Model, rfl, by decide, u_Model_in, t_Model_ok, n_Model, rfl, rfl, rfl, gwT (i := 268) (by decide +kernel) rfl⟩
theorem f_Model_29 : fdK "EntityDeskModel" 29 3 10 true (.array .boolean) := ⟨_, _, _, t_Model, rfl, by decide, u_Model_in, t_Model_ok, n_Model, rfl, rfl, rfl, gwT (i := 269) (by decide +kernel) rfl⟩
theorem f_Model_47 : fdK "EntityDeskModel" 47 3 11 false .int := ⟨_, _, _, t_Model, rfl, by decide, u_Model_in, t_Model_ok, n_Model, rfl, rfl, rfl, gwT (i := 270) (by decide +kernel) rfl⟩
theorem f_Model_56 : fdK "EntityDeskModel" 56 3 12 false .int := ⟨_, _, _, t_Model, rfl, by decide, u_Model_in, t_Model_ok, n_Model, rfl, rfl, rfl, gwT (i := 271) (by decide +kernel) rfl⟩
theorem f_Model_50 : fdK "EntityDeskModel" 50 3 13 false .int := ⟨_, _, _, t_Model, rfl, by decide, u_Model_in, t_Model_ok, n_Model, rfl, rfl, rfl, gwT (i := 272) (by decide +kernel) rfl⟩
theorem f_Model_32 : fdK "EntityDeskModel" 32 3 14 true (.array .int) := ⟨_, _, _, t_Model, rfl, by decide, u_Model_in, t_Model_ok, n_Model, rfl, rfl, rfl, gwT (i := 273) (by decide +kernel) rfl⟩
theorem f_Model_117 : fdK "EntityDeskModel" 117 3 15 false .int := ⟨_, _, _, t_Model, rfl, by decide, u_Model_in, t_Model_ok, n_Model, rfl, rfl, rfl, gwT (i := 274) (by decide +kernel) rfl⟩
theorem f_Model_130 : fdK "EntityDeskModel" 130 3 16 false .boolean := ⟨_, _, _, t_Model, rfl, by decide, u_Model_in, t_Model_ok, n_Model, rfl, rfl, rfl, gwT (i := 275) (by decide +kernel) rfl⟩
theorem f_Model_108 : fdK "EntityDeskModel" 108 3 17 false .int := ⟨_, _, _, t_Model, rfl, by decide, u_Model_in, t_Model_ok, n_Model, rfl, rfl, rfl, gwT (i := 276) (by decide +kernel) rfl⟩
theorem f_Model_111 : fdK "EntityDeskModel" 111 3 18 false .int := ⟨_, _, _, t_Model, rfl, by decide, u_Model_in, t_Model_ok, n_Model, rfl, rfl, rfl, gwT (i := 277) (by decide +kernel) rfl⟩
theorem f_Model_114 : fdK "EntityDeskModel" 114 3 19 false .int := ⟨_, _, _, t_Model, rfl, by decide, u_Model_in, t_Model_ok, n_Model, rfl, rfl, rfl, gwT (i := 278) (by decide +kernel) rfl⟩
theorem f_Model_44 : fdK "EntityDeskModel" 44 3 20 false .int := ⟨_, _, _, t_Model, rfl, by decide, u_Model_in, t_Model_ok, n_Model, rfl, rfl, rfl, gwT (i := 279) (by decide +kernel) rfl⟩
theorem f_Model_35 : fdK "EntityDeskModel" 35 3 21 false .int := ⟨_, _, _, t_Model, rfl, by decide, u_Model_in, t_Model_ok, n_Model, rfl, rfl, rfl, gwT (i := 280) (by decide +kernel) rfl⟩
theorem f_Model_67 : fdK "EntityDeskModel" 67 3 22 false .int := ⟨_, _, _, t_Model, rfl, by decide, u_Model_in, t_Model_ok, n_Model, rfl, rfl, rfl, gwT (i := 281) (by decide +kernel) rfl⟩
theorem f_Model_70 : fdK "EntityDeskModel" 70 3 23 false .long := ⟨_, _, _, t_Model, rfl, by decide, u_Model_in, t_Model_ok, n_Model, rfl, rfl, rfl, gwT (i := 282) (by decide +kernel) rfl⟩
theorem c_Model_42 : Cond.constantLong "EntityDeskModel" 42 (lN 255) ∈ gw := gwT (i := 336) (by decide +kernel) rfl
theorem k_Model_95 : Kv "EntityDeskModel" 95 y_Model_begin b_Model_begin 2 none 0 := ⟨gwT (i := 341) (by decide +kernel) rfl, gm_Model_begin, gl_Model_begin, gi_Model, gc_Model_begin, gp_Model_begin⟩
theorem k_Model_59 : Kv "EntityDeskModel" 59 y_Model_peek b_Model_peek 1 (some .int) 0 := ⟨gwT (i := 345) (by decide +kernel) rfl, gm_Model_peek, gl_Model_peek, gi_Model, gc_Model_peek, gp_Model_peek⟩
theorem k_Model_74 : Kv "EntityDeskModel" 74 y_Model_pass b_Model_pass 1 none 0 := ⟨gwT (i := 349) (by decide +kernel) rfl, gm_Model_pass, gl_Model_pass, gi_Model, gc_Model_pass, gp_Model_pass⟩
theorem k_Model_101 : Kv "EntityDeskModel" 101 y_Model_reference b_Model_reference 4 (some .int) 1 := ⟨gwT (i := 353) (by decide +kernel) rfl, gm_Model_reference, gl_Model_reference, gi_Model, gc_Model_reference, gp_Model_reference⟩
theorem k_Model_77 : Ks "EntityDeskModel" 77 y_Model_digit b_Model_digit 2 (some .int) 2 := ⟨gwT (i := 357) (by decide +kernel) rfl, gs_Model_digit, gi_Model, gc_Model_digit, gp_Model_digit⟩
theorem k_Model_80 : Kv "EntityDeskModel" 80 y_Model_broken b_Model_broken 1 (some .int) 0 := ⟨gwT (i := 360) (by decide +kernel) rfl, gm_Model_broken, gl_Model_broken, gi_Model, gc_Model_broken, gp_Model_broken⟩
theorem k_Model_63 : Kv "EntityDeskModel" 63 y_Model_fail b_Model_fail 3 (some .int) 2 := ⟨gwT (i := 364) (by decide +kernel) rfl, gm_Model_fail, gl_Model_fail, gi_Model, gc_Model_fail, gp_Model_fail⟩
theorem c_Model_83 : Cond.constantLong "EntityDeskModel" 83 (lN 1000000) ∈ gw := gwT (i := 368) (by decide +kernel) rfl
theorem c_Model_85 : Cond.constantLong "EntityDeskModel" 85 (lN 9) ∈ gw := gwT (i := 369) (by decide +kernel) rfl
theorem c_Model_87 : Cond.constantLong "EntityDeskModel" 87 (lN 10) ∈ gw := gwT (i := 370) (by decide +kernel) rfl
theorem c_Model_89 : Cond.constantLong "EntityDeskModel" 89 (lN 13) ∈ gw := gwT (i := 371) (by decide +kernel) rfl
theorem c_Model_91 : Cond.constantLong "EntityDeskModel" 91 (lN 32) ∈ gw := gwT (i := 372) (by decide +kernel) rfl
theorem c_Model_93 : Cond.constantLong "EntityDeskModel" 93 (lN 256) ∈ gw := gwT (i := 373) (by decide +kernel) rfl
theorem c_Model_126 : Cond.constant "EntityDeskModel" 126 (nI 100000) ∈ gw := gwT (i := 378) (by decide +kernel) rfl
theorem k_Model_127 : Kv "EntityDeskModel" 127 y_Model_step b_Model_step 4 (some .int) 1 := ⟨gwT (i := 379) (by decide +kernel) rfl, gm_Model_step, gl_Model_step, gi_Model, gc_Model_step, gp_Model_step⟩
theorem k_Model_120 : Kv "EntityDeskModel" 120 y_Model_give b_Model_give 3 (some .int) 2 := ⟨gwT (i := 383) (by decide +kernel) rfl, gm_Model_give, gl_Model_give, gi_Model, gc_Model_give, gp_Model_give⟩
theorem k_Model_123 : Kv "EntityDeskModel" 123 y_Model_enter b_Model_enter 5 (some .int) 2 := ⟨gwT (i := 387) (by decide +kernel) rfl, gm_Model_enter, gl_Model_enter, gi_Model, gc_Model_enter, gp_Model_enter⟩
theorem k_Law_7 : Cond.classLink "EntityDeskLaw" 7 "EntityDesk" ∈ gw ∧ Cond.instantiable "EntityDesk" 14 ∈ gw := ⟨gwT (i := 6) (by decide +kernel) rfl, gwT (i := 7) (by decide +kernel) rfl⟩
theorem k_Law_9 : Ki "EntityDeskLaw" 9 y_Desk_init b_Desk_init 1 0 := ⟨gwT (i := 8) (by decide +kernel) rfl, gm_Desk_init, gi_Desk, gc_Desk_init, gp_Desk_init, rfl⟩
theorem k_Law_15 : Kv "EntityDeskLaw" 15 y_Desk_put b_Desk_put 5 (some .boolean) 2 := ⟨gwT (i := 105) (by decide +kernel) rfl, gm_Desk_put, gl_Desk_put, gi_Desk, gc_Desk_put, gp_Desk_put⟩
theorem k_Law_20 : Kv "EntityDeskLaw" 20 y_Desk_declare b_Desk_declare 3 (some .int) 1 := ⟨gwT (i := 109) (by decide +kernel) rfl, gm_Desk_declare, gl_Desk_declare, gi_Desk, gc_Desk_declare, gp_Desk_declare⟩
theorem k_Law_25 : Kv "EntityDeskLaw" 25 y_Desk_expand b_Desk_expand 3 (some .int) 1 := ⟨gwT (i := 201) (by decide +kernel) rfl, gm_Desk_expand, gl_Desk_expand, gi_Desk, gc_Desk_expand, gp_Desk_expand⟩
theorem k_Law_29 : Kv "EntityDeskLaw" 29 y_Desk_place b_Desk_place 1 (some .int) 0 := ⟨gwT (i := 233) (by decide +kernel) rfl, gm_Desk_place, gl_Desk_place, gi_Desk, gc_Desk_place, gp_Desk_place⟩
theorem k_Law_34 : Kv "EntityDeskLaw" 34 y_Desk_given b_Desk_given 2 (some .int) 1 := ⟨gwT (i := 237) (by decide +kernel) rfl, gm_Desk_given, gl_Desk_given, gi_Desk, gc_Desk_given, gp_Desk_given⟩
theorem k_Law_38 : Kv "EntityDeskLaw" 38 y_Desk_text b_Desk_text 3 (some .int) 2 := ⟨gwT (i := 241) (by decide +kernel) rfl, gm_Desk_text, gl_Desk_text, gi_Desk, gc_Desk_text, gp_Desk_text⟩
theorem k_Law_43 : Kv "EntityDeskLaw" 43 y_Desk_count b_Desk_count 2 (some .int) 1 := ⟨gwT (i := 249) (by decide +kernel) rfl, gm_Desk_count, gl_Desk_count, gi_Desk, gc_Desk_count, gp_Desk_count⟩
theorem k_Law_10 : Cond.classLink "EntityDeskLaw" 10 "EntityDeskModel" ∈ gw ∧ Cond.instantiable "EntityDeskModel" 24 ∈ gw := ⟨gwT (i := 253) (by decide +kernel) rfl, gwT (i := 254) (by decide +kernel) rfl⟩
theorem k_Law_12 : Ki "EntityDeskLaw" 12 y_Model_init b_Model_init 1 0 := ⟨gwT (i := 255) (by decide +kernel) rfl, gm_Model_init, gi_Model, gc_Model_init, gp_Model_init, rfl⟩
theorem k_Law_19 : Kv "EntityDeskLaw" 19 y_Model_put b_Model_put 5 (some .boolean) 2 := ⟨gwT (i := 332) (by decide +kernel) rfl, gm_Model_put, gl_Model_put, gi_Model, gc_Model_put, gp_Model_put⟩
theorem k_Law_24 : Kv "EntityDeskLaw" 24 y_Model_declare b_Model_declare 9 (some .int) 1 := ⟨gwT (i := 337) (by decide +kernel) rfl, gm_Model_declare, gl_Model_declare, gi_Model, gc_Model_declare, gp_Model_declare⟩
theorem k_Law_28 : Kv "EntityDeskLaw" 28 y_Model_expand b_Model_expand 3 (some .int) 1 := ⟨gwT (i := 374) (by decide +kernel) rfl, gm_Model_expand, gl_Model_expand, gi_Model, gc_Model_expand, gp_Model_expand⟩
theorem k_Law_33 : Kv "EntityDeskLaw" 33 y_Model_place b_Model_place 1 (some .int) 0 := ⟨gwT (i := 391) (by decide +kernel) rfl, gm_Model_place, gl_Model_place, gi_Model, gc_Model_place, gp_Model_place⟩
theorem k_Law_37 : Kv "EntityDeskLaw" 37 y_Model_given b_Model_given 2 (some .int) 1 := ⟨gwT (i := 395) (by decide +kernel) rfl, gm_Model_given, gl_Model_given, gi_Model, gc_Model_given, gp_Model_given⟩
theorem k_Law_42 : Kv "EntityDeskLaw" 42 y_Model_text b_Model_text 3 (some .int) 2 := ⟨gwT (i := 399) (by decide +kernel) rfl, gm_Model_text, gl_Model_text, gi_Model, gc_Model_text, gp_Model_text⟩
theorem k_Law_46 : Kv "EntityDeskLaw" 46 y_Model_count b_Model_count 2 (some .int) 1 := ⟨gwT (i := 403) (by decide +kernel) rfl, gm_Model_count, gl_Model_count, gi_Model, gc_Model_count, gp_Model_count⟩
theorem c_Law_13 : Cond.constantLong "EntityDeskLaw" 13 (lN 4294967295) ∈ gw := gwT (i := 407) (by decide +kernel) rfl
theorem g_obj : Cond.instanceMethod objectInit ∈ gw ∧ Cond.code objectInit ⟨#[0xb1]⟩ 1 none ∈ gw := ⟨gwT (i := 12) (by decide +kernel) rfl, gwT (i := 13) (by decide +kernel) rfl⟩
end
