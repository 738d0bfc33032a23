section
-- ===== PART A: goes FIRST, ahead of the names: the tables' words, and 'selects' of the private methods out of them =====
/-- a private method of a class that the tables say can be made, by its rows of tables_1 -/
def lw_okq (q : MethodName × Nat) : Prop := (q.1.cls ≠ "java/lang/invoke/MethodHandle" ∧ q.1.cls ≠ "java/lang/invoke/VarHandle") ∧ Cond.instantiable q.1.cls q.2 ∈ tables_1 ∧ Cond.privateMethod q.1 ∈ tables_1 ∧ Cond.instanceMethod q.1 ∈ tables_1
theorem lw_p0 : lw_okq (⟨"EntityDesk", "beginReading", "()V"⟩, 14) := ⟨⟨by decide +kernel, by decide +kernel⟩, List.mem_of_getElem? (i := 7) (by decide +kernel), List.mem_of_getElem? (i := 117) (by decide +kernel), List.mem_of_getElem? (i := 118) (by decide +kernel)⟩
theorem lw_p1 : lw_okq (⟨"EntityDesk$Reader", "begin", "()V"⟩, 3) := ⟨⟨by decide +kernel, by decide +kernel⟩, List.mem_of_getElem? (i := 44) (by decide +kernel), List.mem_of_getElem? (i := 121) (by decide +kernel), List.mem_of_getElem? (i := 122) (by decide +kernel)⟩
theorem lw_p2 : lw_okq (⟨"EntityDesk$Entities", "has", "(I)Z"⟩, 6) := ⟨⟨by decide +kernel, by decide +kernel⟩, List.mem_of_getElem? (i := 15) (by decide +kernel), List.mem_of_getElem? (i := 125) (by decide +kernel), List.mem_of_getElem? (i := 126) (by decide +kernel)⟩
theorem lw_p3 : lw_okq (⟨"EntityDesk", "draftText", "(I)V"⟩, 14) := ⟨⟨by decide +kernel, by decide +kernel⟩, List.mem_of_getElem? (i := 7) (by decide +kernel), List.mem_of_getElem? (i := 129) (by decide +kernel), List.mem_of_getElem? (i := 130) (by decide +kernel)⟩
theorem lw_p4 : lw_okq (⟨"EntityDesk$Entities", "beginDraft", "()V"⟩, 6) := ⟨⟨by decide +kernel, by decide +kernel⟩, List.mem_of_getElem? (i := 15) (by decide +kernel), List.mem_of_getElem? (i := 133) (by decide +kernel), List.mem_of_getElem? (i := 134) (by decide +kernel)⟩
theorem lw_p5 : lw_okq (⟨"EntityDesk$Reader", "isWithin", "()Z"⟩, 3) := ⟨⟨by decide +kernel, by decide +kernel⟩, List.mem_of_getElem? (i := 44) (by decide +kernel), List.mem_of_getElem? (i := 137) (by decide +kernel), List.mem_of_getElem? (i := 138) (by decide +kernel)⟩
theorem lw_p6 : lw_okq (⟨"EntityDesk", "draftCharacter", "(II)V"⟩, 14) := ⟨⟨by decide +kernel, by decide +kernel⟩, List.mem_of_getElem? (i := 7) (by decide +kernel), List.mem_of_getElem? (i := 141) (by decide +kernel), List.mem_of_getElem? (i := 142) (by decide +kernel)⟩
theorem lw_p7 : lw_okq (⟨"EntityDesk", "readOn", "(II)I"⟩, 14) := ⟨⟨by decide +kernel, by decide +kernel⟩, List.mem_of_getElem? (i := 7) (by decide +kernel), List.mem_of_getElem? (i := 145) (by decide +kernel), List.mem_of_getElem? (i := 146) (by decide +kernel)⟩
theorem lw_p8 : lw_okq (⟨"EntityDesk$Reader", "read", "(I)I"⟩, 3) := ⟨⟨by decide +kernel, by decide +kernel⟩, List.mem_of_getElem? (i := 44) (by decide +kernel), List.mem_of_getElem? (i := 149) (by decide +kernel), List.mem_of_getElem? (i := 150) (by decide +kernel)⟩
theorem lw_p9 : lw_okq (⟨"EntityDesk$Reader", "readBehindAmpersand", "(I)I"⟩, 3) := ⟨⟨by decide +kernel, by decide +kernel⟩, List.mem_of_getElem? (i := 44) (by decide +kernel), List.mem_of_getElem? (i := 153) (by decide +kernel), List.mem_of_getElem? (i := 154) (by decide +kernel)⟩
theorem lw_p10 : lw_okq (⟨"EntityDesk$Reader", "goOn", "(I)I"⟩, 3) := ⟨⟨by decide +kernel, by decide +kernel⟩, List.mem_of_getElem? (i := 44) (by decide +kernel), List.mem_of_getElem? (i := 157) (by decide +kernel), List.mem_of_getElem? (i := 158) (by decide +kernel)⟩
theorem lw_p11 : lw_okq (⟨"EntityDesk$Reader", "finish", "(I)I"⟩, 3) := ⟨⟨by decide +kernel, by decide +kernel⟩, List.mem_of_getElem? (i := 44) (by decide +kernel), List.mem_of_getElem? (i := 161) (by decide +kernel), List.mem_of_getElem? (i := 162) (by decide +kernel)⟩
theorem lw_p12 : lw_okq (⟨"EntityDesk$Reader", "readDigit", "(III)I"⟩, 3) := ⟨⟨by decide +kernel, by decide +kernel⟩, List.mem_of_getElem? (i := 44) (by decide +kernel), List.mem_of_getElem? (i := 165) (by decide +kernel), List.mem_of_getElem? (i := 166) (by decide +kernel)⟩
theorem lw_p13 : lw_okq (⟨"EntityDesk$Reader", "finishNumber", "()I"⟩, 3) := ⟨⟨by decide +kernel, by decide +kernel⟩, List.mem_of_getElem? (i := 44) (by decide +kernel), List.mem_of_getElem? (i := 175) (by decide +kernel), List.mem_of_getElem? (i := 176) (by decide +kernel)⟩
theorem lw_p14 : lw_okq (⟨"EntityDesk", "fail", "(II)V"⟩, 14) := ⟨⟨by decide +kernel, by decide +kernel⟩, List.mem_of_getElem? (i := 7) (by decide +kernel), List.mem_of_getElem? (i := 182) (by decide +kernel), List.mem_of_getElem? (i := 183) (by decide +kernel)⟩
theorem lw_p15 : lw_okq (⟨"EntityDesk$Entities", "draft", "(I)V"⟩, 6) := ⟨⟨by decide +kernel, by decide +kernel⟩, List.mem_of_getElem? (i := 15) (by decide +kernel), List.mem_of_getElem? (i := 186) (by decide +kernel), List.mem_of_getElem? (i := 187) (by decide +kernel)⟩
def lw_privs_1 : List (MethodName × Nat) := [(⟨"EntityDesk", "beginReading", "()V"⟩, 14), (⟨"EntityDesk$Reader", "begin", "()V"⟩, 3), (⟨"EntityDesk$Entities", "has", "(I)Z"⟩, 6), (⟨"EntityDesk", "draftText", "(I)V"⟩, 14), (⟨"EntityDesk$Entities", "beginDraft", "()V"⟩, 6), (⟨"EntityDesk$Reader", "isWithin", "()Z"⟩, 3), (⟨"EntityDesk", "draftCharacter", "(II)V"⟩, 14), (⟨"EntityDesk", "readOn", "(II)I"⟩, 14), (⟨"EntityDesk$Reader", "read", "(I)I"⟩, 3), (⟨"EntityDesk$Reader", "readBehindAmpersand", "(I)I"⟩, 3), (⟨"EntityDesk$Reader", "goOn", "(I)I"⟩, 3), (⟨"EntityDesk$Reader", "finish", "(I)I"⟩, 3), (⟨"EntityDesk$Reader", "readDigit", "(III)I"⟩, 3), (⟨"EntityDesk$Reader", "finishNumber", "()I"⟩, 3), (⟨"EntityDesk", "fail", "(II)V"⟩, 14), (⟨"EntityDesk$Entities", "draft", "(I)V"⟩, 6)]
theorem lw_r1 : ∀ q ∈ lw_privs_1, lw_okq q := List.forall_mem_cons.mpr ⟨lw_p0, List.forall_mem_cons.mpr ⟨lw_p1, List.forall_mem_cons.mpr ⟨lw_p2, List.forall_mem_cons.mpr ⟨lw_p3, List.forall_mem_cons.mpr ⟨lw_p4, List.forall_mem_cons.mpr ⟨lw_p5, List.forall_mem_cons.mpr ⟨lw_p6, List.forall_mem_cons.mpr ⟨lw_p7, List.forall_mem_cons.mpr ⟨lw_p8, List.forall_mem_cons.mpr ⟨lw_p9, List.forall_mem_cons.mpr ⟨lw_p10, List.forall_mem_cons.mpr ⟨lw_p11, List.forall_mem_cons.mpr ⟨lw_p12, List.forall_mem_cons.mpr ⟨lw_p13, List.forall_mem_cons.mpr ⟨lw_p14, List.forall_mem_cons.mpr ⟨lw_p15, fun _ h => absurd h List.not_mem_nil⟩⟩⟩⟩⟩⟩⟩⟩⟩⟩⟩⟩⟩⟩⟩⟩
theorem lw_p16 : lw_okq (⟨"EntityDesk$Entities", "draftFits", "()Z"⟩, 6) := ⟨⟨by decide +kernel, by decide +kernel⟩, List.mem_of_getElem? (i := 15) (by decide +kernel), List.mem_of_getElem? (i := 190) (by decide +kernel), List.mem_of_getElem? (i := 191) (by decide +kernel)⟩
theorem lw_p17 : lw_okq (⟨"EntityDesk$Entities", "keepDraft", "(I)V"⟩, 6) := ⟨⟨by decide +kernel, by decide +kernel⟩, List.mem_of_getElem? (i := 15) (by decide +kernel), List.mem_of_getElem? (i := 194) (by decide +kernel), List.mem_of_getElem? (i := 195) (by decide +kernel)⟩
theorem lw_p18 : lw_okq (⟨"EntityDesk$Entities", "lengthOf", "(I)I"⟩, 6) := ⟨⟨by decide +kernel, by decide +kernel⟩, List.mem_of_getElem? (i := 15) (by decide +kernel), List.mem_of_getElem? (i := 198) (by decide +kernel), List.mem_of_getElem? (i := 199) (by decide +kernel)⟩
theorem lw_p19 : lw_okq (⟨"EntityDesk", "goOver", "([IIII)V"⟩, 14) := ⟨⟨by decide +kernel, by decide +kernel⟩, List.mem_of_getElem? (i := 7) (by decide +kernel), List.mem_of_getElem? (i := 207) (by decide +kernel), List.mem_of_getElem? (i := 208) (by decide +kernel)⟩
theorem lw_p20 : lw_okq (⟨"EntityDesk", "goOverCharacter", "(III)V"⟩, 14) := ⟨⟨by decide +kernel, by decide +kernel⟩, List.mem_of_getElem? (i := 7) (by decide +kernel), List.mem_of_getElem? (i := 211) (by decide +kernel), List.mem_of_getElem? (i := 212) (by decide +kernel)⟩
theorem lw_p21 : lw_okq (⟨"EntityDesk", "give", "(I)V"⟩, 14) := ⟨⟨by decide +kernel, by decide +kernel⟩, List.mem_of_getElem? (i := 7) (by decide +kernel), List.mem_of_getElem? (i := 215) (by decide +kernel), List.mem_of_getElem? (i := 216) (by decide +kernel)⟩
theorem lw_p22 : lw_okq (⟨"EntityDesk", "goInto", "(II)V"⟩, 14) := ⟨⟨by decide +kernel, by decide +kernel⟩, List.mem_of_getElem? (i := 7) (by decide +kernel), List.mem_of_getElem? (i := 219) (by decide +kernel), List.mem_of_getElem? (i := 220) (by decide +kernel)⟩
theorem lw_p23 : lw_okq (⟨"EntityDesk", "faultOfEntity", "(II)I"⟩, 14) := ⟨⟨by decide +kernel, by decide +kernel⟩, List.mem_of_getElem? (i := 7) (by decide +kernel), List.mem_of_getElem? (i := 223) (by decide +kernel), List.mem_of_getElem? (i := 224) (by decide +kernel)⟩
theorem lw_p24 : lw_okq (⟨"EntityDesk$Entities", "startOf", "(I)I"⟩, 6) := ⟨⟨by decide +kernel, by decide +kernel⟩, List.mem_of_getElem? (i := 15) (by decide +kernel), List.mem_of_getElem? (i := 230) (by decide +kernel), List.mem_of_getElem? (i := 231) (by decide +kernel)⟩
theorem lw_p25 : lw_okq (⟨"EntityDesk$Entities", "characterOf", "(II)I"⟩, 6) := ⟨⟨by decide +kernel, by decide +kernel⟩, List.mem_of_getElem? (i := 15) (by decide +kernel), List.mem_of_getElem? (i := 246) (by decide +kernel), List.mem_of_getElem? (i := 247) (by decide +kernel)⟩
theorem lw_p26 : lw_okq (⟨"EntityDeskModel", "begin", "()V"⟩, 24) := ⟨⟨by decide +kernel, by decide +kernel⟩, List.mem_of_getElem? (i := 254) (by decide +kernel), List.mem_of_getElem? (i := 342) (by decide +kernel), List.mem_of_getElem? (i := 343) (by decide +kernel)⟩
theorem lw_p27 : lw_okq (⟨"EntityDeskModel", "peek", "()I"⟩, 24) := ⟨⟨by decide +kernel, by decide +kernel⟩, List.mem_of_getElem? (i := 254) (by decide +kernel), List.mem_of_getElem? (i := 346) (by decide +kernel), List.mem_of_getElem? (i := 347) (by decide +kernel)⟩
theorem lw_p28 : lw_okq (⟨"EntityDeskModel", "pass", "()V"⟩, 24) := ⟨⟨by decide +kernel, by decide +kernel⟩, List.mem_of_getElem? (i := 254) (by decide +kernel), List.mem_of_getElem? (i := 350) (by decide +kernel), List.mem_of_getElem? (i := 351) (by decide +kernel)⟩
theorem lw_p29 : lw_okq (⟨"EntityDeskModel", "reference", "(I)I"⟩, 24) := ⟨⟨by decide +kernel, by decide +kernel⟩, List.mem_of_getElem? (i := 254) (by decide +kernel), List.mem_of_getElem? (i := 354) (by decide +kernel), List.mem_of_getElem? (i := 355) (by decide +kernel)⟩
theorem lw_p30 : lw_okq (⟨"EntityDeskModel", "broken", "()I"⟩, 24) := ⟨⟨by decide +kernel, by decide +kernel⟩, List.mem_of_getElem? (i := 254) (by decide +kernel), List.mem_of_getElem? (i := 361) (by decide +kernel), List.mem_of_getElem? (i := 362) (by decide +kernel)⟩
theorem lw_p31 : lw_okq (⟨"EntityDeskModel", "fail", "(II)I"⟩, 24) := ⟨⟨by decide +kernel, by decide +kernel⟩, List.mem_of_getElem? (i := 254) (by decide +kernel), List.mem_of_getElem? (i := 365) (by decide +kernel), List.mem_of_getElem? (i := 366) (by decide +kernel)⟩
def lw_privs_2 : List (MethodName × Nat) := [(⟨"EntityDesk$Entities", "draftFits", "()Z"⟩, 6), (⟨"EntityDesk$Entities", "keepDraft", "(I)V"⟩, 6), (⟨"EntityDesk$Entities", "lengthOf", "(I)I"⟩, 6), (⟨"EntityDesk", "goOver", "([IIII)V"⟩, 14), (⟨"EntityDesk", "goOverCharacter", "(III)V"⟩, 14), (⟨"EntityDesk", "give", "(I)V"⟩, 14), (⟨"EntityDesk", "goInto", "(II)V"⟩, 14), (⟨"EntityDesk", "faultOfEntity", "(II)I"⟩, 14), (⟨"EntityDesk$Entities", "startOf", "(I)I"⟩, 6), (⟨"EntityDesk$Entities", "characterOf", "(II)I"⟩, 6), (⟨"EntityDeskModel", "begin", "()V"⟩, 24), (⟨"EntityDeskModel", "peek", "()I"⟩, 24), (⟨"EntityDeskModel", "pass", "()V"⟩, 24), (⟨"EntityDeskModel", "reference", "(I)I"⟩, 24), (⟨"EntityDeskModel", "broken", "()I"⟩, 24), (⟨"EntityDeskModel", "fail", "(II)I"⟩, 24)]
theorem lw_r2 : ∀ q ∈ lw_privs_2, lw_okq q := List.forall_mem_cons.mpr ⟨lw_p16, List.forall_mem_cons.mpr ⟨lw_p17, List.forall_mem_cons.mpr ⟨lw_p18, List.forall_mem_cons.mpr ⟨lw_p19, List.forall_mem_cons.mpr ⟨lw_p20, List.forall_mem_cons.mpr ⟨lw_p21, List.forall_mem_cons.mpr ⟨lw_p22, List.forall_mem_cons.mpr ⟨lw_p23, List.forall_mem_cons.mpr ⟨lw_p24, List.forall_mem_cons.mpr ⟨lw_p25, List.forall_mem_cons.mpr ⟨lw_p26, List.forall_mem_cons.mpr ⟨lw_p27, List.forall_mem_cons.mpr ⟨lw_p28, List.forall_mem_cons.mpr ⟨lw_p29, List.forall_mem_cons.mpr ⟨lw_p30, List.forall_mem_cons.mpr ⟨lw_p31, fun _ h => absurd h List.not_mem_nil⟩⟩⟩⟩⟩⟩⟩⟩⟩⟩⟩⟩⟩⟩⟩⟩
theorem lw_p32 : lw_okq (⟨"EntityDeskModel", "step", "(I)I"⟩, 24) := ⟨⟨by decide +kernel, by decide +kernel⟩, List.mem_of_getElem? (i := 254) (by decide +kernel), List.mem_of_getElem? (i := 380) (by decide +kernel), List.mem_of_getElem? (i := 381) (by decide +kernel)⟩
theorem lw_p33 : lw_okq (⟨"EntityDeskModel", "give", "(II)I"⟩, 24) := ⟨⟨by decide +kernel, by decide +kernel⟩, List.mem_of_getElem? (i := 254) (by decide +kernel), List.mem_of_getElem? (i := 384) (by decide +kernel), List.mem_of_getElem? (i := 385) (by decide +kernel)⟩
theorem lw_p34 : lw_okq (⟨"EntityDeskModel", "enter", "(II)I"⟩, 24) := ⟨⟨by decide +kernel, by decide +kernel⟩, List.mem_of_getElem? (i := 254) (by decide +kernel), List.mem_of_getElem? (i := 388) (by decide +kernel), List.mem_of_getElem? (i := 389) (by decide +kernel)⟩
def lw_privs_3 : List (MethodName × Nat) := [(⟨"EntityDeskModel", "step", "(I)I"⟩, 24), (⟨"EntityDeskModel", "give", "(II)I"⟩, 24), (⟨"EntityDeskModel", "enter", "(II)I"⟩, 24)]
theorem lw_r3 : ∀ q ∈ lw_privs_3, lw_okq q := List.forall_mem_cons.mpr ⟨lw_p32, List.forall_mem_cons.mpr ⟨lw_p33, List.forall_mem_cons.mpr ⟨lw_p34, fun _ h => absurd h List.not_mem_nil⟩⟩⟩
def lw_privs : List (MethodName × Nat) := lw_privs_1 ++ (lw_privs_2 ++ (lw_privs_3))
def lw_tbl : List Cond := k2_sels lw_privs ++ tables_1
theorem lw_privs_ok : ∀ q ∈ lw_privs, lw_okq q := by
  show ∀ q ∈ lw_privs_1 ++ (lw_privs_2 ++ (lw_privs_3)), lw_okq q
  exact List.forall_mem_append.mpr ⟨lw_r1, List.forall_mem_append.mpr ⟨lw_r2, lw_r3⟩⟩
abbrev R_Desk : String := "EntityDesk"
abbrev R_Ents : String := "EntityDesk$Entities"
abbrev R_Reader : String := "EntityDesk$Reader"
abbrev R_Model : String := "EntityDeskModel"
abbrev R_Law : String := "EntityDeskLaw"
def F_Desk : u_T := fun k => match k with
  | 0 => ("EntityDesk", "hand", "[I", true)
  | 1 => ("EntityDesk", "inHand", "I", false)
  | 2 => ("EntityDesk", "entities", "LEntityDesk$Entities;", true)
  | 3 => ("EntityDesk", "reader", "LEntityDesk$Reader;", true)
  | 4 => ("EntityDesk", "fault", "I", false)
  | 5 => ("EntityDesk", "faultPlace", "I", false)
  | 6 => ("EntityDesk", "outerPlace", "I", false)
  | 7 => ("EntityDesk", "output", "[I", true)
  | 8 => ("EntityDesk", "outputLength", "I", false)
  | 9 => ("EntityDesk", "open", "[Z", true)
  | 10 => ("EntityDesk", "meterLimit", "I", false)
  | 11 => ("EntityDesk", "meter", "I", false)
  | 12 => ("EntityDesk", "putIn", "I", false)
  | _ => ("EntityDesk", "deepest", "I", false)
def t_Desk : Nat → FieldType := fun k => match k with
  | 0 => .array .int
  | 1 => .int
  | 2 => .object "EntityDesk$Entities"
  | 3 => .object "EntityDesk$Reader"
  | 4 => .int
  | 5 => .int
  | 6 => .int
  | 7 => .array .int
  | 8 => .int
  | 9 => .array .boolean
  | 10 => .int
  | 11 => .int
  | 12 => .int
  | _ => .int
theorem n_Desk : ∀ a, a < 14 → ∀ b, b < 14 → a ≠ b → (F_Desk a).2.1 ≠ (F_Desk b).2.1 := by decide +kernel
theorem t_Desk_ok : ∀ k, k < 14 → parseFieldDescriptor (F_Desk k).2.2.1 = some (t_Desk k) := by decide +kernel
def F_Ents : u_T := fun k => match k with
  | 0 => ("EntityDesk$Entities", "row", "[I", true)
  | 1 => ("EntityDesk$Entities", "starts", "[I", true)
  | 2 => ("EntityDesk$Entities", "lengths", "[I", true)
  | 3 => ("EntityDesk$Entities", "declared", "I", false)
  | 4 => ("EntityDesk$Entities", "kept", "I", false)
  | _ => ("EntityDesk$Entities", "drafted", "I", false)
def t_Ents : Nat → FieldType := fun k => match k with
  | 0 => .array .int
  | 1 => .array .int
  | 2 => .array .int
  | 3 => .int
  | 4 => .int
  | _ => .int
theorem n_Ents : ∀ a, a < 6 → ∀ b, b < 6 → a ≠ b → (F_Ents a).2.1 ≠ (F_Ents b).2.1 := by decide +kernel
theorem t_Ents_ok : ∀ k, k < 6 → parseFieldDescriptor (F_Ents k).2.2.1 = some (t_Ents k) := by decide +kernel
def F_Reader : u_T := fun k => match k with
  | 0 => ("EntityDesk$Reader", "state", "I", false)
  | 1 => ("EntityDesk$Reader", "name", "I", false)
  | _ => ("EntityDesk$Reader", "number", "I", false)
def t_Reader : Nat → FieldType := fun k => match k with
  | 0 => .int
  | 1 => .int
  | _ => .int
theorem n_Reader : ∀ a, a < 3 → ∀ b, b < 3 → a ≠ b → (F_Reader a).2.1 ≠ (F_Reader b).2.1 := by decide +kernel
theorem t_Reader_ok : ∀ k, k < 3 → parseFieldDescriptor (F_Reader k).2.2.1 = some (t_Reader k) := by decide +kernel
def F_Model : u_T := fun k => match k with
  | 0 => ("EntityDeskModel", "hand", "[I", true)
  | 1 => ("EntityDeskModel", "size", "I", false)
  | 2 => ("EntityDeskModel", "texts", "[I", true)
  | 3 => ("EntityDeskModel", "used", "I", false)
  | 4 => ("EntityDeskModel", "begins", "[I", true)
  | 5 => ("EntityDeskModel", "ends", "[I", true)
  | 6 => ("EntityDeskModel", "has", "[Z", true)
  | 7 => ("EntityDeskModel", "entities", "I", false)
  | 8 => ("EntityDeskModel", "row", "[I", true)
  | 9 => ("EntityDeskModel", "left", "I", false)
  | 10 => ("EntityDeskModel", "open", "[Z", true)
  | 11 => ("EntityDeskModel", "depth", "I", false)
  | 12 => ("EntityDeskModel", "next", "I", false)
  | 13 => ("EntityDeskModel", "outer", "I", false)
  | 14 => ("EntityDeskModel", "out", "[I", true)
  | 15 => ("EntityDeskModel", "outs", "I", false)
  | 16 => ("EntityDeskModel", "fine", "Z", false)
  | 17 => ("EntityDeskModel", "meter", "I", false)
  | 18 => ("EntityDeskModel", "puts", "I", false)
  | 19 => ("EntityDeskModel", "deepest", "I", false)
  | 20 => ("EntityDeskModel", "fault", "I", false)
  | 21 => ("EntityDeskModel", "place", "I", false)
  | 22 => ("EntityDeskModel", "name", "I", false)
  | _ => ("EntityDeskModel", "number", "J", false)
def t_Model : Nat → FieldType := fun k => match k with
  | 0 => .array .int
  | 1 => .int
  | 2 => .array .int
  | 3 => .int
  | 4 => .array .int
  | 5 => .array .int
  | 6 => .array .boolean
  | 7 => .int
  | 8 => .array .int
  | 9 => .int
  | 10 => .array .boolean
  | 11 => .int
  | 12 => .int
  | 13 => .int
  | 14 => .array .int
  | 15 => .int
  | 16 => .boolean
  | 17 => .int
  | 18 => .int
  | 19 => .int
  | 20 => .int
  | 21 => .int
  | 22 => .int
  | _ => .long
theorem n_Model : ∀ a, a < 24 → ∀ b, b < 24 → a ≠ b → (F_Model a).2.1 ≠ (F_Model b).2.1 := by decide +kernel
theorem t_Model_ok : ∀ k, k < 24 → parseFieldDescriptor (F_Model k).2.2.1 = some (t_Model k) := by decide +kernel
abbrev classes : List vw_C := [(R_Desk, F_Desk, 14), (R_Ents, F_Ents, 6), (R_Reader, F_Reader, 3), (R_Model, F_Model, 24)]
abbrev b_Desk_init : ByteArray := prog_1_method_1_code
abbrev y_Desk_init : MethodName := ⟨"EntityDesk", "<init>", "()V"⟩
abbrev b_Ents_init : ByteArray := prog_2_method_1_code
abbrev y_Ents_init : MethodName := ⟨"EntityDesk$Entities", "<init>", "()V"⟩
abbrev b_Reader_init : ByteArray := prog_3_method_1_code
abbrev y_Reader_init : MethodName := ⟨"EntityDesk$Reader", "<init>", "()V"⟩
abbrev b_Desk_put : ByteArray := prog_1_method_2_code
abbrev y_Desk_put : MethodName := ⟨"EntityDesk", "put", "(JI)Z"⟩
abbrev b_Desk_declare : ByteArray := prog_1_method_3_code
abbrev y_Desk_declare : MethodName := ⟨"EntityDesk", "declare", "(I)I"⟩
abbrev b_Desk_isName : ByteArray := prog_1_method_9_code
abbrev y_Desk_isName : MethodName := ⟨"EntityDesk", "isName", "(I)Z"⟩
abbrev b_Desk_beginReading : ByteArray := prog_1_method_10_code
abbrev y_Desk_beginReading : MethodName := ⟨"EntityDesk", "beginReading", "()V"⟩
abbrev b_Reader_begin : ByteArray := prog_3_method_2_code
abbrev y_Reader_begin : MethodName := ⟨"EntityDesk$Reader", "begin", "()V"⟩
abbrev b_Ents_has : ByteArray := prog_2_method_2_code
abbrev y_Ents_has : MethodName := ⟨"EntityDesk$Entities", "has", "(I)Z"⟩
abbrev b_Desk_draftText : ByteArray := prog_1_method_13_code
abbrev y_Desk_draftText : MethodName := ⟨"EntityDesk", "draftText", "(I)V"⟩
abbrev b_Ents_beginDraft : ByteArray := prog_2_method_6_code
abbrev y_Ents_beginDraft : MethodName := ⟨"EntityDesk$Entities", "beginDraft", "()V"⟩
abbrev b_Reader_isWithin : ByteArray := prog_3_method_3_code
abbrev y_Reader_isWithin : MethodName := ⟨"EntityDesk$Reader", "isWithin", "()Z"⟩
abbrev b_Desk_draftCharacter : ByteArray := prog_1_method_14_code
abbrev y_Desk_draftCharacter : MethodName := ⟨"EntityDesk", "draftCharacter", "(II)V"⟩
abbrev b_Desk_readOn : ByteArray := prog_1_method_12_code
abbrev y_Desk_readOn : MethodName := ⟨"EntityDesk", "readOn", "(II)I"⟩
abbrev b_Reader_read : ByteArray := prog_3_method_4_code
abbrev y_Reader_read : MethodName := ⟨"EntityDesk$Reader", "read", "(I)I"⟩
abbrev b_Reader_readBehindAmpersand : ByteArray := prog_3_method_5_code
abbrev y_Reader_readBehindAmpersand : MethodName := ⟨"EntityDesk$Reader", "readBehindAmpersand", "(I)I"⟩
abbrev b_Reader_goOn : ByteArray := prog_3_method_10_code
abbrev y_Reader_goOn : MethodName := ⟨"EntityDesk$Reader", "goOn", "(I)I"⟩
abbrev b_Reader_finish : ByteArray := prog_3_method_11_code
abbrev y_Reader_finish : MethodName := ⟨"EntityDesk$Reader", "finish", "(I)I"⟩
abbrev b_Reader_readDigit : ByteArray := prog_3_method_6_code
abbrev y_Reader_readDigit : MethodName := ⟨"EntityDesk$Reader", "readDigit", "(III)I"⟩
abbrev b_Reader_valueOf : ByteArray := prog_3_method_7_code
abbrev y_Reader_valueOf : MethodName := ⟨"EntityDesk$Reader", "valueOf", "(I)I"⟩
abbrev b_Reader_finishNumber : ByteArray := prog_3_method_9_code
abbrev y_Reader_finishNumber : MethodName := ⟨"EntityDesk$Reader", "finishNumber", "()I"⟩
abbrev b_Reader_mayBe : ByteArray := prog_3_method_8_code
abbrev y_Reader_mayBe : MethodName := ⟨"EntityDesk$Reader", "mayBe", "(I)Z"⟩
abbrev b_Desk_fail : ByteArray := prog_1_method_11_code
abbrev y_Desk_fail : MethodName := ⟨"EntityDesk", "fail", "(II)V"⟩
abbrev b_Ents_draft : ByteArray := prog_2_method_7_code
abbrev y_Ents_draft : MethodName := ⟨"EntityDesk$Entities", "draft", "(I)V"⟩
abbrev b_Ents_draftFits : ByteArray := prog_2_method_8_code
abbrev y_Ents_draftFits : MethodName := ⟨"EntityDesk$Entities", "draftFits", "()Z"⟩
abbrev b_Ents_keepDraft : ByteArray := prog_2_method_9_code
abbrev y_Ents_keepDraft : MethodName := ⟨"EntityDesk$Entities", "keepDraft", "(I)V"⟩
abbrev b_Ents_lengthOf : ByteArray := prog_2_method_4_code
abbrev y_Ents_lengthOf : MethodName := ⟨"EntityDesk$Entities", "lengthOf", "(I)I"⟩
abbrev b_Desk_expand : ByteArray := prog_1_method_4_code
abbrev y_Desk_expand : MethodName := ⟨"EntityDesk", "expand", "(I)I"⟩
abbrev b_Desk_goOver : ByteArray := prog_1_method_15_code
abbrev y_Desk_goOver : MethodName := ⟨"EntityDesk", "goOver", "([IIII)V"⟩
abbrev b_Desk_goOverCharacter : ByteArray := prog_1_method_16_code
abbrev y_Desk_goOverCharacter : MethodName := ⟨"EntityDesk", "goOverCharacter", "(III)V"⟩
abbrev b_Desk_give : ByteArray := prog_1_method_17_code
abbrev y_Desk_give : MethodName := ⟨"EntityDesk", "give", "(I)V"⟩
abbrev b_Desk_goInto : ByteArray := prog_1_method_18_code
abbrev y_Desk_goInto : MethodName := ⟨"EntityDesk", "goInto", "(II)V"⟩
abbrev b_Desk_faultOfEntity : ByteArray := prog_1_method_19_code
abbrev y_Desk_faultOfEntity : MethodName := ⟨"EntityDesk", "faultOfEntity", "(II)I"⟩
abbrev b_Ents_startOf : ByteArray := prog_2_method_3_code
abbrev y_Ents_startOf : MethodName := ⟨"EntityDesk$Entities", "startOf", "(I)I"⟩
abbrev b_Desk_place : ByteArray := prog_1_method_5_code
abbrev y_Desk_place : MethodName := ⟨"EntityDesk", "place", "()I"⟩
abbrev b_Desk_given : ByteArray := prog_1_method_6_code
abbrev y_Desk_given : MethodName := ⟨"EntityDesk", "given", "(I)I"⟩
abbrev b_Desk_text : ByteArray := prog_1_method_7_code
abbrev y_Desk_text : MethodName := ⟨"EntityDesk", "text", "(II)I"⟩
abbrev b_Ents_characterOf : ByteArray := prog_2_method_5_code
abbrev y_Ents_characterOf : MethodName := ⟨"EntityDesk$Entities", "characterOf", "(II)I"⟩
abbrev b_Desk_count : ByteArray := prog_1_method_8_code
abbrev y_Desk_count : MethodName := ⟨"EntityDesk", "count", "(I)I"⟩
abbrev b_Model_init : ByteArray := prog_5_method_1_code
abbrev y_Model_init : MethodName := ⟨"EntityDeskModel", "<init>", "()V"⟩
abbrev b_Model_put : ByteArray := prog_5_method_2_code
abbrev y_Model_put : MethodName := ⟨"EntityDeskModel", "put", "(JI)Z"⟩
abbrev b_Model_declare : ByteArray := prog_5_method_10_code
abbrev y_Model_declare : MethodName := ⟨"EntityDeskModel", "declare", "(I)I"⟩
abbrev b_Model_begin : ByteArray := prog_5_method_9_code
abbrev y_Model_begin : MethodName := ⟨"EntityDeskModel", "begin", "()V"⟩
abbrev b_Model_peek : ByteArray := prog_5_method_4_code
abbrev y_Model_peek : MethodName := ⟨"EntityDeskModel", "peek", "()I"⟩
abbrev b_Model_pass : ByteArray := prog_5_method_5_code
abbrev y_Model_pass : MethodName := ⟨"EntityDeskModel", "pass", "()V"⟩
abbrev b_Model_reference : ByteArray := prog_5_method_8_code
abbrev y_Model_reference : MethodName := ⟨"EntityDeskModel", "reference", "(I)I"⟩
abbrev b_Model_digit : ByteArray := prog_5_method_6_code
abbrev y_Model_digit : MethodName := ⟨"EntityDeskModel", "digit", "(II)I"⟩
abbrev b_Model_broken : ByteArray := prog_5_method_7_code
abbrev y_Model_broken : MethodName := ⟨"EntityDeskModel", "broken", "()I"⟩
abbrev b_Model_fail : ByteArray := prog_5_method_3_code
abbrev y_Model_fail : MethodName := ⟨"EntityDeskModel", "fail", "(II)I"⟩
abbrev b_Model_expand : ByteArray := prog_5_method_14_code
abbrev y_Model_expand : MethodName := ⟨"EntityDeskModel", "expand", "(I)I"⟩
abbrev b_Model_step : ByteArray := prog_5_method_13_code
abbrev y_Model_step : MethodName := ⟨"EntityDeskModel", "step", "(I)I"⟩
abbrev b_Model_give : ByteArray := prog_5_method_12_code
abbrev y_Model_give : MethodName := ⟨"EntityDeskModel", "give", "(II)I"⟩
abbrev b_Model_enter : ByteArray := prog_5_method_11_code
abbrev y_Model_enter : MethodName := ⟨"EntityDeskModel", "enter", "(II)I"⟩
abbrev b_Model_place : ByteArray := prog_5_method_15_code
abbrev y_Model_place : MethodName := ⟨"EntityDeskModel", "place", "()I"⟩
abbrev b_Model_given : ByteArray := prog_5_method_16_code
abbrev y_Model_given : MethodName := ⟨"EntityDeskModel", "given", "(I)I"⟩
abbrev b_Model_text : ByteArray := prog_5_method_17_code
abbrev y_Model_text : MethodName := ⟨"EntityDeskModel", "text", "(II)I"⟩
abbrev b_Model_count : ByteArray := prog_5_method_18_code
abbrev y_Model_count : MethodName := ⟨"EntityDeskModel", "count", "(I)I"⟩
end
section
/-! THE FRAME: every contract stands over the same words (gw, and the nest words nw), a walk's fixed facts are one fact (Cx), its world is one fact (Wd). -/
def gw : List Cond := lw_tbl.filter goodWord
theorem gw_good : ∀ w ∈ gw, goodWord w = true := fun _ h => (List.mem_filter.mp h).2
theorem gw_tbl : ∀ w ∈ gw, w ∈ lw_tbl := fun _ h => (List.mem_filter.mp h).1
theorem gw_in {w : Cond} (h : w ∈ lw_tbl) (g : goodWord w = true) : w ∈ gw := List.mem_filter.mpr ⟨h, g⟩
theorem gw_inCode {y : MethodName} {b : ByteArray} {n : Nat} {r : Option FieldType} {i : Nat} (h : lw_tbl[i]? = some (.code y b n r)) : Cond.code y b n r ∈ gw := gw_in (List.mem_of_getElem? h) rfl
theorem gi_gw {big : List Cond} (hb : ∀ w ∈ gw, w ∈ big) {y : MethodName} {b : ByteArray} {n : Nat} {r : Option FieldType} (h : Cond.code y b n r ∈ gw) : GoodIn big (Cond.code y b n r :: gw) := by
  intro w hw
  rcases List.mem_cons.mp hw with rfl | hw
  · exact ⟨hb _ h, good_of_word (gw_good _ h)⟩
  · exact ⟨hb _ hw, good_of_word (gw_good _ hw)⟩
def isNest : Cond → Bool
  | .fieldLinkNest .. => true
  | .methodLinkNest .. => true
  | _ => false
def nw : List Cond := lw_tbl.filter isNest
theorem nw_in {w : Cond} (h : w ∈ lw_tbl) (g : isNest w = true) : w ∈ nw := List.mem_filter.mpr ⟨h, g⟩
theorem nest_tab {w : Cond} (hn : isNest w = true) : w.onTables = true := by
  unfold isNest at hn
  split at hn
  · rfl
  · rfl
  · cases hn
theorem nest_warm {w : Cond} (hn : isNest w = true) {s U : State} (hW : s.WarmedH U.vm) (h : va_Nw w s) : va_Nw w U := by
  unfold isNest at hn
  split at hn
  · exact va_Nw.warmF hW h
  · exact va_Nw.warmM hW h
  · cases hn
def NW (U : State) : Prop := ∀ w ∈ nw, va_Nw w U
theorem NW.warm {s U : State} (hW : s.WarmedH U.vm) (h : NW s) : NW U := fun w hw => nest_warm (List.mem_filter.mp hw).2 hW (h w hw)
theorem NW.same {u U : State} (hv : u.vm = U.vm) (h : NW u) : NW U := fun w hw => va_Nw.same (nest_tab (List.mem_filter.mp hw).2) hv (h w hw)
def KN (D : va_G) (cI cZ : ClassId) (U : State) : Prop := va_K D classes [(cI, .int), (cZ, .boolean)] U ∧ NW U
theorem KN.warm {D : va_G} {cI cZ : ClassId} {s U : State} (hW : s.WarmedH U.vm) (h : KN D cI cZ s) : KN D cI cZ U := ⟨va_K.moved hW.alike h.1, NW.warm hW h.2⟩
theorem KN.calling {D : va_G} {cI cZ : ClassId} {U : State} {g : JFrame} {mk : MethodId} {a : Array Value} (h : KN D cI cZ U) : KN D cI cZ (U.calling g mk a) := ⟨va_K.moved (u := U) (U := U.calling g mk a) (Vm.Alike.refl U.vm) h.1, NW.same (u := U) (U := U.calling g mk a) rfl h.2⟩
def PcS (D : va_G) (cI cZ : ClassId) (av : List Value) (ws : va_W) (sz : Nat) : Array Value → State → Prop := va_Pc av (fun U => U.heap.size = sz ∧ va_P D classes ws U.heap ∧ KN D cI cZ U ∧ va_D (fun _ => True) ws)
theorem PcS.blind {D : va_G} {cI cZ : ClassId} {av : List Value} {ws : va_W} {sz : Nat} : FrameBlind (PcS D cI cZ av ws sz) := by
  intro a U g mk q
  obtain ⟨q0, q1, qP, qK, qD⟩ := q
  exact ⟨q0, q1, qP, qK.calling, qD⟩
def BS {S : Type} (D : va_G) (wo : S → va_W) (A : Nat → Prop) (u : S) (t : State) : Prop := va_P D classes (wo u) t.heap ∧ va_D A (wo u)
/-- a contract that answers an int (or a boolean) -/
def Mi {S : Type} (l : Launch) (y : MethodName) (cc : ByteArray) (nL : Nat) (ret : Option FieldType) (rm : Room) (D : va_G) (cI cZ : ClassId) (av : List Value) (ws : va_W) (post : Int32 → S → Prop) (wo : S → va_W) : Prop :=
  ∀ sz : Nat, Met l y (.code y cc nL ret :: gw) rm (PcS D cI cZ av ws sz) (va_Qi post (BS D wo (va_A ws sz)) (va_A ws sz)) 0 0 (va_A ws sz)
/-- a contract that answers nothing -/
def Mv {S : Type} (l : Launch) (y : MethodName) (cc : ByteArray) (nL : Nat) (rm : Room) (D : va_G) (cI cZ : ClassId) (av : List Value) (ws : va_W) (post : S → Prop) (wo : S → va_W) (mc ms : Nat) : Prop :=
  ∀ sz : Nat, Met l y (.code y cc nL none :: gw) rm (PcS D cI cZ av ws sz) (va_Qv post (BS D wo (va_A ws sz)) (va_A ws sz)) mc ms (va_A ws sz)
/-- the fixed facts of a walk -/
def Cx (p : Program) (s : State) (m : MethodId) (args : Array Value) (meth : Method) (c : Code) (cc : ByteArray) (nL : Nat) (ret : Option FieldType) (own : String) (D : va_G) (cI cZ : ClassId) (A : Nat → Prop) : Prop :=
  p.tables.exec = Jvm.exec ∧ c.code = cc ∧ c.maxLocals = nL ∧ meth.sig.returnType = ret ∧ meth.locks = false ∧ s.vm.findClass own = some m.cls ∧ (∀ w ∈ gw, w.before args s = true) ∧ KN D cI cZ s ∧ (∀ q, s.heap.size ≤ q → A q)
def Wd (D : va_G) (A : Nat → Prop) (H0 : Heap) (ws : va_W) (H : Heap) (locs : List Loc) : Prop := va_P D classes ws H ∧ va_D A ws ∧ va_S A H0 H locs
def QI {S : Type} (below : List Frame) (D : va_G) (post : Int32 → S → Prop) (wo : S → va_W) (A : Nat → Prop) (args : Array Value) (s : State) : State → Prop := MQ below (va_Qi post (BS D wo A) A) args s 0 0 A
def QV {S : Type} (below : List Frame) (D : va_G) (post : S → Prop) (wo : S → va_W) (A : Nat → Prop) (args : Array Value) (s : State) (mc ms : Nat) : State → Prop := MQ below (va_Qv post (BS D wo A) A) args s mc ms A
theorem Mi.intro {S : Type} {l : Launch} {y : MethodName} {cc : ByteArray} {nL : Nat} {ret : Option FieldType} {rm : Room} {D : va_G} {cI cZ : ClassId} {av : List Value} {ws : va_W} {post : Int32 → S → Prop} {wo : S → va_W} (hy : plainName y.cls = true) (hn : (lg_sl av).length ≤ nL)
    (body : ∀ (p : Program) (e : Env) (s : State) (m : MethodId) (args : Array Value) (below : List Frame) (meth : Method) (c : Code) (A : Nat → Prop) (ls : Array Slot) (R : Room) (Q : State → Prop), R = rm → Q = QI below D post wo A args s → Cx p s m args meth c cc nL ret y.cls D cI cZ A → Wd D A s.heap ws s.heap [] → lv_has ls nL (lv_args 0 av) → W p l e R s m args below meth c s.heap [] 0 0 Q (F0 m 0 ls [])) : Mi l y cc nL ret rm D cI cZ av ws post wo := by
  intro sz
  refine Met.ofW (cc := cc) (maxL := nL) (ret := ret) hy rfl ?_
  intro p e s m args below meth c s₁ B hml hv
  obtain ⟨rfl, hsz, hP, hK, hD0⟩ := hv
  subst hsz
  have hl := lv_entry av (n := nL) hn
  rw [lg_entry_eq]
  exact body p e s m av.toArray below meth c (va_A ws s.heap.size) _ rm _ rfl rfl ⟨B.exec, B.bytes, hml, B.returns, B.notSynchronized, findClass_of_methodNamed B.named, fun w hw => atoms_spec (ws := .code y cc nL ret :: gw) B.pre w (List.mem_cons_of_mem _ hw), hK, fun q h => Or.inr h⟩ ⟨hP, hD0.self (sz := s.heap.size), va_S.rf⟩ hl
theorem Mv.intro {S : Type} {l : Launch} {y : MethodName} {cc : ByteArray} {nL : Nat} {rm : Room} {D : va_G} {cI cZ : ClassId} {av : List Value} {ws : va_W} {post : S → Prop} {wo : S → va_W} {mc ms : Nat} (hy : plainName y.cls = true) (hn : (lg_sl av).length ≤ nL)
    (body : ∀ (p : Program) (e : Env) (s : State) (m : MethodId) (args : Array Value) (below : List Frame) (meth : Method) (c : Code) (A : Nat → Prop) (ls : Array Slot) (R : Room) (Q : State → Prop), R = rm → Q = QV below D post wo A args s mc ms → Cx p s m args meth c cc nL none y.cls D cI cZ A → meth.name = y.name → Wd D A s.heap ws s.heap [] → lv_has ls nL (lv_args 0 av) → W p l e R s m args below meth c s.heap [] 0 0 Q (F0 m 0 ls [])) : Mv l y cc nL rm D cI cZ av ws post wo mc ms := by
  intro sz
  refine Met.ofW (cc := cc) (maxL := nL) (ret := none) hy rfl ?_
  intro p e s m args below meth c s₁ B hml hv
  obtain ⟨rfl, hsz, hP, hK, hD0⟩ := hv
  subst hsz
  have hl := lv_entry av (n := nL) hn
  rw [lg_entry_eq]
  exact body p e s m av.toArray below meth c (va_A ws s.heap.size) _ rm _ rfl rfl ⟨B.exec, B.bytes, hml, B.returns, B.notSynchronized, findClass_of_methodNamed B.named, fun w hw => atoms_spec (ws := .code y cc nL none :: gw) B.pre w (List.mem_cons_of_mem _ hw), hK, fun q h => Or.inr h⟩ (name_of_methodNamed B.named B.method).1 ⟨hP, hD0.self (sz := s.heap.size), va_S.rf⟩ hl
/-! arrays of naturals -/
def aN (f : Nat → Nat) : Nat → Int32 := fun j => nI (f j)
def aM (f : Nat → Nat) : Nat → Int32 := fun j => nI (f j) - 1
def updN (f : Nat → Nat) (k x : Nat) : Nat → Nat := fun j => if j = k then x else f j
theorem upd_aN (f : Nat → Nat) (k x : Nat) : upd (aN f) k (nI x) = aN (updN f k x) := by
  funext j
  unfold upd aN updN
  by_cases h : j = k
  · simp [h]
  · simp [h]
theorem upd_aM (f : Nat → Nat) (k x : Nat) : upd (aM f) k (nI x) = aM (updN f k (x + 1)) := by
  funext j
  unfold upd aM updN
  by_cases h : j = k
  · simp only [h, if_true]; exact (nI_pred x).symm
  · simp [h]
theorem updN_self (f : Nat → Nat) (k : Nat) : updN f k (f k) = f := by
  funext j
  unfold updN
  by_cases h : j = k
  · simp [h]
  · simp [h]
/-- a field as an instruction of class own names it -/
def fdK (own : String) (index ci k : Nat) (fin : Bool) (ty : FieldType) : Prop := ∃ (Cn : String) (T : u_T) (N : Nat) (ty0 : Nat → FieldType), classes[ci]? = some (Cn, T, N) ∧ k < N ∧ (∀ w ∈ u_ws Cn T N, w ∈ gw) ∧ (∀ j, j < N → parseFieldDescriptor (T j).2.2.1 = some (ty0 j)) ∧ (∀ a, a < N → ∀ b, b < N → a ≠ b → (T a).2.1 ≠ (T b).2.1) ∧ (T k).2.2.2 = fin ∧ ty0 k = ty ∧ (T k).1 = own ∧ Cond.fieldLink own index (T k).1 (T k).2.1 (T k).2.2.1 ∈ gw
/-- the same, of a nest mate -/
def fdN (own : String) (index ci k : Nat) : Prop := ∃ (Cn : String) (T : u_T) (N : Nat) (host : String), classes[ci]? = some (Cn, T, N) ∧ k < N ∧ (∀ w ∈ u_ws Cn T N, w ∈ gw) ∧ Cond.fieldLinkNest own index (T k).1 (T k).2.1 (T k).2.2.1 host ∈ nw
section ROWS
variable {p : Program} {l : Launch} {e : Env} {R : Room} {s : State} {m : MethodId} {args : Array Value} {below : List Frame} {meth : Method} {c : Code} {H : Heap} {locs : List Loc} {cells slots : Nat} {Q : State → Prop}
variable {cc : ByteArray} {pc nL : Nat} {ret : Option FieldType} {own : String} {ls : Array Slot} {rest : List Value} {D : va_G} {cI cZ : ClassId} {A : Nat → Prop} {ws ws' : va_W}
theorem r_get (C : Cx p s m args meth c cc nL ret own D cI cZ A) (Z : Wd D A s.heap ws H locs) {a ci k index : Nat} {fin : Bool} {ty : FieldType} {fs : List Value} {v : Value} (q0 : Nat) (F : fdK own index ci k fin ty) (he : ws[q0]? = some (a, .inr (ci, fs))) (hv : fs[k]? = some v) (hdg : decode cc pc = .ok (.getfield index, 3))
    (kk : W p l e R s m args below meth c H locs cells slots Q (F0 m (pc + 3) ls (v :: rest))) : W p l e R s m args below meth c H locs cells slots Q (F0 m pc ls (.ref a :: rest)) := by
  obtain ⟨hx, hb, -, -, -, hown, hts, hK, -⟩ := C
  obtain ⟨Cn, T, N, ty0, h1, h2, h3, h4, h5, h6, h7, h8, h9⟩ := F
  exact va_get hx hb hts h3 hown hK.1 Z.1 q0 he h1 k h2 (hts _ h9) (fun _ h => h) hv hdg kk
theorem r_getN (C : Cx p s m args meth c cc nL ret own D cI cZ A) (Z : Wd D A s.heap ws H locs) {a ci k index : Nat} {fs : List Value} {v : Value} (q0 : Nat) (F : fdN own index ci k) (he : ws[q0]? = some (a, .inr (ci, fs))) (hv : fs[k]? = some v) (hdg : decode cc pc = .ok (.getfield index, 3))
    (kk : W p l e R s m args below meth c H locs cells slots Q (F0 m (pc + 3) ls (v :: rest))) : W p l e R s m args below meth c H locs cells slots Q (F0 m pc ls (.ref a :: rest)) := by
  obtain ⟨hx, hb, -, -, -, hown, hts, hK, -⟩ := C
  obtain ⟨Cn, T, N, host, h1, h2, h3, h9⟩ := F
  exact va_getN hx hb hts h3 hown hK.1 Z.1 q0 he h1 k h2 (va_Nw.use rfl (hK.2 _ h9)) (fun _ h => h) hv hdg kk
theorem r_put (C : Cx p s m args meth c cc nL ret own D cI cZ A) (Z : Wd D A s.heap ws H locs) {a ci k index : Nat} {ty : FieldType} {fs : List Value} {v : Value} (q0 : Nat) (F : fdK own index ci k false ty) (he : ws[q0]? = some (a, .inr (ci, fs))) (hn : narrow ty v = v) (hfit : fits ty v = true) (hl : k < fs.length) (hw : ws.set q0 (a, .inr (ci, fs.set k v)) = ws') (hdg : decode cc pc = .ok (.putfield index, 3))
    (kk : ∀ (H1 : Heap) (locs1 : List Loc), Wd D A s.heap ws' H1 locs1 → W p l e R s m args below meth c H1 locs1 cells slots Q (F0 m (pc + 3) ls rest)) : W p l e R s m args below meth c H locs cells slots Q (F0 m pc ls (v :: .ref a :: rest)) := by
  obtain ⟨hx, hb, -, -, -, hown, hts, hK, -⟩ := C
  obtain ⟨Cn, T, N, ty0, h1, h2, h3, h4, h5, h6, h7, h8, h9⟩ := F
  subst hw
  exact va_put hx hb hts h3 ty0 h4 h5 hown hK.1 Z.1 Z.2.1 Z.2.2 q0 he h1 k h2 (hts _ h9) (fun _ h => h) h6 (ty := ty) (by rw [h4 k h2, h7]) hn hfit hl hdg (fun H1 locs1 a1 a2 a3 => kk H1 locs1 ⟨a1, a2, a3⟩)
theorem r_putF (C : Cx p s m args meth c cc nL ret own D cI cZ A) (Z : Wd D A s.heap ws H locs) (hin : meth.name = "<init>") {a ci k index : Nat} {ty : FieldType} {fs : List Value} {v : Value} (q0 : Nat) (F : fdK own index ci k true ty) (he : ws[q0]? = some (a, .inr (ci, fs))) (hn : narrow ty v = v) (hfit : fits ty v = true) (hl : k < fs.length) (hw : ws.set q0 (a, .inr (ci, fs.set k v)) = ws') (hdg : decode cc pc = .ok (.putfield index, 3))
    (kk : ∀ (H1 : Heap) (locs1 : List Loc), Wd D A s.heap ws' H1 locs1 → W p l e R s m args below meth c H1 locs1 cells slots Q (F0 m (pc + 3) ls rest)) : W p l e R s m args below meth c H locs cells slots Q (F0 m pc ls (v :: .ref a :: rest)) := by
  obtain ⟨hx, hb, -, -, -, hown, hts, hK, -⟩ := C
  obtain ⟨Cn, T, N, ty0, h1, h2, h3, h4, h5, h6, h7, h8, h9⟩ := F
  subst hw
  exact va_putF hx hb hts h3 ty0 h4 h5 hown hK.1 Z.1 Z.2.1 Z.2.2 q0 he h1 k h2 (hts _ h9) (fun _ h => h) h6 hin h8 (ty := ty) (by rw [h4 k h2, h7]) hn hfit hl hdg (fun H1 locs1 a1 a2 a3 => kk H1 locs1 ⟨a1, a2, a3⟩)
theorem r_ild (C : Cx p s m args meth c cc nL ret own D cI cZ A) (Z : Wd D A s.heap ws H locs) {a n i : Nat} {f : Nat → Int32} (q0 : Nat) (he : ws[q0]? = some (a, .inl (cI, n, .inl f))) (hi : i < n) (hn : n < 2 ^ 31) (hdg : decode cc pc = .ok (.iaload, 1))
    (kk : W p l e R s m args below meth c H locs cells slots Q (F0 m (pc + 1) ls (.int (f i) :: rest))) : W p l e R s m args below meth c H locs cells slots Q (F0 m pc ls (.int (nI i) :: .ref a :: rest)) := by
  refine va_iald C.1 C.2.1 C.2.2.2.2.2.2.2.1.1 Z.1 q0 0 he rfl (vp_in_nI hi hn) hdg ?_
  rw [nI_clamp (by omega)]
  exact kk
theorem r_ildN (C : Cx p s m args meth c cc nL ret own D cI cZ A) (Z : Wd D A s.heap ws H locs) {a n i : Nat} {f : Nat → Nat} (q0 : Nat) (he : ws[q0]? = some (a, .inl (cI, n, .inl (aN f)))) (hi : i < n) (hn : n < 2 ^ 31) (hdg : decode cc pc = .ok (.iaload, 1))
    (kk : W p l e R s m args below meth c H locs cells slots Q (F0 m (pc + 1) ls (.int (nI (f i)) :: rest))) : W p l e R s m args below meth c H locs cells slots Q (F0 m pc ls (.int (nI i) :: .ref a :: rest)) := r_ild C Z q0 he hi hn hdg kk
theorem r_ildM (C : Cx p s m args meth c cc nL ret own D cI cZ A) (Z : Wd D A s.heap ws H locs) {a n i : Nat} {f : Nat → Nat} (q0 : Nat) (he : ws[q0]? = some (a, .inl (cI, n, .inl (aM f)))) (hi : i < n) (hn : n < 2 ^ 31) (hdg : decode cc pc = .ok (.iaload, 1))
    (kk : W p l e R s m args below meth c H locs cells slots Q (F0 m (pc + 1) ls (.int (nI (f i) - 1) :: rest))) : W p l e R s m args below meth c H locs cells slots Q (F0 m pc ls (.int (nI i) :: .ref a :: rest)) := r_ild C Z q0 he hi hn hdg kk
theorem r_zldN (C : Cx p s m args meth c cc nL ret own D cI cZ A) (Z : Wd D A s.heap ws H locs) {a n i : Nat} {f : Nat → Nat} (q0 : Nat) (he : ws[q0]? = some (a, .inl (cZ, n, .inl (aN f)))) (hi : i < n) (hn : n < 2 ^ 31) (hdg : decode cc pc = .ok (.baload, 1))
    (kk : W p l e R s m args below meth c H locs cells slots Q (F0 m (pc + 1) ls (.int (nI (f i)) :: rest))) : W p l e R s m args below meth c H locs cells slots Q (F0 m pc ls (.int (nI i) :: .ref a :: rest)) := by
  refine va_zald C.1 C.2.1 C.2.2.2.2.2.2.2.1.1 Z.1 q0 1 he rfl (vp_in_nI hi hn) hdg ?_
  rw [nI_clamp (by omega)]
  exact kk
theorem r_ist (C : Cx p s m args meth c cc nL ret own D cI cZ A) (Z : Wd D A s.heap ws H locs) {a n i : Nat} {x : Int32} {f g : Nat → Int32} (q0 : Nat) (he : ws[q0]? = some (a, .inl (cI, n, .inl f))) (hi : i < n) (hn : n < 2 ^ 31) (hg : upd f i x = g) (hw : ws.set q0 (a, .inl (cI, n, .inl g)) = ws') (hdg : decode cc pc = .ok (.iastore, 1))
    (kk : ∀ (H1 : Heap) (locs1 : List Loc), Wd D A s.heap ws' H1 locs1 → W p l e R s m args below meth c H1 locs1 cells slots Q (F0 m (pc + 1) ls rest)) : W p l e R s m args below meth c H locs cells slots Q (F0 m pc ls (.int x :: .int (nI i) :: .ref a :: rest)) := by
  subst hw
  subst hg
  refine va_iast C.1 C.2.1 C.2.2.2.2.2.2.2.1.1 Z.1 Z.2.1 Z.2.2 q0 0 he rfl (vp_in_nI hi hn) hdg (fun H1 locs1 a1 a2 a3 => ?_)
  rw [nI_clamp (by omega)] at a1 a2
  exact kk H1 locs1 ⟨a1, a2, a3⟩
theorem r_istN (C : Cx p s m args meth c cc nL ret own D cI cZ A) (Z : Wd D A s.heap ws H locs) {a n i x : Nat} {f : Nat → Nat} (q0 : Nat) (he : ws[q0]? = some (a, .inl (cI, n, .inl (aN f)))) (hi : i < n) (hn : n < 2 ^ 31) (hw : ws.set q0 (a, .inl (cI, n, .inl (aN (updN f i x)))) = ws') (hdg : decode cc pc = .ok (.iastore, 1))
    (kk : ∀ (H1 : Heap) (locs1 : List Loc), Wd D A s.heap ws' H1 locs1 → W p l e R s m args below meth c H1 locs1 cells slots Q (F0 m (pc + 1) ls rest)) : W p l e R s m args below meth c H locs cells slots Q (F0 m pc ls (.int (nI x) :: .int (nI i) :: .ref a :: rest)) := r_ist C Z q0 he hi hn (upd_aN f i x) hw hdg kk
theorem r_istM (C : Cx p s m args meth c cc nL ret own D cI cZ A) (Z : Wd D A s.heap ws H locs) {a n i x : Nat} {f : Nat → Nat} (q0 : Nat) (he : ws[q0]? = some (a, .inl (cI, n, .inl (aM f)))) (hi : i < n) (hn : n < 2 ^ 31) (hw : ws.set q0 (a, .inl (cI, n, .inl (aM (updN f i (x + 1))))) = ws') (hdg : decode cc pc = .ok (.iastore, 1))
    (kk : ∀ (H1 : Heap) (locs1 : List Loc), Wd D A s.heap ws' H1 locs1 → W p l e R s m args below meth c H1 locs1 cells slots Q (F0 m (pc + 1) ls rest)) : W p l e R s m args below meth c H locs cells slots Q (F0 m pc ls (.int (nI x) :: .int (nI i) :: .ref a :: rest)) := r_ist C Z q0 he hi hn (upd_aM f i x) hw hdg kk
theorem nar_bool {x : Nat} (hx : x ≤ 1) : vp_nar .boolean (nI x) = nI x := by
  rcases (show x = 0 ∨ x = 1 by omega) with rfl | rfl <;> decide
theorem r_zstN (C : Cx p s m args meth c cc nL ret own D cI cZ A) (Z : Wd D A s.heap ws H locs) {a n i x : Nat} {f : Nat → Nat} (q0 : Nat) (he : ws[q0]? = some (a, .inl (cZ, n, .inl (aN f)))) (hi : i < n) (hn : n < 2 ^ 31) (hx : x ≤ 1) (hw : ws.set q0 (a, .inl (cZ, n, .inl (aN (updN f i x)))) = ws') (hdg : decode cc pc = .ok (.bastore, 1))
    (kk : ∀ (H1 : Heap) (locs1 : List Loc), Wd D A s.heap ws' H1 locs1 → W p l e R s m args below meth c H1 locs1 cells slots Q (F0 m (pc + 1) ls rest)) : W p l e R s m args below meth c H locs cells slots Q (F0 m pc ls (.int (nI x) :: .int (nI i) :: .ref a :: rest)) := by
  subst hw
  refine va_zast C.1 C.2.1 C.2.2.2.2.2.2.2.1.1 Z.1 Z.2.1 Z.2.2 q0 1 he rfl (vp_in_nI hi hn) hdg (fun H1 locs1 a1 a2 a3 => ?_)
  rw [nI_clamp (by omega), nar_bool hx, upd_aN] at a1 a2
  exact kk H1 locs1 ⟨a1, a2, a3⟩
/-! numbers -/
theorem r_add (C : Cx p s m args meth c cc nL ret own D cI cZ A) {x y : Nat} (hdg : decode cc pc = .ok (.iadd, 1)) (k : W p l e R s m args below meth c H locs cells slots Q (F0 m (pc + 1) ls (.int (nI (x + y)) :: rest))) : W p l e R s m args below meth c H locs cells slots Q (F0 m pc ls (.int (nI y) :: .int (nI x) :: rest)) := lv_iadd C.1 C.2.1 hdg (by rw [nI_add]; exact k)
theorem r_sub (C : Cx p s m args meth c cc nL ret own D cI cZ A) {x y : Nat} (h : y ≤ x) (hdg : decode cc pc = .ok (.isub, 1)) (k : W p l e R s m args below meth c H locs cells slots Q (F0 m (pc + 1) ls (.int (nI (x - y)) :: rest))) : W p l e R s m args below meth c H locs cells slots Q (F0 m pc ls (.int (nI y) :: .int (nI x) :: rest)) := lv_isub C.1 C.2.1 hdg (by rw [pk_sub h]; exact k)
theorem r_mul (C : Cx p s m args meth c cc nL ret own D cI cZ A) {x y : Nat} (hdg : decode cc pc = .ok (.imul, 1)) (k : W p l e R s m args below meth c H locs cells slots Q (F0 m (pc + 1) ls (.int (nI (x * y)) :: rest))) : W p l e R s m args below meth c H locs cells slots Q (F0 m pc ls (.int (nI y) :: .int (nI x) :: rest)) := lv_imul C.1 C.2.1 hdg (by rw [pk_mul]; exact k)
theorem r_lt (C : Cx p s m args meth c cc nL ret own D cI cZ A) {x y tgt : Nat} {off : Int} (hdg : decode cc pc = .ok (.if_icmp .lt off, 3)) (ht : (pc : Int) + off = (tgt : Int)) (hx : x < 2 ^ 31) (hy : y < 2 ^ 31)
    (kt : x < y → W p l e R s m args below meth c H locs cells slots Q (F0 m tgt ls rest)) (kf : y ≤ x → W p l e R s m args below meth c H locs cells slots Q (F0 m (pc + 3) ls rest)) : W p l e R s m args below meth c H locs cells slots Q (F0 m pc ls (.int (nI y) :: .int (nI x) :: rest)) :=
  lv_icmp_lt C.1 C.2.1 hdg ht (fun h => kt ((nI_ltI hx hy).mp h)) (fun h => kf (Nat.le_of_not_lt (fun q => h ((nI_ltI hx hy).mpr q))))
theorem r_ge (C : Cx p s m args meth c cc nL ret own D cI cZ A) {x y tgt : Nat} {off : Int} (hdg : decode cc pc = .ok (.if_icmp .ge off, 3)) (ht : (pc : Int) + off = (tgt : Int)) (hx : x < 2 ^ 31) (hy : y < 2 ^ 31)
    (kt : y ≤ x → W p l e R s m args below meth c H locs cells slots Q (F0 m tgt ls rest)) (kf : x < y → W p l e R s m args below meth c H locs cells slots Q (F0 m (pc + 3) ls rest)) : W p l e R s m args below meth c H locs cells slots Q (F0 m pc ls (.int (nI y) :: .int (nI x) :: rest)) :=
  lv_icmp_ge C.1 C.2.1 hdg ht (fun h => kt ((nI_leI hy hx).mp h)) (fun h => kf (Nat.lt_of_not_le (fun q => h ((nI_leI hy hx).mpr q))))
theorem r_gt (C : Cx p s m args meth c cc nL ret own D cI cZ A) {x y tgt : Nat} {off : Int} (hdg : decode cc pc = .ok (.if_icmp .gt off, 3)) (ht : (pc : Int) + off = (tgt : Int)) (hx : x < 2 ^ 31) (hy : y < 2 ^ 31)
    (kt : y < x → W p l e R s m args below meth c H locs cells slots Q (F0 m tgt ls rest)) (kf : x ≤ y → W p l e R s m args below meth c H locs cells slots Q (F0 m (pc + 3) ls rest)) : W p l e R s m args below meth c H locs cells slots Q (F0 m pc ls (.int (nI y) :: .int (nI x) :: rest)) :=
  lv_icmp_gt C.1 C.2.1 hdg ht (fun h => kt ((nI_ltI hy hx).mp h)) (fun h => kf (Nat.le_of_not_lt (fun q => h ((nI_ltI hy hx).mpr q))))
theorem r_le (C : Cx p s m args meth c cc nL ret own D cI cZ A) {x y tgt : Nat} {off : Int} (hdg : decode cc pc = .ok (.if_icmp .le off, 3)) (ht : (pc : Int) + off = (tgt : Int)) (hx : x < 2 ^ 31) (hy : y < 2 ^ 31)
    (kt : x ≤ y → W p l e R s m args below meth c H locs cells slots Q (F0 m tgt ls rest)) (kf : y < x → W p l e R s m args below meth c H locs cells slots Q (F0 m (pc + 3) ls rest)) : W p l e R s m args below meth c H locs cells slots Q (F0 m pc ls (.int (nI y) :: .int (nI x) :: rest)) :=
  lv_icmp_le C.1 C.2.1 hdg ht (fun h => kt ((nI_leI hx hy).mp h)) (fun h => kf (Nat.lt_of_not_le (fun q => h ((nI_leI hx hy).mpr q))))
theorem r_eq (C : Cx p s m args meth c cc nL ret own D cI cZ A) {x y tgt : Nat} {off : Int} (hdg : decode cc pc = .ok (.if_icmp .eq off, 3)) (ht : (pc : Int) + off = (tgt : Int)) (hx : x < 2 ^ 31) (hy : y < 2 ^ 31)
    (kt : x = y → W p l e R s m args below meth c H locs cells slots Q (F0 m tgt ls rest)) (kf : x ≠ y → W p l e R s m args below meth c H locs cells slots Q (F0 m (pc + 3) ls rest)) : W p l e R s m args below meth c H locs cells slots Q (F0 m pc ls (.int (nI y) :: .int (nI x) :: rest)) :=
  lv_icmp_eq C.1 C.2.1 hdg ht (fun h => kt ((nI_eq hx hy).mp h)) (fun h => kf (fun q => h ((nI_eq hx hy).mpr q)))
theorem r_ne (C : Cx p s m args meth c cc nL ret own D cI cZ A) {x y tgt : Nat} {off : Int} (hdg : decode cc pc = .ok (.if_icmp .ne off, 3)) (ht : (pc : Int) + off = (tgt : Int)) (hx : x < 2 ^ 31) (hy : y < 2 ^ 31)
    (kt : x ≠ y → W p l e R s m args below meth c H locs cells slots Q (F0 m tgt ls rest)) (kf : x = y → W p l e R s m args below meth c H locs cells slots Q (F0 m (pc + 3) ls rest)) : W p l e R s m args below meth c H locs cells slots Q (F0 m pc ls (.int (nI y) :: .int (nI x) :: rest)) :=
  lv_icmp_ne C.1 C.2.1 hdg ht (fun h => kt (fun q => h ((nI_eq hx hy).mpr q))) (fun h => kf ((nI_eq hx hy).mp h))
theorem r_zeq (C : Cx p s m args meth c cc nL ret own D cI cZ A) {x tgt : Nat} {off : Int} (hdg : decode cc pc = .ok (.ifCond .eq off, 3)) (ht : (pc : Int) + off = (tgt : Int)) (hx : x < 2 ^ 31)
    (kt : x = 0 → W p l e R s m args below meth c H locs cells slots Q (F0 m tgt ls rest)) (kf : x ≠ 0 → W p l e R s m args below meth c H locs cells slots Q (F0 m (pc + 3) ls rest)) : W p l e R s m args below meth c H locs cells slots Q (F0 m pc ls (.int (nI x) :: rest)) :=
  lv_if_eq C.1 C.2.1 hdg ht (fun h => kt ((nI_eq hx (by decide)).mp (h.trans nI_0.symm))) (fun h => kf (fun q => h (by rw [q]; exact nI_0)))
theorem r_zne (C : Cx p s m args meth c cc nL ret own D cI cZ A) {x tgt : Nat} {off : Int} (hdg : decode cc pc = .ok (.ifCond .ne off, 3)) (ht : (pc : Int) + off = (tgt : Int)) (hx : x < 2 ^ 31)
    (kt : x ≠ 0 → W p l e R s m args below meth c H locs cells slots Q (F0 m tgt ls rest)) (kf : x = 0 → W p l e R s m args below meth c H locs cells slots Q (F0 m (pc + 3) ls rest)) : W p l e R s m args below meth c H locs cells slots Q (F0 m pc ls (.int (nI x) :: rest)) :=
  lv_if_ne C.1 C.2.1 hdg ht (fun h => kt (fun q => h (by rw [q]; exact nI_0))) (fun h => kf ((nI_eq hx (by decide)).mp (h.trans nI_0.symm)))
theorem r_zlt (C : Cx p s m args meth c cc nL ret own D cI cZ A) {x tgt : Nat} {off : Int} (hdg : decode cc pc = .ok (.ifCond .lt off, 3)) (ht : (pc : Int) + off = (tgt : Int)) (hx : x < 2 ^ 31)
    (kf : W p l e R s m args below meth c H locs cells slots Q (F0 m (pc + 3) ls rest)) : W p l e R s m args below meth c H locs cells slots Q (F0 m pc ls (.int (nI x) :: rest)) :=
  lv_if_lt C.1 C.2.1 hdg ht (fun h => absurd h (nI_pos hx)) (fun _ => kf)
theorem r_zge (C : Cx p s m args meth c cc nL ret own D cI cZ A) {x tgt : Nat} {off : Int} (hdg : decode cc pc = .ok (.ifCond .ge off, 3)) (ht : (pc : Int) + off = (tgt : Int)) (hx : x < 2 ^ 31)
    (kt : W p l e R s m args below meth c H locs cells slots Q (F0 m tgt ls rest)) : W p l e R s m args below meth c H locs cells slots Q (F0 m pc ls (.int (nI x) :: rest)) :=
  lv_if_ge C.1 C.2.1 hdg ht (fun _ => kt) (fun h => absurd (nI_pos' hx) h)
theorem r_zle (C : Cx p s m args meth c cc nL ret own D cI cZ A) {x tgt : Nat} {off : Int} (hdg : decode cc pc = .ok (.ifCond .le off, 3)) (ht : (pc : Int) + off = (tgt : Int)) (hx : x < 2 ^ 31)
    (kt : x = 0 → W p l e R s m args below meth c H locs cells slots Q (F0 m tgt ls rest)) (kf : 0 < x → W p l e R s m args below meth c H locs cells slots Q (F0 m (pc + 3) ls rest)) : W p l e R s m args below meth c H locs cells slots Q (F0 m pc ls (.int (nI x) :: rest)) :=
  lv_if_le C.1 C.2.1 hdg ht (fun h => kt (Nat.eq_zero_of_not_pos (fun q => nI_nle q hx h))) (fun h => kf (Nat.pos_of_ne_zero (fun q => h (by rw [q]; decide))))
theorem r_iret {S : Type} {post : Int32 → S → Prop} {wo : S → va_W} (C : Cx p s m args meth c cc nL (some .int) own D cI cZ A) (Z : Wd D A s.heap ws H locs) {r : Int32} (u : S) (hp : post r u) (hw : wo u = ws) (hQ : Q = QI below D post wo A args s) (hdg : decode cc pc = .ok (.ireturn, 1)) : W p l e R s m args below meth c H locs 0 0 Q (F0 m pc ls [.int r]) := by
  subst hw
  subst hQ
  exact W.iret C.1 C.2.1 C.2.2.2.1 (fun t ht _ => ⟨⟨r, u, rfl, hp, by rw [ht]; exact Z.1, Z.2.1⟩, Z.2.2.F ht⟩) Z.2.2.2.2 hdg C.2.2.2.2.1
theorem nar_b {x : Nat} (hx : x ≤ 1) : narrow .boolean (.int (nI x)) = .int (nI x) := by
  rcases (show x = 0 ∨ x = 1 by omega) with rfl | rfl <;> rfl
theorem r_zret {S : Type} {post : Int32 → S → Prop} {wo : S → va_W} (C : Cx p s m args meth c cc nL (some .boolean) own D cI cZ A) (Z : Wd D A s.heap ws H locs) {x : Nat} (hx : x ≤ 1) (u : S) (hp : post (nI x) u) (hw : wo u = ws) (hQ : Q = QI below D post wo A args s) (hdg : decode cc pc = .ok (.ireturn, 1)) : W p l e R s m args below meth c H locs 0 0 Q (F0 m pc ls [.int (nI x)]) := by
  subst hw
  subst hQ
  exact W.zret C.1 C.2.1 C.2.2.2.1 (nar_b hx) (fun t ht _ => ⟨⟨nI x, u, rfl, hp, by rw [ht]; exact Z.1, Z.2.1⟩, Z.2.2.F ht⟩) Z.2.2.2.2 hdg C.2.2.2.2.1
theorem r_vret {S : Type} {post : S → Prop} {wo : S → va_W} (C : Cx p s m args meth c cc nL none own D cI cZ A) (Z : Wd D A s.heap ws H locs) (u : S) (hp : post u) (hw : wo u = ws) (hQ : Q = QV below D post wo A args s cells slots) (hdg : decode cc pc = .ok (.return_, 1)) : W p l e R s m args below meth c H locs cells slots Q (F0 m pc ls []) := by
  subst hw
  subst hQ
  exact W.vret C.1 C.2.1 C.2.2.2.1 (fun t ht _ => ⟨⟨u, rfl, hp, by rw [ht]; exact Z.1, Z.2.1⟩, Z.2.2.F ht⟩) Z.2.2.2.2 hdg C.2.2.2.2.1
theorem fit_b {x : Nat} (hx : x ≤ 1) : fits .boolean (.int (nI x)) = true := by
  rcases (show x = 0 ∨ x = 1 by omega) with rfl | rfl <;> rfl
theorem r_inc1 (x : Nat) : nI x + Int32.ofInt 1 = nI (x + 1) := nI_1 x
theorem m1_sub {x : Nat} (h : x ≠ 0) : nI x - 1 = nI (x - 1) := pk_sub (a := x) (b := 1) (by omega)
theorem m1_eq {x : Nat} (hx : x < 2 ^ 31) : nI x - 1 = -1 ↔ x = 0 := by
  constructor
  · intro h
    rcases Nat.eq_zero_or_pos x with q | q
    · exact q
    · rw [m1_sub (by omega)] at h
      exact absurd (show nI (x - 1) < 0 by rw [h]; decide) (nI_pos (by omega))
  · intro h
    rw [h]
    decide
theorem r_mmin (C : Cx p s m args meth c cc nL ret own D cI cZ A) {index : Nat} (K : Cond.methodLink own index Lib.Math.min.name ∈ gw ∧ Cond.static Lib.Math.min.name ∈ gw ∧ Cond.initialized "java/lang/Math" ∈ gw ∧ Cond.code Lib.Math.min.name Lib.Math.min.code 2 (some .int) ∈ gw) (hls : ls.size = nL) (hf : 1 ≤ R.frames) (hlo : (rest.map fun v => v.category).sum + 13 ≤ R.locals) (hc : cells ≤ R.cells) (hs : slots ≤ R.slots) {x y : Nat} (hx : x < 2 ^ 31) (hy : y < 2 ^ 31) (hdg : decode cc pc = .ok (.invokestatic index, 3))
    (kk : W p l e R s m args below meth c H locs cells slots Q (F0 m (pc + 3) ls (.int (nI (min x y)) :: rest))) : W p l e R s m args below meth c H locs cells slots Q (F0 m pc ls (.int (nI y) :: .int (nI x) :: rest)) := by
  have hts := C.2.2.2.2.2.2.1
  refine va_mmin C.1 C.2.1 (C.2.2.1.trans hls.symm) C.2.2.2.2.2.1 (hts _ K.1) (hts _ K.2.1) (hts _ K.2.2.1) (hts _ K.2.2.2) hf hlo hc hs hdg ?_
  have h2 : (if nI y < nI x then nI y else nI x) = nI (min x y) := by
    by_cases h : y < x
    · rw [if_pos ((nI_ltI hy hx).mpr h), Nat.min_eq_right (by omega)]
    · rw [if_neg (fun q => h ((nI_ltI hy hx).mp q)), Nat.min_eq_left (by omega)]
  rw [h2]
  exact kk
theorem r_mmax (C : Cx p s m args meth c cc nL ret own D cI cZ A) {index : Nat} (K : Cond.methodLink own index Lib.Math.max.name ∈ gw ∧ Cond.static Lib.Math.max.name ∈ gw ∧ Cond.initialized "java/lang/Math" ∈ gw ∧ Cond.code Lib.Math.max.name Lib.Math.max.code 2 (some .int) ∈ gw) (hls : ls.size = nL) (hf : 1 ≤ R.frames) (hlo : (rest.map fun v => v.category).sum + 13 ≤ R.locals) (hc : cells ≤ R.cells) (hs : slots ≤ R.slots) {x y : Nat} (hx : x < 2 ^ 31) (hy : y < 2 ^ 31) (hdg : decode cc pc = .ok (.invokestatic index, 3))
    (kk : W p l e R s m args below meth c H locs cells slots Q (F0 m (pc + 3) ls (.int (nI (max x y)) :: rest))) : W p l e R s m args below meth c H locs cells slots Q (F0 m pc ls (.int (nI y) :: .int (nI x) :: rest)) := by
  have hts := C.2.2.2.2.2.2.1
  refine va_mmax C.1 C.2.1 (C.2.2.1.trans hls.symm) C.2.2.2.2.2.1 (hts _ K.1) (hts _ K.2.1) (hts _ K.2.2.1) (hts _ K.2.2.2) hf hlo hc hs hdg ?_
  have h2 : (if nI x < nI y then nI y else nI x) = nI (max x y) := by
    by_cases h : x < y
    · rw [if_pos ((nI_ltI hx hy).mpr h), Nat.max_eq_right (by omega)]
    · rw [if_neg (fun q => h ((nI_ltI hx hy).mp q)), Nat.max_eq_left (by omega)]
  rw [h2]
  exact kk
theorem r_lmul (C : Cx p s m args meth c cc nL ret own D cI cZ A) {x y : Nat} (hdg : decode cc pc = .ok (.lmul, 1)) (k : W p l e R s m args below meth c H locs cells slots Q (F0 m (pc + 1) ls (.long (lN (x * y)) :: rest))) : W p l e R s m args below meth c H locs cells slots Q (F0 m pc ls (.long (lN y) :: .long (lN x) :: rest)) := lv_lmul C.1 C.2.1 hdg (by rw [lN_mul]; exact k)
theorem r_ladd (C : Cx p s m args meth c cc nL ret own D cI cZ A) {x y : Nat} (hdg : decode cc pc = .ok (.ladd, 1)) (k : W p l e R s m args below meth c H locs cells slots Q (F0 m (pc + 1) ls (.long (lN (x + y)) :: rest))) : W p l e R s m args below meth c H locs cells slots Q (F0 m pc ls (.long (lN y) :: .long (lN x) :: rest)) := lv_ladd C.1 C.2.1 hdg (by rw [lN_add]; exact k)
theorem r_lceq (C : Cx p s m args meth c cc nL ret own D cI cZ A) {x y tgt : Nat} {off : Int} (hd1 : decode cc pc = .ok (.lcmp, 1)) (hd2 : decode cc (pc + 1) = .ok (.ifCond .eq off, 3)) (ht : ((pc + 1 : Nat) : Int) + off = (tgt : Int)) (hx : x < 2 ^ 31) (hy : y < 2 ^ 31)
    (kt : x = y → W p l e R s m args below meth c H locs cells slots Q (F0 m tgt ls rest)) (kf : x ≠ y → W p l e R s m args below meth c H locs cells slots Q (F0 m (pc + 1 + 3) ls rest)) : W p l e R s m args below meth c H locs cells slots Q (F0 m pc ls (.long (lN y) :: .long (lN x) :: rest)) :=
  W.lcmp C.1 C.2.1 hd1 (lv_if_eq C.1 C.2.1 hd2 ht (fun h => kt ((lN_eq hx hy).mp ((lg_cmp_eq _ _).mp h))) (fun h => kf (fun q => h ((lg_cmp_eq _ _).mpr ((lN_eq hx hy).mpr q)))))
theorem r_lcle (C : Cx p s m args meth c cc nL ret own D cI cZ A) {x y tgt : Nat} {off : Int} (hd1 : decode cc pc = .ok (.lcmp, 1)) (hd2 : decode cc (pc + 1) = .ok (.ifCond .le off, 3)) (ht : ((pc + 1 : Nat) : Int) + off = (tgt : Int)) (hx : x < 2 ^ 31) (hy : y < 2 ^ 31)
    (kt : x ≤ y → W p l e R s m args below meth c H locs cells slots Q (F0 m tgt ls rest)) (kf : y < x → W p l e R s m args below meth c H locs cells slots Q (F0 m (pc + 1 + 3) ls rest)) : W p l e R s m args below meth c H locs cells slots Q (F0 m pc ls (.long (lN y) :: .long (lN x) :: rest)) :=
  W.lcmp C.1 C.2.1 hd1 (lv_if_le C.1 C.2.1 hd2 ht (fun h => kt ((lN_le hx hy).mp ((lg_cmp_le _ _).mp h))) (fun h => kf (Nat.lt_of_not_le (fun q => h ((lg_cmp_le _ _).mpr ((lN_le hx hy).mpr q))))))
theorem r_lclt (C : Cx p s m args meth c cc nL ret own D cI cZ A) {x y tgt : Nat} {off : Int} (hd1 : decode cc pc = .ok (.lcmp, 1)) (hd2 : decode cc (pc + 1) = .ok (.ifCond .lt off, 3)) (ht : ((pc + 1 : Nat) : Int) + off = (tgt : Int)) (hx : x < 2 ^ 31) (hy : y < 2 ^ 31)
    (kt : x < y → W p l e R s m args below meth c H locs cells slots Q (F0 m tgt ls rest)) (kf : y ≤ x → W p l e R s m args below meth c H locs cells slots Q (F0 m (pc + 1 + 3) ls rest)) : W p l e R s m args below meth c H locs cells slots Q (F0 m pc ls (.long (lN y) :: .long (lN x) :: rest)) :=
  W.lcmp C.1 C.2.1 hd1 (lv_if_lt C.1 C.2.1 hd2 ht (fun h => kt ((lN_lt hx hy).mp ((lg_cmp_lt _ _).mp h))) (fun h => kf (Nat.le_of_not_lt (fun q => h ((lg_cmp_lt _ _).mpr ((lN_lt hx hy).mpr q))))))
theorem r_lcge (C : Cx p s m args meth c cc nL ret own D cI cZ A) {x y tgt : Nat} {off : Int} (hd1 : decode cc pc = .ok (.lcmp, 1)) (hd2 : decode cc (pc + 1) = .ok (.ifCond .ge off, 3)) (ht : ((pc + 1 : Nat) : Int) + off = (tgt : Int)) (hx : x < 2 ^ 31) (hy : y < 2 ^ 31)
    (kt : y ≤ x → W p l e R s m args below meth c H locs cells slots Q (F0 m tgt ls rest)) (kf : x < y → W p l e R s m args below meth c H locs cells slots Q (F0 m (pc + 1 + 3) ls rest)) : W p l e R s m args below meth c H locs cells slots Q (F0 m pc ls (.long (lN y) :: .long (lN x) :: rest)) :=
  W.lcmp C.1 C.2.1 hd1 (lv_if_ge C.1 C.2.1 hd2 ht (fun h => kt ((lN_le hy hx).mp ((lg_cmp_ge _ _).mp h))) (fun h => kf (Nat.lt_of_not_le (fun q => h ((lg_cmp_ge _ _).mpr ((lN_le hy hx).mpr q))))))
theorem Wd.reArr {a n : Nat} {cA : ClassId} {f g : Nat → Int32} {H0 : Heap} (Z : Wd D A H0 ws H locs) (q0 : Nat) (he : ws[q0]? = some (a, .inl (cA, n, .inl f))) (hfg : ∀ j, j < n → f j = g j) (hw : ws.set q0 (a, .inl (cA, n, .inl g)) = ws') : Wd D A H0 ws' H locs := by
  subst hw
  refine ⟨Z.1.set Z.2.1 he ?_ (fun _ _ => rfl), Z.2.1.set he, Z.2.2⟩
  have h := Z.1 q0 _ he
  show H[a]? = some (vp_cell cA (n, .inl g))
  have h2 : H[a]? = some (vp_cell cA (n, .inl f)) := h
  rw [h2, vp_cell_i, vp_cell_i]
  unfold arrV
  congr 2
  congr 1
  funext j
  show Value.int (f j.val) = Value.int (g j.val)
  rw [hfg j.val j.isLt]
end ROWS
end
section
/-! CALLS: a callee's cells are cut out of the world, come back, and the world stands in its order again. -/
theorem fm_of {α β : Type} {f : α → Option β} {is : List α} {w : List β} (h : is.map f = w.map some) : is.filterMap f = w := by
  have h1 : (is.map f).filterMap id = is.filterMap f := by rw [List.filterMap_map]; rfl
  rw [← h1, h, List.filterMap_map]
  simp
def plainY (y : MethodName) (n : Nat) : Prop := y.cls ≠ "java/lang/invoke/MethodHandle" ∧ y.cls ≠ "java/lang/invoke/VarHandle" ∧ (parseMethodDescriptor y.desc).map (fun d => d.parameters.length) = some n
/-- a call by a class's own (or a public) link: virtual, static, a constructor; of a nest mate -/
def Kv (own : String) (index : Nat) (y : MethodName) (cc : ByteArray) (nL : Nat) (ret : Option FieldType) (n : Nat) : Prop := Cond.methodLink own index y ∈ gw ∧ Cond.instanceMethod y ∈ gw ∧ Cond.selects y.cls y y ∈ gw ∧ Cond.initialized y.cls ∈ gw ∧ Cond.code y cc nL ret ∈ gw ∧ plainY y n
def Kn (own : String) (index : Nat) (y : MethodName) (cc : ByteArray) (nL : Nat) (ret : Option FieldType) (n : Nat) : Prop := (∃ host, Cond.methodLinkNest own index y host ∈ nw) ∧ Cond.instanceMethod y ∈ gw ∧ Cond.selects y.cls y y ∈ gw ∧ Cond.initialized y.cls ∈ gw ∧ Cond.code y cc nL ret ∈ gw ∧ plainY y n
def Ks (own : String) (index : Nat) (y : MethodName) (cc : ByteArray) (nL : Nat) (ret : Option FieldType) (n : Nat) : Prop := Cond.methodLink own index y ∈ gw ∧ Cond.static y ∈ gw ∧ Cond.initialized y.cls ∈ gw ∧ Cond.code y cc nL ret ∈ gw ∧ plainY y n
def Ki (own : String) (index : Nat) (y : MethodName) (cc : ByteArray) (nL n : Nat) : Prop := Cond.methodLink own index y ∈ gw ∧ Cond.instanceMethod y ∈ gw ∧ Cond.initialized y.cls ∈ gw ∧ Cond.code y cc nL none ∈ gw ∧ plainY y n ∧ y.name = "<init>"
def Kj (own : String) (index : Nat) (y : MethodName) (cc : ByteArray) (nL n : Nat) : Prop := (∃ host, Cond.methodLinkNest own index y host ∈ nw) ∧ Cond.instanceMethod y ∈ gw ∧ Cond.initialized y.cls ∈ gw ∧ Cond.code y cc nL none ∈ gw ∧ plainY y n ∧ y.name = "<init>"
section CALLS
variable {p : Program} {l : Launch} {e : Env} {R : Room} {s : State} {m : MethodId} {args : Array Value} {below : List Frame} {meth : Method} {c : Code} {H : Heap} {locs : List Loc} {cells slots : Nat} {Q : State → Prop}
variable {cc : ByteArray} {pc nL : Nat} {ret : Option FieldType} {own : String} {ls : Array Slot} {rest st0 : List Value} {D : va_G} {cI cZ : ClassId} {A : Nat → Prop} {ws wc wr : va_W}
variable {S : Type} {y : MethodName} {cc' : ByteArray} {nL' n index mc ms : Nat} {ret' : Option FieldType} {rm' : Room} {b : Nat} {As : List Value} {wo wn : S → va_W}
/-- behind a call: the int's -/
theorem r_backi {post : Int32 → S → Prop} {a : Array Value} (C : Cx p s m args meth c cc nL ret own D cI cZ A) (Z : Wd D A s.heap ws H locs) (isC isR isN : List Nat) (hC : isC.map (fun i => ws[i]?) = wc.map some) (hRr : isR.map (fun i => ws[i]?) = wr.map some) (hnd : va_nd isR = true) (hdis : ∀ i ∈ isR, i ∉ isC) (hndN : va_nd isN = true) (hN : ∀ u, isN.map (fun i => (wr ++ wo u)[i]?) = (wn u).map some)
    (hr : va_Run p l e R s m args below meth c H locs cells slots 0 0 (F0 m pc ls st0) rest (va_Qi post (BS D wo (va_A wc H.size)) (va_A wc H.size) a) (va_A wc H.size))
    (kk : ∀ (r : Int32) (u : S) (H1 : Heap) (locs1 : List Loc), post r u → Wd D A s.heap (wn u) H1 locs1 → W p l e R s m args below meth c H1 locs1 cells slots Q (F0 m (pc + 3) ls (.int r :: rest))) : W p l e R s m args below meth c H locs cells slots Q (F0 m pc ls st0) := by
  have hFc := va_free (wc := wc) Z.2.1 Z.2.2 C.2.2.2.2.2.2.2.2 isC hC
  refine va_calli hr Z.2.2 (fun q _ h => hFc q h) hFc (fun r u t H1 locs1 ht hvm hw hB hz1 hk1 hS => ?_)
  obtain ⟨hP1, hD1⟩ := hB
  rw [ht] at hP1
  obtain ⟨hPj, hDj⟩ := va_join Z.1 Z.2.1 isC isR hC hRr hnd hdis hk1 hFc hP1 hD1
  exact kk r u H1 locs1 hw ⟨hPj.sub isN (fm_of (hN u)), hDj.sub isN hndN (hN u), hS⟩
theorem r_backv {post : S → Prop} {a : Array Value} (C : Cx p s m args meth c cc nL ret own D cI cZ A) (Z : Wd D A s.heap ws H locs) (isC isR isN : List Nat) (hC : isC.map (fun i => ws[i]?) = wc.map some) (hRr : isR.map (fun i => ws[i]?) = wr.map some) (hnd : va_nd isR = true) (hdis : ∀ i ∈ isR, i ∉ isC) (hndN : va_nd isN = true) (hN : ∀ u, isN.map (fun i => (wr ++ wo u)[i]?) = (wn u).map some)
    (hr : va_Run p l e R s m args below meth c H locs cells slots mc ms (F0 m pc ls st0) rest (va_Qv post (BS D wo (va_A wc H.size)) (va_A wc H.size) a) (va_A wc H.size))
    (kk : ∀ (u : S) (H1 : Heap) (locs1 : List Loc), post u → Wd D A s.heap (wn u) H1 locs1 → W p l e R s m args below meth c H1 locs1 (cells + mc) (slots + ms) Q (F0 m (pc + 3) ls rest)) : W p l e R s m args below meth c H locs cells slots Q (F0 m pc ls st0) := by
  have hFc := va_free (wc := wc) Z.2.1 Z.2.2 C.2.2.2.2.2.2.2.2 isC hC
  refine va_callv hr Z.2.2 (fun q _ h => hFc q h) hFc (fun u t H1 locs1 ht hvm hw hB hz1 hk1 hS => ?_)
  obtain ⟨hP1, hD1⟩ := hB
  rw [ht] at hP1
  obtain ⟨hPj, hDj⟩ := va_join Z.1 Z.2.1 isC isR hC hRr hnd hdis hk1 hFc hP1 hD1
  exact kk u H1 locs1 hw ⟨hPj.sub isN (fm_of (hN u)), hDj.sub isN hndN (hN u), hS⟩
/-- what a callee's start wants -/
theorem prex (C : Cx p s m args meth c cc nL ret own D cI cZ A) (Z : Wd D A s.heap ws H locs) (isC : List Nat) (hndC : va_nd isC = true) (hC : isC.map (fun i => ws[i]?) = wc.map some) (av : List Value) : PreS s H (PcS D cI cZ av wc H.size) av := by
  have hPc := Z.1.sub isC (fm_of hC)
  have hDc := Z.2.1.sub isC hndC hC
  exact ⟨PcS.blind, fun U hU hW => ⟨rfl, by rw [hU], by rw [hU]; exact hPc, C.2.2.2.2.2.2.2.1.warm hW, hDc.weaken (fun _ _ _ _ => trivial)⟩⟩
theorem rcvx (C : Cx p s m args meth c cc nL ret own D cI cZ A) (Z : Wd D A s.heap ws H locs) (q1 : Nat) {ci : Nat} {fs : List Value} {T : u_T} {N : Nat} {Cn : String} (he : ws[q1]? = some (b, .inr (ci, fs))) (hcl : classes[ci]? = some (Cn, T, N)) : ∃ cellB : Cell, H[b]? = some cellB ∧ cellB.vm.isStatics = false ∧ s.vm.findClass Cn = some cellB.cls := va_recv C.2.2.2.2.2.2.2.1.1 Z.1 hcl he
theorem r_callVi {post : Int32 → S → Prop} (C : Cx p s m args meth c cc nL ret own D cI cZ A) (Z : Wd D A s.heap ws H locs) (hM : Mi l y cc' nL' ret' rm' D cI cZ (.ref b :: As) wc post wo) (K : Kv own index y cc' nL' ret' n) (hn : As.length = n) (hR : rm'.frames + 1 ≤ R.frames ∧ 8 + (nL' + 11) + rm'.locals ≤ R.locals) (hc0 : rm'.cells = 0 ∧ rm'.slots = 0)
    (isC isR isN : List Nat) (hndC : va_nd isC = true) (hC : isC.map (fun i => ws[i]?) = wc.map some) (hRr : isR.map (fun i => ws[i]?) = wr.map some) (hnd : va_nd isR = true) (hdis : ∀ i ∈ isR, i ∉ isC) (hndN : va_nd isN = true) (hN : ∀ u, isN.map (fun i => (wr ++ wo u)[i]?) = (wn u).map some)
    (q1 : Nat) {ci : Nat} {fs : List Value} {T : u_T} {N : Nat} (he : ws[q1]? = some (b, .inr (ci, fs))) (hcl : classes[ci]? = some (y.cls, T, N)) (hls : ls.size = nL) (hst : st0 = As.reverse ++ .ref b :: rest) (hrm : (rest.map fun v => v.category).sum ≤ 8) (hdg : decode cc pc = .ok (.invokevirtual index, 3)) (hcs : cells ≤ R.cells ∧ slots ≤ R.slots)
    (kk : ∀ (r : Int32) (u : S) (H1 : Heap) (locs1 : List Loc), post r u → Wd D A s.heap (wn u) H1 locs1 → W p l e R s m args below meth c H1 locs1 cells slots Q (F0 m (pc + 3) ls (.int r :: rest))) : W p l e R s m args below meth c H locs cells slots Q (F0 m pc ls st0) := by
  have hp := prex C Z isC hndC hC (.ref b :: As)
  have hv := rcvx C Z q1 he hcl
  obtain ⟨k1, k2, k3, k4, k5, k6⟩ := K
  have hts := C.2.2.2.2.2.2.1
  exact r_backi C Z isC isR isN hC hRr hnd hdis hndN hN (va_runV (As := As) (rest := rest) (n := n) (C := y.cls) ⟨C.1, C.2.1, C.2.2.1, C.2.2.2.2.2.1, hts⟩ (hM H.size) ⟨callB_of n hts (gi_gw (fun _ h => h) k5) rfl hc0.1 hc0.2 (hts _ k4) (hts _ k1) k6 hR, hts _ k2, hts _ k3⟩ ⟨hp.1, hv, hp.2⟩ rfl hn hls hst (lv_room hrm) hdg hcs) kk
theorem r_callNi {post : Int32 → S → Prop} (C : Cx p s m args meth c cc nL ret own D cI cZ A) (Z : Wd D A s.heap ws H locs) (hM : Mi l y cc' nL' ret' rm' D cI cZ (.ref b :: As) wc post wo) (K : Kn own index y cc' nL' ret' n) (hn : As.length = n) (hR : rm'.frames + 1 ≤ R.frames ∧ 8 + (nL' + 11) + rm'.locals ≤ R.locals) (hc0 : rm'.cells = 0 ∧ rm'.slots = 0)
    (isC isR isN : List Nat) (hndC : va_nd isC = true) (hC : isC.map (fun i => ws[i]?) = wc.map some) (hRr : isR.map (fun i => ws[i]?) = wr.map some) (hnd : va_nd isR = true) (hdis : ∀ i ∈ isR, i ∉ isC) (hndN : va_nd isN = true) (hN : ∀ u, isN.map (fun i => (wr ++ wo u)[i]?) = (wn u).map some)
    (q1 : Nat) {ci : Nat} {fs : List Value} {T : u_T} {N : Nat} (he : ws[q1]? = some (b, .inr (ci, fs))) (hcl : classes[ci]? = some (y.cls, T, N)) (hls : ls.size = nL) (hst : st0 = As.reverse ++ .ref b :: rest) (hrm : (rest.map fun v => v.category).sum ≤ 8) (hdg : decode cc pc = .ok (.invokevirtual index, 3)) (hcs : cells ≤ R.cells ∧ slots ≤ R.slots)
    (kk : ∀ (r : Int32) (u : S) (H1 : Heap) (locs1 : List Loc), post r u → Wd D A s.heap (wn u) H1 locs1 → W p l e R s m args below meth c H1 locs1 cells slots Q (F0 m (pc + 3) ls (.int r :: rest))) : W p l e R s m args below meth c H locs cells slots Q (F0 m pc ls st0) := by
  have hp := prex C Z isC hndC hC (.ref b :: As)
  have hv := rcvx C Z q1 he hcl
  obtain ⟨⟨host, k1⟩, k2, k3, k4, k5, k6⟩ := K
  have hts := C.2.2.2.2.2.2.1
  have hK := C.2.2.2.2.2.2.2.1
  exact r_backi C Z isC isR isN hC hRr hnd hdis hndN hN (va_runVN (As := As) (rest := rest) (n := n) (C := y.cls) ⟨C.1, C.2.1, C.2.2.1, C.2.2.2.2.2.1, hts⟩ (hM H.size) ⟨va_cnB n hts (gi_gw (fun _ h => h) k5) rfl hc0.1 hc0.2 (hK.2 _ k1) (hts _ k4) k6 hR, hts _ k2, hts _ k3⟩ ⟨hp.1, hv, hp.2⟩ rfl hn hls hst (lv_room hrm) hdg hcs) kk
theorem r_callSi {post : Int32 → S → Prop} (C : Cx p s m args meth c cc nL ret own D cI cZ A) (Z : Wd D A s.heap ws H locs) (hM : Mi l y cc' nL' ret' rm' D cI cZ As wc post wo) (K : Ks own index y cc' nL' ret' n) (hn : As.length = n) (hR : rm'.frames + 1 ≤ R.frames ∧ 8 + (nL' + 11) + rm'.locals ≤ R.locals) (hc0 : rm'.cells = 0 ∧ rm'.slots = 0)
    (isC isR isN : List Nat) (hndC : va_nd isC = true) (hC : isC.map (fun i => ws[i]?) = wc.map some) (hRr : isR.map (fun i => ws[i]?) = wr.map some) (hnd : va_nd isR = true) (hdis : ∀ i ∈ isR, i ∉ isC) (hndN : va_nd isN = true) (hN : ∀ u, isN.map (fun i => (wr ++ wo u)[i]?) = (wn u).map some)
    (hls : ls.size = nL) (hst : st0 = As.reverse ++ rest) (hrm : (rest.map fun v => v.category).sum ≤ 8) (hdg : decode cc pc = .ok (.invokestatic index, 3)) (hcs : cells ≤ R.cells ∧ slots ≤ R.slots)
    (kk : ∀ (r : Int32) (u : S) (H1 : Heap) (locs1 : List Loc), post r u → Wd D A s.heap (wn u) H1 locs1 → W p l e R s m args below meth c H1 locs1 cells slots Q (F0 m (pc + 3) ls (.int r :: rest))) : W p l e R s m args below meth c H locs cells slots Q (F0 m pc ls st0) := by
  have hp := prex C Z isC hndC hC As
  obtain ⟨k1, k2, k4, k5, k6⟩ := K
  have hts := C.2.2.2.2.2.2.1
  exact r_backi C Z isC isR isN hC hRr hnd hdis hndN hN (va_runS (As := As) (rest := rest) (n := n) ⟨C.1, C.2.1, C.2.2.1, C.2.2.2.2.2.1, hts⟩ (hM H.size) ⟨callB_of n hts (gi_gw (fun _ h => h) k5) rfl hc0.1 hc0.2 (hts _ k4) (hts _ k1) k6 hR, hts _ k2⟩ hp rfl hn hls hst (lv_room hrm) hdg hcs) kk
theorem r_callVv {post : S → Prop} (C : Cx p s m args meth c cc nL ret own D cI cZ A) (Z : Wd D A s.heap ws H locs) (hM : Mv l y cc' nL' rm' D cI cZ (.ref b :: As) wc post wo 0 0) (K : Kv own index y cc' nL' none n) (hn : As.length = n) (hR : rm'.frames + 1 ≤ R.frames ∧ 8 + (nL' + 11) + rm'.locals ≤ R.locals) (hc0 : rm'.cells = 0 ∧ rm'.slots = 0)
    (isC isR isN : List Nat) (hndC : va_nd isC = true) (hC : isC.map (fun i => ws[i]?) = wc.map some) (hRr : isR.map (fun i => ws[i]?) = wr.map some) (hnd : va_nd isR = true) (hdis : ∀ i ∈ isR, i ∉ isC) (hndN : va_nd isN = true) (hN : ∀ u, isN.map (fun i => (wr ++ wo u)[i]?) = (wn u).map some)
    (q1 : Nat) {ci : Nat} {fs : List Value} {T : u_T} {N : Nat} (he : ws[q1]? = some (b, .inr (ci, fs))) (hcl : classes[ci]? = some (y.cls, T, N)) (hls : ls.size = nL) (hst : st0 = As.reverse ++ .ref b :: rest) (hrm : (rest.map fun v => v.category).sum ≤ 8) (hdg : decode cc pc = .ok (.invokevirtual index, 3)) (hcs : cells ≤ R.cells ∧ slots ≤ R.slots)
    (kk : ∀ (u : S) (H1 : Heap) (locs1 : List Loc), post u → Wd D A s.heap (wn u) H1 locs1 → W p l e R s m args below meth c H1 locs1 cells slots Q (F0 m (pc + 3) ls rest)) : W p l e R s m args below meth c H locs cells slots Q (F0 m pc ls st0) := by
  have hp := prex C Z isC hndC hC (.ref b :: As)
  have hv := rcvx C Z q1 he hcl
  obtain ⟨k1, k2, k3, k4, k5, k6⟩ := K
  have hts := C.2.2.2.2.2.2.1
  exact r_backv C Z isC isR isN hC hRr hnd hdis hndN hN (va_runV (As := As) (rest := rest) (n := n) (C := y.cls) ⟨C.1, C.2.1, C.2.2.1, C.2.2.2.2.2.1, hts⟩ (hM H.size) ⟨callB_of n hts (gi_gw (fun _ h => h) k5) rfl hc0.1 hc0.2 (hts _ k4) (hts _ k1) k6 hR, hts _ k2, hts _ k3⟩ ⟨hp.1, hv, hp.2⟩ rfl hn hls hst (lv_room hrm) hdg hcs) kk
theorem r_callNv {post : S → Prop} (C : Cx p s m args meth c cc nL ret own D cI cZ A) (Z : Wd D A s.heap ws H locs) (hM : Mv l y cc' nL' rm' D cI cZ (.ref b :: As) wc post wo 0 0) (K : Kn own index y cc' nL' none n) (hn : As.length = n) (hR : rm'.frames + 1 ≤ R.frames ∧ 8 + (nL' + 11) + rm'.locals ≤ R.locals) (hc0 : rm'.cells = 0 ∧ rm'.slots = 0)
    (isC isR isN : List Nat) (hndC : va_nd isC = true) (hC : isC.map (fun i => ws[i]?) = wc.map some) (hRr : isR.map (fun i => ws[i]?) = wr.map some) (hnd : va_nd isR = true) (hdis : ∀ i ∈ isR, i ∉ isC) (hndN : va_nd isN = true) (hN : ∀ u, isN.map (fun i => (wr ++ wo u)[i]?) = (wn u).map some)
    (q1 : Nat) {ci : Nat} {fs : List Value} {T : u_T} {N : Nat} (he : ws[q1]? = some (b, .inr (ci, fs))) (hcl : classes[ci]? = some (y.cls, T, N)) (hls : ls.size = nL) (hst : st0 = As.reverse ++ .ref b :: rest) (hrm : (rest.map fun v => v.category).sum ≤ 8) (hdg : decode cc pc = .ok (.invokevirtual index, 3)) (hcs : cells ≤ R.cells ∧ slots ≤ R.slots)
    (kk : ∀ (u : S) (H1 : Heap) (locs1 : List Loc), post u → Wd D A s.heap (wn u) H1 locs1 → W p l e R s m args below meth c H1 locs1 cells slots Q (F0 m (pc + 3) ls rest)) : W p l e R s m args below meth c H locs cells slots Q (F0 m pc ls st0) := by
  have hp := prex C Z isC hndC hC (.ref b :: As)
  have hv := rcvx C Z q1 he hcl
  obtain ⟨⟨host, k1⟩, k2, k3, k4, k5, k6⟩ := K
  have hts := C.2.2.2.2.2.2.1
  have hK := C.2.2.2.2.2.2.2.1
  exact r_backv C Z isC isR isN hC hRr hnd hdis hndN hN (va_runVN (As := As) (rest := rest) (n := n) (C := y.cls) ⟨C.1, C.2.1, C.2.2.1, C.2.2.2.2.2.1, hts⟩ (hM H.size) ⟨va_cnB n hts (gi_gw (fun _ h => h) k5) rfl hc0.1 hc0.2 (hK.2 _ k1) (hts _ k4) k6 hR, hts _ k2, hts _ k3⟩ ⟨hp.1, hv, hp.2⟩ rfl hn hls hst (lv_room hrm) hdg hcs) kk
end CALLS
end
section
theorem gwT {w : Cond} {i : Nat} (h : tables_1[i]? = some w) (g : goodWord w = true) : w ∈ gw := gw_in (List.mem_append_right _ (List.mem_of_getElem? h)) g
theorem gwS {w : Cond} {i : Nat} (h : (k2_sels lw_privs)[i]? = some w) (g : goodWord w = true) : w ∈ gw := gw_in (List.mem_append_left _ (List.mem_of_getElem? h)) g
theorem nwT {w : Cond} {i : Nat} (h : tables_1[i]? = some w) (g : isNest w = true) : w ∈ nw := nw_in (List.mem_append_right _ (List.mem_of_getElem? h)) g
theorem u_Desk_in : ∀ w ∈ u_ws R_Desk F_Desk 14, w ∈ gw := by decide +kernel
theorem gi_Desk : Cond.initialized "EntityDesk" ∈ gw := gwT (i := 1) (by decide +kernel) rfl
theorem u_Ents_in : ∀ w ∈ u_ws R_Ents F_Ents 6, w ∈ gw := by decide +kernel
theorem gi_Ents : Cond.initialized "EntityDesk$Entities" ∈ gw := gwT (i := 2) (by decide +kernel) rfl
theorem u_Reader_in : ∀ w ∈ u_ws R_Reader F_Reader 3, w ∈ gw := by decide +kernel
theorem gi_Reader : Cond.initialized "EntityDesk$Reader" ∈ gw := gwT (i := 3) (by decide +kernel) rfl
theorem u_Model_in : ∀ w ∈ u_ws R_Model F_Model 24, w ∈ gw := by decide +kernel
theorem gi_Model : Cond.initialized "EntityDeskModel" ∈ gw := gwT (i := 4) (by decide +kernel) rfl
theorem gi_Math : Cond.initialized "java/lang/Math" ∈ gw := gwT (i := 5) (by decide +kernel) rfl
theorem ga_I : Cond.arrayClass .int ∈ gw := gwT (i := 42) (by decide +kernel) rfl
theorem ga_Z : Cond.arrayClass .boolean ∈ gw := gwT (i := 104) (by decide +kernel) rfl
theorem gc_Desk_init : Cond.code y_Desk_init b_Desk_init 1 none ∈ gw := gwT (i := 10) rfl rfl
theorem gm_Desk_init : Cond.instanceMethod y_Desk_init ∈ gw := gwT (i := 9) (by decide +kernel) rfl
theorem gp_Desk_init : plainY y_Desk_init 0 := ⟨by decide, by decide, by decide +kernel⟩
theorem gc_Ents_init : Cond.code y_Ents_init b_Ents_init 2 none ∈ gw := gwT (i := 18) rfl rfl
theorem gm_Ents_init : Cond.instanceMethod y_Ents_init ∈ gw := gwT (i := 17) (by decide +kernel) rfl
theorem gp_Ents_init : plainY y_Ents_init 0 := ⟨by decide, by decide, by decide +kernel⟩
theorem gc_Reader_init : Cond.code y_Reader_init b_Reader_init 1 none ∈ gw := gwT (i := 47) rfl rfl
theorem gm_Reader_init : Cond.instanceMethod y_Reader_init ∈ gw := gwT (i := 46) (by decide +kernel) rfl
theorem gp_Reader_init : plainY y_Reader_init 0 := ⟨by decide, by decide, by decide +kernel⟩
theorem gc_Desk_put : Cond.code y_Desk_put b_Desk_put 5 (some .boolean) ∈ gw := gwT (i := 108) rfl rfl
theorem gm_Desk_put : Cond.instanceMethod y_Desk_put ∈ gw := gwT (i := 106) (by decide +kernel) rfl
theorem gl_Desk_put : Cond.selects "EntityDesk" y_Desk_put y_Desk_put ∈ gw := gwT (i := 107) (by decide +kernel) rfl
theorem gp_Desk_put : plainY y_Desk_put 2 := ⟨by decide, by decide, by decide +kernel⟩
theorem gc_Desk_declare : Cond.code y_Desk_declare b_Desk_declare 3 (some .int) ∈ gw := gwT (i := 112) rfl rfl
theorem gm_Desk_declare : Cond.instanceMethod y_Desk_declare ∈ gw := gwT (i := 110) (by decide +kernel) rfl
theorem gl_Desk_declare : Cond.selects "EntityDesk" y_Desk_declare y_Desk_declare ∈ gw := gwT (i := 111) (by decide +kernel) rfl
theorem gp_Desk_declare : plainY y_Desk_declare 1 := ⟨by decide, by decide, by decide +kernel⟩
theorem gc_Desk_isName : Cond.code y_Desk_isName b_Desk_isName 1 (some .boolean) ∈ gw := gwT (i := 115) rfl rfl
theorem gs_Desk_isName : Cond.static y_Desk_isName ∈ gw := gwT (i := 114) (by decide +kernel) rfl
theorem gp_Desk_isName : plainY y_Desk_isName 1 := ⟨by decide, by decide, by decide +kernel⟩
theorem gc_Desk_beginReading : Cond.code y_Desk_beginReading b_Desk_beginReading 1 none ∈ gw := gwT (i := 119) rfl rfl
theorem gm_Desk_beginReading : Cond.instanceMethod y_Desk_beginReading ∈ gw := gwT (i := 118) (by decide +kernel) rfl
theorem gl_Desk_beginReading : Cond.selects "EntityDesk" y_Desk_beginReading y_Desk_beginReading ∈ gw := gwS (i := 0) (by decide +kernel) rfl
theorem gp_Desk_beginReading : plainY y_Desk_beginReading 0 := ⟨by decide, by decide, by decide +kernel⟩
theorem gc_Reader_begin : Cond.code y_Reader_begin b_Reader_begin 1 none ∈ gw := gwT (i := 123) rfl rfl
theorem gm_Reader_begin : Cond.instanceMethod y_Reader_begin ∈ gw := gwT (i := 122) (by decide +kernel) rfl
theorem gl_Reader_begin : Cond.selects "EntityDesk$Reader" y_Reader_begin y_Reader_begin ∈ gw := gwS (i := 1) (by decide +kernel) rfl
theorem gp_Reader_begin : plainY y_Reader_begin 0 := ⟨by decide, by decide, by decide +kernel⟩
theorem gc_Ents_has : Cond.code y_Ents_has b_Ents_has 2 (some .boolean) ∈ gw := gwT (i := 127) rfl rfl
theorem gm_Ents_has : Cond.instanceMethod y_Ents_has ∈ gw := gwT (i := 126) (by decide +kernel) rfl
theorem gl_Ents_has : Cond.selects "EntityDesk$Entities" y_Ents_has y_Ents_has ∈ gw := gwS (i := 2) (by decide +kernel) rfl
theorem gp_Ents_has : plainY y_Ents_has 1 := ⟨by decide, by decide, by decide +kernel⟩
theorem gc_Desk_draftText : Cond.code y_Desk_draftText b_Desk_draftText 3 none ∈ gw := gwT (i := 131) rfl rfl
theorem gm_Desk_draftText : Cond.instanceMethod y_Desk_draftText ∈ gw := gwT (i := 130) (by decide +kernel) rfl
theorem gl_Desk_draftText : Cond.selects "EntityDesk" y_Desk_draftText y_Desk_draftText ∈ gw := gwS (i := 3) (by decide +kernel) rfl
theorem gp_Desk_draftText : plainY y_Desk_draftText 1 := ⟨by decide, by decide, by decide +kernel⟩
theorem gc_Ents_beginDraft : Cond.code y_Ents_beginDraft b_Ents_beginDraft 1 none ∈ gw := gwT (i := 135) rfl rfl
theorem gm_Ents_beginDraft : Cond.instanceMethod y_Ents_beginDraft ∈ gw := gwT (i := 134) (by decide +kernel) rfl
theorem gl_Ents_beginDraft : Cond.selects "EntityDesk$Entities" y_Ents_beginDraft y_Ents_beginDraft ∈ gw := gwS (i := 4) (by decide +kernel) rfl
theorem gp_Ents_beginDraft : plainY y_Ents_beginDraft 0 := ⟨by decide, by decide, by decide +kernel⟩
theorem gc_Reader_isWithin : Cond.code y_Reader_isWithin b_Reader_isWithin 1 (some .boolean) ∈ gw := gwT (i := 139) rfl rfl
theorem gm_Reader_isWithin : Cond.instanceMethod y_Reader_isWithin ∈ gw := gwT (i := 138) (by decide +kernel) rfl
theorem gl_Reader_isWithin : Cond.selects "EntityDesk$Reader" y_Reader_isWithin y_Reader_isWithin ∈ gw := gwS (i := 5) (by decide +kernel) rfl
theorem gp_Reader_isWithin : plainY y_Reader_isWithin 0 := ⟨by decide, by decide, by decide +kernel⟩
theorem gc_Desk_draftCharacter : Cond.code y_Desk_draftCharacter b_Desk_draftCharacter 4 none ∈ gw := gwT (i := 143) rfl rfl
theorem gm_Desk_draftCharacter : Cond.instanceMethod y_Desk_draftCharacter ∈ gw := gwT (i := 142) (by decide +kernel) rfl
theorem gl_Desk_draftCharacter : Cond.selects "EntityDesk" y_Desk_draftCharacter y_Desk_draftCharacter ∈ gw := gwS (i := 6) (by decide +kernel) rfl
theorem gp_Desk_draftCharacter : plainY y_Desk_draftCharacter 2 := ⟨by decide, by decide, by decide +kernel⟩
theorem gc_Desk_readOn : Cond.code y_Desk_readOn b_Desk_readOn 4 (some .int) ∈ gw := gwT (i := 147) rfl rfl
theorem gm_Desk_readOn : Cond.instanceMethod y_Desk_readOn ∈ gw := gwT (i := 146) (by decide +kernel) rfl
theorem gl_Desk_readOn : Cond.selects "EntityDesk" y_Desk_readOn y_Desk_readOn ∈ gw := gwS (i := 7) (by decide +kernel) rfl
theorem gp_Desk_readOn : plainY y_Desk_readOn 2 := ⟨by decide, by decide, by decide +kernel⟩
theorem gc_Reader_read : Cond.code y_Reader_read b_Reader_read 2 (some .int) ∈ gw := gwT (i := 151) rfl rfl
theorem gm_Reader_read : Cond.instanceMethod y_Reader_read ∈ gw := gwT (i := 150) (by decide +kernel) rfl
theorem gl_Reader_read : Cond.selects "EntityDesk$Reader" y_Reader_read y_Reader_read ∈ gw := gwS (i := 8) (by decide +kernel) rfl
theorem gp_Reader_read : plainY y_Reader_read 1 := ⟨by decide, by decide, by decide +kernel⟩
theorem gc_Reader_readBehindAmpersand : Cond.code y_Reader_readBehindAmpersand b_Reader_readBehindAmpersand 2 (some .int) ∈ gw := gwT (i := 155) rfl rfl
theorem gm_Reader_readBehindAmpersand : Cond.instanceMethod y_Reader_readBehindAmpersand ∈ gw := gwT (i := 154) (by decide +kernel) rfl
theorem gl_Reader_readBehindAmpersand : Cond.selects "EntityDesk$Reader" y_Reader_readBehindAmpersand y_Reader_readBehindAmpersand ∈ gw := gwS (i := 9) (by decide +kernel) rfl
theorem gp_Reader_readBehindAmpersand : plainY y_Reader_readBehindAmpersand 1 := ⟨by decide, by decide, by decide +kernel⟩
theorem gc_Reader_goOn : Cond.code y_Reader_goOn b_Reader_goOn 2 (some .int) ∈ gw := gwT (i := 159) rfl rfl
theorem gm_Reader_goOn : Cond.instanceMethod y_Reader_goOn ∈ gw := gwT (i := 158) (by decide +kernel) rfl
theorem gl_Reader_goOn : Cond.selects "EntityDesk$Reader" y_Reader_goOn y_Reader_goOn ∈ gw := gwS (i := 10) (by decide +kernel) rfl
theorem gp_Reader_goOn : plainY y_Reader_goOn 1 := ⟨by decide, by decide, by decide +kernel⟩
theorem gc_Reader_finish : Cond.code y_Reader_finish b_Reader_finish 2 (some .int) ∈ gw := gwT (i := 163) rfl rfl
theorem gm_Reader_finish : Cond.instanceMethod y_Reader_finish ∈ gw := gwT (i := 162) (by decide +kernel) rfl
theorem gl_Reader_finish : Cond.selects "EntityDesk$Reader" y_Reader_finish y_Reader_finish ∈ gw := gwS (i := 11) (by decide +kernel) rfl
theorem gp_Reader_finish : plainY y_Reader_finish 1 := ⟨by decide, by decide, by decide +kernel⟩
theorem gc_Reader_readDigit : Cond.code y_Reader_readDigit b_Reader_readDigit 5 (some .int) ∈ gw := gwT (i := 167) rfl rfl
theorem gm_Reader_readDigit : Cond.instanceMethod y_Reader_readDigit ∈ gw := gwT (i := 166) (by decide +kernel) rfl
theorem gl_Reader_readDigit : Cond.selects "EntityDesk$Reader" y_Reader_readDigit y_Reader_readDigit ∈ gw := gwS (i := 12) (by decide +kernel) rfl
theorem gp_Reader_readDigit : plainY y_Reader_readDigit 3 := ⟨by decide, by decide, by decide +kernel⟩
theorem gc_Reader_valueOf : Cond.code y_Reader_valueOf b_Reader_valueOf 1 (some .int) ∈ gw := gwT (i := 170) rfl rfl
theorem gs_Reader_valueOf : Cond.static y_Reader_valueOf ∈ gw := gwT (i := 169) (by decide +kernel) rfl
theorem gp_Reader_valueOf : plainY y_Reader_valueOf 1 := ⟨by decide, by decide, by decide +kernel⟩
theorem gc_Reader_finishNumber : Cond.code y_Reader_finishNumber b_Reader_finishNumber 1 (some .int) ∈ gw := gwT (i := 177) rfl rfl
theorem gm_Reader_finishNumber : Cond.instanceMethod y_Reader_finishNumber ∈ gw := gwT (i := 176) (by decide +kernel) rfl
theorem gl_Reader_finishNumber : Cond.selects "EntityDesk$Reader" y_Reader_finishNumber y_Reader_finishNumber ∈ gw := gwS (i := 13) (by decide +kernel) rfl
theorem gp_Reader_finishNumber : plainY y_Reader_finishNumber 0 := ⟨by decide, by decide, by decide +kernel⟩
theorem gc_Reader_mayBe : Cond.code y_Reader_mayBe b_Reader_mayBe 1 (some .boolean) ∈ gw := gwT (i := 180) rfl rfl
theorem gs_Reader_mayBe : Cond.static y_Reader_mayBe ∈ gw := gwT (i := 179) (by decide +kernel) rfl
theorem gp_Reader_mayBe : plainY y_Reader_mayBe 1 := ⟨by decide, by decide, by decide +kernel⟩
theorem gc_Desk_fail : Cond.code y_Desk_fail b_Desk_fail 3 none ∈ gw := gwT (i := 184) rfl rfl
theorem gm_Desk_fail : Cond.instanceMethod y_Desk_fail ∈ gw := gwT (i := 183) (by decide +kernel) rfl
theorem gl_Desk_fail : Cond.selects "EntityDesk" y_Desk_fail y_Desk_fail ∈ gw := gwS (i := 14) (by decide +kernel) rfl
theorem gp_Desk_fail : plainY y_Desk_fail 2 := ⟨by decide, by decide, by decide +kernel⟩
theorem gc_Ents_draft : Cond.code y_Ents_draft b_Ents_draft 2 none ∈ gw := gwT (i := 188) rfl rfl
theorem gm_Ents_draft : Cond.instanceMethod y_Ents_draft ∈ gw := gwT (i := 187) (by decide +kernel) rfl
theorem gl_Ents_draft : Cond.selects "EntityDesk$Entities" y_Ents_draft y_Ents_draft ∈ gw := gwS (i := 15) (by decide +kernel) rfl
theorem gp_Ents_draft : plainY y_Ents_draft 1 := ⟨by decide, by decide, by decide +kernel⟩
theorem gc_Ents_draftFits : Cond.code y_Ents_draftFits b_Ents_draftFits 1 (some .boolean) ∈ gw := gwT (i := 192) rfl rfl
theorem gm_Ents_draftFits : Cond.instanceMethod y_Ents_draftFits ∈ gw := gwT (i := 191) (by decide +kernel) rfl
theorem gl_Ents_draftFits : Cond.selects "EntityDesk$Entities" y_Ents_draftFits y_Ents_draftFits ∈ gw := gwS (i := 16) (by decide +kernel) rfl
theorem gp_Ents_draftFits : plainY y_Ents_draftFits 0 := ⟨by decide, by decide, by decide +kernel⟩
theorem gc_Ents_keepDraft : Cond.code y_Ents_keepDraft b_Ents_keepDraft 2 none ∈ gw := gwT (i := 196) rfl rfl
theorem gm_Ents_keepDraft : Cond.instanceMethod y_Ents_keepDraft ∈ gw := gwT (i := 195) (by decide +kernel) rfl
theorem gl_Ents_keepDraft : Cond.selects "EntityDesk$Entities" y_Ents_keepDraft y_Ents_keepDraft ∈ gw := gwS (i := 17) (by decide +kernel) rfl
theorem gp_Ents_keepDraft : plainY y_Ents_keepDraft 1 := ⟨by decide, by decide, by decide +kernel⟩
theorem gc_Ents_lengthOf : Cond.code y_Ents_lengthOf b_Ents_lengthOf 2 (some .int) ∈ gw := gwT (i := 200) rfl rfl
theorem gm_Ents_lengthOf : Cond.instanceMethod y_Ents_lengthOf ∈ gw := gwT (i := 199) (by decide +kernel) rfl
theorem gl_Ents_lengthOf : Cond.selects "EntityDesk$Entities" y_Ents_lengthOf y_Ents_lengthOf ∈ gw := gwS (i := 18) (by decide +kernel) rfl
theorem gp_Ents_lengthOf : plainY y_Ents_lengthOf 1 := ⟨by decide, by decide, by decide +kernel⟩
theorem gc_Desk_expand : Cond.code y_Desk_expand b_Desk_expand 3 (some .int) ∈ gw := gwT (i := 204) rfl rfl
theorem gm_Desk_expand : Cond.instanceMethod y_Desk_expand ∈ gw := gwT (i := 202) (by decide +kernel) rfl
theorem gl_Desk_expand : Cond.selects "EntityDesk" y_Desk_expand y_Desk_expand ∈ gw := gwT (i := 203) (by decide +kernel) rfl
theorem gp_Desk_expand : plainY y_Desk_expand 1 := ⟨by decide, by decide, by decide +kernel⟩
theorem gc_Desk_goOver : Cond.code y_Desk_goOver b_Desk_goOver 6 none ∈ gw := gwT (i := 209) rfl rfl
theorem gm_Desk_goOver : Cond.instanceMethod y_Desk_goOver ∈ gw := gwT (i := 208) (by decide +kernel) rfl
theorem gl_Desk_goOver : Cond.selects "EntityDesk" y_Desk_goOver y_Desk_goOver ∈ gw := gwS (i := 19) (by decide +kernel) rfl
theorem gp_Desk_goOver : plainY y_Desk_goOver 4 := ⟨by decide, by decide, by decide +kernel⟩
theorem gc_Desk_goOverCharacter : Cond.code y_Desk_goOverCharacter b_Desk_goOverCharacter 5 none ∈ gw := gwT (i := 213) rfl rfl
theorem gm_Desk_goOverCharacter : Cond.instanceMethod y_Desk_goOverCharacter ∈ gw := gwT (i := 212) (by decide +kernel) rfl
theorem gl_Desk_goOverCharacter : Cond.selects "EntityDesk" y_Desk_goOverCharacter y_Desk_goOverCharacter ∈ gw := gwS (i := 20) (by decide +kernel) rfl
theorem gp_Desk_goOverCharacter : plainY y_Desk_goOverCharacter 3 := ⟨by decide, by decide, by decide +kernel⟩
theorem gc_Desk_give : Cond.code y_Desk_give b_Desk_give 2 none ∈ gw := gwT (i := 217) rfl rfl
theorem gm_Desk_give : Cond.instanceMethod y_Desk_give ∈ gw := gwT (i := 216) (by decide +kernel) rfl
theorem gl_Desk_give : Cond.selects "EntityDesk" y_Desk_give y_Desk_give ∈ gw := gwS (i := 21) (by decide +kernel) rfl
theorem gp_Desk_give : plainY y_Desk_give 1 := ⟨by decide, by decide, by decide +kernel⟩
theorem gc_Desk_goInto : Cond.code y_Desk_goInto b_Desk_goInto 5 none ∈ gw := gwT (i := 221) rfl rfl
theorem gm_Desk_goInto : Cond.instanceMethod y_Desk_goInto ∈ gw := gwT (i := 220) (by decide +kernel) rfl
theorem gl_Desk_goInto : Cond.selects "EntityDesk" y_Desk_goInto y_Desk_goInto ∈ gw := gwS (i := 22) (by decide +kernel) rfl
theorem gp_Desk_goInto : plainY y_Desk_goInto 2 := ⟨by decide, by decide, by decide +kernel⟩
theorem gc_Desk_faultOfEntity : Cond.code y_Desk_faultOfEntity b_Desk_faultOfEntity 3 (some .int) ∈ gw := gwT (i := 225) rfl rfl
theorem gm_Desk_faultOfEntity : Cond.instanceMethod y_Desk_faultOfEntity ∈ gw := gwT (i := 224) (by decide +kernel) rfl
theorem gl_Desk_faultOfEntity : Cond.selects "EntityDesk" y_Desk_faultOfEntity y_Desk_faultOfEntity ∈ gw := gwS (i := 23) (by decide +kernel) rfl
theorem gp_Desk_faultOfEntity : plainY y_Desk_faultOfEntity 2 := ⟨by decide, by decide, by decide +kernel⟩
theorem gc_Ents_startOf : Cond.code y_Ents_startOf b_Ents_startOf 2 (some .int) ∈ gw := gwT (i := 232) rfl rfl
theorem gm_Ents_startOf : Cond.instanceMethod y_Ents_startOf ∈ gw := gwT (i := 231) (by decide +kernel) rfl
theorem gl_Ents_startOf : Cond.selects "EntityDesk$Entities" y_Ents_startOf y_Ents_startOf ∈ gw := gwS (i := 24) (by decide +kernel) rfl
theorem gp_Ents_startOf : plainY y_Ents_startOf 1 := ⟨by decide, by decide, by decide +kernel⟩
theorem gc_Desk_place : Cond.code y_Desk_place b_Desk_place 1 (some .int) ∈ gw := gwT (i := 236) rfl rfl
theorem gm_Desk_place : Cond.instanceMethod y_Desk_place ∈ gw := gwT (i := 234) (by decide +kernel) rfl
theorem gl_Desk_place : Cond.selects "EntityDesk" y_Desk_place y_Desk_place ∈ gw := gwT (i := 235) (by decide +kernel) rfl
theorem gp_Desk_place : plainY y_Desk_place 0 := ⟨by decide, by decide, by decide +kernel⟩
theorem gc_Desk_given : Cond.code y_Desk_given b_Desk_given 2 (some .int) ∈ gw := gwT (i := 240) rfl rfl
theorem gm_Desk_given : Cond.instanceMethod y_Desk_given ∈ gw := gwT (i := 238) (by decide +kernel) rfl
theorem gl_Desk_given : Cond.selects "EntityDesk" y_Desk_given y_Desk_given ∈ gw := gwT (i := 239) (by decide +kernel) rfl
theorem gp_Desk_given : plainY y_Desk_given 1 := ⟨by decide, by decide, by decide +kernel⟩
theorem gc_Desk_text : Cond.code y_Desk_text b_Desk_text 3 (some .int) ∈ gw := gwT (i := 244) rfl rfl
theorem gm_Desk_text : Cond.instanceMethod y_Desk_text ∈ gw := gwT (i := 242) (by decide +kernel) rfl
theorem gl_Desk_text : Cond.selects "EntityDesk" y_Desk_text y_Desk_text ∈ gw := gwT (i := 243) (by decide +kernel) rfl
theorem gp_Desk_text : plainY y_Desk_text 2 := ⟨by decide, by decide, by decide +kernel⟩
theorem gc_Ents_characterOf : Cond.code y_Ents_characterOf b_Ents_characterOf 3 (some .int) ∈ gw := gwT (i := 248) rfl rfl
theorem gm_Ents_characterOf : Cond.instanceMethod y_Ents_characterOf ∈ gw := gwT (i := 247) (by decide +kernel) rfl
theorem gl_Ents_characterOf : Cond.selects "EntityDesk$Entities" y_Ents_characterOf y_Ents_characterOf ∈ gw := gwS (i := 25) (by decide +kernel) rfl
theorem gp_Ents_characterOf : plainY y_Ents_characterOf 2 := ⟨by decide, by decide, by decide +kernel⟩
theorem gc_Desk_count : Cond.code y_Desk_count b_Desk_count 2 (some .int) ∈ gw := gwT (i := 252) rfl rfl
theorem gm_Desk_count : Cond.instanceMethod y_Desk_count ∈ gw := gwT (i := 250) (by decide +kernel) rfl
theorem gl_Desk_count : Cond.selects "EntityDesk" y_Desk_count y_Desk_count ∈ gw := gwT (i := 251) (by decide +kernel) rfl
theorem gp_Desk_count : plainY y_Desk_count 1 := ⟨by decide, by decide, by decide +kernel⟩
theorem gc_Model_init : Cond.code y_Model_init b_Model_init 1 none ∈ gw := gwT (i := 257) rfl rfl
theorem gm_Model_init : Cond.instanceMethod y_Model_init ∈ gw := gwT (i := 256) (by decide +kernel) rfl
theorem gp_Model_init : plainY y_Model_init 0 := ⟨by decide, by decide, by decide +kernel⟩
theorem gc_Model_put : Cond.code y_Model_put b_Model_put 5 (some .boolean) ∈ gw := gwT (i := 335) rfl rfl
theorem gm_Model_put : Cond.instanceMethod y_Model_put ∈ gw := gwT (i := 333) (by decide +kernel) rfl
theorem gl_Model_put : Cond.selects "EntityDeskModel" y_Model_put y_Model_put ∈ gw := gwT (i := 334) (by decide +kernel) rfl
theorem gp_Model_put : plainY y_Model_put 2 := ⟨by decide, by decide, by decide +kernel⟩
theorem gc_Model_declare : Cond.code y_Model_declare b_Model_declare 9 (some .int) ∈ gw := gwT (i := 340) rfl rfl
theorem gm_Model_declare : Cond.instanceMethod y_Model_declare ∈ gw := gwT (i := 338) (by decide +kernel) rfl
theorem gl_Model_declare : Cond.selects "EntityDeskModel" y_Model_declare y_Model_declare ∈ gw := gwT (i := 339) (by decide +kernel) rfl
theorem gp_Model_declare : plainY y_Model_declare 1 := ⟨by decide, by decide, by decide +kernel⟩
theorem gc_Model_begin : Cond.code y_Model_begin b_Model_begin 2 none ∈ gw := gwT (i := 344) rfl rfl
theorem gm_Model_begin : Cond.instanceMethod y_Model_begin ∈ gw := gwT (i := 343) (by decide +kernel) rfl
theorem gl_Model_begin : Cond.selects "EntityDeskModel" y_Model_begin y_Model_begin ∈ gw := gwS (i := 26) (by decide +kernel) rfl
theorem gp_Model_begin : plainY y_Model_begin 0 := ⟨by decide, by decide, by decide +kernel⟩
theorem gc_Model_peek : Cond.code y_Model_peek b_Model_peek 1 (some .int) ∈ gw := gwT (i := 348) rfl rfl
theorem gm_Model_peek : Cond.instanceMethod y_Model_peek ∈ gw := gwT (i := 347) (by decide +kernel) rfl
theorem gl_Model_peek : Cond.selects "EntityDeskModel" y_Model_peek y_Model_peek ∈ gw := gwS (i := 27) (by decide +kernel) rfl
theorem gp_Model_peek : plainY y_Model_peek 0 := ⟨by decide, by decide, by decide +kernel⟩
theorem gc_Model_pass : Cond.code y_Model_pass b_Model_pass 1 none ∈ gw := gwT (i := 352) rfl rfl
theorem gm_Model_pass : Cond.instanceMethod y_Model_pass ∈ gw := gwT (i := 351) (by decide +kernel) rfl
theorem gl_Model_pass : Cond.selects "EntityDeskModel" y_Model_pass y_Model_pass ∈ gw := gwS (i := 28) (by decide +kernel) rfl
theorem gp_Model_pass : plainY y_Model_pass 0 := ⟨by decide, by decide, by decide +kernel⟩
theorem gc_Model_reference : Cond.code y_Model_reference b_Model_reference 4 (some .int) ∈ gw := gwT (i := 356) rfl rfl
theorem gm_Model_reference : Cond.instanceMethod y_Model_reference ∈ gw := gwT (i := 355) (by decide +kernel) rfl
theorem gl_Model_reference : Cond.selects "EntityDeskModel" y_Model_reference y_Model_reference ∈ gw := gwS (i := 29) (by decide +kernel) rfl
theorem gp_Model_reference : plainY y_Model_reference 1 := ⟨by decide, by decide, by decide +kernel⟩
theorem gc_Model_digit : Cond.code y_Model_digit b_Model_digit 2 (some .int) ∈ gw := gwT (i := 359) rfl rfl
theorem gs_Model_digit : Cond.static y_Model_digit ∈ gw := gwT (i := 358) (by decide +kernel) rfl
theorem gp_Model_digit : plainY y_Model_digit 2 := ⟨by decide, by decide, by decide +kernel⟩
theorem gc_Model_broken : Cond.code y_Model_broken b_Model_broken 1 (some .int) ∈ gw := gwT (i := 363) rfl rfl
theorem gm_Model_broken : Cond.instanceMethod y_Model_broken ∈ gw := gwT (i := 362) (by decide +kernel) rfl
theorem gl_Model_broken : Cond.selects "EntityDeskModel" y_Model_broken y_Model_broken ∈ gw := gwS (i := 30) (by decide +kernel) rfl
theorem gp_Model_broken : plainY y_Model_broken 0 := ⟨by decide, by decide, by decide +kernel⟩
theorem gc_Model_fail : Cond.code y_Model_fail b_Model_fail 3 (some .int) ∈ gw := gwT (i := 367) rfl rfl
theorem gm_Model_fail : Cond.instanceMethod y_Model_fail ∈ gw := gwT (i := 366) (by decide +kernel) rfl
theorem gl_Model_fail : Cond.selects "EntityDeskModel" y_Model_fail y_Model_fail ∈ gw := gwS (i := 31) (by decide +kernel) rfl
theorem gp_Model_fail : plainY y_Model_fail 2 := ⟨by decide, by decide, by decide +kernel⟩
theorem gc_Model_expand : Cond.code y_Model_expand b_Model_expand 3 (some .int) ∈ gw := gwT (i := 377) rfl rfl
theorem gm_Model_expand : Cond.instanceMethod y_Model_expand ∈ gw := gwT (i := 375) (by decide +kernel) rfl
theorem gl_Model_expand : Cond.selects "EntityDeskModel" y_Model_expand y_Model_expand ∈ gw := gwT (i := 376) (by decide +kernel) rfl
theorem gp_Model_expand : plainY y_Model_expand 1 := ⟨by decide, by decide, by decide +kernel⟩
theorem gc_Model_step : Cond.code y_Model_step b_Model_step 4 (some .int) ∈ gw := gwT (i := 382) rfl rfl
theorem gm_Model_step : Cond.instanceMethod y_Model_step ∈ gw := gwT (i := 381) (by decide +kernel) rfl
theorem gl_Model_step : Cond.selects "EntityDeskModel" y_Model_step y_Model_step ∈ gw := gwS (i := 32) (by decide +kernel) rfl
theorem gp_Model_step : plainY y_Model_step 1 := ⟨by decide, by decide, by decide +kernel⟩
theorem gc_Model_give : Cond.code y_Model_give b_Model_give 3 (some .int) ∈ gw := gwT (i := 386) rfl rfl
theorem gm_Model_give : Cond.instanceMethod y_Model_give ∈ gw := gwT (i := 385) (by decide +kernel) rfl
theorem gl_Model_give : Cond.selects "EntityDeskModel" y_Model_give y_Model_give ∈ gw := gwS (i := 33) (by decide +kernel) rfl
theorem gp_Model_give : plainY y_Model_give 2 := ⟨by decide, by decide, by decide +kernel⟩
theorem gc_Model_enter : Cond.code y_Model_enter b_Model_enter 5 (some .int) ∈ gw := gwT (i := 390) rfl rfl
theorem gm_Model_enter : Cond.instanceMethod y_Model_enter ∈ gw := gwT (i := 389) (by decide +kernel) rfl
theorem gl_Model_enter : Cond.selects "EntityDeskModel" y_Model_enter y_Model_enter ∈ gw := gwS (i := 34) (by decide +kernel) rfl
theorem gp_Model_enter : plainY y_Model_enter 2 := ⟨by decide, by decide, by decide +kernel⟩
theorem gc_Model_place : Cond.code y_Model_place b_Model_place 1 (some .int) ∈ gw := gwT (i := 394) rfl rfl
theorem gm_Model_place : Cond.instanceMethod y_Model_place ∈ gw := gwT (i := 392) (by decide +kernel) rfl
theorem gl_Model_place : Cond.selects "EntityDeskModel" y_Model_place y_Model_place ∈ gw := gwT (i := 393) (by decide +kernel) rfl
theorem gp_Model_place : plainY y_Model_place 0 := ⟨by decide, by decide, by decide +kernel⟩
theorem gc_Model_given : Cond.code y_Model_given b_Model_given 2 (some .int) ∈ gw := gwT (i := 398) rfl rfl
theorem gm_Model_given : Cond.instanceMethod y_Model_given ∈ gw := gwT (i := 396) (by decide +kernel) rfl
theorem gl_Model_given : Cond.selects "EntityDeskModel" y_Model_given y_Model_given ∈ gw := gwT (i := 397) (by decide +kernel) rfl
theorem gp_Model_given : plainY y_Model_given 1 := ⟨by decide, by decide, by decide +kernel⟩
theorem gc_Model_text : Cond.code y_Model_text b_Model_text 3 (some .int) ∈ gw := gwT (i := 402) rfl rfl
theorem gm_Model_text : Cond.instanceMethod y_Model_text ∈ gw := gwT (i := 400) (by decide +kernel) rfl
theorem gl_Model_text : Cond.selects "EntityDeskModel" y_Model_text y_Model_text ∈ gw := gwT (i := 401) (by decide +kernel) rfl
theorem gp_Model_text : plainY y_Model_text 2 := ⟨by decide, by decide, by decide +kernel⟩
theorem gc_Model_count : Cond.code y_Model_count b_Model_count 2 (some .int) ∈ gw := gwT (i := 406) rfl rfl
theorem gm_Model_count : Cond.instanceMethod y_Model_count ∈ gw := gwT (i := 404) (by decide +kernel) rfl
theorem gl_Model_count : Cond.selects "EntityDeskModel" y_Model_count y_Model_count ∈ gw := gwT (i := 405) (by decide +kernel) rfl
theorem gp_Model_count : plainY y_Model_count 1 := ⟨by decide, by decide, by decide +kernel⟩
theorem k_Desk_1 : Cond.methodLink "EntityDesk" 1 objectInit ∈ gw := gwT (i := 11) (by decide +kernel) rfl
theorem k_Desk_17 : Cond.classLink "EntityDesk" 17 "EntityDesk$Entities" ∈ gw ∧ Cond.instantiable "EntityDesk$Entities" 6 ∈ gw := ⟨gwT (i := 14) (by decide +kernel) rfl, gwT (i := 15) (by decide +kernel) rfl⟩
theorem k_Desk_19 : Kj "EntityDesk" 19 y_Ents_init b_Ents_init 2 0 := ⟨⟨"EntityDesk", nwT (i := 16) (by decide +kernel) rfl⟩, gm_Ents_init, gi_Ents, gc_Ents_init, gp_Ents_init, rfl⟩
theorem f_Desk_154 : fdN "EntityDesk" 154 1 0 := ⟨_, _, _, "EntityDesk", rfl, by decide, u_Ents_in, nwT (i := 21) (by decide +kernel) rfl⟩
theorem f_Desk_96 : fdN "EntityDesk" 96 1 3 := ⟨_, _, _, "EntityDesk", rfl, by decide, u_Ents_in, nwT (i := 25) (by decide +kernel) rfl⟩
theorem f_Desk_99 : fdN "EntityDesk" 99 1 4 := ⟨_, _, _, "EntityDesk", rfl, by decide, u_Ents_in, nwT (i := 27) (by decide +kernel) rfl⟩
theorem k_Desk_24 : Cond.classLink "EntityDesk" 24 "EntityDesk$Reader" ∈ gw ∧ Cond.instantiable "EntityDesk$Reader" 3 ∈ gw := ⟨gwT (i := 43) (by decide +kernel) rfl, gwT (i := 44) (by decide +kernel) rfl⟩
theorem k_Desk_26 : Kj "EntityDesk" 26 y_Reader_init b_Reader_init 1 0 := ⟨⟨"EntityDesk", nwT (i := 45) (by decide +kernel) rfl⟩, gm_Reader_init, gi_Reader, gc_Reader_init, gp_Reader_init, rfl⟩
theorem f_Desk_130 : fdN "EntityDesk" 130 2 1 := ⟨_, _, _, "EntityDesk", rfl, by decide, u_Reader_in, nwT (i := 51) (by decide +kernel) rfl⟩
theorem f_Desk_127 : fdN "EntityDesk" 127 2 2 := ⟨_, _, _, "EntityDesk", rfl, by decide, u_Reader_in, nwT (i := 53) (by decide +kernel) rfl⟩
theorem f_Desk_9 : fdK "EntityDesk" 9 0 0 true (.array .int) := ⟨_, _, _, t_Desk, rfl, by decide, u_Desk_in, t_Desk_ok, n_Desk, rfl, rfl, rfl, gwT (i := 61) (by decide +kernel) rfl⟩
theorem f_Desk_13 : fdK "EntityDesk" 13 0 1 false .int := ⟨_, _, _, t_Desk, rfl, by decide, u_Desk_in, t_Desk_ok, n_Desk, rfl, rfl, rfl, gwT (i := 62) (by decide +kernel) rfl⟩
theorem f_Desk_20 : fdK "EntityDesk" 20 0 2 true (.object "EntityDesk$Entities") := ⟨_, _, _, t_Desk, rfl, by decide, u_Desk_in, t_Desk_ok, n_Desk, rfl, rfl, rfl, gwT (i := 63) (by decide +kernel) rfl⟩
theorem f_Desk_27 : fdK "EntityDesk" 27 0 3 true (.object "EntityDesk$Reader") := ⟨_, _, _, t_Desk, rfl, by decide, u_Desk_in, t_Desk_ok, n_Desk, rfl, rfl, rfl, gwT (i := 64) (by decide +kernel) rfl⟩
theorem f_Desk_31 : fdK "EntityDesk" 31 0 4 false .int := ⟨_, _, _, t_Desk, rfl, by decide, u_Desk_in, t_Desk_ok, n_Desk, rfl, rfl, rfl, gwT (i := 65) (by decide +kernel) rfl⟩
theorem f_Desk_34 : fdK "EntityDesk" 34 0 5 false .int := ⟨_, _, _, t_Desk, rfl, by decide, u_Desk_in, t_Desk_ok, n_Desk, rfl, rfl, rfl, gwT (i := 66) (by decide +kernel) rfl⟩
theorem f_Desk_37 : fdK "EntityDesk" 37 0 6 false .int := ⟨_, _, _, t_Desk, rfl, by decide, u_Desk_in, t_Desk_ok, n_Desk, rfl, rfl, rfl, gwT (i := 67) (by decide +kernel) rfl⟩
theorem f_Desk_40 : fdK "EntityDesk" 40 0 7 true (.array .int) := ⟨_, _, _, t_Desk, rfl, by decide, u_Desk_in, t_Desk_ok, n_Desk, rfl, rfl, rfl, gwT (i := 68) (by decide +kernel) rfl⟩
theorem f_Desk_43 : fdK "EntityDesk" 43 0 8 false .int := ⟨_, _, _, t_Desk, rfl, by decide, u_Desk_in, t_Desk_ok, n_Desk, rfl, rfl, rfl, gwT (i := 69) (by decide +kernel) rfl⟩
theorem f_Desk_46 : fdK "EntityDesk" 46 0 9 true (.array .boolean) := ⟨_, _, _, t_Desk, rfl, by decide, u_Desk_in, t_Desk_ok, n_Desk, rfl, rfl, rfl, gwT (i := 70) (by decide +kernel) rfl⟩
theorem f_Desk_50 : fdK "EntityDesk" 50 0 10 false .int := ⟨_, _, _, t_Desk, rfl, by decide, u_Desk_in, t_Desk_ok, n_Desk, rfl, rfl, rfl, gwT (i := 71) (by decide +kernel) rfl⟩
theorem f_Desk_53 : fdK "EntityDesk" 53 0 11 false .int := ⟨_, _, _, t_Desk, rfl, by decide, u_Desk_in, t_Desk_ok, n_Desk, rfl, rfl, rfl, gwT (i := 72) (by decide +kernel) rfl⟩
theorem f_Desk_56 : fdK "EntityDesk" 56 0 12 false .int := ⟨_, _, _, t_Desk, rfl, by decide, u_Desk_in, t_Desk_ok, n_Desk, rfl, rfl, rfl, gwT (i := 73) (by decide +kernel) rfl⟩
theorem f_Desk_59 : fdK "EntityDesk" 59 0 13 false .int := ⟨_, _, _, t_Desk, rfl, by decide, u_Desk_in, t_Desk_ok, n_Desk, rfl, rfl, rfl, gwT (i := 74) (by decide +kernel) rfl⟩
theorem k_Desk_62 : Ks "EntityDesk" 62 y_Desk_isName b_Desk_isName 1 (some .boolean) 1 := ⟨gwT (i := 113) (by decide +kernel) rfl, gs_Desk_isName, gi_Desk, gc_Desk_isName, gp_Desk_isName⟩
theorem k_Desk_66 : Kv "EntityDesk" 66 y_Desk_beginReading b_Desk_beginReading 1 none 0 := ⟨gwT (i := 116) (by decide +kernel) rfl, gm_Desk_beginReading, gl_Desk_beginReading, gi_Desk, gc_Desk_beginReading, gp_Desk_beginReading⟩
theorem k_Desk_102 : Kn "EntityDesk" 102 y_Reader_begin b_Reader_begin 1 none 0 := ⟨⟨"EntityDesk", nwT (i := 120) (by decide +kernel) rfl⟩, gm_Reader_begin, gl_Reader_begin, gi_Reader, gc_Reader_begin, gp_Reader_begin⟩
theorem k_Desk_69 : Kn "EntityDesk" 69 y_Ents_has b_Ents_has 2 (some .boolean) 1 := ⟨⟨"EntityDesk", nwT (i := 124) (by decide +kernel) rfl⟩, gm_Ents_has, gl_Ents_has, gi_Ents, gc_Ents_has, gp_Ents_has⟩
theorem k_Desk_72 : Kv "EntityDesk" 72 y_Desk_draftText b_Desk_draftText 3 none 1 := ⟨gwT (i := 128) (by decide +kernel) rfl, gm_Desk_draftText, gl_Desk_draftText, gi_Desk, gc_Desk_draftText, gp_Desk_draftText⟩
theorem k_Desk_112 : Kn "EntityDesk" 112 y_Ents_beginDraft b_Ents_beginDraft 1 none 0 := ⟨⟨"EntityDesk", nwT (i := 132) (by decide +kernel) rfl⟩, gm_Ents_beginDraft, gl_Ents_beginDraft, gi_Ents, gc_Ents_beginDraft, gp_Ents_beginDraft⟩
theorem k_Desk_115 : Kn "EntityDesk" 115 y_Reader_isWithin b_Reader_isWithin 1 (some .boolean) 0 := ⟨⟨"EntityDesk", nwT (i := 136) (by decide +kernel) rfl⟩, gm_Reader_isWithin, gl_Reader_isWithin, gi_Reader, gc_Reader_isWithin, gp_Reader_isWithin⟩
theorem k_Desk_118 : Kv "EntityDesk" 118 y_Desk_draftCharacter b_Desk_draftCharacter 4 none 2 := ⟨gwT (i := 140) (by decide +kernel) rfl, gm_Desk_draftCharacter, gl_Desk_draftCharacter, gi_Desk, gc_Desk_draftCharacter, gp_Desk_draftCharacter⟩
theorem k_Desk_121 : Kv "EntityDesk" 121 y_Desk_readOn b_Desk_readOn 4 (some .int) 2 := ⟨gwT (i := 144) (by decide +kernel) rfl, gm_Desk_readOn, gl_Desk_readOn, gi_Desk, gc_Desk_readOn, gp_Desk_readOn⟩
theorem k_Desk_105 : Kn "EntityDesk" 105 y_Reader_read b_Reader_read 2 (some .int) 1 := ⟨⟨"EntityDesk", nwT (i := 148) (by decide +kernel) rfl⟩, gm_Reader_read, gl_Reader_read, gi_Reader, gc_Reader_read, gp_Reader_read⟩
theorem k_Desk_108 : Kv "EntityDesk" 108 y_Desk_fail b_Desk_fail 3 none 2 := ⟨gwT (i := 181) (by decide +kernel) rfl, gm_Desk_fail, gl_Desk_fail, gi_Desk, gc_Desk_fail, gp_Desk_fail⟩
theorem k_Desk_124 : Kn "EntityDesk" 124 y_Ents_draft b_Ents_draft 2 none 1 := ⟨⟨"EntityDesk", nwT (i := 185) (by decide +kernel) rfl⟩, gm_Ents_draft, gl_Ents_draft, gi_Ents, gc_Ents_draft, gp_Ents_draft⟩
theorem k_Desk_76 : Kn "EntityDesk" 76 y_Ents_draftFits b_Ents_draftFits 1 (some .boolean) 0 := ⟨⟨"EntityDesk", nwT (i := 189) (by decide +kernel) rfl⟩, gm_Ents_draftFits, gl_Ents_draftFits, gi_Ents, gc_Ents_draftFits, gp_Ents_draftFits⟩
theorem k_Desk_80 : Kn "EntityDesk" 80 y_Ents_keepDraft b_Ents_keepDraft 2 none 1 := ⟨⟨"EntityDesk", nwT (i := 193) (by decide +kernel) rfl⟩, gm_Ents_keepDraft, gl_Ents_keepDraft, gi_Ents, gc_Ents_keepDraft, gp_Ents_keepDraft⟩
theorem k_Desk_83 : Kn "EntityDesk" 83 y_Ents_lengthOf b_Ents_lengthOf 2 (some .int) 1 := ⟨⟨"EntityDesk", nwT (i := 197) (by decide +kernel) rfl⟩, gm_Ents_lengthOf, gl_Ents_lengthOf, gi_Ents, gc_Ents_lengthOf, gp_Ents_lengthOf⟩
theorem c_Desk_87 : Cond.constant "EntityDesk" 87 (nI 100000) ∈ gw := gwT (i := 205) (by decide +kernel) rfl
theorem k_Desk_88 : Kv "EntityDesk" 88 y_Desk_goOver b_Desk_goOver 6 none 4 := ⟨gwT (i := 206) (by decide +kernel) rfl, gm_Desk_goOver, gl_Desk_goOver, gi_Desk, gc_Desk_goOver, gp_Desk_goOver⟩
theorem k_Desk_133 : Kv "EntityDesk" 133 y_Desk_goOverCharacter b_Desk_goOverCharacter 5 none 3 := ⟨gwT (i := 210) (by decide +kernel) rfl, gm_Desk_goOverCharacter, gl_Desk_goOverCharacter, gi_Desk, gc_Desk_goOverCharacter, gp_Desk_goOverCharacter⟩
theorem k_Desk_137 : Kv "EntityDesk" 137 y_Desk_give b_Desk_give 2 none 1 := ⟨gwT (i := 214) (by decide +kernel) rfl, gm_Desk_give, gl_Desk_give, gi_Desk, gc_Desk_give, gp_Desk_give⟩
theorem k_Desk_140 : Kv "EntityDesk" 140 y_Desk_goInto b_Desk_goInto 5 none 2 := ⟨gwT (i := 218) (by decide +kernel) rfl, gm_Desk_goInto, gl_Desk_goInto, gi_Desk, gc_Desk_goInto, gp_Desk_goInto⟩
theorem k_Desk_143 : Kv "EntityDesk" 143 y_Desk_faultOfEntity b_Desk_faultOfEntity 3 (some .int) 2 := ⟨gwT (i := 222) (by decide +kernel) rfl, gm_Desk_faultOfEntity, gl_Desk_faultOfEntity, gi_Desk, gc_Desk_faultOfEntity, gp_Desk_faultOfEntity⟩
theorem k_Desk_146 : Cond.methodLink "EntityDesk" 146 Lib.Math.max.name ∈ gw ∧ Cond.static Lib.Math.max.name ∈ gw ∧ Cond.initialized "java/lang/Math" ∈ gw ∧ Cond.code Lib.Math.max.name Lib.Math.max.code 2 (some .int) ∈ gw := ⟨gwT (i := 226) (by decide +kernel) rfl, gwT (i := 227) (by decide +kernel) rfl, gi_Math, gwT (i := 228) (by decide +kernel) rfl⟩
theorem k_Desk_151 : Kn "EntityDesk" 151 y_Ents_startOf b_Ents_startOf 2 (some .int) 1 := ⟨⟨"EntityDesk", nwT (i := 229) (by decide +kernel) rfl⟩, gm_Ents_startOf, gl_Ents_startOf, gi_Ents, gc_Ents_startOf, gp_Ents_startOf⟩
theorem k_Desk_92 : Kn "EntityDesk" 92 y_Ents_characterOf b_Ents_characterOf 3 (some .int) 2 := ⟨⟨"EntityDesk", nwT (i := 245) (by decide +kernel) rfl⟩, gm_Ents_characterOf, gl_Ents_characterOf, gi_Ents, gc_Ents_characterOf, gp_Ents_characterOf⟩
theorem k_Ents_3 : Cond.methodLink "EntityDesk$Entities" 3 objectInit ∈ gw := gwT (i := 19) (by decide +kernel) rfl
theorem f_Ents_9 : fdK "EntityDesk$Entities" 9 1 0 true (.array .int) := ⟨_, _, _, t_Ents, rfl, by decide, u_Ents_in, t_Ents_ok, n_Ents, rfl, rfl, rfl, gwT (i := 20) (by decide +kernel) rfl⟩
theorem f_Ents_15 : fdK "EntityDesk$Entities" 15 1 1 true (.array .int) := ⟨_, _, _, t_Ents, rfl, by decide, u_Ents_in, t_Ents_ok, n_Ents, rfl, rfl, rfl, gwT (i := 22) (by decide +kernel) rfl⟩
theorem f_Ents_18 : fdK "EntityDesk$Entities" 18 1 2 true (.array .int) := ⟨_, _, _, t_Ents, rfl, by decide, u_Ents_in, t_Ents_ok, n_Ents, rfl, rfl, rfl, gwT (i := 23) (by decide +kernel) rfl⟩
theorem f_Ents_21 : fdK "EntityDesk$Entities" 21 1 3 false .int := ⟨_, _, _, t_Ents, rfl, by decide, u_Ents_in, t_Ents_ok, n_Ents, rfl, rfl, rfl, gwT (i := 24) (by decide +kernel) rfl⟩
theorem f_Ents_25 : fdK "EntityDesk$Entities" 25 1 4 false .int := ⟨_, _, _, t_Ents, rfl, by decide, u_Ents_in, t_Ents_ok, n_Ents, rfl, rfl, rfl, gwT (i := 26) (by decide +kernel) rfl⟩
theorem f_Ents_28 : fdK "EntityDesk$Entities" 28 1 5 false .int := ⟨_, _, _, t_Ents, rfl, by decide, u_Ents_in, t_Ents_ok, n_Ents, rfl, rfl, rfl, gwT (i := 28) (by decide +kernel) rfl⟩
theorem k_Reader_3 : Cond.methodLink "EntityDesk$Reader" 3 objectInit ∈ gw := gwT (i := 48) (by decide +kernel) rfl
theorem f_Reader_11 : fdK "EntityDesk$Reader" 11 2 0 false .int := ⟨_, _, _, t_Reader, rfl, by decide, u_Reader_in, t_Reader_ok, n_Reader, rfl, rfl, rfl, gwT (i := 49) (by decide +kernel) rfl⟩
theorem f_Reader_15 : fdK "EntityDesk$Reader" 15 2 1 false .int := ⟨_, _, _, t_Reader, rfl, by decide, u_Reader_in, t_Reader_ok, n_Reader, rfl, rfl, rfl, gwT (i := 50) (by decide +kernel) rfl⟩
theorem f_Reader_18 : fdK "EntityDesk$Reader" 18 2 2 false .int := ⟨_, _, _, t_Reader, rfl, by decide, u_Reader_in, t_Reader_ok, n_Reader, rfl, rfl, rfl, gwT (i := 52) (by decide +kernel) rfl⟩
theorem k_Reader_21 : Kv "EntityDesk$Reader" 21 y_Reader_readBehindAmpersand b_Reader_readBehindAmpersand 2 (some .int) 1 := ⟨gwT (i := 152) (by decide +kernel) rfl, gm_Reader_readBehindAmpersand, gl_Reader_readBehindAmpersand, gi_Reader, gc_Reader_readBehindAmpersand, gp_Reader_readBehindAmpersand⟩
theorem k_Reader_28 : Kv "EntityDesk$Reader" 28 y_Reader_goOn b_Reader_goOn 2 (some .int) 1 := ⟨gwT (i := 156) (by decide +kernel) rfl, gm_Reader_goOn, gl_Reader_goOn, gi_Reader, gc_Reader_goOn, gp_Reader_goOn⟩
theorem k_Reader_25 : Kv "EntityDesk$Reader" 25 y_Reader_finish b_Reader_finish 2 (some .int) 1 := ⟨gwT (i := 160) (by decide +kernel) rfl, gm_Reader_finish, gl_Reader_finish, gi_Reader, gc_Reader_finish, gp_Reader_finish⟩
theorem k_Reader_31 : Kv "EntityDesk$Reader" 31 y_Reader_readDigit b_Reader_readDigit 5 (some .int) 3 := ⟨gwT (i := 164) (by decide +kernel) rfl, gm_Reader_readDigit, gl_Reader_readDigit, gi_Reader, gc_Reader_readDigit, gp_Reader_readDigit⟩
theorem k_Reader_39 : Ks "EntityDesk$Reader" 39 y_Reader_valueOf b_Reader_valueOf 1 (some .int) 1 := ⟨gwT (i := 168) (by decide +kernel) rfl, gs_Reader_valueOf, gi_Reader, gc_Reader_valueOf, gp_Reader_valueOf⟩
theorem k_Reader_42 : Cond.methodLink "EntityDesk$Reader" 42 Lib.Math.min.name ∈ gw ∧ Cond.static Lib.Math.min.name ∈ gw ∧ Cond.initialized "java/lang/Math" ∈ gw ∧ Cond.code Lib.Math.min.name Lib.Math.min.code 2 (some .int) ∈ gw := ⟨gwT (i := 171) (by decide +kernel) rfl, gwT (i := 172) (by decide +kernel) rfl, gi_Math, gwT (i := 173) (by decide +kernel) rfl⟩
theorem k_Reader_35 : Kv "EntityDesk$Reader" 35 y_Reader_finishNumber b_Reader_finishNumber 1 (some .int) 0 := ⟨gwT (i := 174) (by decide +kernel) rfl, gm_Reader_finishNumber, gl_Reader_finishNumber, gi_Reader, gc_Reader_finishNumber, gp_Reader_finishNumber⟩
theorem k_Reader_48 : Ks "EntityDesk$Reader" 48 y_Reader_mayBe b_Reader_mayBe 1 (some .boolean) 1 := ⟨gwT (i := 178) (by decide +kernel) rfl, gs_Reader_mayBe, gi_Reader, gc_Reader_mayBe, gp_Reader_mayBe⟩
theorem k_Model_1 : Cond.methodLink "EntityDeskModel" 1 objectInit ∈ gw := gwT (i := 258) (by decide +kernel) rfl
theorem f_Model_7 : fdK "EntityDeskModel" 7 3 0 true (.array .int) := ⟨_, _, _, t_Model, rfl, by decide, u_Model_in, t_Model_ok, n_Model, rfl, rfl, rfl, gwT (i := 259) (by decide +kernel) rfl⟩
theorem f_Model_39 : fdK "EntityDeskModel" 39 3 1 false .int := ⟨_, _, _, t_Model, rfl, by decide, u_Model_in, t_Model_ok, n_Model, rfl, rfl, rfl, gwT (i := 260) (by decide +kernel) rfl⟩
theorem f_Model_13 : fdK "EntityDeskModel" 13 3 2 true (.array .int) := ⟨_, _, _, t_Model, rfl, by decide, u_Model_in, t_Model_ok, n_Model, rfl, rfl, rfl, gwT (i := 261) (by decide +kernel) rfl⟩
theorem f_Model_98 : fdK "EntityDeskModel" 98 3 3 false .int := ⟨_, _, _, t_Model, rfl, by decide, u_Model_in, t_Model_ok, n_Model, rfl, rfl, rfl, gwT (i := 262) (by decide +kernel) rfl⟩
theorem f_Model_16 : fdK "EntityDeskModel" 16 3 4 true (.array .int) := ⟨_, _, _, t_Model, rfl, by decide, u_Model_in, t_Model_ok, n_Model, rfl, rfl, rfl, gwT (i := 263) (by decide +kernel) rfl⟩
theorem f_Model_19 : fdK "EntityDeskModel" 19 3 5 true (.array .int) := ⟨_, _, _, t_Model, rfl, by decide, u_Model_in, t_Model_ok, n_Model, rfl, rfl, rfl, gwT (i := 264) (by decide +kernel) rfl⟩
theorem f_Model_22 : fdK "EntityDeskModel" 22 3 6 true (.array .boolean) := ⟨_, _, _, t_Model, rfl, by decide, u_Model_in, t_Model_ok, n_Model, rfl, rfl, rfl, gwT (i := 265) (by decide +kernel) rfl⟩
theorem f_Model_105 : fdK "EntityDeskModel" 105 3 7 false .int := ⟨_, _, _, t_Model, rfl, by decide, u_Model_in, t_Model_ok, n_Model, rfl, rfl, rfl, gwT (i := 266) (by decide +kernel) rfl⟩
theorem f_Model_26 : fdK "EntityDeskModel" 26 3 8 true (.array .int) := ⟨_, _, _, t_Model, rfl, by decide, u_Model_in, t_Model_ok, n_Model, rfl, rfl, rfl, gwT (i := 267) (by decide +kernel) rfl⟩
theorem f_Model_53 : fdK "EntityDeskModel" 53 3 9 false .int := ⟨_, _, _, t_Model, rfl, by decide, u_Model_in, t_Model_ok, n_Model, rfl, rfl, rfl, gwT (i := 268) (by decide +kernel) rfl⟩
theorem f_Model_29 : fdK "EntityDeskModel" 29 3 10 true (.array .boolean) := ⟨_, _, _, t_Model, rfl, by decide, u_Model_in, t_Model_ok, n_Model, rfl, rfl, rfl, gwT (i := 269) (by decide +kernel) rfl⟩
theorem f_Model_47 : fdK "EntityDeskModel" 47 3 11 false .int := ⟨_, _, _, t_Model, rfl, by decide, u_Model_in, t_Model_ok, n_Model, rfl, rfl, rfl, gwT (i := 270) (by decide +kernel) rfl⟩
theorem f_Model_56 : fdK "EntityDeskModel" 56 3 12 false .int := ⟨_, _, _, t_Model, rfl, by decide, u_Model_in, t_Model_ok, n_Model, rfl, rfl, rfl, gwT (i := 271) (by decide +kernel) rfl⟩
theorem f_Model_50 : fdK "EntityDeskModel" 50 3 13 false .int := ⟨_, _, _, t_Model, rfl, by decide, u_Model_in, t_Model_ok, n_Model, rfl, rfl, rfl, gwT (i := 272) (by decide +kernel) rfl⟩
theorem f_Model_32 : fdK "EntityDeskModel" 32 3 14 true (.array .int) := ⟨_, _, _, t_Model, rfl, by decide, u_Model_in, t_Model_ok, n_Model, rfl, rfl, rfl, gwT (i := 273) (by decide +kernel) rfl⟩
theorem f_Model_117 : fdK "EntityDeskModel" 117 3 15 false .int := ⟨_, _, _, t_Model, rfl, by decide, u_Model_in, t_Model_ok, n_Model, rfl, rfl, rfl, gwT (i := 274) (by decide +kernel) rfl⟩
theorem f_Model_130 : fdK "EntityDeskModel" 130 3 16 false .boolean := ⟨_, _, _, t_Model, rfl, by decide, u_Model_in, t_Model_ok, n_Model, rfl, rfl, rfl, gwT (i := 275) (by decide +kernel) rfl⟩
theorem f_Model_108 : fdK "EntityDeskModel" 108 3 17 false .int := ⟨_, _, _, t_Model, rfl, by decide, u_Model_in, t_Model_ok, n_Model, rfl, rfl, rfl, gwT (i := 276) (by decide +kernel) rfl⟩
theorem f_Model_111 : fdK "EntityDeskModel" 111 3 18 false .int := ⟨_, _, _, t_Model, rfl, by decide, u_Model_in, t_Model_ok, n_Model, rfl, rfl, rfl, gwT (i := 277) (by decide +kernel) rfl⟩
theorem f_Model_114 : fdK "EntityDeskModel" 114 3 19 false .int := ⟨_, _, _, t_Model, rfl, by decide, u_Model_in, t_Model_ok, n_Model, rfl, rfl, rfl, gwT (i := 278) (by decide +kernel) rfl⟩
theorem f_Model_44 : fdK "EntityDeskModel" 44 3 20 false .int := ⟨_, _, _, t_Model, rfl, by decide, u_Model_in, t_Model_ok, n_Model, rfl, rfl, rfl, gwT (i := 279) (by decide +kernel) rfl⟩
theorem f_Model_35 : fdK "EntityDeskModel" 35 3 21 false .int := ⟨_, _, _, t_Model, rfl, by decide, u_Model_in, t_Model_ok, n_Model, rfl, rfl, rfl, gwT (i := 280) (by decide +kernel) rfl⟩
theorem f_Model_67 : fdK "EntityDeskModel" 67 3 22 false .int := ⟨_, _, _, t_Model, rfl, by decide, u_Model_in, t_Model_ok, n_Model, rfl, rfl, rfl, gwT (i := 281) (by decide +kernel) rfl⟩
theorem f_Model_70 : fdK "EntityDeskModel" 70 3 23 false .long := ⟨_, _, _, t_Model, rfl, by decide, u_Model_in, t_Model_ok, n_Model, rfl, rfl, rfl, gwT (i := 282) (by decide +kernel) rfl⟩
theorem c_Model_42 : Cond.constantLong "EntityDeskModel" 42 (lN 255) ∈ gw := gwT (i := 336) (by decide +kernel) rfl
theorem k_Model_95 : Kv "EntityDeskModel" 95 y_Model_begin b_Model_begin 2 none 0 := ⟨gwT (i := 341) (by decide +kernel) rfl, gm_Model_begin, gl_Model_begin, gi_Model, gc_Model_begin, gp_Model_begin⟩
theorem k_Model_59 : Kv "EntityDeskModel" 59 y_Model_peek b_Model_peek 1 (some .int) 0 := ⟨gwT (i := 345) (by decide +kernel) rfl, gm_Model_peek, gl_Model_peek, gi_Model, gc_Model_peek, gp_Model_peek⟩
theorem k_Model_74 : Kv "EntityDeskModel" 74 y_Model_pass b_Model_pass 1 none 0 := ⟨gwT (i := 349) (by decide +kernel) rfl, gm_Model_pass, gl_Model_pass, gi_Model, gc_Model_pass, gp_Model_pass⟩
theorem k_Model_101 : Kv "EntityDeskModel" 101 y_Model_reference b_Model_reference 4 (some .int) 1 := ⟨gwT (i := 353) (by decide +kernel) rfl, gm_Model_reference, gl_Model_reference, gi_Model, gc_Model_reference, gp_Model_reference⟩
theorem k_Model_77 : Ks "EntityDeskModel" 77 y_Model_digit b_Model_digit 2 (some .int) 2 := ⟨gwT (i := 357) (by decide +kernel) rfl, gs_Model_digit, gi_Model, gc_Model_digit, gp_Model_digit⟩
theorem k_Model_80 : Kv "EntityDeskModel" 80 y_Model_broken b_Model_broken 1 (some .int) 0 := ⟨gwT (i := 360) (by decide +kernel) rfl, gm_Model_broken, gl_Model_broken, gi_Model, gc_Model_broken, gp_Model_broken⟩
theorem k_Model_63 : Kv "EntityDeskModel" 63 y_Model_fail b_Model_fail 3 (some .int) 2 := ⟨gwT (i := 364) (by decide +kernel) rfl, gm_Model_fail, gl_Model_fail, gi_Model, gc_Model_fail, gp_Model_fail⟩
theorem c_Model_83 : Cond.constantLong "EntityDeskModel" 83 (lN 1000000) ∈ gw := gwT (i := 368) (by decide +kernel) rfl
theorem c_Model_85 : Cond.constantLong "EntityDeskModel" 85 (lN 9) ∈ gw := gwT (i := 369) (by decide +kernel) rfl
theorem c_Model_87 : Cond.constantLong "EntityDeskModel" 87 (lN 10) ∈ gw := gwT (i := 370) (by decide +kernel) rfl
theorem c_Model_89 : Cond.constantLong "EntityDeskModel" 89 (lN 13) ∈ gw := gwT (i := 371) (by decide +kernel) rfl
theorem c_Model_91 : Cond.constantLong "EntityDeskModel" 91 (lN 32) ∈ gw := gwT (i := 372) (by decide +kernel) rfl
theorem c_Model_93 : Cond.constantLong "EntityDeskModel" 93 (lN 256) ∈ gw := gwT (i := 373) (by decide +kernel) rfl
theorem c_Model_126 : Cond.constant "EntityDeskModel" 126 (nI 100000) ∈ gw := gwT (i := 378) (by decide +kernel) rfl
theorem k_Model_127 : Kv "EntityDeskModel" 127 y_Model_step b_Model_step 4 (some .int) 1 := ⟨gwT (i := 379) (by decide +kernel) rfl, gm_Model_step, gl_Model_step, gi_Model, gc_Model_step, gp_Model_step⟩
theorem k_Model_120 : Kv "EntityDeskModel" 120 y_Model_give b_Model_give 3 (some .int) 2 := ⟨gwT (i := 383) (by decide +kernel) rfl, gm_Model_give, gl_Model_give, gi_Model, gc_Model_give, gp_Model_give⟩
theorem k_Model_123 : Kv "EntityDeskModel" 123 y_Model_enter b_Model_enter 5 (some .int) 2 := ⟨gwT (i := 387) (by decide +kernel) rfl, gm_Model_enter, gl_Model_enter, gi_Model, gc_Model_enter, gp_Model_enter⟩
theorem k_Law_7 : Cond.classLink "EntityDeskLaw" 7 "EntityDesk" ∈ gw ∧ Cond.instantiable "EntityDesk" 14 ∈ gw := ⟨gwT (i := 6) (by decide +kernel) rfl, gwT (i := 7) (by decide +kernel) rfl⟩
theorem k_Law_9 : Ki "EntityDeskLaw" 9 y_Desk_init b_Desk_init 1 0 := ⟨gwT (i := 8) (by decide +kernel) rfl, gm_Desk_init, gi_Desk, gc_Desk_init, gp_Desk_init, rfl⟩
theorem k_Law_15 : Kv "EntityDeskLaw" 15 y_Desk_put b_Desk_put 5 (some .boolean) 2 := ⟨gwT (i := 105) (by decide +kernel) rfl, gm_Desk_put, gl_Desk_put, gi_Desk, gc_Desk_put, gp_Desk_put⟩
theorem k_Law_20 : Kv "EntityDeskLaw" 20 y_Desk_declare b_Desk_declare 3 (some .int) 1 := ⟨gwT (i := 109) (by decide +kernel) rfl, gm_Desk_declare, gl_Desk_declare, gi_Desk, gc_Desk_declare, gp_Desk_declare⟩
theorem k_Law_25 : Kv "EntityDeskLaw" 25 y_Desk_expand b_Desk_expand 3 (some .int) 1 := ⟨gwT (i := 201) (by decide +kernel) rfl, gm_Desk_expand, gl_Desk_expand, gi_Desk, gc_Desk_expand, gp_Desk_expand⟩
theorem k_Law_29 : Kv "EntityDeskLaw" 29 y_Desk_place b_Desk_place 1 (some .int) 0 := ⟨gwT (i := 233) (by decide +kernel) rfl, gm_Desk_place, gl_Desk_place, gi_Desk, gc_Desk_place, gp_Desk_place⟩
theorem k_Law_34 : Kv "EntityDeskLaw" 34 y_Desk_given b_Desk_given 2 (some .int) 1 := ⟨gwT (i := 237) (by decide +kernel) rfl, gm_Desk_given, gl_Desk_given, gi_Desk, gc_Desk_given, gp_Desk_given⟩
theorem k_Law_38 : Kv "EntityDeskLaw" 38 y_Desk_text b_Desk_text 3 (some .int) 2 := ⟨gwT (i := 241) (by decide +kernel) rfl, gm_Desk_text, gl_Desk_text, gi_Desk, gc_Desk_text, gp_Desk_text⟩
theorem k_Law_43 : Kv "EntityDeskLaw" 43 y_Desk_count b_Desk_count 2 (some .int) 1 := ⟨gwT (i := 249) (by decide +kernel) rfl, gm_Desk_count, gl_Desk_count, gi_Desk, gc_Desk_count, gp_Desk_count⟩
theorem k_Law_10 : Cond.classLink "EntityDeskLaw" 10 "EntityDeskModel" ∈ gw ∧ Cond.instantiable "EntityDeskModel" 24 ∈ gw := ⟨gwT (i := 253) (by decide +kernel) rfl, gwT (i := 254) (by decide +kernel) rfl⟩
theorem k_Law_12 : Ki "EntityDeskLaw" 12 y_Model_init b_Model_init 1 0 := ⟨gwT (i := 255) (by decide +kernel) rfl, gm_Model_init, gi_Model, gc_Model_init, gp_Model_init, rfl⟩
theorem k_Law_19 : Kv "EntityDeskLaw" 19 y_Model_put b_Model_put 5 (some .boolean) 2 := ⟨gwT (i := 332) (by decide +kernel) rfl, gm_Model_put, gl_Model_put, gi_Model, gc_Model_put, gp_Model_put⟩
theorem k_Law_24 : Kv "EntityDeskLaw" 24 y_Model_declare b_Model_declare 9 (some .int) 1 := ⟨gwT (i := 337) (by decide +kernel) rfl, gm_Model_declare, gl_Model_declare, gi_Model, gc_Model_declare, gp_Model_declare⟩
theorem k_Law_28 : Kv "EntityDeskLaw" 28 y_Model_expand b_Model_expand 3 (some .int) 1 := ⟨gwT (i := 374) (by decide +kernel) rfl, gm_Model_expand, gl_Model_expand, gi_Model, gc_Model_expand, gp_Model_expand⟩
theorem k_Law_33 : Kv "EntityDeskLaw" 33 y_Model_place b_Model_place 1 (some .int) 0 := ⟨gwT (i := 391) (by decide +kernel) rfl, gm_Model_place, gl_Model_place, gi_Model, gc_Model_place, gp_Model_place⟩
theorem k_Law_37 : Kv "EntityDeskLaw" 37 y_Model_given b_Model_given 2 (some .int) 1 := ⟨gwT (i := 395) (by decide +kernel) rfl, gm_Model_given, gl_Model_given, gi_Model, gc_Model_given, gp_Model_given⟩
theorem k_Law_42 : Kv "EntityDeskLaw" 42 y_Model_text b_Model_text 3 (some .int) 2 := ⟨gwT (i := 399) (by decide +kernel) rfl, gm_Model_text, gl_Model_text, gi_Model, gc_Model_text, gp_Model_text⟩
theorem k_Law_46 : Kv "EntityDeskLaw" 46 y_Model_count b_Model_count 2 (some .int) 1 := ⟨gwT (i := 403) (by decide +kernel) rfl, gm_Model_count, gl_Model_count, gi_Model, gc_Model_count, gp_Model_count⟩
theorem c_Law_13 : Cond.constantLong "EntityDeskLaw" 13 (lN 4294967295) ∈ gw := gwT (i := 407) (by decide +kernel) rfl
theorem g_obj : Cond.instanceMethod objectInit ∈ gw ∧ Cond.code objectInit ⟨#[0xb1]⟩ 1 none ∈ gw := ⟨gwT (i := 12) (by decide +kernel) rfl, gwT (i := 13) (by decide +kernel) rfl⟩
end
section
theorem d_Desk_init_0 : decode b_Desk_init 0 = .ok (.aload_n 0, 1) := by decide +kernel
theorem d_Desk_init_1 : decode b_Desk_init 1 = .ok (.invokespecial 1, 3) := by decide +kernel
theorem d_Desk_init_4 : decode b_Desk_init 4 = .ok (.aload_n 0, 1) := by decide +kernel
theorem d_Desk_init_5 : decode b_Desk_init 5 = .ok (.sipush 400, 3) := by decide +kernel
theorem d_Desk_init_8 : decode b_Desk_init 8 = .ok (.newarray .int, 2) := by decide +kernel
theorem d_Desk_init_10 : decode b_Desk_init 10 = .ok (.putfield 9, 3) := by decide +kernel
theorem d_Desk_init_13 : decode b_Desk_init 13 = .ok (.aload_n 0, 1) := by decide +kernel
theorem d_Desk_init_14 : decode b_Desk_init 14 = .ok (.iconst 0, 1) := by decide +kernel
theorem d_Desk_init_15 : decode b_Desk_init 15 = .ok (.putfield 13, 3) := by decide +kernel
theorem d_Desk_init_18 : decode b_Desk_init 18 = .ok (.aload_n 0, 1) := by decide +kernel
theorem d_Desk_init_19 : decode b_Desk_init 19 = .ok (.new 17, 3) := by decide +kernel
theorem d_Desk_init_22 : decode b_Desk_init 22 = .ok (.dup, 1) := by decide +kernel
theorem d_Desk_init_23 : decode b_Desk_init 23 = .ok (.invokespecial 19, 3) := by decide +kernel
theorem d_Desk_init_26 : decode b_Desk_init 26 = .ok (.putfield 20, 3) := by decide +kernel
theorem d_Desk_init_29 : decode b_Desk_init 29 = .ok (.aload_n 0, 1) := by decide +kernel
theorem d_Desk_init_30 : decode b_Desk_init 30 = .ok (.new 24, 3) := by decide +kernel
theorem d_Desk_init_33 : decode b_Desk_init 33 = .ok (.dup, 1) := by decide +kernel
theorem d_Desk_init_34 : decode b_Desk_init 34 = .ok (.invokespecial 26, 3) := by decide +kernel
theorem d_Desk_init_37 : decode b_Desk_init 37 = .ok (.putfield 27, 3) := by decide +kernel
theorem d_Desk_init_40 : decode b_Desk_init 40 = .ok (.aload_n 0, 1) := by decide +kernel
theorem d_Desk_init_41 : decode b_Desk_init 41 = .ok (.iconst 0, 1) := by decide +kernel
theorem d_Desk_init_42 : decode b_Desk_init 42 = .ok (.putfield 31, 3) := by decide +kernel
theorem d_Desk_init_45 : decode b_Desk_init 45 = .ok (.aload_n 0, 1) := by decide +kernel
theorem d_Desk_init_46 : decode b_Desk_init 46 = .ok (.iconst (-1), 1) := by decide +kernel
theorem d_Desk_init_47 : decode b_Desk_init 47 = .ok (.putfield 34, 3) := by decide +kernel
theorem d_Desk_init_50 : decode b_Desk_init 50 = .ok (.aload_n 0, 1) := by decide +kernel
theorem d_Desk_init_51 : decode b_Desk_init 51 = .ok (.iconst 0, 1) := by decide +kernel
theorem d_Desk_init_52 : decode b_Desk_init 52 = .ok (.putfield 37, 3) := by decide +kernel
theorem d_Desk_init_55 : decode b_Desk_init 55 = .ok (.aload_n 0, 1) := by decide +kernel
theorem d_Desk_init_56 : decode b_Desk_init 56 = .ok (.sipush 3000, 3) := by decide +kernel
theorem d_Desk_init_59 : decode b_Desk_init 59 = .ok (.newarray .int, 2) := by decide +kernel
theorem d_Desk_init_61 : decode b_Desk_init 61 = .ok (.putfield 40, 3) := by decide +kernel
theorem d_Desk_init_64 : decode b_Desk_init 64 = .ok (.aload_n 0, 1) := by decide +kernel
theorem d_Desk_init_65 : decode b_Desk_init 65 = .ok (.iconst 0, 1) := by decide +kernel
theorem d_Desk_init_66 : decode b_Desk_init 66 = .ok (.putfield 43, 3) := by decide +kernel
theorem d_Desk_init_69 : decode b_Desk_init 69 = .ok (.aload_n 0, 1) := by decide +kernel
theorem d_Desk_init_70 : decode b_Desk_init 70 = .ok (.bipush 26, 2) := by decide +kernel
theorem d_Desk_init_72 : decode b_Desk_init 72 = .ok (.newarray .boolean, 2) := by decide +kernel
theorem d_Desk_init_74 : decode b_Desk_init 74 = .ok (.putfield 46, 3) := by decide +kernel
theorem d_Desk_init_77 : decode b_Desk_init 77 = .ok (.aload_n 0, 1) := by decide +kernel
theorem d_Desk_init_78 : decode b_Desk_init 78 = .ok (.iconst 0, 1) := by decide +kernel
theorem d_Desk_init_79 : decode b_Desk_init 79 = .ok (.putfield 50, 3) := by decide +kernel
theorem d_Desk_init_82 : decode b_Desk_init 82 = .ok (.aload_n 0, 1) := by decide +kernel
theorem d_Desk_init_83 : decode b_Desk_init 83 = .ok (.iconst 0, 1) := by decide +kernel
theorem d_Desk_init_84 : decode b_Desk_init 84 = .ok (.putfield 53, 3) := by decide +kernel
theorem d_Desk_init_87 : decode b_Desk_init 87 = .ok (.aload_n 0, 1) := by decide +kernel
theorem d_Desk_init_88 : decode b_Desk_init 88 = .ok (.iconst 0, 1) := by decide +kernel
theorem d_Desk_init_89 : decode b_Desk_init 89 = .ok (.putfield 56, 3) := by decide +kernel
theorem d_Desk_init_92 : decode b_Desk_init 92 = .ok (.aload_n 0, 1) := by decide +kernel
theorem d_Desk_init_93 : decode b_Desk_init 93 = .ok (.iconst 0, 1) := by decide +kernel
theorem d_Desk_init_94 : decode b_Desk_init 94 = .ok (.putfield 59, 3) := by decide +kernel
theorem d_Desk_init_97 : decode b_Desk_init 97 = .ok (.return_, 1) := by decide +kernel
theorem d_Desk_put_0 : decode b_Desk_put 0 = .ok (.iload_n 3, 1) := by decide +kernel
theorem d_Desk_put_1 : decode b_Desk_put 1 = .ok (.iconst 1, 1) := by decide +kernel
theorem d_Desk_put_2 : decode b_Desk_put 2 = .ok (.if_icmp .lt 21, 3) := by decide +kernel
theorem d_Desk_put_5 : decode b_Desk_put 5 = .ok (.iload_n 3, 1) := by decide +kernel
theorem d_Desk_put_6 : decode b_Desk_put 6 = .ok (.bipush 8, 2) := by decide +kernel
theorem d_Desk_put_8 : decode b_Desk_put 8 = .ok (.if_icmp .gt 15, 3) := by decide +kernel
theorem d_Desk_put_11 : decode b_Desk_put 11 = .ok (.aload_n 0, 1) := by decide +kernel
theorem d_Desk_put_12 : decode b_Desk_put 12 = .ok (.getfield 13, 3) := by decide +kernel
theorem d_Desk_put_15 : decode b_Desk_put 15 = .ok (.iload_n 3, 1) := by decide +kernel
theorem d_Desk_put_16 : decode b_Desk_put 16 = .ok (.iadd, 1) := by decide +kernel
theorem d_Desk_put_17 : decode b_Desk_put 17 = .ok (.sipush 400, 3) := by decide +kernel
theorem d_Desk_put_20 : decode b_Desk_put 20 = .ok (.if_icmp .le 5, 3) := by decide +kernel
theorem d_Desk_put_23 : decode b_Desk_put 23 = .ok (.iconst 0, 1) := by decide +kernel
theorem d_Desk_put_24 : decode b_Desk_put 24 = .ok (.ireturn, 1) := by decide +kernel
theorem d_Desk_put_25 : decode b_Desk_put 25 = .ok (.iload_n 3, 1) := by decide +kernel
theorem d_Desk_put_26 : decode b_Desk_put 26 = .ok (.iconst 1, 1) := by decide +kernel
theorem d_Desk_put_27 : decode b_Desk_put 27 = .ok (.isub, 1) := by decide +kernel
theorem d_Desk_put_28 : decode b_Desk_put 28 = .ok (.istore 4, 2) := by decide +kernel
theorem d_Desk_put_30 : decode b_Desk_put 30 = .ok (.iload 4, 2) := by decide +kernel
theorem d_Desk_put_32 : decode b_Desk_put 32 = .ok (.ifCond .lt 40, 3) := by decide +kernel
theorem d_Desk_put_35 : decode b_Desk_put 35 = .ok (.aload_n 0, 1) := by decide +kernel
theorem d_Desk_put_36 : decode b_Desk_put 36 = .ok (.getfield 9, 3) := by decide +kernel
theorem d_Desk_put_39 : decode b_Desk_put 39 = .ok (.aload_n 0, 1) := by decide +kernel
theorem d_Desk_put_40 : decode b_Desk_put 40 = .ok (.getfield 13, 3) := by decide +kernel
theorem d_Desk_put_43 : decode b_Desk_put 43 = .ok (.lload_n 1, 1) := by decide +kernel
theorem d_Desk_put_44 : decode b_Desk_put 44 = .ok (.bipush 8, 2) := by decide +kernel
theorem d_Desk_put_46 : decode b_Desk_put 46 = .ok (.iload 4, 2) := by decide +kernel
theorem d_Desk_put_48 : decode b_Desk_put 48 = .ok (.imul, 1) := by decide +kernel
theorem d_Desk_put_49 : decode b_Desk_put 49 = .ok (.lushr, 1) := by decide +kernel
theorem d_Desk_put_50 : decode b_Desk_put 50 = .ok (.l2i, 1) := by decide +kernel
theorem d_Desk_put_51 : decode b_Desk_put 51 = .ok (.sipush 255, 3) := by decide +kernel
theorem d_Desk_put_54 : decode b_Desk_put 54 = .ok (.iand, 1) := by decide +kernel
theorem d_Desk_put_55 : decode b_Desk_put 55 = .ok (.iastore, 1) := by decide +kernel
theorem d_Desk_put_56 : decode b_Desk_put 56 = .ok (.aload_n 0, 1) := by decide +kernel
theorem d_Desk_put_57 : decode b_Desk_put 57 = .ok (.dup, 1) := by decide +kernel
theorem d_Desk_put_58 : decode b_Desk_put 58 = .ok (.getfield 13, 3) := by decide +kernel
theorem d_Desk_put_61 : decode b_Desk_put 61 = .ok (.iconst 1, 1) := by decide +kernel
theorem d_Desk_put_62 : decode b_Desk_put 62 = .ok (.iadd, 1) := by decide +kernel
theorem d_Desk_put_63 : decode b_Desk_put 63 = .ok (.putfield 13, 3) := by decide +kernel
theorem d_Desk_put_66 : decode b_Desk_put 66 = .ok (.iinc 4 (-1), 3) := by decide +kernel
theorem d_Desk_put_69 : decode b_Desk_put 69 = .ok (.goto (-39), 3) := by decide +kernel
theorem d_Desk_put_72 : decode b_Desk_put 72 = .ok (.iconst 1, 1) := by decide +kernel
theorem d_Desk_put_73 : decode b_Desk_put 73 = .ok (.ireturn, 1) := by decide +kernel
theorem d_Desk_declare_0 : decode b_Desk_declare 0 = .ok (.iload_n 1, 1) := by decide +kernel
theorem d_Desk_declare_1 : decode b_Desk_declare 1 = .ok (.invokestatic 62, 3) := by decide +kernel
theorem d_Desk_declare_4 : decode b_Desk_declare 4 = .ok (.ifCond .ne 6, 3) := by decide +kernel
theorem d_Desk_declare_7 : decode b_Desk_declare 7 = .ok (.bipush (-102), 2) := by decide +kernel
theorem d_Desk_declare_9 : decode b_Desk_declare 9 = .ok (.ireturn, 1) := by decide +kernel
theorem d_Desk_declare_10 : decode b_Desk_declare 10 = .ok (.aload_n 0, 1) := by decide +kernel
theorem d_Desk_declare_11 : decode b_Desk_declare 11 = .ok (.getfield 13, 3) := by decide +kernel
theorem d_Desk_declare_14 : decode b_Desk_declare 14 = .ok (.istore_n 2, 1) := by decide +kernel
theorem d_Desk_declare_15 : decode b_Desk_declare 15 = .ok (.aload_n 0, 1) := by decide +kernel
theorem d_Desk_declare_16 : decode b_Desk_declare 16 = .ok (.iconst 0, 1) := by decide +kernel
theorem d_Desk_declare_17 : decode b_Desk_declare 17 = .ok (.putfield 13, 3) := by decide +kernel
theorem d_Desk_declare_20 : decode b_Desk_declare 20 = .ok (.aload_n 0, 1) := by decide +kernel
theorem d_Desk_declare_21 : decode b_Desk_declare 21 = .ok (.invokevirtual 66, 3) := by decide +kernel
theorem d_Desk_declare_24 : decode b_Desk_declare 24 = .ok (.aload_n 0, 1) := by decide +kernel
theorem d_Desk_declare_25 : decode b_Desk_declare 25 = .ok (.getfield 20, 3) := by decide +kernel
theorem d_Desk_declare_28 : decode b_Desk_declare 28 = .ok (.iload_n 1, 1) := by decide +kernel
theorem d_Desk_declare_29 : decode b_Desk_declare 29 = .ok (.invokevirtual 69, 3) := by decide +kernel
theorem d_Desk_declare_32 : decode b_Desk_declare 32 = .ok (.ifCond .eq 6, 3) := by decide +kernel
theorem d_Desk_declare_35 : decode b_Desk_declare 35 = .ok (.bipush (-100), 2) := by decide +kernel
theorem d_Desk_declare_37 : decode b_Desk_declare 37 = .ok (.ireturn, 1) := by decide +kernel
theorem d_Desk_declare_38 : decode b_Desk_declare 38 = .ok (.aload_n 0, 1) := by decide +kernel
theorem d_Desk_declare_39 : decode b_Desk_declare 39 = .ok (.iload_n 2, 1) := by decide +kernel
theorem d_Desk_declare_40 : decode b_Desk_declare 40 = .ok (.invokevirtual 72, 3) := by decide +kernel
theorem d_Desk_declare_43 : decode b_Desk_declare 43 = .ok (.aload_n 0, 1) := by decide +kernel
theorem d_Desk_declare_44 : decode b_Desk_declare 44 = .ok (.getfield 31, 3) := by decide +kernel
theorem d_Desk_declare_47 : decode b_Desk_declare 47 = .ok (.ifCond .eq 10, 3) := by decide +kernel
theorem d_Desk_declare_50 : decode b_Desk_declare 50 = .ok (.iconst (-1), 1) := by decide +kernel
theorem d_Desk_declare_51 : decode b_Desk_declare 51 = .ok (.aload_n 0, 1) := by decide +kernel
theorem d_Desk_declare_52 : decode b_Desk_declare 52 = .ok (.getfield 31, 3) := by decide +kernel
theorem d_Desk_declare_55 : decode b_Desk_declare 55 = .ok (.isub, 1) := by decide +kernel
theorem d_Desk_declare_56 : decode b_Desk_declare 56 = .ok (.ireturn, 1) := by decide +kernel
theorem d_Desk_declare_57 : decode b_Desk_declare 57 = .ok (.aload_n 0, 1) := by decide +kernel
theorem d_Desk_declare_58 : decode b_Desk_declare 58 = .ok (.getfield 20, 3) := by decide +kernel
theorem d_Desk_declare_61 : decode b_Desk_declare 61 = .ok (.invokevirtual 76, 3) := by decide +kernel
theorem d_Desk_declare_64 : decode b_Desk_declare 64 = .ok (.ifCond .ne 6, 3) := by decide +kernel
theorem d_Desk_declare_67 : decode b_Desk_declare 67 = .ok (.bipush (-101), 2) := by decide +kernel
theorem d_Desk_declare_69 : decode b_Desk_declare 69 = .ok (.ireturn, 1) := by decide +kernel
theorem d_Desk_declare_70 : decode b_Desk_declare 70 = .ok (.aload_n 0, 1) := by decide +kernel
theorem d_Desk_declare_71 : decode b_Desk_declare 71 = .ok (.getfield 20, 3) := by decide +kernel
theorem d_Desk_declare_74 : decode b_Desk_declare 74 = .ok (.iload_n 1, 1) := by decide +kernel
theorem d_Desk_declare_75 : decode b_Desk_declare 75 = .ok (.invokevirtual 80, 3) := by decide +kernel
theorem d_Desk_declare_78 : decode b_Desk_declare 78 = .ok (.aload_n 0, 1) := by decide +kernel
theorem d_Desk_declare_79 : decode b_Desk_declare 79 = .ok (.getfield 20, 3) := by decide +kernel
theorem d_Desk_declare_82 : decode b_Desk_declare 82 = .ok (.iload_n 1, 1) := by decide +kernel
theorem d_Desk_declare_83 : decode b_Desk_declare 83 = .ok (.invokevirtual 83, 3) := by decide +kernel
theorem d_Desk_declare_86 : decode b_Desk_declare 86 = .ok (.ireturn, 1) := by decide +kernel
theorem d_Desk_expand_0 : decode b_Desk_expand 0 = .ok (.iload_n 1, 1) := by decide +kernel
theorem d_Desk_expand_1 : decode b_Desk_expand 1 = .ok (.ifCond .lt 9, 3) := by decide +kernel
theorem d_Desk_expand_4 : decode b_Desk_expand 4 = .ok (.iload_n 1, 1) := by decide +kernel
theorem d_Desk_expand_5 : decode b_Desk_expand 5 = .ok (.ldc 87, 2) := by decide +kernel
theorem d_Desk_expand_7 : decode b_Desk_expand 7 = .ok (.if_icmp .le 6, 3) := by decide +kernel
theorem d_Desk_expand_10 : decode b_Desk_expand 10 = .ok (.bipush (-102), 2) := by decide +kernel
theorem d_Desk_expand_12 : decode b_Desk_expand 12 = .ok (.ireturn, 1) := by decide +kernel
theorem d_Desk_expand_13 : decode b_Desk_expand 13 = .ok (.aload_n 0, 1) := by decide +kernel
theorem d_Desk_expand_14 : decode b_Desk_expand 14 = .ok (.getfield 13, 3) := by decide +kernel
theorem d_Desk_expand_17 : decode b_Desk_expand 17 = .ok (.istore_n 2, 1) := by decide +kernel
theorem d_Desk_expand_18 : decode b_Desk_expand 18 = .ok (.aload_n 0, 1) := by decide +kernel
theorem d_Desk_expand_19 : decode b_Desk_expand 19 = .ok (.iconst 0, 1) := by decide +kernel
theorem d_Desk_expand_20 : decode b_Desk_expand 20 = .ok (.putfield 13, 3) := by decide +kernel
theorem d_Desk_expand_23 : decode b_Desk_expand 23 = .ok (.aload_n 0, 1) := by decide +kernel
theorem d_Desk_expand_24 : decode b_Desk_expand 24 = .ok (.invokevirtual 66, 3) := by decide +kernel
theorem d_Desk_expand_27 : decode b_Desk_expand 27 = .ok (.aload_n 0, 1) := by decide +kernel
theorem d_Desk_expand_28 : decode b_Desk_expand 28 = .ok (.iconst 0, 1) := by decide +kernel
theorem d_Desk_expand_29 : decode b_Desk_expand 29 = .ok (.putfield 43, 3) := by decide +kernel
theorem d_Desk_expand_32 : decode b_Desk_expand 32 = .ok (.aload_n 0, 1) := by decide +kernel
theorem d_Desk_expand_33 : decode b_Desk_expand 33 = .ok (.iload_n 1, 1) := by decide +kernel
theorem d_Desk_expand_34 : decode b_Desk_expand 34 = .ok (.putfield 50, 3) := by decide +kernel
theorem d_Desk_expand_37 : decode b_Desk_expand 37 = .ok (.aload_n 0, 1) := by decide +kernel
theorem d_Desk_expand_38 : decode b_Desk_expand 38 = .ok (.iconst 0, 1) := by decide +kernel
theorem d_Desk_expand_39 : decode b_Desk_expand 39 = .ok (.putfield 53, 3) := by decide +kernel
theorem d_Desk_expand_42 : decode b_Desk_expand 42 = .ok (.aload_n 0, 1) := by decide +kernel
theorem d_Desk_expand_43 : decode b_Desk_expand 43 = .ok (.iconst 0, 1) := by decide +kernel
theorem d_Desk_expand_44 : decode b_Desk_expand 44 = .ok (.putfield 56, 3) := by decide +kernel
theorem d_Desk_expand_47 : decode b_Desk_expand 47 = .ok (.aload_n 0, 1) := by decide +kernel
theorem d_Desk_expand_48 : decode b_Desk_expand 48 = .ok (.iconst 0, 1) := by decide +kernel
theorem d_Desk_expand_49 : decode b_Desk_expand 49 = .ok (.putfield 59, 3) := by decide +kernel
theorem d_Desk_expand_52 : decode b_Desk_expand 52 = .ok (.aload_n 0, 1) := by decide +kernel
theorem d_Desk_expand_53 : decode b_Desk_expand 53 = .ok (.aload_n 0, 1) := by decide +kernel
theorem d_Desk_expand_54 : decode b_Desk_expand 54 = .ok (.getfield 9, 3) := by decide +kernel
theorem d_Desk_expand_57 : decode b_Desk_expand 57 = .ok (.iconst 0, 1) := by decide +kernel
theorem d_Desk_expand_58 : decode b_Desk_expand 58 = .ok (.iload_n 2, 1) := by decide +kernel
theorem d_Desk_expand_59 : decode b_Desk_expand 59 = .ok (.iconst 0, 1) := by decide +kernel
theorem d_Desk_expand_60 : decode b_Desk_expand 60 = .ok (.invokevirtual 88, 3) := by decide +kernel
theorem d_Desk_expand_63 : decode b_Desk_expand 63 = .ok (.aload_n 0, 1) := by decide +kernel
theorem d_Desk_expand_64 : decode b_Desk_expand 64 = .ok (.getfield 31, 3) := by decide +kernel
theorem d_Desk_expand_67 : decode b_Desk_expand 67 = .ok (.ifCond .eq 15, 3) := by decide +kernel
theorem d_Desk_expand_70 : decode b_Desk_expand 70 = .ok (.aload_n 0, 1) := by decide +kernel
theorem d_Desk_expand_71 : decode b_Desk_expand 71 = .ok (.iconst 0, 1) := by decide +kernel
theorem d_Desk_expand_72 : decode b_Desk_expand 72 = .ok (.putfield 43, 3) := by decide +kernel
theorem d_Desk_expand_75 : decode b_Desk_expand 75 = .ok (.iconst (-1), 1) := by decide +kernel
theorem d_Desk_expand_76 : decode b_Desk_expand 76 = .ok (.aload_n 0, 1) := by decide +kernel
theorem d_Desk_expand_77 : decode b_Desk_expand 77 = .ok (.getfield 31, 3) := by decide +kernel
theorem d_Desk_expand_80 : decode b_Desk_expand 80 = .ok (.isub, 1) := by decide +kernel
theorem d_Desk_expand_81 : decode b_Desk_expand 81 = .ok (.ireturn, 1) := by decide +kernel
theorem d_Desk_expand_82 : decode b_Desk_expand 82 = .ok (.aload_n 0, 1) := by decide +kernel
theorem d_Desk_expand_83 : decode b_Desk_expand 83 = .ok (.getfield 43, 3) := by decide +kernel
theorem d_Desk_expand_86 : decode b_Desk_expand 86 = .ok (.ireturn, 1) := by decide +kernel
theorem d_Desk_place_0 : decode b_Desk_place 0 = .ok (.aload_n 0, 1) := by decide +kernel
theorem d_Desk_place_1 : decode b_Desk_place 1 = .ok (.getfield 34, 3) := by decide +kernel
theorem d_Desk_place_4 : decode b_Desk_place 4 = .ok (.ireturn, 1) := by decide +kernel
theorem d_Desk_given_0 : decode b_Desk_given 0 = .ok (.iload_n 1, 1) := by decide +kernel
theorem d_Desk_given_1 : decode b_Desk_given 1 = .ok (.ifCond .lt 20, 3) := by decide +kernel
theorem d_Desk_given_4 : decode b_Desk_given 4 = .ok (.iload_n 1, 1) := by decide +kernel
theorem d_Desk_given_5 : decode b_Desk_given 5 = .ok (.aload_n 0, 1) := by decide +kernel
theorem d_Desk_given_6 : decode b_Desk_given 6 = .ok (.getfield 43, 3) := by decide +kernel
theorem d_Desk_given_9 : decode b_Desk_given 9 = .ok (.if_icmp .ge 12, 3) := by decide +kernel
theorem d_Desk_given_12 : decode b_Desk_given 12 = .ok (.aload_n 0, 1) := by decide +kernel
theorem d_Desk_given_13 : decode b_Desk_given 13 = .ok (.getfield 40, 3) := by decide +kernel
theorem d_Desk_given_16 : decode b_Desk_given 16 = .ok (.iload_n 1, 1) := by decide +kernel
theorem d_Desk_given_17 : decode b_Desk_given 17 = .ok (.iaload, 1) := by decide +kernel
theorem d_Desk_given_18 : decode b_Desk_given 18 = .ok (.goto 4, 3) := by decide +kernel
theorem d_Desk_given_21 : decode b_Desk_given 21 = .ok (.iconst (-1), 1) := by decide +kernel
theorem d_Desk_given_22 : decode b_Desk_given 22 = .ok (.ireturn, 1) := by decide +kernel
theorem d_Desk_text_0 : decode b_Desk_text 0 = .ok (.iload_n 1, 1) := by decide +kernel
theorem d_Desk_text_1 : decode b_Desk_text 1 = .ok (.invokestatic 62, 3) := by decide +kernel
theorem d_Desk_text_4 : decode b_Desk_text 4 = .ok (.ifCond .eq 14, 3) := by decide +kernel
theorem d_Desk_text_7 : decode b_Desk_text 7 = .ok (.aload_n 0, 1) := by decide +kernel
theorem d_Desk_text_8 : decode b_Desk_text 8 = .ok (.getfield 20, 3) := by decide +kernel
theorem d_Desk_text_11 : decode b_Desk_text 11 = .ok (.iload_n 1, 1) := by decide +kernel
theorem d_Desk_text_12 : decode b_Desk_text 12 = .ok (.invokevirtual 69, 3) := by decide +kernel
theorem d_Desk_text_15 : decode b_Desk_text 15 = .ok (.ifCond .ne 5, 3) := by decide +kernel
theorem d_Desk_text_18 : decode b_Desk_text 18 = .ok (.iconst (-1), 1) := by decide +kernel
theorem d_Desk_text_19 : decode b_Desk_text 19 = .ok (.ireturn, 1) := by decide +kernel
theorem d_Desk_text_20 : decode b_Desk_text 20 = .ok (.iload_n 2, 1) := by decide +kernel
theorem d_Desk_text_21 : decode b_Desk_text 21 = .ok (.ifCond .lt 27, 3) := by decide +kernel
theorem d_Desk_text_24 : decode b_Desk_text 24 = .ok (.iload_n 2, 1) := by decide +kernel
theorem d_Desk_text_25 : decode b_Desk_text 25 = .ok (.aload_n 0, 1) := by decide +kernel
theorem d_Desk_text_26 : decode b_Desk_text 26 = .ok (.getfield 20, 3) := by decide +kernel
theorem d_Desk_text_29 : decode b_Desk_text 29 = .ok (.iload_n 1, 1) := by decide +kernel
theorem d_Desk_text_30 : decode b_Desk_text 30 = .ok (.invokevirtual 83, 3) := by decide +kernel
theorem d_Desk_text_33 : decode b_Desk_text 33 = .ok (.if_icmp .ge 15, 3) := by decide +kernel
theorem d_Desk_text_36 : decode b_Desk_text 36 = .ok (.aload_n 0, 1) := by decide +kernel
theorem d_Desk_text_37 : decode b_Desk_text 37 = .ok (.getfield 20, 3) := by decide +kernel
theorem d_Desk_text_40 : decode b_Desk_text 40 = .ok (.iload_n 1, 1) := by decide +kernel
theorem d_Desk_text_41 : decode b_Desk_text 41 = .ok (.iload_n 2, 1) := by decide +kernel
theorem d_Desk_text_42 : decode b_Desk_text 42 = .ok (.invokevirtual 92, 3) := by decide +kernel
theorem d_Desk_text_45 : decode b_Desk_text 45 = .ok (.goto 4, 3) := by decide +kernel
theorem d_Desk_text_48 : decode b_Desk_text 48 = .ok (.iconst (-1), 1) := by decide +kernel
theorem d_Desk_text_49 : decode b_Desk_text 49 = .ok (.ireturn, 1) := by decide +kernel
theorem d_Desk_count_0 : decode b_Desk_count 0 = .ok (.iload_n 1, 1) := by decide +kernel
theorem d_Desk_count_1 : decode b_Desk_count 1 = .ok (.tableswitch 75 0 5 #[39, 47, 55, 60, 65, 70], 39) := by decide +kernel
theorem d_Desk_count_40 : decode b_Desk_count 40 = .ok (.aload_n 0, 1) := by decide +kernel
theorem d_Desk_count_41 : decode b_Desk_count 41 = .ok (.getfield 20, 3) := by decide +kernel
theorem d_Desk_count_44 : decode b_Desk_count 44 = .ok (.getfield 96, 3) := by decide +kernel
theorem d_Desk_count_47 : decode b_Desk_count 47 = .ok (.ireturn, 1) := by decide +kernel
theorem d_Desk_count_48 : decode b_Desk_count 48 = .ok (.aload_n 0, 1) := by decide +kernel
theorem d_Desk_count_49 : decode b_Desk_count 49 = .ok (.getfield 20, 3) := by decide +kernel
theorem d_Desk_count_52 : decode b_Desk_count 52 = .ok (.getfield 99, 3) := by decide +kernel
theorem d_Desk_count_55 : decode b_Desk_count 55 = .ok (.ireturn, 1) := by decide +kernel
theorem d_Desk_count_56 : decode b_Desk_count 56 = .ok (.aload_n 0, 1) := by decide +kernel
theorem d_Desk_count_57 : decode b_Desk_count 57 = .ok (.getfield 53, 3) := by decide +kernel
theorem d_Desk_count_60 : decode b_Desk_count 60 = .ok (.ireturn, 1) := by decide +kernel
theorem d_Desk_count_61 : decode b_Desk_count 61 = .ok (.aload_n 0, 1) := by decide +kernel
theorem d_Desk_count_62 : decode b_Desk_count 62 = .ok (.getfield 13, 3) := by decide +kernel
theorem d_Desk_count_65 : decode b_Desk_count 65 = .ok (.ireturn, 1) := by decide +kernel
theorem d_Desk_count_66 : decode b_Desk_count 66 = .ok (.aload_n 0, 1) := by decide +kernel
theorem d_Desk_count_67 : decode b_Desk_count 67 = .ok (.getfield 56, 3) := by decide +kernel
theorem d_Desk_count_70 : decode b_Desk_count 70 = .ok (.ireturn, 1) := by decide +kernel
theorem d_Desk_count_71 : decode b_Desk_count 71 = .ok (.aload_n 0, 1) := by decide +kernel
theorem d_Desk_count_72 : decode b_Desk_count 72 = .ok (.getfield 59, 3) := by decide +kernel
theorem d_Desk_count_75 : decode b_Desk_count 75 = .ok (.ireturn, 1) := by decide +kernel
theorem d_Desk_count_76 : decode b_Desk_count 76 = .ok (.iconst (-1), 1) := by decide +kernel
theorem d_Desk_count_77 : decode b_Desk_count 77 = .ok (.ireturn, 1) := by decide +kernel
theorem d_Desk_isName_0 : decode b_Desk_isName 0 = .ok (.iload_n 0, 1) := by decide +kernel
theorem d_Desk_isName_1 : decode b_Desk_isName 1 = .ok (.ifCond .lt 13, 3) := by decide +kernel
theorem d_Desk_isName_4 : decode b_Desk_isName 4 = .ok (.iload_n 0, 1) := by decide +kernel
theorem d_Desk_isName_5 : decode b_Desk_isName 5 = .ok (.bipush 26, 2) := by decide +kernel
theorem d_Desk_isName_7 : decode b_Desk_isName 7 = .ok (.if_icmp .ge 7, 3) := by decide +kernel
theorem d_Desk_isName_10 : decode b_Desk_isName 10 = .ok (.iconst 1, 1) := by decide +kernel
theorem d_Desk_isName_11 : decode b_Desk_isName 11 = .ok (.goto 4, 3) := by decide +kernel
theorem d_Desk_isName_14 : decode b_Desk_isName 14 = .ok (.iconst 0, 1) := by decide +kernel
theorem d_Desk_isName_15 : decode b_Desk_isName 15 = .ok (.ireturn, 1) := by decide +kernel
theorem d_Desk_beginReading_0 : decode b_Desk_beginReading 0 = .ok (.aload_n 0, 1) := by decide +kernel
theorem d_Desk_beginReading_1 : decode b_Desk_beginReading 1 = .ok (.iconst 0, 1) := by decide +kernel
theorem d_Desk_beginReading_2 : decode b_Desk_beginReading 2 = .ok (.putfield 31, 3) := by decide +kernel
theorem d_Desk_beginReading_5 : decode b_Desk_beginReading 5 = .ok (.aload_n 0, 1) := by decide +kernel
theorem d_Desk_beginReading_6 : decode b_Desk_beginReading 6 = .ok (.iconst (-1), 1) := by decide +kernel
theorem d_Desk_beginReading_7 : decode b_Desk_beginReading 7 = .ok (.putfield 34, 3) := by decide +kernel
theorem d_Desk_beginReading_10 : decode b_Desk_beginReading 10 = .ok (.aload_n 0, 1) := by decide +kernel
theorem d_Desk_beginReading_11 : decode b_Desk_beginReading 11 = .ok (.iconst 0, 1) := by decide +kernel
theorem d_Desk_beginReading_12 : decode b_Desk_beginReading 12 = .ok (.putfield 37, 3) := by decide +kernel
theorem d_Desk_beginReading_15 : decode b_Desk_beginReading 15 = .ok (.aload_n 0, 1) := by decide +kernel
theorem d_Desk_beginReading_16 : decode b_Desk_beginReading 16 = .ok (.getfield 27, 3) := by decide +kernel
theorem d_Desk_beginReading_19 : decode b_Desk_beginReading 19 = .ok (.invokevirtual 102, 3) := by decide +kernel
theorem d_Desk_beginReading_22 : decode b_Desk_beginReading 22 = .ok (.return_, 1) := by decide +kernel
theorem d_Desk_fail_0 : decode b_Desk_fail 0 = .ok (.aload_n 0, 1) := by decide +kernel
theorem d_Desk_fail_1 : decode b_Desk_fail 1 = .ok (.iload_n 1, 1) := by decide +kernel
theorem d_Desk_fail_2 : decode b_Desk_fail 2 = .ok (.putfield 31, 3) := by decide +kernel
theorem d_Desk_fail_5 : decode b_Desk_fail 5 = .ok (.aload_n 0, 1) := by decide +kernel
theorem d_Desk_fail_6 : decode b_Desk_fail 6 = .ok (.iload_n 2, 1) := by decide +kernel
theorem d_Desk_fail_7 : decode b_Desk_fail 7 = .ok (.putfield 34, 3) := by decide +kernel
theorem d_Desk_fail_10 : decode b_Desk_fail 10 = .ok (.return_, 1) := by decide +kernel
theorem d_Desk_readOn_0 : decode b_Desk_readOn 0 = .ok (.aload_n 0, 1) := by decide +kernel
theorem d_Desk_readOn_1 : decode b_Desk_readOn 1 = .ok (.getfield 27, 3) := by decide +kernel
theorem d_Desk_readOn_4 : decode b_Desk_readOn 4 = .ok (.iload_n 1, 1) := by decide +kernel
theorem d_Desk_readOn_5 : decode b_Desk_readOn 5 = .ok (.invokevirtual 105, 3) := by decide +kernel
theorem d_Desk_readOn_8 : decode b_Desk_readOn 8 = .ok (.istore_n 3, 1) := by decide +kernel
theorem d_Desk_readOn_9 : decode b_Desk_readOn 9 = .ok (.iload_n 3, 1) := by decide +kernel
theorem d_Desk_readOn_10 : decode b_Desk_readOn 10 = .ok (.iconst 5, 1) := by decide +kernel
theorem d_Desk_readOn_11 : decode b_Desk_readOn 11 = .ok (.if_icmp .ne 12, 3) := by decide +kernel
theorem d_Desk_readOn_14 : decode b_Desk_readOn 14 = .ok (.aload_n 0, 1) := by decide +kernel
theorem d_Desk_readOn_15 : decode b_Desk_readOn 15 = .ok (.iconst 2, 1) := by decide +kernel
theorem d_Desk_readOn_16 : decode b_Desk_readOn 16 = .ok (.iload_n 2, 1) := by decide +kernel
theorem d_Desk_readOn_17 : decode b_Desk_readOn 17 = .ok (.invokevirtual 108, 3) := by decide +kernel
theorem d_Desk_readOn_20 : decode b_Desk_readOn 20 = .ok (.goto 18, 3) := by decide +kernel
theorem d_Desk_readOn_23 : decode b_Desk_readOn 23 = .ok (.iload_n 3, 1) := by decide +kernel
theorem d_Desk_readOn_24 : decode b_Desk_readOn 24 = .ok (.iconst 4, 1) := by decide +kernel
theorem d_Desk_readOn_25 : decode b_Desk_readOn 25 = .ok (.if_icmp .ne 13, 3) := by decide +kernel
theorem d_Desk_readOn_28 : decode b_Desk_readOn 28 = .ok (.aload_n 0, 1) := by decide +kernel
theorem d_Desk_readOn_29 : decode b_Desk_readOn 29 = .ok (.bipush 8, 2) := by decide +kernel
theorem d_Desk_readOn_31 : decode b_Desk_readOn 31 = .ok (.aload_n 0, 1) := by decide +kernel
theorem d_Desk_readOn_32 : decode b_Desk_readOn 32 = .ok (.getfield 37, 3) := by decide +kernel
theorem d_Desk_readOn_35 : decode b_Desk_readOn 35 = .ok (.invokevirtual 108, 3) := by decide +kernel
theorem d_Desk_readOn_38 : decode b_Desk_readOn 38 = .ok (.iload_n 3, 1) := by decide +kernel
theorem d_Desk_readOn_39 : decode b_Desk_readOn 39 = .ok (.ireturn, 1) := by decide +kernel
theorem d_Desk_draftText_0 : decode b_Desk_draftText 0 = .ok (.aload_n 0, 1) := by decide +kernel
theorem d_Desk_draftText_1 : decode b_Desk_draftText 1 = .ok (.getfield 20, 3) := by decide +kernel
theorem d_Desk_draftText_4 : decode b_Desk_draftText 4 = .ok (.invokevirtual 112, 3) := by decide +kernel
theorem d_Desk_draftText_7 : decode b_Desk_draftText 7 = .ok (.iconst 0, 1) := by decide +kernel
theorem d_Desk_draftText_8 : decode b_Desk_draftText 8 = .ok (.istore_n 2, 1) := by decide +kernel
theorem d_Desk_draftText_9 : decode b_Desk_draftText 9 = .ok (.iload_n 2, 1) := by decide +kernel
theorem d_Desk_draftText_10 : decode b_Desk_draftText 10 = .ok (.iload_n 1, 1) := by decide +kernel
theorem d_Desk_draftText_11 : decode b_Desk_draftText 11 = .ok (.if_icmp .ge 42, 3) := by decide +kernel
theorem d_Desk_draftText_14 : decode b_Desk_draftText 14 = .ok (.aload_n 0, 1) := by decide +kernel
theorem d_Desk_draftText_15 : decode b_Desk_draftText 15 = .ok (.getfield 31, 3) := by decide +kernel
theorem d_Desk_draftText_18 : decode b_Desk_draftText 18 = .ok (.ifCond .ne 35, 3) := by decide +kernel
theorem d_Desk_draftText_21 : decode b_Desk_draftText 21 = .ok (.aload_n 0, 1) := by decide +kernel
theorem d_Desk_draftText_22 : decode b_Desk_draftText 22 = .ok (.getfield 27, 3) := by decide +kernel
theorem d_Desk_draftText_25 : decode b_Desk_draftText 25 = .ok (.invokevirtual 115, 3) := by decide +kernel
theorem d_Desk_draftText_28 : decode b_Desk_draftText 28 = .ok (.ifCond .ne 8, 3) := by decide +kernel
theorem d_Desk_draftText_31 : decode b_Desk_draftText 31 = .ok (.aload_n 0, 1) := by decide +kernel
theorem d_Desk_draftText_32 : decode b_Desk_draftText 32 = .ok (.iload_n 2, 1) := by decide +kernel
theorem d_Desk_draftText_33 : decode b_Desk_draftText 33 = .ok (.putfield 37, 3) := by decide +kernel
theorem d_Desk_draftText_36 : decode b_Desk_draftText 36 = .ok (.aload_n 0, 1) := by decide +kernel
theorem d_Desk_draftText_37 : decode b_Desk_draftText 37 = .ok (.aload_n 0, 1) := by decide +kernel
theorem d_Desk_draftText_38 : decode b_Desk_draftText 38 = .ok (.getfield 9, 3) := by decide +kernel
theorem d_Desk_draftText_41 : decode b_Desk_draftText 41 = .ok (.iload_n 2, 1) := by decide +kernel
theorem d_Desk_draftText_42 : decode b_Desk_draftText 42 = .ok (.iaload, 1) := by decide +kernel
theorem d_Desk_draftText_43 : decode b_Desk_draftText 43 = .ok (.iload_n 2, 1) := by decide +kernel
theorem d_Desk_draftText_44 : decode b_Desk_draftText 44 = .ok (.invokevirtual 118, 3) := by decide +kernel
theorem d_Desk_draftText_47 : decode b_Desk_draftText 47 = .ok (.iinc 2 1, 3) := by decide +kernel
theorem d_Desk_draftText_50 : decode b_Desk_draftText 50 = .ok (.goto (-41), 3) := by decide +kernel
theorem d_Desk_draftText_53 : decode b_Desk_draftText 53 = .ok (.aload_n 0, 1) := by decide +kernel
theorem d_Desk_draftText_54 : decode b_Desk_draftText 54 = .ok (.getfield 31, 3) := by decide +kernel
theorem d_Desk_draftText_57 : decode b_Desk_draftText 57 = .ok (.ifCond .ne 19, 3) := by decide +kernel
theorem d_Desk_draftText_60 : decode b_Desk_draftText 60 = .ok (.aload_n 0, 1) := by decide +kernel
theorem d_Desk_draftText_61 : decode b_Desk_draftText 61 = .ok (.getfield 27, 3) := by decide +kernel
theorem d_Desk_draftText_64 : decode b_Desk_draftText 64 = .ok (.invokevirtual 115, 3) := by decide +kernel
theorem d_Desk_draftText_67 : decode b_Desk_draftText 67 = .ok (.ifCond .eq 9, 3) := by decide +kernel
theorem d_Desk_draftText_70 : decode b_Desk_draftText 70 = .ok (.aload_n 0, 1) := by decide +kernel
theorem d_Desk_draftText_71 : decode b_Desk_draftText 71 = .ok (.iconst 2, 1) := by decide +kernel
theorem d_Desk_draftText_72 : decode b_Desk_draftText 72 = .ok (.iload_n 1, 1) := by decide +kernel
theorem d_Desk_draftText_73 : decode b_Desk_draftText 73 = .ok (.invokevirtual 108, 3) := by decide +kernel
theorem d_Desk_draftText_76 : decode b_Desk_draftText 76 = .ok (.return_, 1) := by decide +kernel
theorem d_Desk_draftCharacter_0 : decode b_Desk_draftCharacter 0 = .ok (.aload_n 0, 1) := by decide +kernel
theorem d_Desk_draftCharacter_1 : decode b_Desk_draftCharacter 1 = .ok (.iload_n 1, 1) := by decide +kernel
theorem d_Desk_draftCharacter_2 : decode b_Desk_draftCharacter 2 = .ok (.iload_n 2, 1) := by decide +kernel
theorem d_Desk_draftCharacter_3 : decode b_Desk_draftCharacter 3 = .ok (.invokevirtual 121, 3) := by decide +kernel
theorem d_Desk_draftCharacter_6 : decode b_Desk_draftCharacter 6 = .ok (.istore_n 3, 1) := by decide +kernel
theorem d_Desk_draftCharacter_7 : decode b_Desk_draftCharacter 7 = .ok (.iload_n 3, 1) := by decide +kernel
theorem d_Desk_draftCharacter_8 : decode b_Desk_draftCharacter 8 = .ok (.ifCond .ne 14, 3) := by decide +kernel
theorem d_Desk_draftCharacter_11 : decode b_Desk_draftCharacter 11 = .ok (.aload_n 0, 1) := by decide +kernel
theorem d_Desk_draftCharacter_12 : decode b_Desk_draftCharacter 12 = .ok (.getfield 20, 3) := by decide +kernel
theorem d_Desk_draftCharacter_15 : decode b_Desk_draftCharacter 15 = .ok (.iload_n 1, 1) := by decide +kernel
theorem d_Desk_draftCharacter_16 : decode b_Desk_draftCharacter 16 = .ok (.invokevirtual 124, 3) := by decide +kernel
theorem d_Desk_draftCharacter_19 : decode b_Desk_draftCharacter 19 = .ok (.goto 65, 3) := by decide +kernel
theorem d_Desk_draftCharacter_22 : decode b_Desk_draftCharacter 22 = .ok (.iload_n 3, 1) := by decide +kernel
theorem d_Desk_draftCharacter_23 : decode b_Desk_draftCharacter 23 = .ok (.iconst 2, 1) := by decide +kernel
theorem d_Desk_draftCharacter_24 : decode b_Desk_draftCharacter 24 = .ok (.if_icmp .ne 20, 3) := by decide +kernel
theorem d_Desk_draftCharacter_27 : decode b_Desk_draftCharacter 27 = .ok (.aload_n 0, 1) := by decide +kernel
theorem d_Desk_draftCharacter_28 : decode b_Desk_draftCharacter 28 = .ok (.getfield 20, 3) := by decide +kernel
theorem d_Desk_draftCharacter_31 : decode b_Desk_draftCharacter 31 = .ok (.aload_n 0, 1) := by decide +kernel
theorem d_Desk_draftCharacter_32 : decode b_Desk_draftCharacter 32 = .ok (.getfield 27, 3) := by decide +kernel
theorem d_Desk_draftCharacter_35 : decode b_Desk_draftCharacter 35 = .ok (.getfield 127, 3) := by decide +kernel
theorem d_Desk_draftCharacter_38 : decode b_Desk_draftCharacter 38 = .ok (.invokevirtual 124, 3) := by decide +kernel
theorem d_Desk_draftCharacter_41 : decode b_Desk_draftCharacter 41 = .ok (.goto 43, 3) := by decide +kernel
theorem d_Desk_draftCharacter_44 : decode b_Desk_draftCharacter 44 = .ok (.iload_n 3, 1) := by decide +kernel
theorem d_Desk_draftCharacter_45 : decode b_Desk_draftCharacter 45 = .ok (.iconst 3, 1) := by decide +kernel
theorem d_Desk_draftCharacter_46 : decode b_Desk_draftCharacter 46 = .ok (.if_icmp .ne 38, 3) := by decide +kernel
theorem d_Desk_draftCharacter_49 : decode b_Desk_draftCharacter 49 = .ok (.aload_n 0, 1) := by decide +kernel
theorem d_Desk_draftCharacter_50 : decode b_Desk_draftCharacter 50 = .ok (.getfield 20, 3) := by decide +kernel
theorem d_Desk_draftCharacter_53 : decode b_Desk_draftCharacter 53 = .ok (.bipush 38, 2) := by decide +kernel
theorem d_Desk_draftCharacter_55 : decode b_Desk_draftCharacter 55 = .ok (.invokevirtual 124, 3) := by decide +kernel
theorem d_Desk_draftCharacter_58 : decode b_Desk_draftCharacter 58 = .ok (.aload_n 0, 1) := by decide +kernel
theorem d_Desk_draftCharacter_59 : decode b_Desk_draftCharacter 59 = .ok (.getfield 20, 3) := by decide +kernel
theorem d_Desk_draftCharacter_62 : decode b_Desk_draftCharacter 62 = .ok (.bipush 97, 2) := by decide +kernel
theorem d_Desk_draftCharacter_64 : decode b_Desk_draftCharacter 64 = .ok (.aload_n 0, 1) := by decide +kernel
theorem d_Desk_draftCharacter_65 : decode b_Desk_draftCharacter 65 = .ok (.getfield 27, 3) := by decide +kernel
theorem d_Desk_draftCharacter_68 : decode b_Desk_draftCharacter 68 = .ok (.getfield 130, 3) := by decide +kernel
theorem d_Desk_draftCharacter_71 : decode b_Desk_draftCharacter 71 = .ok (.iadd, 1) := by decide +kernel
theorem d_Desk_draftCharacter_72 : decode b_Desk_draftCharacter 72 = .ok (.invokevirtual 124, 3) := by decide +kernel
theorem d_Desk_draftCharacter_75 : decode b_Desk_draftCharacter 75 = .ok (.aload_n 0, 1) := by decide +kernel
theorem d_Desk_draftCharacter_76 : decode b_Desk_draftCharacter 76 = .ok (.getfield 20, 3) := by decide +kernel
theorem d_Desk_draftCharacter_79 : decode b_Desk_draftCharacter 79 = .ok (.bipush 59, 2) := by decide +kernel
theorem d_Desk_draftCharacter_81 : decode b_Desk_draftCharacter 81 = .ok (.invokevirtual 124, 3) := by decide +kernel
theorem d_Desk_draftCharacter_84 : decode b_Desk_draftCharacter 84 = .ok (.return_, 1) := by decide +kernel
theorem d_Desk_goOver_0 : decode b_Desk_goOver 0 = .ok (.iload_n 2, 1) := by decide +kernel
theorem d_Desk_goOver_1 : decode b_Desk_goOver 1 = .ok (.istore 5, 2) := by decide +kernel
theorem d_Desk_goOver_3 : decode b_Desk_goOver 3 = .ok (.iload 5, 2) := by decide +kernel
theorem d_Desk_goOver_5 : decode b_Desk_goOver 5 = .ok (.iload_n 3, 1) := by decide +kernel
theorem d_Desk_goOver_6 : decode b_Desk_goOver 6 = .ok (.if_icmp .ge 61, 3) := by decide +kernel
theorem d_Desk_goOver_9 : decode b_Desk_goOver 9 = .ok (.aload_n 0, 1) := by decide +kernel
theorem d_Desk_goOver_10 : decode b_Desk_goOver 10 = .ok (.getfield 31, 3) := by decide +kernel
theorem d_Desk_goOver_13 : decode b_Desk_goOver 13 = .ok (.ifCond .ne 54, 3) := by decide +kernel
theorem d_Desk_goOver_16 : decode b_Desk_goOver 16 = .ok (.iload 4, 2) := by decide +kernel
theorem d_Desk_goOver_18 : decode b_Desk_goOver 18 = .ok (.ifCond .ne 19, 3) := by decide +kernel
theorem d_Desk_goOver_21 : decode b_Desk_goOver 21 = .ok (.aload_n 0, 1) := by decide +kernel
theorem d_Desk_goOver_22 : decode b_Desk_goOver 22 = .ok (.getfield 27, 3) := by decide +kernel
theorem d_Desk_goOver_25 : decode b_Desk_goOver 25 = .ok (.invokevirtual 115, 3) := by decide +kernel
theorem d_Desk_goOver_28 : decode b_Desk_goOver 28 = .ok (.ifCond .ne 9, 3) := by decide +kernel
theorem d_Desk_goOver_31 : decode b_Desk_goOver 31 = .ok (.aload_n 0, 1) := by decide +kernel
theorem d_Desk_goOver_32 : decode b_Desk_goOver 32 = .ok (.iload 5, 2) := by decide +kernel
theorem d_Desk_goOver_34 : decode b_Desk_goOver 34 = .ok (.putfield 37, 3) := by decide +kernel
theorem d_Desk_goOver_37 : decode b_Desk_goOver 37 = .ok (.aload_n 0, 1) := by decide +kernel
theorem d_Desk_goOver_38 : decode b_Desk_goOver 38 = .ok (.aload_n 1, 1) := by decide +kernel
theorem d_Desk_goOver_39 : decode b_Desk_goOver 39 = .ok (.iload 5, 2) := by decide +kernel
theorem d_Desk_goOver_41 : decode b_Desk_goOver 41 = .ok (.iaload, 1) := by decide +kernel
theorem d_Desk_goOver_42 : decode b_Desk_goOver 42 = .ok (.iload 4, 2) := by decide +kernel
theorem d_Desk_goOver_44 : decode b_Desk_goOver 44 = .ok (.ifCond .ne 8, 3) := by decide +kernel
theorem d_Desk_goOver_47 : decode b_Desk_goOver 47 = .ok (.iload 5, 2) := by decide +kernel
theorem d_Desk_goOver_49 : decode b_Desk_goOver 49 = .ok (.goto 7, 3) := by decide +kernel
theorem d_Desk_goOver_52 : decode b_Desk_goOver 52 = .ok (.aload_n 0, 1) := by decide +kernel
theorem d_Desk_goOver_53 : decode b_Desk_goOver 53 = .ok (.getfield 37, 3) := by decide +kernel
theorem d_Desk_goOver_56 : decode b_Desk_goOver 56 = .ok (.iload 4, 2) := by decide +kernel
theorem d_Desk_goOver_58 : decode b_Desk_goOver 58 = .ok (.invokevirtual 133, 3) := by decide +kernel
theorem d_Desk_goOver_61 : decode b_Desk_goOver 61 = .ok (.iinc 5 1, 3) := by decide +kernel
theorem d_Desk_goOver_64 : decode b_Desk_goOver 64 = .ok (.goto (-61), 3) := by decide +kernel
theorem d_Desk_goOver_67 : decode b_Desk_goOver 67 = .ok (.aload_n 0, 1) := by decide +kernel
theorem d_Desk_goOver_68 : decode b_Desk_goOver 68 = .ok (.getfield 31, 3) := by decide +kernel
theorem d_Desk_goOver_71 : decode b_Desk_goOver 71 = .ok (.ifCond .ne 37, 3) := by decide +kernel
theorem d_Desk_goOver_74 : decode b_Desk_goOver 74 = .ok (.aload_n 0, 1) := by decide +kernel
theorem d_Desk_goOver_75 : decode b_Desk_goOver 75 = .ok (.getfield 27, 3) := by decide +kernel
theorem d_Desk_goOver_78 : decode b_Desk_goOver 78 = .ok (.invokevirtual 115, 3) := by decide +kernel
theorem d_Desk_goOver_81 : decode b_Desk_goOver 81 = .ok (.ifCond .eq 27, 3) := by decide +kernel
theorem d_Desk_goOver_84 : decode b_Desk_goOver 84 = .ok (.iload 4, 2) := by decide +kernel
theorem d_Desk_goOver_86 : decode b_Desk_goOver 86 = .ok (.ifCond .ne 12, 3) := by decide +kernel
theorem d_Desk_goOver_89 : decode b_Desk_goOver 89 = .ok (.aload_n 0, 1) := by decide +kernel
theorem d_Desk_goOver_90 : decode b_Desk_goOver 90 = .ok (.iconst 2, 1) := by decide +kernel
theorem d_Desk_goOver_91 : decode b_Desk_goOver 91 = .ok (.iload_n 3, 1) := by decide +kernel
theorem d_Desk_goOver_92 : decode b_Desk_goOver 92 = .ok (.invokevirtual 108, 3) := by decide +kernel
theorem d_Desk_goOver_95 : decode b_Desk_goOver 95 = .ok (.goto 13, 3) := by decide +kernel
theorem d_Desk_goOver_98 : decode b_Desk_goOver 98 = .ok (.aload_n 0, 1) := by decide +kernel
theorem d_Desk_goOver_99 : decode b_Desk_goOver 99 = .ok (.bipush 13, 2) := by decide +kernel
theorem d_Desk_goOver_101 : decode b_Desk_goOver 101 = .ok (.aload_n 0, 1) := by decide +kernel
theorem d_Desk_goOver_102 : decode b_Desk_goOver 102 = .ok (.getfield 37, 3) := by decide +kernel
theorem d_Desk_goOver_105 : decode b_Desk_goOver 105 = .ok (.invokevirtual 108, 3) := by decide +kernel
theorem d_Desk_goOver_108 : decode b_Desk_goOver 108 = .ok (.return_, 1) := by decide +kernel
theorem d_Desk_goOverCharacter_0 : decode b_Desk_goOverCharacter 0 = .ok (.aload_n 0, 1) := by decide +kernel
theorem d_Desk_goOverCharacter_1 : decode b_Desk_goOverCharacter 1 = .ok (.iload_n 1, 1) := by decide +kernel
theorem d_Desk_goOverCharacter_2 : decode b_Desk_goOverCharacter 2 = .ok (.iload_n 2, 1) := by decide +kernel
theorem d_Desk_goOverCharacter_3 : decode b_Desk_goOverCharacter 3 = .ok (.invokevirtual 121, 3) := by decide +kernel
theorem d_Desk_goOverCharacter_6 : decode b_Desk_goOverCharacter 6 = .ok (.istore 4, 2) := by decide +kernel
theorem d_Desk_goOverCharacter_8 : decode b_Desk_goOverCharacter 8 = .ok (.iload 4, 2) := by decide +kernel
theorem d_Desk_goOverCharacter_10 : decode b_Desk_goOverCharacter 10 = .ok (.ifCond .ne 11, 3) := by decide +kernel
theorem d_Desk_goOverCharacter_13 : decode b_Desk_goOverCharacter 13 = .ok (.aload_n 0, 1) := by decide +kernel
theorem d_Desk_goOverCharacter_14 : decode b_Desk_goOverCharacter 14 = .ok (.iload_n 1, 1) := by decide +kernel
theorem d_Desk_goOverCharacter_15 : decode b_Desk_goOverCharacter 15 = .ok (.invokevirtual 137, 3) := by decide +kernel
theorem d_Desk_goOverCharacter_18 : decode b_Desk_goOverCharacter 18 = .ok (.goto 43, 3) := by decide +kernel
theorem d_Desk_goOverCharacter_21 : decode b_Desk_goOverCharacter 21 = .ok (.iload 4, 2) := by decide +kernel
theorem d_Desk_goOverCharacter_23 : decode b_Desk_goOverCharacter 23 = .ok (.iconst 2, 1) := by decide +kernel
theorem d_Desk_goOverCharacter_24 : decode b_Desk_goOverCharacter 24 = .ok (.if_icmp .ne 17, 3) := by decide +kernel
theorem d_Desk_goOverCharacter_27 : decode b_Desk_goOverCharacter 27 = .ok (.aload_n 0, 1) := by decide +kernel
theorem d_Desk_goOverCharacter_28 : decode b_Desk_goOverCharacter 28 = .ok (.aload_n 0, 1) := by decide +kernel
theorem d_Desk_goOverCharacter_29 : decode b_Desk_goOverCharacter 29 = .ok (.getfield 27, 3) := by decide +kernel
theorem d_Desk_goOverCharacter_32 : decode b_Desk_goOverCharacter 32 = .ok (.getfield 127, 3) := by decide +kernel
theorem d_Desk_goOverCharacter_35 : decode b_Desk_goOverCharacter 35 = .ok (.invokevirtual 137, 3) := by decide +kernel
theorem d_Desk_goOverCharacter_38 : decode b_Desk_goOverCharacter 38 = .ok (.goto 23, 3) := by decide +kernel
theorem d_Desk_goOverCharacter_41 : decode b_Desk_goOverCharacter 41 = .ok (.iload 4, 2) := by decide +kernel
theorem d_Desk_goOverCharacter_43 : decode b_Desk_goOverCharacter 43 = .ok (.iconst 3, 1) := by decide +kernel
theorem d_Desk_goOverCharacter_44 : decode b_Desk_goOverCharacter 44 = .ok (.if_icmp .ne 17, 3) := by decide +kernel
theorem d_Desk_goOverCharacter_47 : decode b_Desk_goOverCharacter 47 = .ok (.aload_n 0, 1) := by decide +kernel
theorem d_Desk_goOverCharacter_48 : decode b_Desk_goOverCharacter 48 = .ok (.aload_n 0, 1) := by decide +kernel
theorem d_Desk_goOverCharacter_49 : decode b_Desk_goOverCharacter 49 = .ok (.getfield 27, 3) := by decide +kernel
theorem d_Desk_goOverCharacter_52 : decode b_Desk_goOverCharacter 52 = .ok (.getfield 130, 3) := by decide +kernel
theorem d_Desk_goOverCharacter_55 : decode b_Desk_goOverCharacter 55 = .ok (.iload_n 3, 1) := by decide +kernel
theorem d_Desk_goOverCharacter_56 : decode b_Desk_goOverCharacter 56 = .ok (.iconst 1, 1) := by decide +kernel
theorem d_Desk_goOverCharacter_57 : decode b_Desk_goOverCharacter 57 = .ok (.iadd, 1) := by decide +kernel
theorem d_Desk_goOverCharacter_58 : decode b_Desk_goOverCharacter 58 = .ok (.invokevirtual 140, 3) := by decide +kernel
theorem d_Desk_goOverCharacter_61 : decode b_Desk_goOverCharacter 61 = .ok (.return_, 1) := by decide +kernel
theorem d_Desk_give_0 : decode b_Desk_give 0 = .ok (.aload_n 0, 1) := by decide +kernel
theorem d_Desk_give_1 : decode b_Desk_give 1 = .ok (.getfield 43, 3) := by decide +kernel
theorem d_Desk_give_4 : decode b_Desk_give 4 = .ok (.sipush 3000, 3) := by decide +kernel
theorem d_Desk_give_7 : decode b_Desk_give 7 = .ok (.if_icmp .lt 14, 3) := by decide +kernel
theorem d_Desk_give_10 : decode b_Desk_give 10 = .ok (.aload_n 0, 1) := by decide +kernel
theorem d_Desk_give_11 : decode b_Desk_give 11 = .ok (.bipush 15, 2) := by decide +kernel
theorem d_Desk_give_13 : decode b_Desk_give 13 = .ok (.aload_n 0, 1) := by decide +kernel
theorem d_Desk_give_14 : decode b_Desk_give 14 = .ok (.getfield 37, 3) := by decide +kernel
theorem d_Desk_give_17 : decode b_Desk_give 17 = .ok (.invokevirtual 108, 3) := by decide +kernel
theorem d_Desk_give_20 : decode b_Desk_give 20 = .ok (.return_, 1) := by decide +kernel
theorem d_Desk_give_21 : decode b_Desk_give 21 = .ok (.aload_n 0, 1) := by decide +kernel
theorem d_Desk_give_22 : decode b_Desk_give 22 = .ok (.getfield 40, 3) := by decide +kernel
theorem d_Desk_give_25 : decode b_Desk_give 25 = .ok (.aload_n 0, 1) := by decide +kernel
theorem d_Desk_give_26 : decode b_Desk_give 26 = .ok (.getfield 43, 3) := by decide +kernel
theorem d_Desk_give_29 : decode b_Desk_give 29 = .ok (.iload_n 1, 1) := by decide +kernel
theorem d_Desk_give_30 : decode b_Desk_give 30 = .ok (.iastore, 1) := by decide +kernel
theorem d_Desk_give_31 : decode b_Desk_give 31 = .ok (.aload_n 0, 1) := by decide +kernel
theorem d_Desk_give_32 : decode b_Desk_give 32 = .ok (.dup, 1) := by decide +kernel
theorem d_Desk_give_33 : decode b_Desk_give 33 = .ok (.getfield 43, 3) := by decide +kernel
theorem d_Desk_give_36 : decode b_Desk_give 36 = .ok (.iconst 1, 1) := by decide +kernel
theorem d_Desk_give_37 : decode b_Desk_give 37 = .ok (.iadd, 1) := by decide +kernel
theorem d_Desk_give_38 : decode b_Desk_give 38 = .ok (.putfield 43, 3) := by decide +kernel
theorem d_Desk_give_41 : decode b_Desk_give 41 = .ok (.return_, 1) := by decide +kernel
theorem d_Desk_goInto_0 : decode b_Desk_goInto 0 = .ok (.aload_n 0, 1) := by decide +kernel
theorem d_Desk_goInto_1 : decode b_Desk_goInto 1 = .ok (.iload_n 1, 1) := by decide +kernel
theorem d_Desk_goInto_2 : decode b_Desk_goInto 2 = .ok (.iload_n 2, 1) := by decide +kernel
theorem d_Desk_goInto_3 : decode b_Desk_goInto 3 = .ok (.invokevirtual 143, 3) := by decide +kernel
theorem d_Desk_goInto_6 : decode b_Desk_goInto 6 = .ok (.istore_n 3, 1) := by decide +kernel
theorem d_Desk_goInto_7 : decode b_Desk_goInto 7 = .ok (.iload_n 3, 1) := by decide +kernel
theorem d_Desk_goInto_8 : decode b_Desk_goInto 8 = .ok (.ifCond .eq 13, 3) := by decide +kernel
theorem d_Desk_goInto_11 : decode b_Desk_goInto 11 = .ok (.aload_n 0, 1) := by decide +kernel
theorem d_Desk_goInto_12 : decode b_Desk_goInto 12 = .ok (.iload_n 3, 1) := by decide +kernel
theorem d_Desk_goInto_13 : decode b_Desk_goInto 13 = .ok (.aload_n 0, 1) := by decide +kernel
theorem d_Desk_goInto_14 : decode b_Desk_goInto 14 = .ok (.getfield 37, 3) := by decide +kernel
theorem d_Desk_goInto_17 : decode b_Desk_goInto 17 = .ok (.invokevirtual 108, 3) := by decide +kernel
theorem d_Desk_goInto_20 : decode b_Desk_goInto 20 = .ok (.return_, 1) := by decide +kernel
theorem d_Desk_goInto_21 : decode b_Desk_goInto 21 = .ok (.aload_n 0, 1) := by decide +kernel
theorem d_Desk_goInto_22 : decode b_Desk_goInto 22 = .ok (.dup, 1) := by decide +kernel
theorem d_Desk_goInto_23 : decode b_Desk_goInto 23 = .ok (.getfield 53, 3) := by decide +kernel
theorem d_Desk_goInto_26 : decode b_Desk_goInto 26 = .ok (.aload_n 0, 1) := by decide +kernel
theorem d_Desk_goInto_27 : decode b_Desk_goInto 27 = .ok (.getfield 20, 3) := by decide +kernel
theorem d_Desk_goInto_30 : decode b_Desk_goInto 30 = .ok (.iload_n 1, 1) := by decide +kernel
theorem d_Desk_goInto_31 : decode b_Desk_goInto 31 = .ok (.invokevirtual 83, 3) := by decide +kernel
theorem d_Desk_goInto_34 : decode b_Desk_goInto 34 = .ok (.iadd, 1) := by decide +kernel
theorem d_Desk_goInto_35 : decode b_Desk_goInto 35 = .ok (.putfield 53, 3) := by decide +kernel
theorem d_Desk_goInto_38 : decode b_Desk_goInto 38 = .ok (.aload_n 0, 1) := by decide +kernel
theorem d_Desk_goInto_39 : decode b_Desk_goInto 39 = .ok (.dup, 1) := by decide +kernel
theorem d_Desk_goInto_40 : decode b_Desk_goInto 40 = .ok (.getfield 56, 3) := by decide +kernel
theorem d_Desk_goInto_43 : decode b_Desk_goInto 43 = .ok (.iconst 1, 1) := by decide +kernel
theorem d_Desk_goInto_44 : decode b_Desk_goInto 44 = .ok (.iadd, 1) := by decide +kernel
theorem d_Desk_goInto_45 : decode b_Desk_goInto 45 = .ok (.putfield 56, 3) := by decide +kernel
theorem d_Desk_goInto_48 : decode b_Desk_goInto 48 = .ok (.aload_n 0, 1) := by decide +kernel
theorem d_Desk_goInto_49 : decode b_Desk_goInto 49 = .ok (.aload_n 0, 1) := by decide +kernel
theorem d_Desk_goInto_50 : decode b_Desk_goInto 50 = .ok (.getfield 59, 3) := by decide +kernel
theorem d_Desk_goInto_53 : decode b_Desk_goInto 53 = .ok (.iload_n 2, 1) := by decide +kernel
theorem d_Desk_goInto_54 : decode b_Desk_goInto 54 = .ok (.invokestatic 146, 3) := by decide +kernel
theorem d_Desk_goInto_57 : decode b_Desk_goInto 57 = .ok (.putfield 59, 3) := by decide +kernel
theorem d_Desk_goInto_60 : decode b_Desk_goInto 60 = .ok (.aload_n 0, 1) := by decide +kernel
theorem d_Desk_goInto_61 : decode b_Desk_goInto 61 = .ok (.getfield 46, 3) := by decide +kernel
theorem d_Desk_goInto_64 : decode b_Desk_goInto 64 = .ok (.iload_n 1, 1) := by decide +kernel
theorem d_Desk_goInto_65 : decode b_Desk_goInto 65 = .ok (.iconst 1, 1) := by decide +kernel
theorem d_Desk_goInto_66 : decode b_Desk_goInto 66 = .ok (.bastore, 1) := by decide +kernel
theorem d_Desk_goInto_67 : decode b_Desk_goInto 67 = .ok (.aload_n 0, 1) := by decide +kernel
theorem d_Desk_goInto_68 : decode b_Desk_goInto 68 = .ok (.getfield 20, 3) := by decide +kernel
theorem d_Desk_goInto_71 : decode b_Desk_goInto 71 = .ok (.iload_n 1, 1) := by decide +kernel
theorem d_Desk_goInto_72 : decode b_Desk_goInto 72 = .ok (.invokevirtual 151, 3) := by decide +kernel
theorem d_Desk_goInto_75 : decode b_Desk_goInto 75 = .ok (.istore 4, 2) := by decide +kernel
theorem d_Desk_goInto_77 : decode b_Desk_goInto 77 = .ok (.aload_n 0, 1) := by decide +kernel
theorem d_Desk_goInto_78 : decode b_Desk_goInto 78 = .ok (.aload_n 0, 1) := by decide +kernel
theorem d_Desk_goInto_79 : decode b_Desk_goInto 79 = .ok (.getfield 20, 3) := by decide +kernel
theorem d_Desk_goInto_82 : decode b_Desk_goInto 82 = .ok (.getfield 154, 3) := by decide +kernel
theorem d_Desk_goInto_85 : decode b_Desk_goInto 85 = .ok (.iload 4, 2) := by decide +kernel
theorem d_Desk_goInto_87 : decode b_Desk_goInto 87 = .ok (.iload 4, 2) := by decide +kernel
theorem d_Desk_goInto_89 : decode b_Desk_goInto 89 = .ok (.aload_n 0, 1) := by decide +kernel
theorem d_Desk_goInto_90 : decode b_Desk_goInto 90 = .ok (.getfield 20, 3) := by decide +kernel
theorem d_Desk_goInto_93 : decode b_Desk_goInto 93 = .ok (.iload_n 1, 1) := by decide +kernel
theorem d_Desk_goInto_94 : decode b_Desk_goInto 94 = .ok (.invokevirtual 83, 3) := by decide +kernel
theorem d_Desk_goInto_97 : decode b_Desk_goInto 97 = .ok (.iadd, 1) := by decide +kernel
theorem d_Desk_goInto_98 : decode b_Desk_goInto 98 = .ok (.iload_n 2, 1) := by decide +kernel
theorem d_Desk_goInto_99 : decode b_Desk_goInto 99 = .ok (.invokevirtual 88, 3) := by decide +kernel
theorem d_Desk_goInto_102 : decode b_Desk_goInto 102 = .ok (.aload_n 0, 1) := by decide +kernel
theorem d_Desk_goInto_103 : decode b_Desk_goInto 103 = .ok (.getfield 46, 3) := by decide +kernel
theorem d_Desk_goInto_106 : decode b_Desk_goInto 106 = .ok (.iload_n 1, 1) := by decide +kernel
theorem d_Desk_goInto_107 : decode b_Desk_goInto 107 = .ok (.iconst 0, 1) := by decide +kernel
theorem d_Desk_goInto_108 : decode b_Desk_goInto 108 = .ok (.bastore, 1) := by decide +kernel
theorem d_Desk_goInto_109 : decode b_Desk_goInto 109 = .ok (.return_, 1) := by decide +kernel
theorem d_Desk_faultOfEntity_0 : decode b_Desk_faultOfEntity 0 = .ok (.aload_n 0, 1) := by decide +kernel
theorem d_Desk_faultOfEntity_1 : decode b_Desk_faultOfEntity 1 = .ok (.getfield 20, 3) := by decide +kernel
theorem d_Desk_faultOfEntity_4 : decode b_Desk_faultOfEntity 4 = .ok (.iload_n 1, 1) := by decide +kernel
theorem d_Desk_faultOfEntity_5 : decode b_Desk_faultOfEntity 5 = .ok (.invokevirtual 69, 3) := by decide +kernel
theorem d_Desk_faultOfEntity_8 : decode b_Desk_faultOfEntity 8 = .ok (.ifCond .ne 5, 3) := by decide +kernel
theorem d_Desk_faultOfEntity_11 : decode b_Desk_faultOfEntity 11 = .ok (.iconst 5, 1) := by decide +kernel
theorem d_Desk_faultOfEntity_12 : decode b_Desk_faultOfEntity 12 = .ok (.ireturn, 1) := by decide +kernel
theorem d_Desk_faultOfEntity_13 : decode b_Desk_faultOfEntity 13 = .ok (.aload_n 0, 1) := by decide +kernel
theorem d_Desk_faultOfEntity_14 : decode b_Desk_faultOfEntity 14 = .ok (.getfield 46, 3) := by decide +kernel
theorem d_Desk_faultOfEntity_17 : decode b_Desk_faultOfEntity 17 = .ok (.iload_n 1, 1) := by decide +kernel
theorem d_Desk_faultOfEntity_18 : decode b_Desk_faultOfEntity 18 = .ok (.baload, 1) := by decide +kernel
theorem d_Desk_faultOfEntity_19 : decode b_Desk_faultOfEntity 19 = .ok (.ifCond .eq 6, 3) := by decide +kernel
theorem d_Desk_faultOfEntity_22 : decode b_Desk_faultOfEntity 22 = .ok (.bipush 6, 2) := by decide +kernel
theorem d_Desk_faultOfEntity_24 : decode b_Desk_faultOfEntity 24 = .ok (.ireturn, 1) := by decide +kernel
theorem d_Desk_faultOfEntity_25 : decode b_Desk_faultOfEntity 25 = .ok (.iload_n 2, 1) := by decide +kernel
theorem d_Desk_faultOfEntity_26 : decode b_Desk_faultOfEntity 26 = .ok (.bipush 12, 2) := by decide +kernel
theorem d_Desk_faultOfEntity_28 : decode b_Desk_faultOfEntity 28 = .ok (.if_icmp .le 6, 3) := by decide +kernel
theorem d_Desk_faultOfEntity_31 : decode b_Desk_faultOfEntity 31 = .ok (.bipush 15, 2) := by decide +kernel
theorem d_Desk_faultOfEntity_33 : decode b_Desk_faultOfEntity 33 = .ok (.ireturn, 1) := by decide +kernel
theorem d_Desk_faultOfEntity_34 : decode b_Desk_faultOfEntity 34 = .ok (.aload_n 0, 1) := by decide +kernel
theorem d_Desk_faultOfEntity_35 : decode b_Desk_faultOfEntity 35 = .ok (.getfield 53, 3) := by decide +kernel
theorem d_Desk_faultOfEntity_38 : decode b_Desk_faultOfEntity 38 = .ok (.aload_n 0, 1) := by decide +kernel
theorem d_Desk_faultOfEntity_39 : decode b_Desk_faultOfEntity 39 = .ok (.getfield 20, 3) := by decide +kernel
theorem d_Desk_faultOfEntity_42 : decode b_Desk_faultOfEntity 42 = .ok (.iload_n 1, 1) := by decide +kernel
theorem d_Desk_faultOfEntity_43 : decode b_Desk_faultOfEntity 43 = .ok (.invokevirtual 83, 3) := by decide +kernel
theorem d_Desk_faultOfEntity_46 : decode b_Desk_faultOfEntity 46 = .ok (.iadd, 1) := by decide +kernel
theorem d_Desk_faultOfEntity_47 : decode b_Desk_faultOfEntity 47 = .ok (.aload_n 0, 1) := by decide +kernel
theorem d_Desk_faultOfEntity_48 : decode b_Desk_faultOfEntity 48 = .ok (.getfield 50, 3) := by decide +kernel
theorem d_Desk_faultOfEntity_51 : decode b_Desk_faultOfEntity 51 = .ok (.if_icmp .le 8, 3) := by decide +kernel
theorem d_Desk_faultOfEntity_54 : decode b_Desk_faultOfEntity 54 = .ok (.bipush 14, 2) := by decide +kernel
theorem d_Desk_faultOfEntity_56 : decode b_Desk_faultOfEntity 56 = .ok (.goto 4, 3) := by decide +kernel
theorem d_Desk_faultOfEntity_59 : decode b_Desk_faultOfEntity 59 = .ok (.iconst 0, 1) := by decide +kernel
theorem d_Desk_faultOfEntity_60 : decode b_Desk_faultOfEntity 60 = .ok (.ireturn, 1) := by decide +kernel
end
section
theorem d_Ents_init_0 : decode b_Ents_init 0 = .ok (.aload_n 0, 1) := by decide +kernel
theorem d_Ents_init_1 : decode b_Ents_init 1 = .ok (.invokespecial 3, 3) := by decide +kernel
theorem d_Ents_init_4 : decode b_Ents_init 4 = .ok (.aload_n 0, 1) := by decide +kernel
theorem d_Ents_init_5 : decode b_Ents_init 5 = .ok (.sipush 2000, 3) := by decide +kernel
theorem d_Ents_init_8 : decode b_Ents_init 8 = .ok (.newarray .int, 2) := by decide +kernel
theorem d_Ents_init_10 : decode b_Ents_init 10 = .ok (.putfield 9, 3) := by decide +kernel
theorem d_Ents_init_13 : decode b_Ents_init 13 = .ok (.aload_n 0, 1) := by decide +kernel
theorem d_Ents_init_14 : decode b_Ents_init 14 = .ok (.bipush 26, 2) := by decide +kernel
theorem d_Ents_init_16 : decode b_Ents_init 16 = .ok (.newarray .int, 2) := by decide +kernel
theorem d_Ents_init_18 : decode b_Ents_init 18 = .ok (.putfield 15, 3) := by decide +kernel
theorem d_Ents_init_21 : decode b_Ents_init 21 = .ok (.aload_n 0, 1) := by decide +kernel
theorem d_Ents_init_22 : decode b_Ents_init 22 = .ok (.bipush 26, 2) := by decide +kernel
theorem d_Ents_init_24 : decode b_Ents_init 24 = .ok (.newarray .int, 2) := by decide +kernel
theorem d_Ents_init_26 : decode b_Ents_init 26 = .ok (.putfield 18, 3) := by decide +kernel
theorem d_Ents_init_29 : decode b_Ents_init 29 = .ok (.iconst 0, 1) := by decide +kernel
theorem d_Ents_init_30 : decode b_Ents_init 30 = .ok (.istore_n 1, 1) := by decide +kernel
theorem d_Ents_init_31 : decode b_Ents_init 31 = .ok (.iload_n 1, 1) := by decide +kernel
theorem d_Ents_init_32 : decode b_Ents_init 32 = .ok (.bipush 26, 2) := by decide +kernel
theorem d_Ents_init_34 : decode b_Ents_init 34 = .ok (.if_icmp .ge 16, 3) := by decide +kernel
theorem d_Ents_init_37 : decode b_Ents_init 37 = .ok (.aload_n 0, 1) := by decide +kernel
theorem d_Ents_init_38 : decode b_Ents_init 38 = .ok (.getfield 18, 3) := by decide +kernel
theorem d_Ents_init_41 : decode b_Ents_init 41 = .ok (.iload_n 1, 1) := by decide +kernel
theorem d_Ents_init_42 : decode b_Ents_init 42 = .ok (.iconst (-1), 1) := by decide +kernel
theorem d_Ents_init_43 : decode b_Ents_init 43 = .ok (.iastore, 1) := by decide +kernel
theorem d_Ents_init_44 : decode b_Ents_init 44 = .ok (.iinc 1 1, 3) := by decide +kernel
theorem d_Ents_init_47 : decode b_Ents_init 47 = .ok (.goto (-16), 3) := by decide +kernel
theorem d_Ents_init_50 : decode b_Ents_init 50 = .ok (.aload_n 0, 1) := by decide +kernel
theorem d_Ents_init_51 : decode b_Ents_init 51 = .ok (.iconst 0, 1) := by decide +kernel
theorem d_Ents_init_52 : decode b_Ents_init 52 = .ok (.putfield 21, 3) := by decide +kernel
theorem d_Ents_init_55 : decode b_Ents_init 55 = .ok (.aload_n 0, 1) := by decide +kernel
theorem d_Ents_init_56 : decode b_Ents_init 56 = .ok (.iconst 0, 1) := by decide +kernel
theorem d_Ents_init_57 : decode b_Ents_init 57 = .ok (.putfield 25, 3) := by decide +kernel
theorem d_Ents_init_60 : decode b_Ents_init 60 = .ok (.aload_n 0, 1) := by decide +kernel
theorem d_Ents_init_61 : decode b_Ents_init 61 = .ok (.iconst 0, 1) := by decide +kernel
theorem d_Ents_init_62 : decode b_Ents_init 62 = .ok (.putfield 28, 3) := by decide +kernel
theorem d_Ents_init_65 : decode b_Ents_init 65 = .ok (.return_, 1) := by decide +kernel
theorem d_Ents_has_0 : decode b_Ents_has 0 = .ok (.aload_n 0, 1) := by decide +kernel
theorem d_Ents_has_1 : decode b_Ents_has 1 = .ok (.getfield 18, 3) := by decide +kernel
theorem d_Ents_has_4 : decode b_Ents_has 4 = .ok (.iload_n 1, 1) := by decide +kernel
theorem d_Ents_has_5 : decode b_Ents_has 5 = .ok (.iaload, 1) := by decide +kernel
theorem d_Ents_has_6 : decode b_Ents_has 6 = .ok (.iconst (-1), 1) := by decide +kernel
theorem d_Ents_has_7 : decode b_Ents_has 7 = .ok (.if_icmp .eq 7, 3) := by decide +kernel
theorem d_Ents_has_10 : decode b_Ents_has 10 = .ok (.iconst 1, 1) := by decide +kernel
theorem d_Ents_has_11 : decode b_Ents_has 11 = .ok (.goto 4, 3) := by decide +kernel
theorem d_Ents_has_14 : decode b_Ents_has 14 = .ok (.iconst 0, 1) := by decide +kernel
theorem d_Ents_has_15 : decode b_Ents_has 15 = .ok (.ireturn, 1) := by decide +kernel
theorem d_Ents_startOf_0 : decode b_Ents_startOf 0 = .ok (.aload_n 0, 1) := by decide +kernel
theorem d_Ents_startOf_1 : decode b_Ents_startOf 1 = .ok (.getfield 15, 3) := by decide +kernel
theorem d_Ents_startOf_4 : decode b_Ents_startOf 4 = .ok (.iload_n 1, 1) := by decide +kernel
theorem d_Ents_startOf_5 : decode b_Ents_startOf 5 = .ok (.iaload, 1) := by decide +kernel
theorem d_Ents_startOf_6 : decode b_Ents_startOf 6 = .ok (.ireturn, 1) := by decide +kernel
theorem d_Ents_lengthOf_0 : decode b_Ents_lengthOf 0 = .ok (.aload_n 0, 1) := by decide +kernel
theorem d_Ents_lengthOf_1 : decode b_Ents_lengthOf 1 = .ok (.getfield 18, 3) := by decide +kernel
theorem d_Ents_lengthOf_4 : decode b_Ents_lengthOf 4 = .ok (.iload_n 1, 1) := by decide +kernel
theorem d_Ents_lengthOf_5 : decode b_Ents_lengthOf 5 = .ok (.iaload, 1) := by decide +kernel
theorem d_Ents_lengthOf_6 : decode b_Ents_lengthOf 6 = .ok (.ireturn, 1) := by decide +kernel
theorem d_Ents_characterOf_0 : decode b_Ents_characterOf 0 = .ok (.aload_n 0, 1) := by decide +kernel
theorem d_Ents_characterOf_1 : decode b_Ents_characterOf 1 = .ok (.getfield 9, 3) := by decide +kernel
theorem d_Ents_characterOf_4 : decode b_Ents_characterOf 4 = .ok (.aload_n 0, 1) := by decide +kernel
theorem d_Ents_characterOf_5 : decode b_Ents_characterOf 5 = .ok (.getfield 15, 3) := by decide +kernel
theorem d_Ents_characterOf_8 : decode b_Ents_characterOf 8 = .ok (.iload_n 1, 1) := by decide +kernel
theorem d_Ents_characterOf_9 : decode b_Ents_characterOf 9 = .ok (.iaload, 1) := by decide +kernel
theorem d_Ents_characterOf_10 : decode b_Ents_characterOf 10 = .ok (.iload_n 2, 1) := by decide +kernel
theorem d_Ents_characterOf_11 : decode b_Ents_characterOf 11 = .ok (.iadd, 1) := by decide +kernel
theorem d_Ents_characterOf_12 : decode b_Ents_characterOf 12 = .ok (.iaload, 1) := by decide +kernel
theorem d_Ents_characterOf_13 : decode b_Ents_characterOf 13 = .ok (.ireturn, 1) := by decide +kernel
theorem d_Ents_beginDraft_0 : decode b_Ents_beginDraft 0 = .ok (.aload_n 0, 1) := by decide +kernel
theorem d_Ents_beginDraft_1 : decode b_Ents_beginDraft 1 = .ok (.iconst 0, 1) := by decide +kernel
theorem d_Ents_beginDraft_2 : decode b_Ents_beginDraft 2 = .ok (.putfield 28, 3) := by decide +kernel
theorem d_Ents_beginDraft_5 : decode b_Ents_beginDraft 5 = .ok (.return_, 1) := by decide +kernel
theorem d_Ents_draft_0 : decode b_Ents_draft 0 = .ok (.aload_n 0, 1) := by decide +kernel
theorem d_Ents_draft_1 : decode b_Ents_draft 1 = .ok (.getfield 25, 3) := by decide +kernel
theorem d_Ents_draft_4 : decode b_Ents_draft 4 = .ok (.aload_n 0, 1) := by decide +kernel
theorem d_Ents_draft_5 : decode b_Ents_draft 5 = .ok (.getfield 28, 3) := by decide +kernel
theorem d_Ents_draft_8 : decode b_Ents_draft 8 = .ok (.iadd, 1) := by decide +kernel
theorem d_Ents_draft_9 : decode b_Ents_draft 9 = .ok (.sipush 2000, 3) := by decide +kernel
theorem d_Ents_draft_12 : decode b_Ents_draft 12 = .ok (.if_icmp .ge 18, 3) := by decide +kernel
theorem d_Ents_draft_15 : decode b_Ents_draft 15 = .ok (.aload_n 0, 1) := by decide +kernel
theorem d_Ents_draft_16 : decode b_Ents_draft 16 = .ok (.getfield 9, 3) := by decide +kernel
theorem d_Ents_draft_19 : decode b_Ents_draft 19 = .ok (.aload_n 0, 1) := by decide +kernel
theorem d_Ents_draft_20 : decode b_Ents_draft 20 = .ok (.getfield 25, 3) := by decide +kernel
theorem d_Ents_draft_23 : decode b_Ents_draft 23 = .ok (.aload_n 0, 1) := by decide +kernel
theorem d_Ents_draft_24 : decode b_Ents_draft 24 = .ok (.getfield 28, 3) := by decide +kernel
theorem d_Ents_draft_27 : decode b_Ents_draft 27 = .ok (.iadd, 1) := by decide +kernel
theorem d_Ents_draft_28 : decode b_Ents_draft 28 = .ok (.iload_n 1, 1) := by decide +kernel
theorem d_Ents_draft_29 : decode b_Ents_draft 29 = .ok (.iastore, 1) := by decide +kernel
theorem d_Ents_draft_30 : decode b_Ents_draft 30 = .ok (.aload_n 0, 1) := by decide +kernel
theorem d_Ents_draft_31 : decode b_Ents_draft 31 = .ok (.dup, 1) := by decide +kernel
theorem d_Ents_draft_32 : decode b_Ents_draft 32 = .ok (.getfield 28, 3) := by decide +kernel
theorem d_Ents_draft_35 : decode b_Ents_draft 35 = .ok (.iconst 1, 1) := by decide +kernel
theorem d_Ents_draft_36 : decode b_Ents_draft 36 = .ok (.iadd, 1) := by decide +kernel
theorem d_Ents_draft_37 : decode b_Ents_draft 37 = .ok (.putfield 28, 3) := by decide +kernel
theorem d_Ents_draft_40 : decode b_Ents_draft 40 = .ok (.return_, 1) := by decide +kernel
theorem d_Ents_draftFits_0 : decode b_Ents_draftFits 0 = .ok (.aload_n 0, 1) := by decide +kernel
theorem d_Ents_draftFits_1 : decode b_Ents_draftFits 1 = .ok (.getfield 25, 3) := by decide +kernel
theorem d_Ents_draftFits_4 : decode b_Ents_draftFits 4 = .ok (.aload_n 0, 1) := by decide +kernel
theorem d_Ents_draftFits_5 : decode b_Ents_draftFits 5 = .ok (.getfield 28, 3) := by decide +kernel
theorem d_Ents_draftFits_8 : decode b_Ents_draftFits 8 = .ok (.iadd, 1) := by decide +kernel
theorem d_Ents_draftFits_9 : decode b_Ents_draftFits 9 = .ok (.sipush 2000, 3) := by decide +kernel
theorem d_Ents_draftFits_12 : decode b_Ents_draftFits 12 = .ok (.if_icmp .gt 7, 3) := by decide +kernel
theorem d_Ents_draftFits_15 : decode b_Ents_draftFits 15 = .ok (.iconst 1, 1) := by decide +kernel
theorem d_Ents_draftFits_16 : decode b_Ents_draftFits 16 = .ok (.goto 4, 3) := by decide +kernel
theorem d_Ents_draftFits_19 : decode b_Ents_draftFits 19 = .ok (.iconst 0, 1) := by decide +kernel
theorem d_Ents_draftFits_20 : decode b_Ents_draftFits 20 = .ok (.ireturn, 1) := by decide +kernel
theorem d_Ents_keepDraft_0 : decode b_Ents_keepDraft 0 = .ok (.aload_n 0, 1) := by decide +kernel
theorem d_Ents_keepDraft_1 : decode b_Ents_keepDraft 1 = .ok (.getfield 15, 3) := by decide +kernel
theorem d_Ents_keepDraft_4 : decode b_Ents_keepDraft 4 = .ok (.iload_n 1, 1) := by decide +kernel
theorem d_Ents_keepDraft_5 : decode b_Ents_keepDraft 5 = .ok (.aload_n 0, 1) := by decide +kernel
theorem d_Ents_keepDraft_6 : decode b_Ents_keepDraft 6 = .ok (.getfield 25, 3) := by decide +kernel
theorem d_Ents_keepDraft_9 : decode b_Ents_keepDraft 9 = .ok (.iastore, 1) := by decide +kernel
theorem d_Ents_keepDraft_10 : decode b_Ents_keepDraft 10 = .ok (.aload_n 0, 1) := by decide +kernel
theorem d_Ents_keepDraft_11 : decode b_Ents_keepDraft 11 = .ok (.getfield 18, 3) := by decide +kernel
theorem d_Ents_keepDraft_14 : decode b_Ents_keepDraft 14 = .ok (.iload_n 1, 1) := by decide +kernel
theorem d_Ents_keepDraft_15 : decode b_Ents_keepDraft 15 = .ok (.aload_n 0, 1) := by decide +kernel
theorem d_Ents_keepDraft_16 : decode b_Ents_keepDraft 16 = .ok (.getfield 28, 3) := by decide +kernel
theorem d_Ents_keepDraft_19 : decode b_Ents_keepDraft 19 = .ok (.iastore, 1) := by decide +kernel
theorem d_Ents_keepDraft_20 : decode b_Ents_keepDraft 20 = .ok (.aload_n 0, 1) := by decide +kernel
theorem d_Ents_keepDraft_21 : decode b_Ents_keepDraft 21 = .ok (.dup, 1) := by decide +kernel
theorem d_Ents_keepDraft_22 : decode b_Ents_keepDraft 22 = .ok (.getfield 25, 3) := by decide +kernel
theorem d_Ents_keepDraft_25 : decode b_Ents_keepDraft 25 = .ok (.aload_n 0, 1) := by decide +kernel
theorem d_Ents_keepDraft_26 : decode b_Ents_keepDraft 26 = .ok (.getfield 28, 3) := by decide +kernel
theorem d_Ents_keepDraft_29 : decode b_Ents_keepDraft 29 = .ok (.iadd, 1) := by decide +kernel
theorem d_Ents_keepDraft_30 : decode b_Ents_keepDraft 30 = .ok (.putfield 25, 3) := by decide +kernel
theorem d_Ents_keepDraft_33 : decode b_Ents_keepDraft 33 = .ok (.aload_n 0, 1) := by decide +kernel
theorem d_Ents_keepDraft_34 : decode b_Ents_keepDraft 34 = .ok (.dup, 1) := by decide +kernel
theorem d_Ents_keepDraft_35 : decode b_Ents_keepDraft 35 = .ok (.getfield 21, 3) := by decide +kernel
theorem d_Ents_keepDraft_38 : decode b_Ents_keepDraft 38 = .ok (.iconst 1, 1) := by decide +kernel
theorem d_Ents_keepDraft_39 : decode b_Ents_keepDraft 39 = .ok (.iadd, 1) := by decide +kernel
theorem d_Ents_keepDraft_40 : decode b_Ents_keepDraft 40 = .ok (.putfield 21, 3) := by decide +kernel
theorem d_Ents_keepDraft_43 : decode b_Ents_keepDraft 43 = .ok (.return_, 1) := by decide +kernel
end
section
theorem d_Model_init_0 : decode b_Model_init 0 = .ok (.aload_n 0, 1) := by decide +kernel
theorem d_Model_init_1 : decode b_Model_init 1 = .ok (.invokespecial 1, 3) := by decide +kernel
theorem d_Model_init_4 : decode b_Model_init 4 = .ok (.aload_n 0, 1) := by decide +kernel
theorem d_Model_init_5 : decode b_Model_init 5 = .ok (.sipush 400, 3) := by decide +kernel
theorem d_Model_init_8 : decode b_Model_init 8 = .ok (.newarray .int, 2) := by decide +kernel
theorem d_Model_init_10 : decode b_Model_init 10 = .ok (.putfield 7, 3) := by decide +kernel
theorem d_Model_init_13 : decode b_Model_init 13 = .ok (.aload_n 0, 1) := by decide +kernel
theorem d_Model_init_14 : decode b_Model_init 14 = .ok (.sipush 2000, 3) := by decide +kernel
theorem d_Model_init_17 : decode b_Model_init 17 = .ok (.newarray .int, 2) := by decide +kernel
theorem d_Model_init_19 : decode b_Model_init 19 = .ok (.putfield 13, 3) := by decide +kernel
theorem d_Model_init_22 : decode b_Model_init 22 = .ok (.aload_n 0, 1) := by decide +kernel
theorem d_Model_init_23 : decode b_Model_init 23 = .ok (.bipush 26, 2) := by decide +kernel
theorem d_Model_init_25 : decode b_Model_init 25 = .ok (.newarray .int, 2) := by decide +kernel
theorem d_Model_init_27 : decode b_Model_init 27 = .ok (.putfield 16, 3) := by decide +kernel
theorem d_Model_init_30 : decode b_Model_init 30 = .ok (.aload_n 0, 1) := by decide +kernel
theorem d_Model_init_31 : decode b_Model_init 31 = .ok (.bipush 26, 2) := by decide +kernel
theorem d_Model_init_33 : decode b_Model_init 33 = .ok (.newarray .int, 2) := by decide +kernel
theorem d_Model_init_35 : decode b_Model_init 35 = .ok (.putfield 19, 3) := by decide +kernel
theorem d_Model_init_38 : decode b_Model_init 38 = .ok (.aload_n 0, 1) := by decide +kernel
theorem d_Model_init_39 : decode b_Model_init 39 = .ok (.bipush 26, 2) := by decide +kernel
theorem d_Model_init_41 : decode b_Model_init 41 = .ok (.newarray .boolean, 2) := by decide +kernel
theorem d_Model_init_43 : decode b_Model_init 43 = .ok (.putfield 22, 3) := by decide +kernel
theorem d_Model_init_46 : decode b_Model_init 46 = .ok (.aload_n 0, 1) := by decide +kernel
theorem d_Model_init_47 : decode b_Model_init 47 = .ok (.sipush 2600, 3) := by decide +kernel
theorem d_Model_init_50 : decode b_Model_init 50 = .ok (.newarray .int, 2) := by decide +kernel
theorem d_Model_init_52 : decode b_Model_init 52 = .ok (.putfield 26, 3) := by decide +kernel
theorem d_Model_init_55 : decode b_Model_init 55 = .ok (.aload_n 0, 1) := by decide +kernel
theorem d_Model_init_56 : decode b_Model_init 56 = .ok (.bipush 26, 2) := by decide +kernel
theorem d_Model_init_58 : decode b_Model_init 58 = .ok (.newarray .boolean, 2) := by decide +kernel
theorem d_Model_init_60 : decode b_Model_init 60 = .ok (.putfield 29, 3) := by decide +kernel
theorem d_Model_init_63 : decode b_Model_init 63 = .ok (.aload_n 0, 1) := by decide +kernel
theorem d_Model_init_64 : decode b_Model_init 64 = .ok (.sipush 3000, 3) := by decide +kernel
theorem d_Model_init_67 : decode b_Model_init 67 = .ok (.newarray .int, 2) := by decide +kernel
theorem d_Model_init_69 : decode b_Model_init 69 = .ok (.putfield 32, 3) := by decide +kernel
theorem d_Model_init_72 : decode b_Model_init 72 = .ok (.aload_n 0, 1) := by decide +kernel
theorem d_Model_init_73 : decode b_Model_init 73 = .ok (.iconst (-1), 1) := by decide +kernel
theorem d_Model_init_74 : decode b_Model_init 74 = .ok (.putfield 35, 3) := by decide +kernel
theorem d_Model_init_77 : decode b_Model_init 77 = .ok (.return_, 1) := by decide +kernel
theorem d_Model_put_0 : decode b_Model_put 0 = .ok (.iload_n 3, 1) := by decide +kernel
theorem d_Model_put_1 : decode b_Model_put 1 = .ok (.iconst 1, 1) := by decide +kernel
theorem d_Model_put_2 : decode b_Model_put 2 = .ok (.if_icmp .lt 21, 3) := by decide +kernel
theorem d_Model_put_5 : decode b_Model_put 5 = .ok (.iload_n 3, 1) := by decide +kernel
theorem d_Model_put_6 : decode b_Model_put 6 = .ok (.bipush 8, 2) := by decide +kernel
theorem d_Model_put_8 : decode b_Model_put 8 = .ok (.if_icmp .gt 15, 3) := by decide +kernel
theorem d_Model_put_11 : decode b_Model_put 11 = .ok (.aload_n 0, 1) := by decide +kernel
theorem d_Model_put_12 : decode b_Model_put 12 = .ok (.getfield 39, 3) := by decide +kernel
theorem d_Model_put_15 : decode b_Model_put 15 = .ok (.iload_n 3, 1) := by decide +kernel
theorem d_Model_put_16 : decode b_Model_put 16 = .ok (.iadd, 1) := by decide +kernel
theorem d_Model_put_17 : decode b_Model_put 17 = .ok (.sipush 400, 3) := by decide +kernel
theorem d_Model_put_20 : decode b_Model_put 20 = .ok (.if_icmp .le 5, 3) := by decide +kernel
theorem d_Model_put_23 : decode b_Model_put 23 = .ok (.iconst 0, 1) := by decide +kernel
theorem d_Model_put_24 : decode b_Model_put 24 = .ok (.ireturn, 1) := by decide +kernel
theorem d_Model_put_25 : decode b_Model_put 25 = .ok (.iconst 0, 1) := by decide +kernel
theorem d_Model_put_26 : decode b_Model_put 26 = .ok (.istore 4, 2) := by decide +kernel
theorem d_Model_put_28 : decode b_Model_put 28 = .ok (.iload 4, 2) := by decide +kernel
theorem d_Model_put_30 : decode b_Model_put 30 = .ok (.iload_n 3, 1) := by decide +kernel
theorem d_Model_put_31 : decode b_Model_put 31 = .ok (.if_icmp .ge 37, 3) := by decide +kernel
theorem d_Model_put_34 : decode b_Model_put 34 = .ok (.aload_n 0, 1) := by decide +kernel
theorem d_Model_put_35 : decode b_Model_put 35 = .ok (.getfield 7, 3) := by decide +kernel
theorem d_Model_put_38 : decode b_Model_put 38 = .ok (.aload_n 0, 1) := by decide +kernel
theorem d_Model_put_39 : decode b_Model_put 39 = .ok (.getfield 39, 3) := by decide +kernel
theorem d_Model_put_42 : decode b_Model_put 42 = .ok (.iload 4, 2) := by decide +kernel
theorem d_Model_put_44 : decode b_Model_put 44 = .ok (.iadd, 1) := by decide +kernel
theorem d_Model_put_45 : decode b_Model_put 45 = .ok (.lload_n 1, 1) := by decide +kernel
theorem d_Model_put_46 : decode b_Model_put 46 = .ok (.bipush 8, 2) := by decide +kernel
theorem d_Model_put_48 : decode b_Model_put 48 = .ok (.iload_n 3, 1) := by decide +kernel
theorem d_Model_put_49 : decode b_Model_put 49 = .ok (.iconst 1, 1) := by decide +kernel
theorem d_Model_put_50 : decode b_Model_put 50 = .ok (.isub, 1) := by decide +kernel
theorem d_Model_put_51 : decode b_Model_put 51 = .ok (.iload 4, 2) := by decide +kernel
theorem d_Model_put_53 : decode b_Model_put 53 = .ok (.isub, 1) := by decide +kernel
theorem d_Model_put_54 : decode b_Model_put 54 = .ok (.imul, 1) := by decide +kernel
theorem d_Model_put_55 : decode b_Model_put 55 = .ok (.lshr, 1) := by decide +kernel
theorem d_Model_put_56 : decode b_Model_put 56 = .ok (.ldc2_w 42, 3) := by decide +kernel
theorem d_Model_put_59 : decode b_Model_put 59 = .ok (.land, 1) := by decide +kernel
theorem d_Model_put_60 : decode b_Model_put 60 = .ok (.l2i, 1) := by decide +kernel
theorem d_Model_put_61 : decode b_Model_put 61 = .ok (.iastore, 1) := by decide +kernel
theorem d_Model_put_62 : decode b_Model_put 62 = .ok (.iinc 4 1, 3) := by decide +kernel
theorem d_Model_put_65 : decode b_Model_put 65 = .ok (.goto (-37), 3) := by decide +kernel
theorem d_Model_put_68 : decode b_Model_put 68 = .ok (.aload_n 0, 1) := by decide +kernel
theorem d_Model_put_69 : decode b_Model_put 69 = .ok (.aload_n 0, 1) := by decide +kernel
theorem d_Model_put_70 : decode b_Model_put 70 = .ok (.getfield 39, 3) := by decide +kernel
theorem d_Model_put_73 : decode b_Model_put 73 = .ok (.iload_n 3, 1) := by decide +kernel
theorem d_Model_put_74 : decode b_Model_put 74 = .ok (.iadd, 1) := by decide +kernel
theorem d_Model_put_75 : decode b_Model_put 75 = .ok (.putfield 39, 3) := by decide +kernel
theorem d_Model_put_78 : decode b_Model_put 78 = .ok (.iconst 1, 1) := by decide +kernel
theorem d_Model_put_79 : decode b_Model_put 79 = .ok (.ireturn, 1) := by decide +kernel
theorem d_Model_fail_0 : decode b_Model_fail 0 = .ok (.aload_n 0, 1) := by decide +kernel
theorem d_Model_fail_1 : decode b_Model_fail 1 = .ok (.iload_n 1, 1) := by decide +kernel
theorem d_Model_fail_2 : decode b_Model_fail 2 = .ok (.putfield 44, 3) := by decide +kernel
theorem d_Model_fail_5 : decode b_Model_fail 5 = .ok (.aload_n 0, 1) := by decide +kernel
theorem d_Model_fail_6 : decode b_Model_fail 6 = .ok (.aload_n 0, 1) := by decide +kernel
theorem d_Model_fail_7 : decode b_Model_fail 7 = .ok (.getfield 47, 3) := by decide +kernel
theorem d_Model_fail_10 : decode b_Model_fail 10 = .ok (.ifCond .le 10, 3) := by decide +kernel
theorem d_Model_fail_13 : decode b_Model_fail 13 = .ok (.aload_n 0, 1) := by decide +kernel
theorem d_Model_fail_14 : decode b_Model_fail 14 = .ok (.getfield 50, 3) := by decide +kernel
theorem d_Model_fail_17 : decode b_Model_fail 17 = .ok (.goto 4, 3) := by decide +kernel
theorem d_Model_fail_20 : decode b_Model_fail 20 = .ok (.iload_n 2, 1) := by decide +kernel
theorem d_Model_fail_21 : decode b_Model_fail 21 = .ok (.putfield 35, 3) := by decide +kernel
theorem d_Model_fail_24 : decode b_Model_fail 24 = .ok (.iconst (-1), 1) := by decide +kernel
theorem d_Model_fail_25 : decode b_Model_fail 25 = .ok (.ireturn, 1) := by decide +kernel
theorem d_Model_peek_0 : decode b_Model_peek 0 = .ok (.aload_n 0, 1) := by decide +kernel
theorem d_Model_peek_1 : decode b_Model_peek 1 = .ok (.getfield 53, 3) := by decide +kernel
theorem d_Model_peek_4 : decode b_Model_peek 4 = .ok (.ifCond .eq 17, 3) := by decide +kernel
theorem d_Model_peek_7 : decode b_Model_peek 7 = .ok (.aload_n 0, 1) := by decide +kernel
theorem d_Model_peek_8 : decode b_Model_peek 8 = .ok (.getfield 26, 3) := by decide +kernel
theorem d_Model_peek_11 : decode b_Model_peek 11 = .ok (.aload_n 0, 1) := by decide +kernel
theorem d_Model_peek_12 : decode b_Model_peek 12 = .ok (.getfield 53, 3) := by decide +kernel
theorem d_Model_peek_15 : decode b_Model_peek 15 = .ok (.iconst 1, 1) := by decide +kernel
theorem d_Model_peek_16 : decode b_Model_peek 16 = .ok (.isub, 1) := by decide +kernel
theorem d_Model_peek_17 : decode b_Model_peek 17 = .ok (.iaload, 1) := by decide +kernel
theorem d_Model_peek_18 : decode b_Model_peek 18 = .ok (.ifCond .ge 7, 3) := by decide +kernel
theorem d_Model_peek_21 : decode b_Model_peek 21 = .ok (.iconst (-1), 1) := by decide +kernel
theorem d_Model_peek_22 : decode b_Model_peek 22 = .ok (.goto 14, 3) := by decide +kernel
theorem d_Model_peek_25 : decode b_Model_peek 25 = .ok (.aload_n 0, 1) := by decide +kernel
theorem d_Model_peek_26 : decode b_Model_peek 26 = .ok (.getfield 26, 3) := by decide +kernel
theorem d_Model_peek_29 : decode b_Model_peek 29 = .ok (.aload_n 0, 1) := by decide +kernel
theorem d_Model_peek_30 : decode b_Model_peek 30 = .ok (.getfield 53, 3) := by decide +kernel
theorem d_Model_peek_33 : decode b_Model_peek 33 = .ok (.iconst 1, 1) := by decide +kernel
theorem d_Model_peek_34 : decode b_Model_peek 34 = .ok (.isub, 1) := by decide +kernel
theorem d_Model_peek_35 : decode b_Model_peek 35 = .ok (.iaload, 1) := by decide +kernel
theorem d_Model_peek_36 : decode b_Model_peek 36 = .ok (.ireturn, 1) := by decide +kernel
theorem d_Model_pass_0 : decode b_Model_pass 0 = .ok (.aload_n 0, 1) := by decide +kernel
theorem d_Model_pass_1 : decode b_Model_pass 1 = .ok (.aload_n 0, 1) := by decide +kernel
theorem d_Model_pass_2 : decode b_Model_pass 2 = .ok (.getfield 53, 3) := by decide +kernel
theorem d_Model_pass_5 : decode b_Model_pass 5 = .ok (.iconst 1, 1) := by decide +kernel
theorem d_Model_pass_6 : decode b_Model_pass 6 = .ok (.isub, 1) := by decide +kernel
theorem d_Model_pass_7 : decode b_Model_pass 7 = .ok (.putfield 53, 3) := by decide +kernel
theorem d_Model_pass_10 : decode b_Model_pass 10 = .ok (.aload_n 0, 1) := by decide +kernel
theorem d_Model_pass_11 : decode b_Model_pass 11 = .ok (.getfield 47, 3) := by decide +kernel
theorem d_Model_pass_14 : decode b_Model_pass 14 = .ok (.ifCond .ne 13, 3) := by decide +kernel
theorem d_Model_pass_17 : decode b_Model_pass 17 = .ok (.aload_n 0, 1) := by decide +kernel
theorem d_Model_pass_18 : decode b_Model_pass 18 = .ok (.aload_n 0, 1) := by decide +kernel
theorem d_Model_pass_19 : decode b_Model_pass 19 = .ok (.getfield 56, 3) := by decide +kernel
theorem d_Model_pass_22 : decode b_Model_pass 22 = .ok (.iconst 1, 1) := by decide +kernel
theorem d_Model_pass_23 : decode b_Model_pass 23 = .ok (.iadd, 1) := by decide +kernel
theorem d_Model_pass_24 : decode b_Model_pass 24 = .ok (.putfield 56, 3) := by decide +kernel
theorem d_Model_pass_27 : decode b_Model_pass 27 = .ok (.return_, 1) := by decide +kernel
theorem d_Model_digit_0 : decode b_Model_digit 0 = .ok (.iload_n 0, 1) := by decide +kernel
theorem d_Model_digit_1 : decode b_Model_digit 1 = .ok (.bipush 48, 2) := by decide +kernel
theorem d_Model_digit_3 : decode b_Model_digit 3 = .ok (.if_icmp .lt 14, 3) := by decide +kernel
theorem d_Model_digit_6 : decode b_Model_digit 6 = .ok (.iload_n 0, 1) := by decide +kernel
theorem d_Model_digit_7 : decode b_Model_digit 7 = .ok (.bipush 57, 2) := by decide +kernel
theorem d_Model_digit_9 : decode b_Model_digit 9 = .ok (.if_icmp .gt 8, 3) := by decide +kernel
theorem d_Model_digit_12 : decode b_Model_digit 12 = .ok (.iload_n 0, 1) := by decide +kernel
theorem d_Model_digit_13 : decode b_Model_digit 13 = .ok (.bipush 48, 2) := by decide +kernel
theorem d_Model_digit_15 : decode b_Model_digit 15 = .ok (.isub, 1) := by decide +kernel
theorem d_Model_digit_16 : decode b_Model_digit 16 = .ok (.ireturn, 1) := by decide +kernel
theorem d_Model_digit_17 : decode b_Model_digit 17 = .ok (.iload_n 1, 1) := by decide +kernel
theorem d_Model_digit_18 : decode b_Model_digit 18 = .ok (.bipush 16, 2) := by decide +kernel
theorem d_Model_digit_20 : decode b_Model_digit 20 = .ok (.if_icmp .ne 23, 3) := by decide +kernel
theorem d_Model_digit_23 : decode b_Model_digit 23 = .ok (.iload_n 0, 1) := by decide +kernel
theorem d_Model_digit_24 : decode b_Model_digit 24 = .ok (.bipush 97, 2) := by decide +kernel
theorem d_Model_digit_26 : decode b_Model_digit 26 = .ok (.if_icmp .lt 17, 3) := by decide +kernel
theorem d_Model_digit_29 : decode b_Model_digit 29 = .ok (.iload_n 0, 1) := by decide +kernel
theorem d_Model_digit_30 : decode b_Model_digit 30 = .ok (.bipush 102, 2) := by decide +kernel
theorem d_Model_digit_32 : decode b_Model_digit 32 = .ok (.if_icmp .gt 11, 3) := by decide +kernel
theorem d_Model_digit_35 : decode b_Model_digit 35 = .ok (.iload_n 0, 1) := by decide +kernel
theorem d_Model_digit_36 : decode b_Model_digit 36 = .ok (.bipush 97, 2) := by decide +kernel
theorem d_Model_digit_38 : decode b_Model_digit 38 = .ok (.isub, 1) := by decide +kernel
theorem d_Model_digit_39 : decode b_Model_digit 39 = .ok (.bipush 10, 2) := by decide +kernel
theorem d_Model_digit_41 : decode b_Model_digit 41 = .ok (.iadd, 1) := by decide +kernel
theorem d_Model_digit_42 : decode b_Model_digit 42 = .ok (.ireturn, 1) := by decide +kernel
theorem d_Model_digit_43 : decode b_Model_digit 43 = .ok (.iload_n 1, 1) := by decide +kernel
theorem d_Model_digit_44 : decode b_Model_digit 44 = .ok (.bipush 16, 2) := by decide +kernel
theorem d_Model_digit_46 : decode b_Model_digit 46 = .ok (.if_icmp .ne 25, 3) := by decide +kernel
theorem d_Model_digit_49 : decode b_Model_digit 49 = .ok (.iload_n 0, 1) := by decide +kernel
theorem d_Model_digit_50 : decode b_Model_digit 50 = .ok (.bipush 65, 2) := by decide +kernel
theorem d_Model_digit_52 : decode b_Model_digit 52 = .ok (.if_icmp .lt 19, 3) := by decide +kernel
theorem d_Model_digit_55 : decode b_Model_digit 55 = .ok (.iload_n 0, 1) := by decide +kernel
theorem d_Model_digit_56 : decode b_Model_digit 56 = .ok (.bipush 70, 2) := by decide +kernel
theorem d_Model_digit_58 : decode b_Model_digit 58 = .ok (.if_icmp .gt 13, 3) := by decide +kernel
theorem d_Model_digit_61 : decode b_Model_digit 61 = .ok (.iload_n 0, 1) := by decide +kernel
theorem d_Model_digit_62 : decode b_Model_digit 62 = .ok (.bipush 65, 2) := by decide +kernel
theorem d_Model_digit_64 : decode b_Model_digit 64 = .ok (.isub, 1) := by decide +kernel
theorem d_Model_digit_65 : decode b_Model_digit 65 = .ok (.bipush 10, 2) := by decide +kernel
theorem d_Model_digit_67 : decode b_Model_digit 67 = .ok (.iadd, 1) := by decide +kernel
theorem d_Model_digit_68 : decode b_Model_digit 68 = .ok (.goto 4, 3) := by decide +kernel
theorem d_Model_digit_71 : decode b_Model_digit 71 = .ok (.iconst (-1), 1) := by decide +kernel
theorem d_Model_digit_72 : decode b_Model_digit 72 = .ok (.ireturn, 1) := by decide +kernel
theorem d_Model_broken_0 : decode b_Model_broken 0 = .ok (.aload_n 0, 1) := by decide +kernel
theorem d_Model_broken_1 : decode b_Model_broken 1 = .ok (.getfield 47, 3) := by decide +kernel
theorem d_Model_broken_4 : decode b_Model_broken 4 = .ok (.ifCond .le 20, 3) := by decide +kernel
theorem d_Model_broken_7 : decode b_Model_broken 7 = .ok (.aload_n 0, 1) := by decide +kernel
theorem d_Model_broken_8 : decode b_Model_broken 8 = .ok (.invokevirtual 59, 3) := by decide +kernel
theorem d_Model_broken_11 : decode b_Model_broken 11 = .ok (.ifCond .ge 13, 3) := by decide +kernel
theorem d_Model_broken_14 : decode b_Model_broken 14 = .ok (.aload_n 0, 1) := by decide +kernel
theorem d_Model_broken_15 : decode b_Model_broken 15 = .ok (.bipush 13, 2) := by decide +kernel
theorem d_Model_broken_17 : decode b_Model_broken 17 = .ok (.iconst 0, 1) := by decide +kernel
theorem d_Model_broken_18 : decode b_Model_broken 18 = .ok (.invokevirtual 63, 3) := by decide +kernel
theorem d_Model_broken_21 : decode b_Model_broken 21 = .ok (.goto 12, 3) := by decide +kernel
theorem d_Model_broken_24 : decode b_Model_broken 24 = .ok (.aload_n 0, 1) := by decide +kernel
theorem d_Model_broken_25 : decode b_Model_broken 25 = .ok (.iconst 2, 1) := by decide +kernel
theorem d_Model_broken_26 : decode b_Model_broken 26 = .ok (.aload_n 0, 1) := by decide +kernel
theorem d_Model_broken_27 : decode b_Model_broken 27 = .ok (.getfield 56, 3) := by decide +kernel
theorem d_Model_broken_30 : decode b_Model_broken 30 = .ok (.invokevirtual 63, 3) := by decide +kernel
theorem d_Model_broken_33 : decode b_Model_broken 33 = .ok (.ireturn, 1) := by decide +kernel
theorem d_Model_reference_0 : decode b_Model_reference 0 = .ok (.aload_n 0, 1) := by decide +kernel
theorem d_Model_reference_1 : decode b_Model_reference 1 = .ok (.invokevirtual 59, 3) := by decide +kernel
theorem d_Model_reference_4 : decode b_Model_reference 4 = .ok (.istore_n 2, 1) := by decide +kernel
theorem d_Model_reference_5 : decode b_Model_reference 5 = .ok (.aload_n 0, 1) := by decide +kernel
theorem d_Model_reference_6 : decode b_Model_reference 6 = .ok (.iconst (-1), 1) := by decide +kernel
theorem d_Model_reference_7 : decode b_Model_reference 7 = .ok (.putfield 67, 3) := by decide +kernel
theorem d_Model_reference_10 : decode b_Model_reference 10 = .ok (.aload_n 0, 1) := by decide +kernel
theorem d_Model_reference_11 : decode b_Model_reference 11 = .ok (.lconst 0, 1) := by decide +kernel
theorem d_Model_reference_12 : decode b_Model_reference 12 = .ok (.putfield 70, 3) := by decide +kernel
theorem d_Model_reference_15 : decode b_Model_reference 15 = .ok (.iload_n 2, 1) := by decide +kernel
theorem d_Model_reference_16 : decode b_Model_reference 16 = .ok (.bipush 97, 2) := by decide +kernel
theorem d_Model_reference_18 : decode b_Model_reference 18 = .ok (.if_icmp .lt 24, 3) := by decide +kernel
theorem d_Model_reference_21 : decode b_Model_reference 21 = .ok (.iload_n 2, 1) := by decide +kernel
theorem d_Model_reference_22 : decode b_Model_reference 22 = .ok (.bipush 122, 2) := by decide +kernel
theorem d_Model_reference_24 : decode b_Model_reference 24 = .ok (.if_icmp .gt 18, 3) := by decide +kernel
theorem d_Model_reference_27 : decode b_Model_reference 27 = .ok (.aload_n 0, 1) := by decide +kernel
theorem d_Model_reference_28 : decode b_Model_reference 28 = .ok (.iload_n 2, 1) := by decide +kernel
theorem d_Model_reference_29 : decode b_Model_reference 29 = .ok (.bipush 97, 2) := by decide +kernel
theorem d_Model_reference_31 : decode b_Model_reference 31 = .ok (.isub, 1) := by decide +kernel
theorem d_Model_reference_32 : decode b_Model_reference 32 = .ok (.putfield 67, 3) := by decide +kernel
theorem d_Model_reference_35 : decode b_Model_reference 35 = .ok (.aload_n 0, 1) := by decide +kernel
theorem d_Model_reference_36 : decode b_Model_reference 36 = .ok (.invokevirtual 74, 3) := by decide +kernel
theorem d_Model_reference_39 : decode b_Model_reference 39 = .ok (.goto 128, 3) := by decide +kernel
theorem d_Model_reference_42 : decode b_Model_reference 42 = .ok (.iload_n 2, 1) := by decide +kernel
theorem d_Model_reference_43 : decode b_Model_reference 43 = .ok (.bipush 35, 2) := by decide +kernel
theorem d_Model_reference_45 : decode b_Model_reference 45 = .ok (.if_icmp .ne 117, 3) := by decide +kernel
theorem d_Model_reference_48 : decode b_Model_reference 48 = .ok (.aload_n 0, 1) := by decide +kernel
theorem d_Model_reference_49 : decode b_Model_reference 49 = .ok (.invokevirtual 74, 3) := by decide +kernel
theorem d_Model_reference_52 : decode b_Model_reference 52 = .ok (.aload_n 0, 1) := by decide +kernel
theorem d_Model_reference_53 : decode b_Model_reference 53 = .ok (.invokevirtual 59, 3) := by decide +kernel
theorem d_Model_reference_56 : decode b_Model_reference 56 = .ok (.bipush 120, 2) := by decide +kernel
theorem d_Model_reference_58 : decode b_Model_reference 58 = .ok (.if_icmp .ne 8, 3) := by decide +kernel
theorem d_Model_reference_61 : decode b_Model_reference 61 = .ok (.bipush 16, 2) := by decide +kernel
theorem d_Model_reference_63 : decode b_Model_reference 63 = .ok (.goto 5, 3) := by decide +kernel
theorem d_Model_reference_66 : decode b_Model_reference 66 = .ok (.bipush 10, 2) := by decide +kernel
theorem d_Model_reference_68 : decode b_Model_reference 68 = .ok (.istore_n 3, 1) := by decide +kernel
theorem d_Model_reference_69 : decode b_Model_reference 69 = .ok (.iload_n 3, 1) := by decide +kernel
theorem d_Model_reference_70 : decode b_Model_reference 70 = .ok (.bipush 16, 2) := by decide +kernel
theorem d_Model_reference_72 : decode b_Model_reference 72 = .ok (.if_icmp .ne 7, 3) := by decide +kernel
theorem d_Model_reference_75 : decode b_Model_reference 75 = .ok (.aload_n 0, 1) := by decide +kernel
theorem d_Model_reference_76 : decode b_Model_reference 76 = .ok (.invokevirtual 74, 3) := by decide +kernel
theorem d_Model_reference_79 : decode b_Model_reference 79 = .ok (.aload_n 0, 1) := by decide +kernel
theorem d_Model_reference_80 : decode b_Model_reference 80 = .ok (.invokevirtual 59, 3) := by decide +kernel
theorem d_Model_reference_83 : decode b_Model_reference 83 = .ok (.iload_n 3, 1) := by decide +kernel
theorem d_Model_reference_84 : decode b_Model_reference 84 = .ok (.invokestatic 77, 3) := by decide +kernel
theorem d_Model_reference_87 : decode b_Model_reference 87 = .ok (.ifCond .ge 8, 3) := by decide +kernel
theorem d_Model_reference_90 : decode b_Model_reference 90 = .ok (.aload_n 0, 1) := by decide +kernel
theorem d_Model_reference_91 : decode b_Model_reference 91 = .ok (.invokevirtual 80, 3) := by decide +kernel
theorem d_Model_reference_94 : decode b_Model_reference 94 = .ok (.ireturn, 1) := by decide +kernel
theorem d_Model_reference_95 : decode b_Model_reference 95 = .ok (.aload_n 0, 1) := by decide +kernel
theorem d_Model_reference_96 : decode b_Model_reference 96 = .ok (.invokevirtual 59, 3) := by decide +kernel
theorem d_Model_reference_99 : decode b_Model_reference 99 = .ok (.iload_n 3, 1) := by decide +kernel
theorem d_Model_reference_100 : decode b_Model_reference 100 = .ok (.invokestatic 77, 3) := by decide +kernel
theorem d_Model_reference_103 : decode b_Model_reference 103 = .ok (.ifCond .lt 56, 3) := by decide +kernel
theorem d_Model_reference_106 : decode b_Model_reference 106 = .ok (.aload_n 0, 1) := by decide +kernel
theorem d_Model_reference_107 : decode b_Model_reference 107 = .ok (.aload_n 0, 1) := by decide +kernel
theorem d_Model_reference_108 : decode b_Model_reference 108 = .ok (.getfield 70, 3) := by decide +kernel
theorem d_Model_reference_111 : decode b_Model_reference 111 = .ok (.iload_n 3, 1) := by decide +kernel
theorem d_Model_reference_112 : decode b_Model_reference 112 = .ok (.i2l, 1) := by decide +kernel
theorem d_Model_reference_113 : decode b_Model_reference 113 = .ok (.lmul, 1) := by decide +kernel
theorem d_Model_reference_114 : decode b_Model_reference 114 = .ok (.aload_n 0, 1) := by decide +kernel
theorem d_Model_reference_115 : decode b_Model_reference 115 = .ok (.invokevirtual 59, 3) := by decide +kernel
theorem d_Model_reference_118 : decode b_Model_reference 118 = .ok (.iload_n 3, 1) := by decide +kernel
theorem d_Model_reference_119 : decode b_Model_reference 119 = .ok (.invokestatic 77, 3) := by decide +kernel
theorem d_Model_reference_122 : decode b_Model_reference 122 = .ok (.i2l, 1) := by decide +kernel
theorem d_Model_reference_123 : decode b_Model_reference 123 = .ok (.ladd, 1) := by decide +kernel
theorem d_Model_reference_124 : decode b_Model_reference 124 = .ok (.putfield 70, 3) := by decide +kernel
theorem d_Model_reference_127 : decode b_Model_reference 127 = .ok (.aload_n 0, 1) := by decide +kernel
theorem d_Model_reference_128 : decode b_Model_reference 128 = .ok (.aload_n 0, 1) := by decide +kernel
theorem d_Model_reference_129 : decode b_Model_reference 129 = .ok (.getfield 70, 3) := by decide +kernel
theorem d_Model_reference_132 : decode b_Model_reference 132 = .ok (.ldc2_w 83, 3) := by decide +kernel
theorem d_Model_reference_135 : decode b_Model_reference 135 = .ok (.lcmp, 1) := by decide +kernel
theorem d_Model_reference_136 : decode b_Model_reference 136 = .ok (.ifCond .le 9, 3) := by decide +kernel
theorem d_Model_reference_139 : decode b_Model_reference 139 = .ok (.ldc2_w 83, 3) := by decide +kernel
theorem d_Model_reference_142 : decode b_Model_reference 142 = .ok (.goto 7, 3) := by decide +kernel
theorem d_Model_reference_145 : decode b_Model_reference 145 = .ok (.aload_n 0, 1) := by decide +kernel
theorem d_Model_reference_146 : decode b_Model_reference 146 = .ok (.getfield 70, 3) := by decide +kernel
theorem d_Model_reference_149 : decode b_Model_reference 149 = .ok (.putfield 70, 3) := by decide +kernel
theorem d_Model_reference_152 : decode b_Model_reference 152 = .ok (.aload_n 0, 1) := by decide +kernel
theorem d_Model_reference_153 : decode b_Model_reference 153 = .ok (.invokevirtual 74, 3) := by decide +kernel
theorem d_Model_reference_156 : decode b_Model_reference 156 = .ok (.goto (-61), 3) := by decide +kernel
theorem d_Model_reference_159 : decode b_Model_reference 159 = .ok (.goto 8, 3) := by decide +kernel
theorem d_Model_reference_162 : decode b_Model_reference 162 = .ok (.aload_n 0, 1) := by decide +kernel
theorem d_Model_reference_163 : decode b_Model_reference 163 = .ok (.invokevirtual 80, 3) := by decide +kernel
theorem d_Model_reference_166 : decode b_Model_reference 166 = .ok (.ireturn, 1) := by decide +kernel
theorem d_Model_reference_167 : decode b_Model_reference 167 = .ok (.aload_n 0, 1) := by decide +kernel
theorem d_Model_reference_168 : decode b_Model_reference 168 = .ok (.invokevirtual 59, 3) := by decide +kernel
theorem d_Model_reference_171 : decode b_Model_reference 171 = .ok (.bipush 59, 2) := by decide +kernel
theorem d_Model_reference_173 : decode b_Model_reference 173 = .ok (.if_icmp .eq 8, 3) := by decide +kernel
theorem d_Model_reference_176 : decode b_Model_reference 176 = .ok (.aload_n 0, 1) := by decide +kernel
theorem d_Model_reference_177 : decode b_Model_reference 177 = .ok (.invokevirtual 80, 3) := by decide +kernel
theorem d_Model_reference_180 : decode b_Model_reference 180 = .ok (.ireturn, 1) := by decide +kernel
theorem d_Model_reference_181 : decode b_Model_reference 181 = .ok (.aload_n 0, 1) := by decide +kernel
theorem d_Model_reference_182 : decode b_Model_reference 182 = .ok (.invokevirtual 74, 3) := by decide +kernel
theorem d_Model_reference_185 : decode b_Model_reference 185 = .ok (.aload_n 0, 1) := by decide +kernel
theorem d_Model_reference_186 : decode b_Model_reference 186 = .ok (.getfield 70, 3) := by decide +kernel
theorem d_Model_reference_189 : decode b_Model_reference 189 = .ok (.ldc2_w 85, 3) := by decide +kernel
theorem d_Model_reference_192 : decode b_Model_reference 192 = .ok (.lcmp, 1) := by decide +kernel
theorem d_Model_reference_193 : decode b_Model_reference 193 = .ok (.ifCond .eq 47, 3) := by decide +kernel
theorem d_Model_reference_196 : decode b_Model_reference 196 = .ok (.aload_n 0, 1) := by decide +kernel
theorem d_Model_reference_197 : decode b_Model_reference 197 = .ok (.getfield 70, 3) := by decide +kernel
theorem d_Model_reference_200 : decode b_Model_reference 200 = .ok (.ldc2_w 87, 3) := by decide +kernel
theorem d_Model_reference_203 : decode b_Model_reference 203 = .ok (.lcmp, 1) := by decide +kernel
theorem d_Model_reference_204 : decode b_Model_reference 204 = .ok (.ifCond .eq 36, 3) := by decide +kernel
theorem d_Model_reference_207 : decode b_Model_reference 207 = .ok (.aload_n 0, 1) := by decide +kernel
theorem d_Model_reference_208 : decode b_Model_reference 208 = .ok (.getfield 70, 3) := by decide +kernel
theorem d_Model_reference_211 : decode b_Model_reference 211 = .ok (.ldc2_w 89, 3) := by decide +kernel
theorem d_Model_reference_214 : decode b_Model_reference 214 = .ok (.lcmp, 1) := by decide +kernel
theorem d_Model_reference_215 : decode b_Model_reference 215 = .ok (.ifCond .eq 25, 3) := by decide +kernel
theorem d_Model_reference_218 : decode b_Model_reference 218 = .ok (.aload_n 0, 1) := by decide +kernel
theorem d_Model_reference_219 : decode b_Model_reference 219 = .ok (.getfield 70, 3) := by decide +kernel
theorem d_Model_reference_222 : decode b_Model_reference 222 = .ok (.ldc2_w 91, 3) := by decide +kernel
theorem d_Model_reference_225 : decode b_Model_reference 225 = .ok (.lcmp, 1) := by decide +kernel
theorem d_Model_reference_226 : decode b_Model_reference 226 = .ok (.ifCond .lt 18, 3) := by decide +kernel
theorem d_Model_reference_229 : decode b_Model_reference 229 = .ok (.aload_n 0, 1) := by decide +kernel
theorem d_Model_reference_230 : decode b_Model_reference 230 = .ok (.getfield 70, 3) := by decide +kernel
theorem d_Model_reference_233 : decode b_Model_reference 233 = .ok (.ldc2_w 93, 3) := by decide +kernel
theorem d_Model_reference_236 : decode b_Model_reference 236 = .ok (.lcmp, 1) := by decide +kernel
theorem d_Model_reference_237 : decode b_Model_reference 237 = .ok (.ifCond .ge 7, 3) := by decide +kernel
theorem d_Model_reference_240 : decode b_Model_reference 240 = .ok (.iconst 1, 1) := by decide +kernel
theorem d_Model_reference_241 : decode b_Model_reference 241 = .ok (.goto 4, 3) := by decide +kernel
theorem d_Model_reference_244 : decode b_Model_reference 244 = .ok (.iconst 0, 1) := by decide +kernel
theorem d_Model_reference_245 : decode b_Model_reference 245 = .ok (.istore_n 3, 1) := by decide +kernel
theorem d_Model_reference_246 : decode b_Model_reference 246 = .ok (.aload_n 0, 1) := by decide +kernel
theorem d_Model_reference_247 : decode b_Model_reference 247 = .ok (.getfield 67, 3) := by decide +kernel
theorem d_Model_reference_250 : decode b_Model_reference 250 = .ok (.ifCond .ge 17, 3) := by decide +kernel
theorem d_Model_reference_253 : decode b_Model_reference 253 = .ok (.iload_n 3, 1) := by decide +kernel
theorem d_Model_reference_254 : decode b_Model_reference 254 = .ok (.ifCond .ne 13, 3) := by decide +kernel
theorem d_Model_reference_257 : decode b_Model_reference 257 = .ok (.aload_n 0, 1) := by decide +kernel
theorem d_Model_reference_258 : decode b_Model_reference 258 = .ok (.bipush 8, 2) := by decide +kernel
theorem d_Model_reference_260 : decode b_Model_reference 260 = .ok (.iload_n 1, 1) := by decide +kernel
theorem d_Model_reference_261 : decode b_Model_reference 261 = .ok (.invokevirtual 63, 3) := by decide +kernel
theorem d_Model_reference_264 : decode b_Model_reference 264 = .ok (.goto 4, 3) := by decide +kernel
theorem d_Model_reference_267 : decode b_Model_reference 267 = .ok (.iconst 0, 1) := by decide +kernel
theorem d_Model_reference_268 : decode b_Model_reference 268 = .ok (.ireturn, 1) := by decide +kernel
theorem d_Model_begin_0 : decode b_Model_begin 0 = .ok (.iconst 0, 1) := by decide +kernel
theorem d_Model_begin_1 : decode b_Model_begin 1 = .ok (.istore_n 1, 1) := by decide +kernel
theorem d_Model_begin_2 : decode b_Model_begin 2 = .ok (.iload_n 1, 1) := by decide +kernel
theorem d_Model_begin_3 : decode b_Model_begin 3 = .ok (.aload_n 0, 1) := by decide +kernel
theorem d_Model_begin_4 : decode b_Model_begin 4 = .ok (.getfield 39, 3) := by decide +kernel
theorem d_Model_begin_7 : decode b_Model_begin 7 = .ok (.if_icmp .ge 28, 3) := by decide +kernel
theorem d_Model_begin_10 : decode b_Model_begin 10 = .ok (.aload_n 0, 1) := by decide +kernel
theorem d_Model_begin_11 : decode b_Model_begin 11 = .ok (.getfield 26, 3) := by decide +kernel
theorem d_Model_begin_14 : decode b_Model_begin 14 = .ok (.iload_n 1, 1) := by decide +kernel
theorem d_Model_begin_15 : decode b_Model_begin 15 = .ok (.aload_n 0, 1) := by decide +kernel
theorem d_Model_begin_16 : decode b_Model_begin 16 = .ok (.getfield 7, 3) := by decide +kernel
theorem d_Model_begin_19 : decode b_Model_begin 19 = .ok (.aload_n 0, 1) := by decide +kernel
theorem d_Model_begin_20 : decode b_Model_begin 20 = .ok (.getfield 39, 3) := by decide +kernel
theorem d_Model_begin_23 : decode b_Model_begin 23 = .ok (.iconst 1, 1) := by decide +kernel
theorem d_Model_begin_24 : decode b_Model_begin 24 = .ok (.isub, 1) := by decide +kernel
theorem d_Model_begin_25 : decode b_Model_begin 25 = .ok (.iload_n 1, 1) := by decide +kernel
theorem d_Model_begin_26 : decode b_Model_begin 26 = .ok (.isub, 1) := by decide +kernel
theorem d_Model_begin_27 : decode b_Model_begin 27 = .ok (.iaload, 1) := by decide +kernel
theorem d_Model_begin_28 : decode b_Model_begin 28 = .ok (.iastore, 1) := by decide +kernel
theorem d_Model_begin_29 : decode b_Model_begin 29 = .ok (.iinc 1 1, 3) := by decide +kernel
theorem d_Model_begin_32 : decode b_Model_begin 32 = .ok (.goto (-30), 3) := by decide +kernel
theorem d_Model_begin_35 : decode b_Model_begin 35 = .ok (.aload_n 0, 1) := by decide +kernel
theorem d_Model_begin_36 : decode b_Model_begin 36 = .ok (.aload_n 0, 1) := by decide +kernel
theorem d_Model_begin_37 : decode b_Model_begin 37 = .ok (.getfield 39, 3) := by decide +kernel
theorem d_Model_begin_40 : decode b_Model_begin 40 = .ok (.putfield 53, 3) := by decide +kernel
theorem d_Model_begin_43 : decode b_Model_begin 43 = .ok (.aload_n 0, 1) := by decide +kernel
theorem d_Model_begin_44 : decode b_Model_begin 44 = .ok (.iconst 0, 1) := by decide +kernel
theorem d_Model_begin_45 : decode b_Model_begin 45 = .ok (.putfield 39, 3) := by decide +kernel
theorem d_Model_begin_48 : decode b_Model_begin 48 = .ok (.aload_n 0, 1) := by decide +kernel
theorem d_Model_begin_49 : decode b_Model_begin 49 = .ok (.iconst 0, 1) := by decide +kernel
theorem d_Model_begin_50 : decode b_Model_begin 50 = .ok (.putfield 47, 3) := by decide +kernel
theorem d_Model_begin_53 : decode b_Model_begin 53 = .ok (.aload_n 0, 1) := by decide +kernel
theorem d_Model_begin_54 : decode b_Model_begin 54 = .ok (.iconst 0, 1) := by decide +kernel
theorem d_Model_begin_55 : decode b_Model_begin 55 = .ok (.putfield 56, 3) := by decide +kernel
theorem d_Model_begin_58 : decode b_Model_begin 58 = .ok (.aload_n 0, 1) := by decide +kernel
theorem d_Model_begin_59 : decode b_Model_begin 59 = .ok (.iconst 0, 1) := by decide +kernel
theorem d_Model_begin_60 : decode b_Model_begin 60 = .ok (.putfield 44, 3) := by decide +kernel
theorem d_Model_begin_63 : decode b_Model_begin 63 = .ok (.aload_n 0, 1) := by decide +kernel
theorem d_Model_begin_64 : decode b_Model_begin 64 = .ok (.iconst (-1), 1) := by decide +kernel
theorem d_Model_begin_65 : decode b_Model_begin 65 = .ok (.putfield 35, 3) := by decide +kernel
theorem d_Model_begin_68 : decode b_Model_begin 68 = .ok (.iconst 0, 1) := by decide +kernel
theorem d_Model_begin_69 : decode b_Model_begin 69 = .ok (.istore_n 1, 1) := by decide +kernel
theorem d_Model_begin_70 : decode b_Model_begin 70 = .ok (.iload_n 1, 1) := by decide +kernel
theorem d_Model_begin_71 : decode b_Model_begin 71 = .ok (.bipush 26, 2) := by decide +kernel
theorem d_Model_begin_73 : decode b_Model_begin 73 = .ok (.if_icmp .ge 16, 3) := by decide +kernel
theorem d_Model_begin_76 : decode b_Model_begin 76 = .ok (.aload_n 0, 1) := by decide +kernel
theorem d_Model_begin_77 : decode b_Model_begin 77 = .ok (.getfield 29, 3) := by decide +kernel
theorem d_Model_begin_80 : decode b_Model_begin 80 = .ok (.iload_n 1, 1) := by decide +kernel
theorem d_Model_begin_81 : decode b_Model_begin 81 = .ok (.iconst 0, 1) := by decide +kernel
theorem d_Model_begin_82 : decode b_Model_begin 82 = .ok (.bastore, 1) := by decide +kernel
theorem d_Model_begin_83 : decode b_Model_begin 83 = .ok (.iinc 1 1, 3) := by decide +kernel
theorem d_Model_begin_86 : decode b_Model_begin 86 = .ok (.goto (-16), 3) := by decide +kernel
theorem d_Model_begin_89 : decode b_Model_begin 89 = .ok (.return_, 1) := by decide +kernel
theorem d_Model_declare_0 : decode b_Model_declare 0 = .ok (.iload_n 1, 1) := by decide +kernel
theorem d_Model_declare_1 : decode b_Model_declare 1 = .ok (.ifCond .lt 9, 3) := by decide +kernel
theorem d_Model_declare_4 : decode b_Model_declare 4 = .ok (.iload_n 1, 1) := by decide +kernel
theorem d_Model_declare_5 : decode b_Model_declare 5 = .ok (.bipush 25, 2) := by decide +kernel
theorem d_Model_declare_7 : decode b_Model_declare 7 = .ok (.if_icmp .le 6, 3) := by decide +kernel
theorem d_Model_declare_10 : decode b_Model_declare 10 = .ok (.bipush (-102), 2) := by decide +kernel
theorem d_Model_declare_12 : decode b_Model_declare 12 = .ok (.ireturn, 1) := by decide +kernel
theorem d_Model_declare_13 : decode b_Model_declare 13 = .ok (.aload_n 0, 1) := by decide +kernel
theorem d_Model_declare_14 : decode b_Model_declare 14 = .ok (.invokevirtual 95, 3) := by decide +kernel
theorem d_Model_declare_17 : decode b_Model_declare 17 = .ok (.aload_n 0, 1) := by decide +kernel
theorem d_Model_declare_18 : decode b_Model_declare 18 = .ok (.getfield 22, 3) := by decide +kernel
theorem d_Model_declare_21 : decode b_Model_declare 21 = .ok (.iload_n 1, 1) := by decide +kernel
theorem d_Model_declare_22 : decode b_Model_declare 22 = .ok (.baload, 1) := by decide +kernel
theorem d_Model_declare_23 : decode b_Model_declare 23 = .ok (.ifCond .eq 6, 3) := by decide +kernel
theorem d_Model_declare_26 : decode b_Model_declare 26 = .ok (.bipush (-100), 2) := by decide +kernel
theorem d_Model_declare_28 : decode b_Model_declare 28 = .ok (.ireturn, 1) := by decide +kernel
theorem d_Model_declare_29 : decode b_Model_declare 29 = .ok (.aload_n 0, 1) := by decide +kernel
theorem d_Model_declare_30 : decode b_Model_declare 30 = .ok (.getfield 98, 3) := by decide +kernel
theorem d_Model_declare_33 : decode b_Model_declare 33 = .ok (.istore_n 2, 1) := by decide +kernel
theorem d_Model_declare_34 : decode b_Model_declare 34 = .ok (.aload_n 0, 1) := by decide +kernel
theorem d_Model_declare_35 : decode b_Model_declare 35 = .ok (.getfield 53, 3) := by decide +kernel
theorem d_Model_declare_38 : decode b_Model_declare 38 = .ok (.ifCond .le 220, 3) := by decide +kernel
theorem d_Model_declare_41 : decode b_Model_declare 41 = .ok (.aload_n 0, 1) := by decide +kernel
theorem d_Model_declare_42 : decode b_Model_declare 42 = .ok (.invokevirtual 59, 3) := by decide +kernel
theorem d_Model_declare_45 : decode b_Model_declare 45 = .ok (.istore_n 3, 1) := by decide +kernel
theorem d_Model_declare_46 : decode b_Model_declare 46 = .ok (.aload_n 0, 1) := by decide +kernel
theorem d_Model_declare_47 : decode b_Model_declare 47 = .ok (.getfield 56, 3) := by decide +kernel
theorem d_Model_declare_50 : decode b_Model_declare 50 = .ok (.istore 4, 2) := by decide +kernel
theorem d_Model_declare_52 : decode b_Model_declare 52 = .ok (.aload_n 0, 1) := by decide +kernel
theorem d_Model_declare_53 : decode b_Model_declare 53 = .ok (.invokevirtual 74, 3) := by decide +kernel
theorem d_Model_declare_56 : decode b_Model_declare 56 = .ok (.iload_n 3, 1) := by decide +kernel
theorem d_Model_declare_57 : decode b_Model_declare 57 = .ok (.bipush 38, 2) := by decide +kernel
theorem d_Model_declare_59 : decode b_Model_declare 59 = .ok (.if_icmp .eq 48, 3) := by decide +kernel
theorem d_Model_declare_62 : decode b_Model_declare 62 = .ok (.aload_n 0, 1) := by decide +kernel
theorem d_Model_declare_63 : decode b_Model_declare 63 = .ok (.getfield 13, 3) := by decide +kernel
theorem d_Model_declare_66 : decode b_Model_declare 66 = .ok (.iload_n 2, 1) := by decide +kernel
theorem d_Model_declare_67 : decode b_Model_declare 67 = .ok (.sipush 2000, 3) := by decide +kernel
theorem d_Model_declare_70 : decode b_Model_declare 70 = .ok (.if_icmp .ge 7, 3) := by decide +kernel
theorem d_Model_declare_73 : decode b_Model_declare 73 = .ok (.iload_n 2, 1) := by decide +kernel
theorem d_Model_declare_74 : decode b_Model_declare 74 = .ok (.goto 6, 3) := by decide +kernel
theorem d_Model_declare_77 : decode b_Model_declare 77 = .ok (.sipush 1999, 3) := by decide +kernel
theorem d_Model_declare_80 : decode b_Model_declare 80 = .ok (.iload_n 2, 1) := by decide +kernel
theorem d_Model_declare_81 : decode b_Model_declare 81 = .ok (.sipush 2000, 3) := by decide +kernel
theorem d_Model_declare_84 : decode b_Model_declare 84 = .ok (.if_icmp .ge 7, 3) := by decide +kernel
theorem d_Model_declare_87 : decode b_Model_declare 87 = .ok (.iload_n 3, 1) := by decide +kernel
theorem d_Model_declare_88 : decode b_Model_declare 88 = .ok (.goto 11, 3) := by decide +kernel
theorem d_Model_declare_91 : decode b_Model_declare 91 = .ok (.aload_n 0, 1) := by decide +kernel
theorem d_Model_declare_92 : decode b_Model_declare 92 = .ok (.getfield 13, 3) := by decide +kernel
theorem d_Model_declare_95 : decode b_Model_declare 95 = .ok (.sipush 1999, 3) := by decide +kernel
theorem d_Model_declare_98 : decode b_Model_declare 98 = .ok (.iaload, 1) := by decide +kernel
theorem d_Model_declare_99 : decode b_Model_declare 99 = .ok (.iastore, 1) := by decide +kernel
theorem d_Model_declare_100 : decode b_Model_declare 100 = .ok (.iload_n 2, 1) := by decide +kernel
theorem d_Model_declare_101 : decode b_Model_declare 101 = .ok (.iconst 1, 1) := by decide +kernel
theorem d_Model_declare_102 : decode b_Model_declare 102 = .ok (.iadd, 1) := by decide +kernel
theorem d_Model_declare_103 : decode b_Model_declare 103 = .ok (.istore_n 2, 1) := by decide +kernel
theorem d_Model_declare_104 : decode b_Model_declare 104 = .ok (.goto 151, 3) := by decide +kernel
theorem d_Model_declare_107 : decode b_Model_declare 107 = .ok (.aload_n 0, 1) := by decide +kernel
theorem d_Model_declare_108 : decode b_Model_declare 108 = .ok (.getfield 53, 3) := by decide +kernel
theorem d_Model_declare_111 : decode b_Model_declare 111 = .ok (.istore 5, 2) := by decide +kernel
theorem d_Model_declare_113 : decode b_Model_declare 113 = .ok (.aload_n 0, 1) := by decide +kernel
theorem d_Model_declare_114 : decode b_Model_declare 114 = .ok (.iload 4, 2) := by decide +kernel
theorem d_Model_declare_116 : decode b_Model_declare 116 = .ok (.invokevirtual 101, 3) := by decide +kernel
theorem d_Model_declare_119 : decode b_Model_declare 119 = .ok (.ifCond .ge 10, 3) := by decide +kernel
theorem d_Model_declare_122 : decode b_Model_declare 122 = .ok (.iconst (-1), 1) := by decide +kernel
theorem d_Model_declare_123 : decode b_Model_declare 123 = .ok (.aload_n 0, 1) := by decide +kernel
theorem d_Model_declare_124 : decode b_Model_declare 124 = .ok (.getfield 44, 3) := by decide +kernel
theorem d_Model_declare_127 : decode b_Model_declare 127 = .ok (.isub, 1) := by decide +kernel
theorem d_Model_declare_128 : decode b_Model_declare 128 = .ok (.ireturn, 1) := by decide +kernel
theorem d_Model_declare_129 : decode b_Model_declare 129 = .ok (.aload_n 0, 1) := by decide +kernel
theorem d_Model_declare_130 : decode b_Model_declare 130 = .ok (.getfield 67, 3) := by decide +kernel
theorem d_Model_declare_133 : decode b_Model_declare 133 = .ok (.ifCond .ge 7, 3) := by decide +kernel
theorem d_Model_declare_136 : decode b_Model_declare 136 = .ok (.iconst 1, 1) := by decide +kernel
theorem d_Model_declare_137 : decode b_Model_declare 137 = .ok (.goto 12, 3) := by decide +kernel
theorem d_Model_declare_140 : decode b_Model_declare 140 = .ok (.iload 5, 2) := by decide +kernel
theorem d_Model_declare_142 : decode b_Model_declare 142 = .ok (.aload_n 0, 1) := by decide +kernel
theorem d_Model_declare_143 : decode b_Model_declare 143 = .ok (.getfield 53, 3) := by decide +kernel
theorem d_Model_declare_146 : decode b_Model_declare 146 = .ok (.isub, 1) := by decide +kernel
theorem d_Model_declare_147 : decode b_Model_declare 147 = .ok (.iconst 1, 1) := by decide +kernel
theorem d_Model_declare_148 : decode b_Model_declare 148 = .ok (.iadd, 1) := by decide +kernel
theorem d_Model_declare_149 : decode b_Model_declare 149 = .ok (.istore 6, 2) := by decide +kernel
theorem d_Model_declare_151 : decode b_Model_declare 151 = .ok (.iconst 0, 1) := by decide +kernel
theorem d_Model_declare_152 : decode b_Model_declare 152 = .ok (.istore 7, 2) := by decide +kernel
theorem d_Model_declare_154 : decode b_Model_declare 154 = .ok (.iload 7, 2) := by decide +kernel
theorem d_Model_declare_156 : decode b_Model_declare 156 = .ok (.iload 6, 2) := by decide +kernel
theorem d_Model_declare_158 : decode b_Model_declare 158 = .ok (.if_icmp .ge 97, 3) := by decide +kernel
theorem d_Model_declare_161 : decode b_Model_declare 161 = .ok (.aload_n 0, 1) := by decide +kernel
theorem d_Model_declare_162 : decode b_Model_declare 162 = .ok (.getfield 67, 3) := by decide +kernel
theorem d_Model_declare_165 : decode b_Model_declare 165 = .ok (.ifCond .ge 11, 3) := by decide +kernel
theorem d_Model_declare_168 : decode b_Model_declare 168 = .ok (.aload_n 0, 1) := by decide +kernel
theorem d_Model_declare_169 : decode b_Model_declare 169 = .ok (.getfield 70, 3) := by decide +kernel
theorem d_Model_declare_172 : decode b_Model_declare 172 = .ok (.l2i, 1) := by decide +kernel
theorem d_Model_declare_173 : decode b_Model_declare 173 = .ok (.goto 31, 3) := by decide +kernel
theorem d_Model_declare_176 : decode b_Model_declare 176 = .ok (.iload 7, 2) := by decide +kernel
theorem d_Model_declare_178 : decode b_Model_declare 178 = .ok (.ifCond .ne 8, 3) := by decide +kernel
theorem d_Model_declare_181 : decode b_Model_declare 181 = .ok (.bipush 38, 2) := by decide +kernel
theorem d_Model_declare_183 : decode b_Model_declare 183 = .ok (.goto 21, 3) := by decide +kernel
theorem d_Model_declare_186 : decode b_Model_declare 186 = .ok (.iload 7, 2) := by decide +kernel
theorem d_Model_declare_188 : decode b_Model_declare 188 = .ok (.iconst 1, 1) := by decide +kernel
theorem d_Model_declare_189 : decode b_Model_declare 189 = .ok (.if_icmp .ne 13, 3) := by decide +kernel
theorem d_Model_declare_192 : decode b_Model_declare 192 = .ok (.bipush 97, 2) := by decide +kernel
theorem d_Model_declare_194 : decode b_Model_declare 194 = .ok (.aload_n 0, 1) := by decide +kernel
theorem d_Model_declare_195 : decode b_Model_declare 195 = .ok (.getfield 67, 3) := by decide +kernel
theorem d_Model_declare_198 : decode b_Model_declare 198 = .ok (.iadd, 1) := by decide +kernel
theorem d_Model_declare_199 : decode b_Model_declare 199 = .ok (.goto 5, 3) := by decide +kernel
theorem d_Model_declare_202 : decode b_Model_declare 202 = .ok (.bipush 59, 2) := by decide +kernel
theorem d_Model_declare_204 : decode b_Model_declare 204 = .ok (.istore 8, 2) := by decide +kernel
theorem d_Model_declare_206 : decode b_Model_declare 206 = .ok (.aload_n 0, 1) := by decide +kernel
theorem d_Model_declare_207 : decode b_Model_declare 207 = .ok (.getfield 13, 3) := by decide +kernel
theorem d_Model_declare_210 : decode b_Model_declare 210 = .ok (.iload_n 2, 1) := by decide +kernel
theorem d_Model_declare_211 : decode b_Model_declare 211 = .ok (.sipush 2000, 3) := by decide +kernel
theorem d_Model_declare_214 : decode b_Model_declare 214 = .ok (.if_icmp .ge 7, 3) := by decide +kernel
theorem d_Model_declare_217 : decode b_Model_declare 217 = .ok (.iload_n 2, 1) := by decide +kernel
theorem d_Model_declare_218 : decode b_Model_declare 218 = .ok (.goto 6, 3) := by decide +kernel
theorem d_Model_declare_221 : decode b_Model_declare 221 = .ok (.sipush 1999, 3) := by decide +kernel
theorem d_Model_declare_224 : decode b_Model_declare 224 = .ok (.iload_n 2, 1) := by decide +kernel
theorem d_Model_declare_225 : decode b_Model_declare 225 = .ok (.sipush 2000, 3) := by decide +kernel
theorem d_Model_declare_228 : decode b_Model_declare 228 = .ok (.if_icmp .ge 8, 3) := by decide +kernel
theorem d_Model_declare_231 : decode b_Model_declare 231 = .ok (.iload 8, 2) := by decide +kernel
theorem d_Model_declare_233 : decode b_Model_declare 233 = .ok (.goto 11, 3) := by decide +kernel
theorem d_Model_declare_236 : decode b_Model_declare 236 = .ok (.aload_n 0, 1) := by decide +kernel
theorem d_Model_declare_237 : decode b_Model_declare 237 = .ok (.getfield 13, 3) := by decide +kernel
theorem d_Model_declare_240 : decode b_Model_declare 240 = .ok (.sipush 1999, 3) := by decide +kernel
theorem d_Model_declare_243 : decode b_Model_declare 243 = .ok (.iaload, 1) := by decide +kernel
theorem d_Model_declare_244 : decode b_Model_declare 244 = .ok (.iastore, 1) := by decide +kernel
theorem d_Model_declare_245 : decode b_Model_declare 245 = .ok (.iload_n 2, 1) := by decide +kernel
theorem d_Model_declare_246 : decode b_Model_declare 246 = .ok (.iconst 1, 1) := by decide +kernel
theorem d_Model_declare_247 : decode b_Model_declare 247 = .ok (.iadd, 1) := by decide +kernel
theorem d_Model_declare_248 : decode b_Model_declare 248 = .ok (.istore_n 2, 1) := by decide +kernel
theorem d_Model_declare_249 : decode b_Model_declare 249 = .ok (.iinc 7 1, 3) := by decide +kernel
theorem d_Model_declare_252 : decode b_Model_declare 252 = .ok (.goto (-98), 3) := by decide +kernel
theorem d_Model_declare_255 : decode b_Model_declare 255 = .ok (.goto (-221), 3) := by decide +kernel
theorem d_Model_declare_258 : decode b_Model_declare 258 = .ok (.iload_n 2, 1) := by decide +kernel
theorem d_Model_declare_259 : decode b_Model_declare 259 = .ok (.sipush 2000, 3) := by decide +kernel
theorem d_Model_declare_262 : decode b_Model_declare 262 = .ok (.if_icmp .le 6, 3) := by decide +kernel
theorem d_Model_declare_265 : decode b_Model_declare 265 = .ok (.bipush (-101), 2) := by decide +kernel
theorem d_Model_declare_267 : decode b_Model_declare 267 = .ok (.ireturn, 1) := by decide +kernel
theorem d_Model_declare_268 : decode b_Model_declare 268 = .ok (.aload_n 0, 1) := by decide +kernel
theorem d_Model_declare_269 : decode b_Model_declare 269 = .ok (.getfield 22, 3) := by decide +kernel
theorem d_Model_declare_272 : decode b_Model_declare 272 = .ok (.iload_n 1, 1) := by decide +kernel
theorem d_Model_declare_273 : decode b_Model_declare 273 = .ok (.iconst 1, 1) := by decide +kernel
theorem d_Model_declare_274 : decode b_Model_declare 274 = .ok (.bastore, 1) := by decide +kernel
theorem d_Model_declare_275 : decode b_Model_declare 275 = .ok (.aload_n 0, 1) := by decide +kernel
theorem d_Model_declare_276 : decode b_Model_declare 276 = .ok (.getfield 16, 3) := by decide +kernel
theorem d_Model_declare_279 : decode b_Model_declare 279 = .ok (.iload_n 1, 1) := by decide +kernel
theorem d_Model_declare_280 : decode b_Model_declare 280 = .ok (.aload_n 0, 1) := by decide +kernel
theorem d_Model_declare_281 : decode b_Model_declare 281 = .ok (.getfield 98, 3) := by decide +kernel
theorem d_Model_declare_284 : decode b_Model_declare 284 = .ok (.iastore, 1) := by decide +kernel
theorem d_Model_declare_285 : decode b_Model_declare 285 = .ok (.aload_n 0, 1) := by decide +kernel
theorem d_Model_declare_286 : decode b_Model_declare 286 = .ok (.getfield 19, 3) := by decide +kernel
theorem d_Model_declare_289 : decode b_Model_declare 289 = .ok (.iload_n 1, 1) := by decide +kernel
theorem d_Model_declare_290 : decode b_Model_declare 290 = .ok (.iload_n 2, 1) := by decide +kernel
theorem d_Model_declare_291 : decode b_Model_declare 291 = .ok (.iastore, 1) := by decide +kernel
theorem d_Model_declare_292 : decode b_Model_declare 292 = .ok (.aload_n 0, 1) := by decide +kernel
theorem d_Model_declare_293 : decode b_Model_declare 293 = .ok (.iload_n 2, 1) := by decide +kernel
theorem d_Model_declare_294 : decode b_Model_declare 294 = .ok (.putfield 98, 3) := by decide +kernel
theorem d_Model_declare_297 : decode b_Model_declare 297 = .ok (.aload_n 0, 1) := by decide +kernel
theorem d_Model_declare_298 : decode b_Model_declare 298 = .ok (.aload_n 0, 1) := by decide +kernel
theorem d_Model_declare_299 : decode b_Model_declare 299 = .ok (.getfield 105, 3) := by decide +kernel
theorem d_Model_declare_302 : decode b_Model_declare 302 = .ok (.iconst 1, 1) := by decide +kernel
theorem d_Model_declare_303 : decode b_Model_declare 303 = .ok (.iadd, 1) := by decide +kernel
theorem d_Model_declare_304 : decode b_Model_declare 304 = .ok (.putfield 105, 3) := by decide +kernel
theorem d_Model_declare_307 : decode b_Model_declare 307 = .ok (.iload_n 2, 1) := by decide +kernel
theorem d_Model_declare_308 : decode b_Model_declare 308 = .ok (.aload_n 0, 1) := by decide +kernel
theorem d_Model_declare_309 : decode b_Model_declare 309 = .ok (.getfield 16, 3) := by decide +kernel
theorem d_Model_declare_312 : decode b_Model_declare 312 = .ok (.iload_n 1, 1) := by decide +kernel
theorem d_Model_declare_313 : decode b_Model_declare 313 = .ok (.iaload, 1) := by decide +kernel
theorem d_Model_declare_314 : decode b_Model_declare 314 = .ok (.isub, 1) := by decide +kernel
theorem d_Model_declare_315 : decode b_Model_declare 315 = .ok (.ireturn, 1) := by decide +kernel
theorem d_Model_enter_0 : decode b_Model_enter 0 = .ok (.aload_n 0, 1) := by decide +kernel
theorem d_Model_enter_1 : decode b_Model_enter 1 = .ok (.getfield 22, 3) := by decide +kernel
theorem d_Model_enter_4 : decode b_Model_enter 4 = .ok (.aload_n 0, 1) := by decide +kernel
theorem d_Model_enter_5 : decode b_Model_enter 5 = .ok (.getfield 67, 3) := by decide +kernel
theorem d_Model_enter_8 : decode b_Model_enter 8 = .ok (.baload, 1) := by decide +kernel
theorem d_Model_enter_9 : decode b_Model_enter 9 = .ok (.ifCond .eq 25, 3) := by decide +kernel
theorem d_Model_enter_12 : decode b_Model_enter 12 = .ok (.aload_n 0, 1) := by decide +kernel
theorem d_Model_enter_13 : decode b_Model_enter 13 = .ok (.getfield 19, 3) := by decide +kernel
theorem d_Model_enter_16 : decode b_Model_enter 16 = .ok (.aload_n 0, 1) := by decide +kernel
theorem d_Model_enter_17 : decode b_Model_enter 17 = .ok (.getfield 67, 3) := by decide +kernel
theorem d_Model_enter_20 : decode b_Model_enter 20 = .ok (.iaload, 1) := by decide +kernel
theorem d_Model_enter_21 : decode b_Model_enter 21 = .ok (.aload_n 0, 1) := by decide +kernel
theorem d_Model_enter_22 : decode b_Model_enter 22 = .ok (.getfield 16, 3) := by decide +kernel
theorem d_Model_enter_25 : decode b_Model_enter 25 = .ok (.aload_n 0, 1) := by decide +kernel
theorem d_Model_enter_26 : decode b_Model_enter 26 = .ok (.getfield 67, 3) := by decide +kernel
theorem d_Model_enter_29 : decode b_Model_enter 29 = .ok (.iaload, 1) := by decide +kernel
theorem d_Model_enter_30 : decode b_Model_enter 30 = .ok (.isub, 1) := by decide +kernel
theorem d_Model_enter_31 : decode b_Model_enter 31 = .ok (.goto 4, 3) := by decide +kernel
theorem d_Model_enter_34 : decode b_Model_enter 34 = .ok (.iconst 0, 1) := by decide +kernel
theorem d_Model_enter_35 : decode b_Model_enter 35 = .ok (.istore_n 3, 1) := by decide +kernel
theorem d_Model_enter_36 : decode b_Model_enter 36 = .ok (.aload_n 0, 1) := by decide +kernel
theorem d_Model_enter_37 : decode b_Model_enter 37 = .ok (.getfield 22, 3) := by decide +kernel
theorem d_Model_enter_40 : decode b_Model_enter 40 = .ok (.aload_n 0, 1) := by decide +kernel
theorem d_Model_enter_41 : decode b_Model_enter 41 = .ok (.getfield 67, 3) := by decide +kernel
theorem d_Model_enter_44 : decode b_Model_enter 44 = .ok (.baload, 1) := by decide +kernel
theorem d_Model_enter_45 : decode b_Model_enter 45 = .ok (.ifCond .ne 10, 3) := by decide +kernel
theorem d_Model_enter_48 : decode b_Model_enter 48 = .ok (.aload_n 0, 1) := by decide +kernel
theorem d_Model_enter_49 : decode b_Model_enter 49 = .ok (.iconst 5, 1) := by decide +kernel
theorem d_Model_enter_50 : decode b_Model_enter 50 = .ok (.iload_n 1, 1) := by decide +kernel
theorem d_Model_enter_51 : decode b_Model_enter 51 = .ok (.invokevirtual 63, 3) := by decide +kernel
theorem d_Model_enter_54 : decode b_Model_enter 54 = .ok (.ireturn, 1) := by decide +kernel
theorem d_Model_enter_55 : decode b_Model_enter 55 = .ok (.aload_n 0, 1) := by decide +kernel
theorem d_Model_enter_56 : decode b_Model_enter 56 = .ok (.getfield 29, 3) := by decide +kernel
theorem d_Model_enter_59 : decode b_Model_enter 59 = .ok (.aload_n 0, 1) := by decide +kernel
theorem d_Model_enter_60 : decode b_Model_enter 60 = .ok (.getfield 67, 3) := by decide +kernel
theorem d_Model_enter_63 : decode b_Model_enter 63 = .ok (.baload, 1) := by decide +kernel
theorem d_Model_enter_64 : decode b_Model_enter 64 = .ok (.ifCond .eq 11, 3) := by decide +kernel
theorem d_Model_enter_67 : decode b_Model_enter 67 = .ok (.aload_n 0, 1) := by decide +kernel
theorem d_Model_enter_68 : decode b_Model_enter 68 = .ok (.bipush 6, 2) := by decide +kernel
theorem d_Model_enter_70 : decode b_Model_enter 70 = .ok (.iload_n 1, 1) := by decide +kernel
theorem d_Model_enter_71 : decode b_Model_enter 71 = .ok (.invokevirtual 63, 3) := by decide +kernel
theorem d_Model_enter_74 : decode b_Model_enter 74 = .ok (.ireturn, 1) := by decide +kernel
theorem d_Model_enter_75 : decode b_Model_enter 75 = .ok (.aload_n 0, 1) := by decide +kernel
theorem d_Model_enter_76 : decode b_Model_enter 76 = .ok (.getfield 47, 3) := by decide +kernel
theorem d_Model_enter_79 : decode b_Model_enter 79 = .ok (.bipush 12, 2) := by decide +kernel
theorem d_Model_enter_81 : decode b_Model_enter 81 = .ok (.if_icmp .ne 11, 3) := by decide +kernel
theorem d_Model_enter_84 : decode b_Model_enter 84 = .ok (.aload_n 0, 1) := by decide +kernel
theorem d_Model_enter_85 : decode b_Model_enter 85 = .ok (.bipush 15, 2) := by decide +kernel
theorem d_Model_enter_87 : decode b_Model_enter 87 = .ok (.iload_n 1, 1) := by decide +kernel
theorem d_Model_enter_88 : decode b_Model_enter 88 = .ok (.invokevirtual 63, 3) := by decide +kernel
theorem d_Model_enter_91 : decode b_Model_enter 91 = .ok (.ireturn, 1) := by decide +kernel
theorem d_Model_enter_92 : decode b_Model_enter 92 = .ok (.aload_n 0, 1) := by decide +kernel
theorem d_Model_enter_93 : decode b_Model_enter 93 = .ok (.getfield 108, 3) := by decide +kernel
theorem d_Model_enter_96 : decode b_Model_enter 96 = .ok (.iload_n 3, 1) := by decide +kernel
theorem d_Model_enter_97 : decode b_Model_enter 97 = .ok (.iadd, 1) := by decide +kernel
theorem d_Model_enter_98 : decode b_Model_enter 98 = .ok (.iload_n 2, 1) := by decide +kernel
theorem d_Model_enter_99 : decode b_Model_enter 99 = .ok (.if_icmp .le 11, 3) := by decide +kernel
theorem d_Model_enter_102 : decode b_Model_enter 102 = .ok (.aload_n 0, 1) := by decide +kernel
theorem d_Model_enter_103 : decode b_Model_enter 103 = .ok (.bipush 14, 2) := by decide +kernel
theorem d_Model_enter_105 : decode b_Model_enter 105 = .ok (.iload_n 1, 1) := by decide +kernel
theorem d_Model_enter_106 : decode b_Model_enter 106 = .ok (.invokevirtual 63, 3) := by decide +kernel
theorem d_Model_enter_109 : decode b_Model_enter 109 = .ok (.ireturn, 1) := by decide +kernel
theorem d_Model_enter_110 : decode b_Model_enter 110 = .ok (.aload_n 0, 1) := by decide +kernel
theorem d_Model_enter_111 : decode b_Model_enter 111 = .ok (.aload_n 0, 1) := by decide +kernel
theorem d_Model_enter_112 : decode b_Model_enter 112 = .ok (.getfield 108, 3) := by decide +kernel
theorem d_Model_enter_115 : decode b_Model_enter 115 = .ok (.iload_n 3, 1) := by decide +kernel
theorem d_Model_enter_116 : decode b_Model_enter 116 = .ok (.iadd, 1) := by decide +kernel
theorem d_Model_enter_117 : decode b_Model_enter 117 = .ok (.putfield 108, 3) := by decide +kernel
theorem d_Model_enter_120 : decode b_Model_enter 120 = .ok (.aload_n 0, 1) := by decide +kernel
theorem d_Model_enter_121 : decode b_Model_enter 121 = .ok (.aload_n 0, 1) := by decide +kernel
theorem d_Model_enter_122 : decode b_Model_enter 122 = .ok (.getfield 111, 3) := by decide +kernel
theorem d_Model_enter_125 : decode b_Model_enter 125 = .ok (.iconst 1, 1) := by decide +kernel
theorem d_Model_enter_126 : decode b_Model_enter 126 = .ok (.iadd, 1) := by decide +kernel
theorem d_Model_enter_127 : decode b_Model_enter 127 = .ok (.putfield 111, 3) := by decide +kernel
theorem d_Model_enter_130 : decode b_Model_enter 130 = .ok (.aload_n 0, 1) := by decide +kernel
theorem d_Model_enter_131 : decode b_Model_enter 131 = .ok (.getfield 47, 3) := by decide +kernel
theorem d_Model_enter_134 : decode b_Model_enter 134 = .ok (.ifCond .ne 8, 3) := by decide +kernel
theorem d_Model_enter_137 : decode b_Model_enter 137 = .ok (.aload_n 0, 1) := by decide +kernel
theorem d_Model_enter_138 : decode b_Model_enter 138 = .ok (.iload_n 1, 1) := by decide +kernel
theorem d_Model_enter_139 : decode b_Model_enter 139 = .ok (.putfield 50, 3) := by decide +kernel
theorem d_Model_enter_142 : decode b_Model_enter 142 = .ok (.aload_n 0, 1) := by decide +kernel
theorem d_Model_enter_143 : decode b_Model_enter 143 = .ok (.aload_n 0, 1) := by decide +kernel
theorem d_Model_enter_144 : decode b_Model_enter 144 = .ok (.getfield 47, 3) := by decide +kernel
theorem d_Model_enter_147 : decode b_Model_enter 147 = .ok (.iconst 1, 1) := by decide +kernel
theorem d_Model_enter_148 : decode b_Model_enter 148 = .ok (.iadd, 1) := by decide +kernel
theorem d_Model_enter_149 : decode b_Model_enter 149 = .ok (.putfield 47, 3) := by decide +kernel
theorem d_Model_enter_152 : decode b_Model_enter 152 = .ok (.aload_n 0, 1) := by decide +kernel
theorem d_Model_enter_153 : decode b_Model_enter 153 = .ok (.aload_n 0, 1) := by decide +kernel
theorem d_Model_enter_154 : decode b_Model_enter 154 = .ok (.getfield 47, 3) := by decide +kernel
theorem d_Model_enter_157 : decode b_Model_enter 157 = .ok (.aload_n 0, 1) := by decide +kernel
theorem d_Model_enter_158 : decode b_Model_enter 158 = .ok (.getfield 114, 3) := by decide +kernel
theorem d_Model_enter_161 : decode b_Model_enter 161 = .ok (.if_icmp .le 10, 3) := by decide +kernel
theorem d_Model_enter_164 : decode b_Model_enter 164 = .ok (.aload_n 0, 1) := by decide +kernel
theorem d_Model_enter_165 : decode b_Model_enter 165 = .ok (.getfield 47, 3) := by decide +kernel
theorem d_Model_enter_168 : decode b_Model_enter 168 = .ok (.goto 7, 3) := by decide +kernel
theorem d_Model_enter_171 : decode b_Model_enter 171 = .ok (.aload_n 0, 1) := by decide +kernel
theorem d_Model_enter_172 : decode b_Model_enter 172 = .ok (.getfield 114, 3) := by decide +kernel
theorem d_Model_enter_175 : decode b_Model_enter 175 = .ok (.putfield 114, 3) := by decide +kernel
theorem d_Model_enter_178 : decode b_Model_enter 178 = .ok (.aload_n 0, 1) := by decide +kernel
theorem d_Model_enter_179 : decode b_Model_enter 179 = .ok (.getfield 29, 3) := by decide +kernel
theorem d_Model_enter_182 : decode b_Model_enter 182 = .ok (.aload_n 0, 1) := by decide +kernel
theorem d_Model_enter_183 : decode b_Model_enter 183 = .ok (.getfield 67, 3) := by decide +kernel
theorem d_Model_enter_186 : decode b_Model_enter 186 = .ok (.iconst 1, 1) := by decide +kernel
theorem d_Model_enter_187 : decode b_Model_enter 187 = .ok (.bastore, 1) := by decide +kernel
theorem d_Model_enter_188 : decode b_Model_enter 188 = .ok (.aload_n 0, 1) := by decide +kernel
theorem d_Model_enter_189 : decode b_Model_enter 189 = .ok (.getfield 26, 3) := by decide +kernel
theorem d_Model_enter_192 : decode b_Model_enter 192 = .ok (.aload_n 0, 1) := by decide +kernel
theorem d_Model_enter_193 : decode b_Model_enter 193 = .ok (.getfield 53, 3) := by decide +kernel
theorem d_Model_enter_196 : decode b_Model_enter 196 = .ok (.iconst (-1), 1) := by decide +kernel
theorem d_Model_enter_197 : decode b_Model_enter 197 = .ok (.aload_n 0, 1) := by decide +kernel
theorem d_Model_enter_198 : decode b_Model_enter 198 = .ok (.getfield 67, 3) := by decide +kernel
theorem d_Model_enter_201 : decode b_Model_enter 201 = .ok (.isub, 1) := by decide +kernel
theorem d_Model_enter_202 : decode b_Model_enter 202 = .ok (.iastore, 1) := by decide +kernel
theorem d_Model_enter_203 : decode b_Model_enter 203 = .ok (.aload_n 0, 1) := by decide +kernel
theorem d_Model_enter_204 : decode b_Model_enter 204 = .ok (.aload_n 0, 1) := by decide +kernel
theorem d_Model_enter_205 : decode b_Model_enter 205 = .ok (.getfield 53, 3) := by decide +kernel
theorem d_Model_enter_208 : decode b_Model_enter 208 = .ok (.iconst 1, 1) := by decide +kernel
theorem d_Model_enter_209 : decode b_Model_enter 209 = .ok (.iadd, 1) := by decide +kernel
theorem d_Model_enter_210 : decode b_Model_enter 210 = .ok (.putfield 53, 3) := by decide +kernel
theorem d_Model_enter_213 : decode b_Model_enter 213 = .ok (.aload_n 0, 1) := by decide +kernel
theorem d_Model_enter_214 : decode b_Model_enter 214 = .ok (.getfield 19, 3) := by decide +kernel
theorem d_Model_enter_217 : decode b_Model_enter 217 = .ok (.aload_n 0, 1) := by decide +kernel
theorem d_Model_enter_218 : decode b_Model_enter 218 = .ok (.getfield 67, 3) := by decide +kernel
theorem d_Model_enter_221 : decode b_Model_enter 221 = .ok (.iaload, 1) := by decide +kernel
theorem d_Model_enter_222 : decode b_Model_enter 222 = .ok (.iconst 1, 1) := by decide +kernel
theorem d_Model_enter_223 : decode b_Model_enter 223 = .ok (.isub, 1) := by decide +kernel
theorem d_Model_enter_224 : decode b_Model_enter 224 = .ok (.istore 4, 2) := by decide +kernel
theorem d_Model_enter_226 : decode b_Model_enter 226 = .ok (.iload 4, 2) := by decide +kernel
theorem d_Model_enter_228 : decode b_Model_enter 228 = .ok (.aload_n 0, 1) := by decide +kernel
theorem d_Model_enter_229 : decode b_Model_enter 229 = .ok (.getfield 16, 3) := by decide +kernel
theorem d_Model_enter_232 : decode b_Model_enter 232 = .ok (.aload_n 0, 1) := by decide +kernel
theorem d_Model_enter_233 : decode b_Model_enter 233 = .ok (.getfield 67, 3) := by decide +kernel
theorem d_Model_enter_236 : decode b_Model_enter 236 = .ok (.iaload, 1) := by decide +kernel
theorem d_Model_enter_237 : decode b_Model_enter 237 = .ok (.if_icmp .lt 35, 3) := by decide +kernel
theorem d_Model_enter_240 : decode b_Model_enter 240 = .ok (.aload_n 0, 1) := by decide +kernel
theorem d_Model_enter_241 : decode b_Model_enter 241 = .ok (.getfield 26, 3) := by decide +kernel
theorem d_Model_enter_244 : decode b_Model_enter 244 = .ok (.aload_n 0, 1) := by decide +kernel
theorem d_Model_enter_245 : decode b_Model_enter 245 = .ok (.getfield 53, 3) := by decide +kernel
theorem d_Model_enter_248 : decode b_Model_enter 248 = .ok (.aload_n 0, 1) := by decide +kernel
theorem d_Model_enter_249 : decode b_Model_enter 249 = .ok (.getfield 13, 3) := by decide +kernel
theorem d_Model_enter_252 : decode b_Model_enter 252 = .ok (.iload 4, 2) := by decide +kernel
theorem d_Model_enter_254 : decode b_Model_enter 254 = .ok (.iaload, 1) := by decide +kernel
theorem d_Model_enter_255 : decode b_Model_enter 255 = .ok (.iastore, 1) := by decide +kernel
theorem d_Model_enter_256 : decode b_Model_enter 256 = .ok (.aload_n 0, 1) := by decide +kernel
theorem d_Model_enter_257 : decode b_Model_enter 257 = .ok (.aload_n 0, 1) := by decide +kernel
theorem d_Model_enter_258 : decode b_Model_enter 258 = .ok (.getfield 53, 3) := by decide +kernel
theorem d_Model_enter_261 : decode b_Model_enter 261 = .ok (.iconst 1, 1) := by decide +kernel
theorem d_Model_enter_262 : decode b_Model_enter 262 = .ok (.iadd, 1) := by decide +kernel
theorem d_Model_enter_263 : decode b_Model_enter 263 = .ok (.putfield 53, 3) := by decide +kernel
theorem d_Model_enter_266 : decode b_Model_enter 266 = .ok (.iinc 4 (-1), 3) := by decide +kernel
theorem d_Model_enter_269 : decode b_Model_enter 269 = .ok (.goto (-43), 3) := by decide +kernel
theorem d_Model_enter_272 : decode b_Model_enter 272 = .ok (.iconst 0, 1) := by decide +kernel
theorem d_Model_enter_273 : decode b_Model_enter 273 = .ok (.ireturn, 1) := by decide +kernel
theorem d_Model_give_0 : decode b_Model_give 0 = .ok (.aload_n 0, 1) := by decide +kernel
theorem d_Model_give_1 : decode b_Model_give 1 = .ok (.getfield 117, 3) := by decide +kernel
theorem d_Model_give_4 : decode b_Model_give 4 = .ok (.sipush 3000, 3) := by decide +kernel
theorem d_Model_give_7 : decode b_Model_give 7 = .ok (.if_icmp .ne 11, 3) := by decide +kernel
theorem d_Model_give_10 : decode b_Model_give 10 = .ok (.aload_n 0, 1) := by decide +kernel
theorem d_Model_give_11 : decode b_Model_give 11 = .ok (.bipush 15, 2) := by decide +kernel
theorem d_Model_give_13 : decode b_Model_give 13 = .ok (.iload_n 2, 1) := by decide +kernel
theorem d_Model_give_14 : decode b_Model_give 14 = .ok (.invokevirtual 63, 3) := by decide +kernel
theorem d_Model_give_17 : decode b_Model_give 17 = .ok (.ireturn, 1) := by decide +kernel
theorem d_Model_give_18 : decode b_Model_give 18 = .ok (.aload_n 0, 1) := by decide +kernel
theorem d_Model_give_19 : decode b_Model_give 19 = .ok (.getfield 32, 3) := by decide +kernel
theorem d_Model_give_22 : decode b_Model_give 22 = .ok (.aload_n 0, 1) := by decide +kernel
theorem d_Model_give_23 : decode b_Model_give 23 = .ok (.getfield 117, 3) := by decide +kernel
theorem d_Model_give_26 : decode b_Model_give 26 = .ok (.iload_n 1, 1) := by decide +kernel
theorem d_Model_give_27 : decode b_Model_give 27 = .ok (.iastore, 1) := by decide +kernel
theorem d_Model_give_28 : decode b_Model_give 28 = .ok (.aload_n 0, 1) := by decide +kernel
theorem d_Model_give_29 : decode b_Model_give 29 = .ok (.aload_n 0, 1) := by decide +kernel
theorem d_Model_give_30 : decode b_Model_give 30 = .ok (.getfield 117, 3) := by decide +kernel
theorem d_Model_give_33 : decode b_Model_give 33 = .ok (.iconst 1, 1) := by decide +kernel
theorem d_Model_give_34 : decode b_Model_give 34 = .ok (.iadd, 1) := by decide +kernel
theorem d_Model_give_35 : decode b_Model_give 35 = .ok (.putfield 117, 3) := by decide +kernel
theorem d_Model_give_38 : decode b_Model_give 38 = .ok (.iconst 0, 1) := by decide +kernel
theorem d_Model_give_39 : decode b_Model_give 39 = .ok (.ireturn, 1) := by decide +kernel
theorem d_Model_step_0 : decode b_Model_step 0 = .ok (.aload_n 0, 1) := by decide +kernel
theorem d_Model_step_1 : decode b_Model_step 1 = .ok (.getfield 26, 3) := by decide +kernel
theorem d_Model_step_4 : decode b_Model_step 4 = .ok (.aload_n 0, 1) := by decide +kernel
theorem d_Model_step_5 : decode b_Model_step 5 = .ok (.getfield 53, 3) := by decide +kernel
theorem d_Model_step_8 : decode b_Model_step 8 = .ok (.iconst 1, 1) := by decide +kernel
theorem d_Model_step_9 : decode b_Model_step 9 = .ok (.isub, 1) := by decide +kernel
theorem d_Model_step_10 : decode b_Model_step 10 = .ok (.iaload, 1) := by decide +kernel
theorem d_Model_step_11 : decode b_Model_step 11 = .ok (.ifCond .ge 42, 3) := by decide +kernel
theorem d_Model_step_14 : decode b_Model_step 14 = .ok (.aload_n 0, 1) := by decide +kernel
theorem d_Model_step_15 : decode b_Model_step 15 = .ok (.aload_n 0, 1) := by decide +kernel
theorem d_Model_step_16 : decode b_Model_step 16 = .ok (.getfield 53, 3) := by decide +kernel
theorem d_Model_step_19 : decode b_Model_step 19 = .ok (.iconst 1, 1) := by decide +kernel
theorem d_Model_step_20 : decode b_Model_step 20 = .ok (.isub, 1) := by decide +kernel
theorem d_Model_step_21 : decode b_Model_step 21 = .ok (.putfield 53, 3) := by decide +kernel
theorem d_Model_step_24 : decode b_Model_step 24 = .ok (.aload_n 0, 1) := by decide +kernel
theorem d_Model_step_25 : decode b_Model_step 25 = .ok (.getfield 29, 3) := by decide +kernel
theorem d_Model_step_28 : decode b_Model_step 28 = .ok (.iconst (-1), 1) := by decide +kernel
theorem d_Model_step_29 : decode b_Model_step 29 = .ok (.aload_n 0, 1) := by decide +kernel
theorem d_Model_step_30 : decode b_Model_step 30 = .ok (.getfield 26, 3) := by decide +kernel
theorem d_Model_step_33 : decode b_Model_step 33 = .ok (.aload_n 0, 1) := by decide +kernel
theorem d_Model_step_34 : decode b_Model_step 34 = .ok (.getfield 53, 3) := by decide +kernel
theorem d_Model_step_37 : decode b_Model_step 37 = .ok (.iaload, 1) := by decide +kernel
theorem d_Model_step_38 : decode b_Model_step 38 = .ok (.isub, 1) := by decide +kernel
theorem d_Model_step_39 : decode b_Model_step 39 = .ok (.iconst 0, 1) := by decide +kernel
theorem d_Model_step_40 : decode b_Model_step 40 = .ok (.bastore, 1) := by decide +kernel
theorem d_Model_step_41 : decode b_Model_step 41 = .ok (.aload_n 0, 1) := by decide +kernel
theorem d_Model_step_42 : decode b_Model_step 42 = .ok (.aload_n 0, 1) := by decide +kernel
theorem d_Model_step_43 : decode b_Model_step 43 = .ok (.getfield 47, 3) := by decide +kernel
theorem d_Model_step_46 : decode b_Model_step 46 = .ok (.iconst 1, 1) := by decide +kernel
theorem d_Model_step_47 : decode b_Model_step 47 = .ok (.isub, 1) := by decide +kernel
theorem d_Model_step_48 : decode b_Model_step 48 = .ok (.putfield 47, 3) := by decide +kernel
theorem d_Model_step_51 : decode b_Model_step 51 = .ok (.iconst 0, 1) := by decide +kernel
theorem d_Model_step_52 : decode b_Model_step 52 = .ok (.ireturn, 1) := by decide +kernel
theorem d_Model_step_53 : decode b_Model_step 53 = .ok (.aload_n 0, 1) := by decide +kernel
theorem d_Model_step_54 : decode b_Model_step 54 = .ok (.invokevirtual 59, 3) := by decide +kernel
theorem d_Model_step_57 : decode b_Model_step 57 = .ok (.istore_n 2, 1) := by decide +kernel
theorem d_Model_step_58 : decode b_Model_step 58 = .ok (.aload_n 0, 1) := by decide +kernel
theorem d_Model_step_59 : decode b_Model_step 59 = .ok (.getfield 56, 3) := by decide +kernel
theorem d_Model_step_62 : decode b_Model_step 62 = .ok (.istore_n 3, 1) := by decide +kernel
theorem d_Model_step_63 : decode b_Model_step 63 = .ok (.aload_n 0, 1) := by decide +kernel
theorem d_Model_step_64 : decode b_Model_step 64 = .ok (.invokevirtual 74, 3) := by decide +kernel
theorem d_Model_step_67 : decode b_Model_step 67 = .ok (.iload_n 2, 1) := by decide +kernel
theorem d_Model_step_68 : decode b_Model_step 68 = .ok (.bipush 38, 2) := by decide +kernel
theorem d_Model_step_70 : decode b_Model_step 70 = .ok (.if_icmp .eq 10, 3) := by decide +kernel
theorem d_Model_step_73 : decode b_Model_step 73 = .ok (.aload_n 0, 1) := by decide +kernel
theorem d_Model_step_74 : decode b_Model_step 74 = .ok (.iload_n 2, 1) := by decide +kernel
theorem d_Model_step_75 : decode b_Model_step 75 = .ok (.iload_n 3, 1) := by decide +kernel
theorem d_Model_step_76 : decode b_Model_step 76 = .ok (.invokevirtual 120, 3) := by decide +kernel
theorem d_Model_step_79 : decode b_Model_step 79 = .ok (.ireturn, 1) := by decide +kernel
theorem d_Model_step_80 : decode b_Model_step 80 = .ok (.aload_n 0, 1) := by decide +kernel
theorem d_Model_step_81 : decode b_Model_step 81 = .ok (.iload_n 3, 1) := by decide +kernel
theorem d_Model_step_82 : decode b_Model_step 82 = .ok (.invokevirtual 101, 3) := by decide +kernel
theorem d_Model_step_85 : decode b_Model_step 85 = .ok (.ifCond .ge 5, 3) := by decide +kernel
theorem d_Model_step_88 : decode b_Model_step 88 = .ok (.iconst (-1), 1) := by decide +kernel
theorem d_Model_step_89 : decode b_Model_step 89 = .ok (.ireturn, 1) := by decide +kernel
theorem d_Model_step_90 : decode b_Model_step 90 = .ok (.aload_n 0, 1) := by decide +kernel
theorem d_Model_step_91 : decode b_Model_step 91 = .ok (.getfield 67, 3) := by decide +kernel
theorem d_Model_step_94 : decode b_Model_step 94 = .ok (.ifCond .ge 16, 3) := by decide +kernel
theorem d_Model_step_97 : decode b_Model_step 97 = .ok (.aload_n 0, 1) := by decide +kernel
theorem d_Model_step_98 : decode b_Model_step 98 = .ok (.aload_n 0, 1) := by decide +kernel
theorem d_Model_step_99 : decode b_Model_step 99 = .ok (.getfield 70, 3) := by decide +kernel
theorem d_Model_step_102 : decode b_Model_step 102 = .ok (.l2i, 1) := by decide +kernel
theorem d_Model_step_103 : decode b_Model_step 103 = .ok (.iload_n 3, 1) := by decide +kernel
theorem d_Model_step_104 : decode b_Model_step 104 = .ok (.invokevirtual 120, 3) := by decide +kernel
theorem d_Model_step_107 : decode b_Model_step 107 = .ok (.goto 9, 3) := by decide +kernel
theorem d_Model_step_110 : decode b_Model_step 110 = .ok (.aload_n 0, 1) := by decide +kernel
theorem d_Model_step_111 : decode b_Model_step 111 = .ok (.iload_n 3, 1) := by decide +kernel
theorem d_Model_step_112 : decode b_Model_step 112 = .ok (.iload_n 1, 1) := by decide +kernel
theorem d_Model_step_113 : decode b_Model_step 113 = .ok (.invokevirtual 123, 3) := by decide +kernel
theorem d_Model_step_116 : decode b_Model_step 116 = .ok (.ireturn, 1) := by decide +kernel
theorem d_Model_expand_0 : decode b_Model_expand 0 = .ok (.iload_n 1, 1) := by decide +kernel
theorem d_Model_expand_1 : decode b_Model_expand 1 = .ok (.ifCond .lt 9, 3) := by decide +kernel
theorem d_Model_expand_4 : decode b_Model_expand 4 = .ok (.iload_n 1, 1) := by decide +kernel
theorem d_Model_expand_5 : decode b_Model_expand 5 = .ok (.ldc 126, 2) := by decide +kernel
theorem d_Model_expand_7 : decode b_Model_expand 7 = .ok (.if_icmp .le 6, 3) := by decide +kernel
theorem d_Model_expand_10 : decode b_Model_expand 10 = .ok (.bipush (-102), 2) := by decide +kernel
theorem d_Model_expand_12 : decode b_Model_expand 12 = .ok (.ireturn, 1) := by decide +kernel
theorem d_Model_expand_13 : decode b_Model_expand 13 = .ok (.aload_n 0, 1) := by decide +kernel
theorem d_Model_expand_14 : decode b_Model_expand 14 = .ok (.invokevirtual 95, 3) := by decide +kernel
theorem d_Model_expand_17 : decode b_Model_expand 17 = .ok (.aload_n 0, 1) := by decide +kernel
theorem d_Model_expand_18 : decode b_Model_expand 18 = .ok (.iconst 0, 1) := by decide +kernel
theorem d_Model_expand_19 : decode b_Model_expand 19 = .ok (.putfield 108, 3) := by decide +kernel
theorem d_Model_expand_22 : decode b_Model_expand 22 = .ok (.aload_n 0, 1) := by decide +kernel
theorem d_Model_expand_23 : decode b_Model_expand 23 = .ok (.iconst 0, 1) := by decide +kernel
theorem d_Model_expand_24 : decode b_Model_expand 24 = .ok (.putfield 111, 3) := by decide +kernel
theorem d_Model_expand_27 : decode b_Model_expand 27 = .ok (.aload_n 0, 1) := by decide +kernel
theorem d_Model_expand_28 : decode b_Model_expand 28 = .ok (.iconst 0, 1) := by decide +kernel
theorem d_Model_expand_29 : decode b_Model_expand 29 = .ok (.putfield 114, 3) := by decide +kernel
theorem d_Model_expand_32 : decode b_Model_expand 32 = .ok (.aload_n 0, 1) := by decide +kernel
theorem d_Model_expand_33 : decode b_Model_expand 33 = .ok (.iconst 0, 1) := by decide +kernel
theorem d_Model_expand_34 : decode b_Model_expand 34 = .ok (.putfield 117, 3) := by decide +kernel
theorem d_Model_expand_37 : decode b_Model_expand 37 = .ok (.iconst 0, 1) := by decide +kernel
theorem d_Model_expand_38 : decode b_Model_expand 38 = .ok (.istore_n 2, 1) := by decide +kernel
theorem d_Model_expand_39 : decode b_Model_expand 39 = .ok (.aload_n 0, 1) := by decide +kernel
theorem d_Model_expand_40 : decode b_Model_expand 40 = .ok (.getfield 53, 3) := by decide +kernel
theorem d_Model_expand_43 : decode b_Model_expand 43 = .ok (.ifCond .le 16, 3) := by decide +kernel
theorem d_Model_expand_46 : decode b_Model_expand 46 = .ok (.iload_n 2, 1) := by decide +kernel
theorem d_Model_expand_47 : decode b_Model_expand 47 = .ok (.ifCond .ne 12, 3) := by decide +kernel
theorem d_Model_expand_50 : decode b_Model_expand 50 = .ok (.aload_n 0, 1) := by decide +kernel
theorem d_Model_expand_51 : decode b_Model_expand 51 = .ok (.iload_n 1, 1) := by decide +kernel
theorem d_Model_expand_52 : decode b_Model_expand 52 = .ok (.invokevirtual 127, 3) := by decide +kernel
theorem d_Model_expand_55 : decode b_Model_expand 55 = .ok (.istore_n 2, 1) := by decide +kernel
theorem d_Model_expand_56 : decode b_Model_expand 56 = .ok (.goto (-17), 3) := by decide +kernel
theorem d_Model_expand_59 : decode b_Model_expand 59 = .ok (.aload_n 0, 1) := by decide +kernel
theorem d_Model_expand_60 : decode b_Model_expand 60 = .ok (.iload_n 2, 1) := by decide +kernel
theorem d_Model_expand_61 : decode b_Model_expand 61 = .ok (.ifCond .ne 7, 3) := by decide +kernel
theorem d_Model_expand_64 : decode b_Model_expand 64 = .ok (.iconst 1, 1) := by decide +kernel
theorem d_Model_expand_65 : decode b_Model_expand 65 = .ok (.goto 4, 3) := by decide +kernel
theorem d_Model_expand_68 : decode b_Model_expand 68 = .ok (.iconst 0, 1) := by decide +kernel
theorem d_Model_expand_69 : decode b_Model_expand 69 = .ok (.putfield 130, 3) := by decide +kernel
theorem d_Model_expand_72 : decode b_Model_expand 72 = .ok (.aload_n 0, 1) := by decide +kernel
theorem d_Model_expand_73 : decode b_Model_expand 73 = .ok (.getfield 130, 3) := by decide +kernel
theorem d_Model_expand_76 : decode b_Model_expand 76 = .ok (.ifCond .eq 10, 3) := by decide +kernel
theorem d_Model_expand_79 : decode b_Model_expand 79 = .ok (.aload_n 0, 1) := by decide +kernel
theorem d_Model_expand_80 : decode b_Model_expand 80 = .ok (.getfield 117, 3) := by decide +kernel
theorem d_Model_expand_83 : decode b_Model_expand 83 = .ok (.goto 9, 3) := by decide +kernel
theorem d_Model_expand_86 : decode b_Model_expand 86 = .ok (.iconst (-1), 1) := by decide +kernel
theorem d_Model_expand_87 : decode b_Model_expand 87 = .ok (.aload_n 0, 1) := by decide +kernel
theorem d_Model_expand_88 : decode b_Model_expand 88 = .ok (.getfield 44, 3) := by decide +kernel
theorem d_Model_expand_91 : decode b_Model_expand 91 = .ok (.isub, 1) := by decide +kernel
theorem d_Model_expand_92 : decode b_Model_expand 92 = .ok (.ireturn, 1) := by decide +kernel
theorem d_Model_place_0 : decode b_Model_place 0 = .ok (.aload_n 0, 1) := by decide +kernel
theorem d_Model_place_1 : decode b_Model_place 1 = .ok (.getfield 35, 3) := by decide +kernel
theorem d_Model_place_4 : decode b_Model_place 4 = .ok (.ireturn, 1) := by decide +kernel
theorem d_Model_given_0 : decode b_Model_given 0 = .ok (.aload_n 0, 1) := by decide +kernel
theorem d_Model_given_1 : decode b_Model_given 1 = .ok (.getfield 130, 3) := by decide +kernel
theorem d_Model_given_4 : decode b_Model_given 4 = .ok (.ifCond .eq 24, 3) := by decide +kernel
theorem d_Model_given_7 : decode b_Model_given 7 = .ok (.iload_n 1, 1) := by decide +kernel
theorem d_Model_given_8 : decode b_Model_given 8 = .ok (.ifCond .lt 20, 3) := by decide +kernel
theorem d_Model_given_11 : decode b_Model_given 11 = .ok (.iload_n 1, 1) := by decide +kernel
theorem d_Model_given_12 : decode b_Model_given 12 = .ok (.aload_n 0, 1) := by decide +kernel
theorem d_Model_given_13 : decode b_Model_given 13 = .ok (.getfield 117, 3) := by decide +kernel
theorem d_Model_given_16 : decode b_Model_given 16 = .ok (.if_icmp .ge 12, 3) := by decide +kernel
theorem d_Model_given_19 : decode b_Model_given 19 = .ok (.aload_n 0, 1) := by decide +kernel
theorem d_Model_given_20 : decode b_Model_given 20 = .ok (.getfield 32, 3) := by decide +kernel
theorem d_Model_given_23 : decode b_Model_given 23 = .ok (.iload_n 1, 1) := by decide +kernel
theorem d_Model_given_24 : decode b_Model_given 24 = .ok (.iaload, 1) := by decide +kernel
theorem d_Model_given_25 : decode b_Model_given 25 = .ok (.goto 4, 3) := by decide +kernel
theorem d_Model_given_28 : decode b_Model_given 28 = .ok (.iconst (-1), 1) := by decide +kernel
theorem d_Model_given_29 : decode b_Model_given 29 = .ok (.ireturn, 1) := by decide +kernel
theorem d_Model_text_0 : decode b_Model_text 0 = .ok (.iload_n 1, 1) := by decide +kernel
theorem d_Model_text_1 : decode b_Model_text 1 = .ok (.ifCond .lt 55, 3) := by decide +kernel
theorem d_Model_text_4 : decode b_Model_text 4 = .ok (.iload_n 1, 1) := by decide +kernel
theorem d_Model_text_5 : decode b_Model_text 5 = .ok (.bipush 26, 2) := by decide +kernel
theorem d_Model_text_7 : decode b_Model_text 7 = .ok (.if_icmp .ge 49, 3) := by decide +kernel
theorem d_Model_text_10 : decode b_Model_text 10 = .ok (.aload_n 0, 1) := by decide +kernel
theorem d_Model_text_11 : decode b_Model_text 11 = .ok (.getfield 22, 3) := by decide +kernel
theorem d_Model_text_14 : decode b_Model_text 14 = .ok (.iload_n 1, 1) := by decide +kernel
theorem d_Model_text_15 : decode b_Model_text 15 = .ok (.baload, 1) := by decide +kernel
theorem d_Model_text_16 : decode b_Model_text 16 = .ok (.ifCond .eq 40, 3) := by decide +kernel
theorem d_Model_text_19 : decode b_Model_text 19 = .ok (.iload_n 2, 1) := by decide +kernel
theorem d_Model_text_20 : decode b_Model_text 20 = .ok (.ifCond .lt 36, 3) := by decide +kernel
theorem d_Model_text_23 : decode b_Model_text 23 = .ok (.iload_n 2, 1) := by decide +kernel
theorem d_Model_text_24 : decode b_Model_text 24 = .ok (.aload_n 0, 1) := by decide +kernel
theorem d_Model_text_25 : decode b_Model_text 25 = .ok (.getfield 19, 3) := by decide +kernel
theorem d_Model_text_28 : decode b_Model_text 28 = .ok (.iload_n 1, 1) := by decide +kernel
theorem d_Model_text_29 : decode b_Model_text 29 = .ok (.iaload, 1) := by decide +kernel
theorem d_Model_text_30 : decode b_Model_text 30 = .ok (.aload_n 0, 1) := by decide +kernel
theorem d_Model_text_31 : decode b_Model_text 31 = .ok (.getfield 16, 3) := by decide +kernel
theorem d_Model_text_34 : decode b_Model_text 34 = .ok (.iload_n 1, 1) := by decide +kernel
theorem d_Model_text_35 : decode b_Model_text 35 = .ok (.iaload, 1) := by decide +kernel
theorem d_Model_text_36 : decode b_Model_text 36 = .ok (.isub, 1) := by decide +kernel
theorem d_Model_text_37 : decode b_Model_text 37 = .ok (.if_icmp .ge 19, 3) := by decide +kernel
theorem d_Model_text_40 : decode b_Model_text 40 = .ok (.aload_n 0, 1) := by decide +kernel
theorem d_Model_text_41 : decode b_Model_text 41 = .ok (.getfield 13, 3) := by decide +kernel
theorem d_Model_text_44 : decode b_Model_text 44 = .ok (.aload_n 0, 1) := by decide +kernel
theorem d_Model_text_45 : decode b_Model_text 45 = .ok (.getfield 16, 3) := by decide +kernel
theorem d_Model_text_48 : decode b_Model_text 48 = .ok (.iload_n 1, 1) := by decide +kernel
theorem d_Model_text_49 : decode b_Model_text 49 = .ok (.iaload, 1) := by decide +kernel
theorem d_Model_text_50 : decode b_Model_text 50 = .ok (.iload_n 2, 1) := by decide +kernel
theorem d_Model_text_51 : decode b_Model_text 51 = .ok (.iadd, 1) := by decide +kernel
theorem d_Model_text_52 : decode b_Model_text 52 = .ok (.iaload, 1) := by decide +kernel
theorem d_Model_text_53 : decode b_Model_text 53 = .ok (.goto 4, 3) := by decide +kernel
theorem d_Model_text_56 : decode b_Model_text 56 = .ok (.iconst (-1), 1) := by decide +kernel
theorem d_Model_text_57 : decode b_Model_text 57 = .ok (.ireturn, 1) := by decide +kernel
theorem d_Model_count_0 : decode b_Model_count 0 = .ok (.iload_n 1, 1) := by decide +kernel
theorem d_Model_count_1 : decode b_Model_count 1 = .ok (.tableswitch 69 0 5 #[39, 44, 49, 54, 59, 64], 39) := by decide +kernel
theorem d_Model_count_40 : decode b_Model_count 40 = .ok (.aload_n 0, 1) := by decide +kernel
theorem d_Model_count_41 : decode b_Model_count 41 = .ok (.getfield 105, 3) := by decide +kernel
theorem d_Model_count_44 : decode b_Model_count 44 = .ok (.ireturn, 1) := by decide +kernel
theorem d_Model_count_45 : decode b_Model_count 45 = .ok (.aload_n 0, 1) := by decide +kernel
theorem d_Model_count_46 : decode b_Model_count 46 = .ok (.getfield 98, 3) := by decide +kernel
theorem d_Model_count_49 : decode b_Model_count 49 = .ok (.ireturn, 1) := by decide +kernel
theorem d_Model_count_50 : decode b_Model_count 50 = .ok (.aload_n 0, 1) := by decide +kernel
theorem d_Model_count_51 : decode b_Model_count 51 = .ok (.getfield 108, 3) := by decide +kernel
theorem d_Model_count_54 : decode b_Model_count 54 = .ok (.ireturn, 1) := by decide +kernel
theorem d_Model_count_55 : decode b_Model_count 55 = .ok (.aload_n 0, 1) := by decide +kernel
theorem d_Model_count_56 : decode b_Model_count 56 = .ok (.getfield 39, 3) := by decide +kernel
theorem d_Model_count_59 : decode b_Model_count 59 = .ok (.ireturn, 1) := by decide +kernel
theorem d_Model_count_60 : decode b_Model_count 60 = .ok (.aload_n 0, 1) := by decide +kernel
theorem d_Model_count_61 : decode b_Model_count 61 = .ok (.getfield 111, 3) := by decide +kernel
theorem d_Model_count_64 : decode b_Model_count 64 = .ok (.ireturn, 1) := by decide +kernel
theorem d_Model_count_65 : decode b_Model_count 65 = .ok (.aload_n 0, 1) := by decide +kernel
theorem d_Model_count_66 : decode b_Model_count 66 = .ok (.getfield 114, 3) := by decide +kernel
theorem d_Model_count_69 : decode b_Model_count 69 = .ok (.ireturn, 1) := by decide +kernel
theorem d_Model_count_70 : decode b_Model_count 70 = .ok (.iconst (-1), 1) := by decide +kernel
theorem d_Model_count_71 : decode b_Model_count 71 = .ok (.ireturn, 1) := by decide +kernel
end
section
theorem d_Reader_init_0 : decode b_Reader_init 0 = .ok (.aload_n 0, 1) := by decide +kernel
theorem d_Reader_init_1 : decode b_Reader_init 1 = .ok (.invokespecial 3, 3) := by decide +kernel
theorem d_Reader_init_4 : decode b_Reader_init 4 = .ok (.aload_n 0, 1) := by decide +kernel
theorem d_Reader_init_5 : decode b_Reader_init 5 = .ok (.iconst 0, 1) := by decide +kernel
theorem d_Reader_init_6 : decode b_Reader_init 6 = .ok (.putfield 11, 3) := by decide +kernel
theorem d_Reader_init_9 : decode b_Reader_init 9 = .ok (.aload_n 0, 1) := by decide +kernel
theorem d_Reader_init_10 : decode b_Reader_init 10 = .ok (.iconst 0, 1) := by decide +kernel
theorem d_Reader_init_11 : decode b_Reader_init 11 = .ok (.putfield 15, 3) := by decide +kernel
theorem d_Reader_init_14 : decode b_Reader_init 14 = .ok (.aload_n 0, 1) := by decide +kernel
theorem d_Reader_init_15 : decode b_Reader_init 15 = .ok (.iconst 0, 1) := by decide +kernel
theorem d_Reader_init_16 : decode b_Reader_init 16 = .ok (.putfield 18, 3) := by decide +kernel
theorem d_Reader_init_19 : decode b_Reader_init 19 = .ok (.return_, 1) := by decide +kernel
theorem d_Reader_begin_0 : decode b_Reader_begin 0 = .ok (.aload_n 0, 1) := by decide +kernel
theorem d_Reader_begin_1 : decode b_Reader_begin 1 = .ok (.iconst 0, 1) := by decide +kernel
theorem d_Reader_begin_2 : decode b_Reader_begin 2 = .ok (.putfield 11, 3) := by decide +kernel
theorem d_Reader_begin_5 : decode b_Reader_begin 5 = .ok (.return_, 1) := by decide +kernel
theorem d_Reader_isWithin_0 : decode b_Reader_isWithin 0 = .ok (.aload_n 0, 1) := by decide +kernel
theorem d_Reader_isWithin_1 : decode b_Reader_isWithin 1 = .ok (.getfield 11, 3) := by decide +kernel
theorem d_Reader_isWithin_4 : decode b_Reader_isWithin 4 = .ok (.ifCond .eq 7, 3) := by decide +kernel
theorem d_Reader_isWithin_7 : decode b_Reader_isWithin 7 = .ok (.iconst 1, 1) := by decide +kernel
theorem d_Reader_isWithin_8 : decode b_Reader_isWithin 8 = .ok (.goto 4, 3) := by decide +kernel
theorem d_Reader_isWithin_11 : decode b_Reader_isWithin 11 = .ok (.iconst 0, 1) := by decide +kernel
theorem d_Reader_isWithin_12 : decode b_Reader_isWithin 12 = .ok (.ireturn, 1) := by decide +kernel
theorem d_Reader_read_0 : decode b_Reader_read 0 = .ok (.aload_n 0, 1) := by decide +kernel
theorem d_Reader_read_1 : decode b_Reader_read 1 = .ok (.getfield 11, 3) := by decide +kernel
theorem d_Reader_read_4 : decode b_Reader_read 4 = .ok (.tableswitch 140 1 6 #[40, 46, 62, 85, 107, 117], 40) := by decide +kernel
theorem d_Reader_read_44 : decode b_Reader_read 44 = .ok (.aload_n 0, 1) := by decide +kernel
theorem d_Reader_read_45 : decode b_Reader_read 45 = .ok (.iload_n 1, 1) := by decide +kernel
theorem d_Reader_read_46 : decode b_Reader_read 46 = .ok (.invokevirtual 21, 3) := by decide +kernel
theorem d_Reader_read_49 : decode b_Reader_read 49 = .ok (.ireturn, 1) := by decide +kernel
theorem d_Reader_read_50 : decode b_Reader_read 50 = .ok (.iload_n 1, 1) := by decide +kernel
theorem d_Reader_read_51 : decode b_Reader_read 51 = .ok (.bipush 59, 2) := by decide +kernel
theorem d_Reader_read_53 : decode b_Reader_read 53 = .ok (.if_icmp .ne 11, 3) := by decide +kernel
theorem d_Reader_read_56 : decode b_Reader_read 56 = .ok (.aload_n 0, 1) := by decide +kernel
theorem d_Reader_read_57 : decode b_Reader_read 57 = .ok (.iconst 3, 1) := by decide +kernel
theorem d_Reader_read_58 : decode b_Reader_read 58 = .ok (.invokevirtual 25, 3) := by decide +kernel
theorem d_Reader_read_61 : decode b_Reader_read 61 = .ok (.goto 4, 3) := by decide +kernel
theorem d_Reader_read_64 : decode b_Reader_read 64 = .ok (.iconst 5, 1) := by decide +kernel
theorem d_Reader_read_65 : decode b_Reader_read 65 = .ok (.ireturn, 1) := by decide +kernel
theorem d_Reader_read_66 : decode b_Reader_read 66 = .ok (.iload_n 1, 1) := by decide +kernel
theorem d_Reader_read_67 : decode b_Reader_read 67 = .ok (.bipush 120, 2) := by decide +kernel
theorem d_Reader_read_69 : decode b_Reader_read 69 = .ok (.if_icmp .ne 11, 3) := by decide +kernel
theorem d_Reader_read_72 : decode b_Reader_read 72 = .ok (.aload_n 0, 1) := by decide +kernel
theorem d_Reader_read_73 : decode b_Reader_read 73 = .ok (.iconst 5, 1) := by decide +kernel
theorem d_Reader_read_74 : decode b_Reader_read 74 = .ok (.invokevirtual 28, 3) := by decide +kernel
theorem d_Reader_read_77 : decode b_Reader_read 77 = .ok (.goto 11, 3) := by decide +kernel
theorem d_Reader_read_80 : decode b_Reader_read 80 = .ok (.aload_n 0, 1) := by decide +kernel
theorem d_Reader_read_81 : decode b_Reader_read 81 = .ok (.iload_n 1, 1) := by decide +kernel
theorem d_Reader_read_82 : decode b_Reader_read 82 = .ok (.bipush 10, 2) := by decide +kernel
theorem d_Reader_read_84 : decode b_Reader_read 84 = .ok (.iconst 4, 1) := by decide +kernel
theorem d_Reader_read_85 : decode b_Reader_read 85 = .ok (.invokevirtual 31, 3) := by decide +kernel
theorem d_Reader_read_88 : decode b_Reader_read 88 = .ok (.ireturn, 1) := by decide +kernel
theorem d_Reader_read_89 : decode b_Reader_read 89 = .ok (.iload_n 1, 1) := by decide +kernel
theorem d_Reader_read_90 : decode b_Reader_read 90 = .ok (.bipush 59, 2) := by decide +kernel
theorem d_Reader_read_92 : decode b_Reader_read 92 = .ok (.if_icmp .ne 10, 3) := by decide +kernel
theorem d_Reader_read_95 : decode b_Reader_read 95 = .ok (.aload_n 0, 1) := by decide +kernel
theorem d_Reader_read_96 : decode b_Reader_read 96 = .ok (.invokevirtual 35, 3) := by decide +kernel
theorem d_Reader_read_99 : decode b_Reader_read 99 = .ok (.goto 11, 3) := by decide +kernel
theorem d_Reader_read_102 : decode b_Reader_read 102 = .ok (.aload_n 0, 1) := by decide +kernel
theorem d_Reader_read_103 : decode b_Reader_read 103 = .ok (.iload_n 1, 1) := by decide +kernel
theorem d_Reader_read_104 : decode b_Reader_read 104 = .ok (.bipush 10, 2) := by decide +kernel
theorem d_Reader_read_106 : decode b_Reader_read 106 = .ok (.iconst 4, 1) := by decide +kernel
theorem d_Reader_read_107 : decode b_Reader_read 107 = .ok (.invokevirtual 31, 3) := by decide +kernel
theorem d_Reader_read_110 : decode b_Reader_read 110 = .ok (.ireturn, 1) := by decide +kernel
theorem d_Reader_read_111 : decode b_Reader_read 111 = .ok (.aload_n 0, 1) := by decide +kernel
theorem d_Reader_read_112 : decode b_Reader_read 112 = .ok (.iload_n 1, 1) := by decide +kernel
theorem d_Reader_read_113 : decode b_Reader_read 113 = .ok (.bipush 16, 2) := by decide +kernel
theorem d_Reader_read_115 : decode b_Reader_read 115 = .ok (.bipush 6, 2) := by decide +kernel
theorem d_Reader_read_117 : decode b_Reader_read 117 = .ok (.invokevirtual 31, 3) := by decide +kernel
theorem d_Reader_read_120 : decode b_Reader_read 120 = .ok (.ireturn, 1) := by decide +kernel
theorem d_Reader_read_121 : decode b_Reader_read 121 = .ok (.iload_n 1, 1) := by decide +kernel
theorem d_Reader_read_122 : decode b_Reader_read 122 = .ok (.bipush 59, 2) := by decide +kernel
theorem d_Reader_read_124 : decode b_Reader_read 124 = .ok (.if_icmp .ne 10, 3) := by decide +kernel
theorem d_Reader_read_127 : decode b_Reader_read 127 = .ok (.aload_n 0, 1) := by decide +kernel
theorem d_Reader_read_128 : decode b_Reader_read 128 = .ok (.invokevirtual 35, 3) := by decide +kernel
theorem d_Reader_read_131 : decode b_Reader_read 131 = .ok (.goto 12, 3) := by decide +kernel
theorem d_Reader_read_134 : decode b_Reader_read 134 = .ok (.aload_n 0, 1) := by decide +kernel
theorem d_Reader_read_135 : decode b_Reader_read 135 = .ok (.iload_n 1, 1) := by decide +kernel
theorem d_Reader_read_136 : decode b_Reader_read 136 = .ok (.bipush 16, 2) := by decide +kernel
theorem d_Reader_read_138 : decode b_Reader_read 138 = .ok (.bipush 6, 2) := by decide +kernel
theorem d_Reader_read_140 : decode b_Reader_read 140 = .ok (.invokevirtual 31, 3) := by decide +kernel
theorem d_Reader_read_143 : decode b_Reader_read 143 = .ok (.ireturn, 1) := by decide +kernel
theorem d_Reader_read_144 : decode b_Reader_read 144 = .ok (.iload_n 1, 1) := by decide +kernel
theorem d_Reader_read_145 : decode b_Reader_read 145 = .ok (.bipush 38, 2) := by decide +kernel
theorem d_Reader_read_147 : decode b_Reader_read 147 = .ok (.if_icmp .ne 11, 3) := by decide +kernel
theorem d_Reader_read_150 : decode b_Reader_read 150 = .ok (.aload_n 0, 1) := by decide +kernel
theorem d_Reader_read_151 : decode b_Reader_read 151 = .ok (.iconst 1, 1) := by decide +kernel
theorem d_Reader_read_152 : decode b_Reader_read 152 = .ok (.invokevirtual 28, 3) := by decide +kernel
theorem d_Reader_read_155 : decode b_Reader_read 155 = .ok (.goto 4, 3) := by decide +kernel
theorem d_Reader_read_158 : decode b_Reader_read 158 = .ok (.iconst 0, 1) := by decide +kernel
theorem d_Reader_read_159 : decode b_Reader_read 159 = .ok (.ireturn, 1) := by decide +kernel
theorem d_Reader_readBehindAmpersand_0 : decode b_Reader_readBehindAmpersand 0 = .ok (.iload_n 1, 1) := by decide +kernel
theorem d_Reader_readBehindAmpersand_1 : decode b_Reader_readBehindAmpersand 1 = .ok (.bipush 35, 2) := by decide +kernel
theorem d_Reader_readBehindAmpersand_3 : decode b_Reader_readBehindAmpersand 3 = .ok (.if_icmp .ne 14, 3) := by decide +kernel
theorem d_Reader_readBehindAmpersand_6 : decode b_Reader_readBehindAmpersand 6 = .ok (.aload_n 0, 1) := by decide +kernel
theorem d_Reader_readBehindAmpersand_7 : decode b_Reader_readBehindAmpersand 7 = .ok (.iconst 0, 1) := by decide +kernel
theorem d_Reader_readBehindAmpersand_8 : decode b_Reader_readBehindAmpersand 8 = .ok (.putfield 18, 3) := by decide +kernel
theorem d_Reader_readBehindAmpersand_11 : decode b_Reader_readBehindAmpersand 11 = .ok (.aload_n 0, 1) := by decide +kernel
theorem d_Reader_readBehindAmpersand_12 : decode b_Reader_readBehindAmpersand 12 = .ok (.iconst 3, 1) := by decide +kernel
theorem d_Reader_readBehindAmpersand_13 : decode b_Reader_readBehindAmpersand 13 = .ok (.invokevirtual 28, 3) := by decide +kernel
theorem d_Reader_readBehindAmpersand_16 : decode b_Reader_readBehindAmpersand 16 = .ok (.ireturn, 1) := by decide +kernel
theorem d_Reader_readBehindAmpersand_17 : decode b_Reader_readBehindAmpersand 17 = .ok (.iload_n 1, 1) := by decide +kernel
theorem d_Reader_readBehindAmpersand_18 : decode b_Reader_readBehindAmpersand 18 = .ok (.bipush 97, 2) := by decide +kernel
theorem d_Reader_readBehindAmpersand_20 : decode b_Reader_readBehindAmpersand 20 = .ok (.if_icmp .lt 23, 3) := by decide +kernel
theorem d_Reader_readBehindAmpersand_23 : decode b_Reader_readBehindAmpersand 23 = .ok (.iload_n 1, 1) := by decide +kernel
theorem d_Reader_readBehindAmpersand_24 : decode b_Reader_readBehindAmpersand 24 = .ok (.bipush 122, 2) := by decide +kernel
theorem d_Reader_readBehindAmpersand_26 : decode b_Reader_readBehindAmpersand 26 = .ok (.if_icmp .gt 17, 3) := by decide +kernel
theorem d_Reader_readBehindAmpersand_29 : decode b_Reader_readBehindAmpersand 29 = .ok (.aload_n 0, 1) := by decide +kernel
theorem d_Reader_readBehindAmpersand_30 : decode b_Reader_readBehindAmpersand 30 = .ok (.iload_n 1, 1) := by decide +kernel
theorem d_Reader_readBehindAmpersand_31 : decode b_Reader_readBehindAmpersand 31 = .ok (.bipush 97, 2) := by decide +kernel
theorem d_Reader_readBehindAmpersand_33 : decode b_Reader_readBehindAmpersand 33 = .ok (.isub, 1) := by decide +kernel
theorem d_Reader_readBehindAmpersand_34 : decode b_Reader_readBehindAmpersand 34 = .ok (.putfield 15, 3) := by decide +kernel
theorem d_Reader_readBehindAmpersand_37 : decode b_Reader_readBehindAmpersand 37 = .ok (.aload_n 0, 1) := by decide +kernel
theorem d_Reader_readBehindAmpersand_38 : decode b_Reader_readBehindAmpersand 38 = .ok (.iconst 2, 1) := by decide +kernel
theorem d_Reader_readBehindAmpersand_39 : decode b_Reader_readBehindAmpersand 39 = .ok (.invokevirtual 28, 3) := by decide +kernel
theorem d_Reader_readBehindAmpersand_42 : decode b_Reader_readBehindAmpersand 42 = .ok (.ireturn, 1) := by decide +kernel
theorem d_Reader_readBehindAmpersand_43 : decode b_Reader_readBehindAmpersand 43 = .ok (.iconst 5, 1) := by decide +kernel
theorem d_Reader_readBehindAmpersand_44 : decode b_Reader_readBehindAmpersand 44 = .ok (.ireturn, 1) := by decide +kernel
theorem d_Reader_readDigit_0 : decode b_Reader_readDigit 0 = .ok (.iload_n 1, 1) := by decide +kernel
theorem d_Reader_readDigit_1 : decode b_Reader_readDigit 1 = .ok (.invokestatic 39, 3) := by decide +kernel
theorem d_Reader_readDigit_4 : decode b_Reader_readDigit 4 = .ok (.istore 4, 2) := by decide +kernel
theorem d_Reader_readDigit_6 : decode b_Reader_readDigit 6 = .ok (.iload 4, 2) := by decide +kernel
theorem d_Reader_readDigit_8 : decode b_Reader_readDigit 8 = .ok (.ifCond .lt 9, 3) := by decide +kernel
theorem d_Reader_readDigit_11 : decode b_Reader_readDigit 11 = .ok (.iload 4, 2) := by decide +kernel
theorem d_Reader_readDigit_13 : decode b_Reader_readDigit 13 = .ok (.iload_n 2, 1) := by decide +kernel
theorem d_Reader_readDigit_14 : decode b_Reader_readDigit 14 = .ok (.if_icmp .lt 5, 3) := by decide +kernel
theorem d_Reader_readDigit_17 : decode b_Reader_readDigit 17 = .ok (.iconst 5, 1) := by decide +kernel
theorem d_Reader_readDigit_18 : decode b_Reader_readDigit 18 = .ok (.ireturn, 1) := by decide +kernel
theorem d_Reader_readDigit_19 : decode b_Reader_readDigit 19 = .ok (.aload_n 0, 1) := by decide +kernel
theorem d_Reader_readDigit_20 : decode b_Reader_readDigit 20 = .ok (.aload_n 0, 1) := by decide +kernel
theorem d_Reader_readDigit_21 : decode b_Reader_readDigit 21 = .ok (.getfield 18, 3) := by decide +kernel
theorem d_Reader_readDigit_24 : decode b_Reader_readDigit 24 = .ok (.iload_n 2, 1) := by decide +kernel
theorem d_Reader_readDigit_25 : decode b_Reader_readDigit 25 = .ok (.imul, 1) := by decide +kernel
theorem d_Reader_readDigit_26 : decode b_Reader_readDigit 26 = .ok (.iload 4, 2) := by decide +kernel
theorem d_Reader_readDigit_28 : decode b_Reader_readDigit 28 = .ok (.iadd, 1) := by decide +kernel
theorem d_Reader_readDigit_29 : decode b_Reader_readDigit 29 = .ok (.sipush 256, 3) := by decide +kernel
theorem d_Reader_readDigit_32 : decode b_Reader_readDigit 32 = .ok (.invokestatic 42, 3) := by decide +kernel
theorem d_Reader_readDigit_35 : decode b_Reader_readDigit 35 = .ok (.putfield 18, 3) := by decide +kernel
theorem d_Reader_readDigit_38 : decode b_Reader_readDigit 38 = .ok (.aload_n 0, 1) := by decide +kernel
theorem d_Reader_readDigit_39 : decode b_Reader_readDigit 39 = .ok (.iload_n 3, 1) := by decide +kernel
theorem d_Reader_readDigit_40 : decode b_Reader_readDigit 40 = .ok (.invokevirtual 28, 3) := by decide +kernel
theorem d_Reader_readDigit_43 : decode b_Reader_readDigit 43 = .ok (.ireturn, 1) := by decide +kernel
theorem d_Reader_valueOf_0 : decode b_Reader_valueOf 0 = .ok (.iload_n 0, 1) := by decide +kernel
theorem d_Reader_valueOf_1 : decode b_Reader_valueOf 1 = .ok (.bipush 48, 2) := by decide +kernel
theorem d_Reader_valueOf_3 : decode b_Reader_valueOf 3 = .ok (.if_icmp .lt 14, 3) := by decide +kernel
theorem d_Reader_valueOf_6 : decode b_Reader_valueOf 6 = .ok (.iload_n 0, 1) := by decide +kernel
theorem d_Reader_valueOf_7 : decode b_Reader_valueOf 7 = .ok (.bipush 57, 2) := by decide +kernel
theorem d_Reader_valueOf_9 : decode b_Reader_valueOf 9 = .ok (.if_icmp .gt 8, 3) := by decide +kernel
theorem d_Reader_valueOf_12 : decode b_Reader_valueOf 12 = .ok (.iload_n 0, 1) := by decide +kernel
theorem d_Reader_valueOf_13 : decode b_Reader_valueOf 13 = .ok (.bipush 48, 2) := by decide +kernel
theorem d_Reader_valueOf_15 : decode b_Reader_valueOf 15 = .ok (.isub, 1) := by decide +kernel
theorem d_Reader_valueOf_16 : decode b_Reader_valueOf 16 = .ok (.ireturn, 1) := by decide +kernel
theorem d_Reader_valueOf_17 : decode b_Reader_valueOf 17 = .ok (.iload_n 0, 1) := by decide +kernel
theorem d_Reader_valueOf_18 : decode b_Reader_valueOf 18 = .ok (.bipush 97, 2) := by decide +kernel
theorem d_Reader_valueOf_20 : decode b_Reader_valueOf 20 = .ok (.if_icmp .lt 17, 3) := by decide +kernel
theorem d_Reader_valueOf_23 : decode b_Reader_valueOf 23 = .ok (.iload_n 0, 1) := by decide +kernel
theorem d_Reader_valueOf_24 : decode b_Reader_valueOf 24 = .ok (.bipush 102, 2) := by decide +kernel
theorem d_Reader_valueOf_26 : decode b_Reader_valueOf 26 = .ok (.if_icmp .gt 11, 3) := by decide +kernel
theorem d_Reader_valueOf_29 : decode b_Reader_valueOf 29 = .ok (.iload_n 0, 1) := by decide +kernel
theorem d_Reader_valueOf_30 : decode b_Reader_valueOf 30 = .ok (.bipush 97, 2) := by decide +kernel
theorem d_Reader_valueOf_32 : decode b_Reader_valueOf 32 = .ok (.isub, 1) := by decide +kernel
theorem d_Reader_valueOf_33 : decode b_Reader_valueOf 33 = .ok (.bipush 10, 2) := by decide +kernel
theorem d_Reader_valueOf_35 : decode b_Reader_valueOf 35 = .ok (.iadd, 1) := by decide +kernel
theorem d_Reader_valueOf_36 : decode b_Reader_valueOf 36 = .ok (.ireturn, 1) := by decide +kernel
theorem d_Reader_valueOf_37 : decode b_Reader_valueOf 37 = .ok (.iload_n 0, 1) := by decide +kernel
theorem d_Reader_valueOf_38 : decode b_Reader_valueOf 38 = .ok (.bipush 65, 2) := by decide +kernel
theorem d_Reader_valueOf_40 : decode b_Reader_valueOf 40 = .ok (.if_icmp .lt 17, 3) := by decide +kernel
theorem d_Reader_valueOf_43 : decode b_Reader_valueOf 43 = .ok (.iload_n 0, 1) := by decide +kernel
theorem d_Reader_valueOf_44 : decode b_Reader_valueOf 44 = .ok (.bipush 70, 2) := by decide +kernel
theorem d_Reader_valueOf_46 : decode b_Reader_valueOf 46 = .ok (.if_icmp .gt 11, 3) := by decide +kernel
theorem d_Reader_valueOf_49 : decode b_Reader_valueOf 49 = .ok (.iload_n 0, 1) := by decide +kernel
theorem d_Reader_valueOf_50 : decode b_Reader_valueOf 50 = .ok (.bipush 65, 2) := by decide +kernel
theorem d_Reader_valueOf_52 : decode b_Reader_valueOf 52 = .ok (.isub, 1) := by decide +kernel
theorem d_Reader_valueOf_53 : decode b_Reader_valueOf 53 = .ok (.bipush 10, 2) := by decide +kernel
theorem d_Reader_valueOf_55 : decode b_Reader_valueOf 55 = .ok (.iadd, 1) := by decide +kernel
theorem d_Reader_valueOf_56 : decode b_Reader_valueOf 56 = .ok (.ireturn, 1) := by decide +kernel
theorem d_Reader_valueOf_57 : decode b_Reader_valueOf 57 = .ok (.iconst (-1), 1) := by decide +kernel
theorem d_Reader_valueOf_58 : decode b_Reader_valueOf 58 = .ok (.ireturn, 1) := by decide +kernel
theorem d_Reader_mayBe_0 : decode b_Reader_mayBe 0 = .ok (.iload_n 0, 1) := by decide +kernel
theorem d_Reader_mayBe_1 : decode b_Reader_mayBe 1 = .ok (.bipush 9, 2) := by decide +kernel
theorem d_Reader_mayBe_3 : decode b_Reader_mayBe 3 = .ok (.if_icmp .eq 28, 3) := by decide +kernel
theorem d_Reader_mayBe_6 : decode b_Reader_mayBe 6 = .ok (.iload_n 0, 1) := by decide +kernel
theorem d_Reader_mayBe_7 : decode b_Reader_mayBe 7 = .ok (.bipush 10, 2) := by decide +kernel
theorem d_Reader_mayBe_9 : decode b_Reader_mayBe 9 = .ok (.if_icmp .eq 22, 3) := by decide +kernel
theorem d_Reader_mayBe_12 : decode b_Reader_mayBe 12 = .ok (.iload_n 0, 1) := by decide +kernel
theorem d_Reader_mayBe_13 : decode b_Reader_mayBe 13 = .ok (.bipush 13, 2) := by decide +kernel
theorem d_Reader_mayBe_15 : decode b_Reader_mayBe 15 = .ok (.if_icmp .eq 16, 3) := by decide +kernel
theorem d_Reader_mayBe_18 : decode b_Reader_mayBe 18 = .ok (.iload_n 0, 1) := by decide +kernel
theorem d_Reader_mayBe_19 : decode b_Reader_mayBe 19 = .ok (.bipush 32, 2) := by decide +kernel
theorem d_Reader_mayBe_21 : decode b_Reader_mayBe 21 = .ok (.if_icmp .lt 14, 3) := by decide +kernel
theorem d_Reader_mayBe_24 : decode b_Reader_mayBe 24 = .ok (.iload_n 0, 1) := by decide +kernel
theorem d_Reader_mayBe_25 : decode b_Reader_mayBe 25 = .ok (.sipush 255, 3) := by decide +kernel
theorem d_Reader_mayBe_28 : decode b_Reader_mayBe 28 = .ok (.if_icmp .gt 7, 3) := by decide +kernel
theorem d_Reader_mayBe_31 : decode b_Reader_mayBe 31 = .ok (.iconst 1, 1) := by decide +kernel
theorem d_Reader_mayBe_32 : decode b_Reader_mayBe 32 = .ok (.goto 4, 3) := by decide +kernel
theorem d_Reader_mayBe_35 : decode b_Reader_mayBe 35 = .ok (.iconst 0, 1) := by decide +kernel
theorem d_Reader_mayBe_36 : decode b_Reader_mayBe 36 = .ok (.ireturn, 1) := by decide +kernel
theorem d_Reader_finishNumber_0 : decode b_Reader_finishNumber 0 = .ok (.aload_n 0, 1) := by decide +kernel
theorem d_Reader_finishNumber_1 : decode b_Reader_finishNumber 1 = .ok (.aload_n 0, 1) := by decide +kernel
theorem d_Reader_finishNumber_2 : decode b_Reader_finishNumber 2 = .ok (.getfield 18, 3) := by decide +kernel
theorem d_Reader_finishNumber_5 : decode b_Reader_finishNumber 5 = .ok (.invokestatic 48, 3) := by decide +kernel
theorem d_Reader_finishNumber_8 : decode b_Reader_finishNumber 8 = .ok (.ifCond .eq 7, 3) := by decide +kernel
theorem d_Reader_finishNumber_11 : decode b_Reader_finishNumber 11 = .ok (.iconst 2, 1) := by decide +kernel
theorem d_Reader_finishNumber_12 : decode b_Reader_finishNumber 12 = .ok (.goto 4, 3) := by decide +kernel
theorem d_Reader_finishNumber_15 : decode b_Reader_finishNumber 15 = .ok (.iconst 4, 1) := by decide +kernel
theorem d_Reader_finishNumber_16 : decode b_Reader_finishNumber 16 = .ok (.invokevirtual 25, 3) := by decide +kernel
theorem d_Reader_finishNumber_19 : decode b_Reader_finishNumber 19 = .ok (.ireturn, 1) := by decide +kernel
theorem d_Reader_goOn_0 : decode b_Reader_goOn 0 = .ok (.aload_n 0, 1) := by decide +kernel
theorem d_Reader_goOn_1 : decode b_Reader_goOn 1 = .ok (.iload_n 1, 1) := by decide +kernel
theorem d_Reader_goOn_2 : decode b_Reader_goOn 2 = .ok (.putfield 11, 3) := by decide +kernel
theorem d_Reader_goOn_5 : decode b_Reader_goOn 5 = .ok (.iconst 1, 1) := by decide +kernel
theorem d_Reader_goOn_6 : decode b_Reader_goOn 6 = .ok (.ireturn, 1) := by decide +kernel
theorem d_Reader_finish_0 : decode b_Reader_finish 0 = .ok (.aload_n 0, 1) := by decide +kernel
theorem d_Reader_finish_1 : decode b_Reader_finish 1 = .ok (.iconst 0, 1) := by decide +kernel
theorem d_Reader_finish_2 : decode b_Reader_finish 2 = .ok (.putfield 11, 3) := by decide +kernel
theorem d_Reader_finish_5 : decode b_Reader_finish 5 = .ok (.iload_n 1, 1) := by decide +kernel
theorem d_Reader_finish_6 : decode b_Reader_finish 6 = .ok (.ireturn, 1) := by decide +kernel
end
section
/-! THE PURE WORDS of the desk's reader: what each method comes to. -/
def vN (c : Nat) : Nat := if 48 ≤ c ∧ c ≤ 57 then c - 47 else if 97 ≤ c ∧ c ≤ 102 then c - 86 else if 65 ≤ c ∧ c ≤ 70 then c - 54 else 0
def mayN (x : Nat) : Nat := if x = 9 ∨ x = 10 ∨ x = 13 ∨ (32 ≤ x ∧ x ≤ 255) then 1 else 0
/-- what is read, the reader's state, name, number behind a digit -/
def rdDig (st nm nu c base next : Nat) : Nat × Nat × Nat × Nat := if vN c = 0 ∨ base < vN c then (5, st, nm, nu) else (1, next, nm, min (nu * base + (vN c - 1)) 256)
def rdFin (nm nu : Nat) : Nat × Nat × Nat × Nat := (if mayN nu = 1 then 2 else 4, 0, nm, nu)
def rdAmp (st nm nu c : Nat) : Nat × Nat × Nat × Nat := if c = 35 then (1, 3, nm, 0) else if 97 ≤ c ∧ c ≤ 122 then (1, 2, c - 97, nu) else (5, st, nm, nu)
def rdP (st nm nu c : Nat) : Nat × Nat × Nat × Nat :=
  match st with
  | 0 => if c = 38 then (1, 1, nm, nu) else (0, 0, nm, nu)
  | 1 => rdAmp 1 nm nu c
  | 2 => if c = 59 then (3, 0, nm, nu) else (5, 2, nm, nu)
  | 3 => if c = 120 then (1, 5, nm, nu) else rdDig 3 nm nu c 10 4
  | 4 => if c = 59 then rdFin nm nu else rdDig 4 nm nu c 10 4
  | 5 => rdDig 5 nm nu c 16 6
  | _ => if c = 59 then rdFin nm nu else rdDig 6 nm nu c 16 6
theorem vN_le (c : Nat) : vN c ≤ 16 := by unfold vN; (repeat' split) <;> omega
theorem mayN_le (x : Nat) : mayN x ≤ 1 := by unfold mayN; split <;> omega
theorem rdDig_ok {st nm nu c base next : Nat} (h1 : st ≤ 6) (h2 : nm < 26) (h3 : nu ≤ 256) (h4 : next ≤ 6) : (rdDig st nm nu c base next).1 ≤ 5 ∧ (rdDig st nm nu c base next).2.1 ≤ 6 ∧ (rdDig st nm nu c base next).2.2.1 < 26 ∧ (rdDig st nm nu c base next).2.2.2 ≤ 256 := by
  unfold rdDig
  split
  · exact ⟨by dsimp only; omega, h1, h2, h3⟩
  · exact ⟨by dsimp only; omega, h4, h2, Nat.min_le_right _ _⟩
theorem rdFin_ok {nm nu : Nat} (h2 : nm < 26) (h3 : nu ≤ 256) : (rdFin nm nu).1 ≤ 5 ∧ (rdFin nm nu).2.1 ≤ 6 ∧ (rdFin nm nu).2.2.1 < 26 ∧ (rdFin nm nu).2.2.2 ≤ 256 := by
  unfold rdFin
  refine ⟨?_, by dsimp only; omega, h2, h3⟩
  dsimp only
  split <;> omega
theorem rdP_ok {st nm nu c : Nat} (h1 : st ≤ 6) (h2 : nm < 26) (h3 : nu ≤ 256) : (rdP st nm nu c).1 ≤ 5 ∧ (rdP st nm nu c).2.1 ≤ 6 ∧ (rdP st nm nu c).2.2.1 < 26 ∧ (rdP st nm nu c).2.2.2 ≤ 256 := by
  unfold rdP
  split
  · split
    · exact ⟨by dsimp only; omega, by dsimp only; omega, h2, h3⟩
    · exact ⟨by dsimp only; omega, by dsimp only; omega, h2, h3⟩
  · unfold rdAmp
    split
    · exact ⟨by dsimp only; omega, by dsimp only; omega, h2, by dsimp only; omega⟩
    · split
      · refine ⟨by dsimp only; omega, by dsimp only; omega, ?_, h3⟩
        dsimp only; omega
      · exact ⟨by dsimp only; omega, by dsimp only; omega, h2, h3⟩
  · split
    · exact ⟨by dsimp only; omega, by dsimp only; omega, h2, h3⟩
    · exact ⟨by dsimp only; omega, by dsimp only; omega, h2, h3⟩
  · split
    · exact ⟨by dsimp only; omega, by dsimp only; omega, h2, h3⟩
    · exact rdDig_ok (by omega) h2 h3 (by omega)
  · split
    · exact rdFin_ok h2 h3
    · exact rdDig_ok (by omega) h2 h3 (by omega)
  · exact rdDig_ok (by omega) h2 h3 (by omega)
  · split
    · exact rdFin_ok h2 h3
    · exact rdDig_ok (by omega) h2 h3 (by omega)
theorem rdDig_nm {st nm nu c base next : Nat} : (rdDig st nm nu c base next).2.2.1 = nm := by
  unfold rdDig
  split <;> rfl
theorem rdP_0 {nm nu c : Nat} : rdP 0 nm nu c = if c = 38 then (1, 1, nm, nu) else (0, 0, nm, nu) := rfl
theorem rdP_1 {nm nu c : Nat} : rdP 1 nm nu c = rdAmp 1 nm nu c := rfl
theorem rdP_2 {nm nu c : Nat} : rdP 2 nm nu c = if c = 59 then (3, 0, nm, nu) else (5, 2, nm, nu) := rfl
theorem rdP_3 {nm nu c : Nat} : rdP 3 nm nu c = if c = 120 then (1, 5, nm, nu) else rdDig 3 nm nu c 10 4 := rfl
theorem rdP_4 {nm nu c : Nat} : rdP 4 nm nu c = if c = 59 then rdFin nm nu else rdDig 4 nm nu c 10 4 := rfl
theorem rdP_5 {nm nu c : Nat} : rdP 5 nm nu c = rdDig 5 nm nu c 16 6 := rfl
theorem rdP_6 {nm nu c : Nat} : rdP 6 nm nu c = if c = 59 then rdFin nm nu else rdDig 6 nm nu c 16 6 := rfl
def drX (kept dr c : Nat) (tx : Nat → Nat) : Nat → Nat := if kept + dr < 2000 then updN tx (kept + dr) c else tx
end
section
set_option maxHeartbeats 4000000 in
set_option maxRecDepth 100000 in
theorem c_Reader_begin (l : Launch) (D : va_G) (cI cZ : ClassId) (rA : Nat) (st : Nat) (nm : Nat) (nu : Nat) : Mv l y_Reader_begin b_Reader_begin 1 ({ frames := 0, cells := 0, slots := 0, locals := 0 } : Room) D cI cZ [.ref rA] [(rA, .inr (2, [.int (nI st), .int (nI nm), .int (nI nu)]))] (fun u : Nat => u = 0) (fun u : Nat => [(rA, .inr (2, [.int (nI u), .int (nI nm), .int (nI nu)]))]) 0 0 := by
  refine Mv.intro (by decide) (Nat.le_of_ble_eq_true rfl) ?_
  intro p e s m args below meth cd A ls R Q hR hQ C hin Z hl
  have hl : lv_has ls 1 [(0, .ref rA)] := hl
  refine lv_aload_n C.1 C.2.1 d_Reader_begin_0 rfl (lv_at hl 0 rfl) ?_
  refine lv_iconst (v := nI 0) C.1 C.2.1 d_Reader_begin_1 (by decide) ?_
  refine r_put (ws' := [(rA, .inr (2, [.int (nI 0), .int (nI nm), .int (nI nu)]))]) C Z 0 f_Reader_11 rfl rfl rfl (Nat.le_of_ble_eq_true rfl) rfl d_Reader_begin_2 (fun H locs Z => ?_)
  exact r_vret C Z 0 (by first | exact rfl | (clear C Z hl; grind)) rfl hQ d_Reader_begin_5

set_option maxHeartbeats 4000000 in
set_option maxRecDepth 100000 in
theorem c_Reader_isWithin (l : Launch) (D : va_G) (cI cZ : ClassId) (rA : Nat) (st : Nat) (nm : Nat) (nu : Nat) (hst : st ≤ 6) : Mi l y_Reader_isWithin b_Reader_isWithin 1 (some .boolean) ({ frames := 0, cells := 0, slots := 0, locals := 0 } : Room) D cI cZ [.ref rA] [(rA, .inr (2, [.int (nI st), .int (nI nm), .int (nI nu)]))] (fun (r : Int32) (u : Unit) => r = nI (min st 1) ∧ u = ()) (fun u : Unit => [(rA, .inr (2, [.int (nI st), .int (nI nm), .int (nI nu)]))]) := by
  refine Mi.intro (by decide) (Nat.le_of_ble_eq_true rfl) ?_
  intro p e s m args below meth cd A ls R Q hR hQ C Z hl
  have hl : lv_has ls 1 [(0, .ref rA)] := hl
  refine lv_aload_n C.1 C.2.1 d_Reader_isWithin_0 rfl (lv_at hl 0 rfl) ?_
  refine r_get C Z 0 f_Reader_11 rfl rfl d_Reader_isWithin_1 ?_
  refine r_zeq (tgt := 11) C d_Reader_isWithin_4 (by decide) (by omega) (fun h4 => ?_) (fun h4 => ?_)
  · skip
    refine lv_iconst (v := nI 0) C.1 C.2.1 d_Reader_isWithin_11 (by decide) ?_
    exact r_zret C Z (by omega) () ⟨by congr 1; omega, rfl⟩ rfl hQ d_Reader_isWithin_12
  · skip
    refine lv_iconst (v := nI 1) C.1 C.2.1 d_Reader_isWithin_7 (by decide) ?_
    refine lv_goto (tgt := 12) C.1 C.2.1 d_Reader_isWithin_8 (by decide) ?_
    exact r_zret C Z (by omega) () ⟨by congr 1; omega, rfl⟩ rfl hQ d_Reader_isWithin_12

set_option maxHeartbeats 4000000 in
set_option maxRecDepth 100000 in
theorem c_Reader_goOn (l : Launch) (D : va_G) (cI cZ : ClassId) (rA : Nat) (st : Nat) (nm : Nat) (nu : Nat) (x : Nat) : Mi l y_Reader_goOn b_Reader_goOn 2 (some .int) ({ frames := 0, cells := 0, slots := 0, locals := 0 } : Room) D cI cZ [.ref rA, .int (nI x)] [(rA, .inr (2, [.int (nI st), .int (nI nm), .int (nI nu)]))] (fun (r : Int32) (u : Nat) => r = nI 1 ∧ u = x) (fun u : Nat => [(rA, .inr (2, [.int (nI u), .int (nI nm), .int (nI nu)]))]) := by
  refine Mi.intro (by decide) (Nat.le_of_ble_eq_true rfl) ?_
  intro p e s m args below meth cd A ls R Q hR hQ C Z hl
  have hl : lv_has ls 2 [(0, .ref rA), (1, .int (nI x))] := hl
  refine lv_aload_n C.1 C.2.1 d_Reader_goOn_0 rfl (lv_at hl 0 rfl) ?_
  refine lv_iload_n C.1 C.2.1 d_Reader_goOn_1 rfl (lv_at hl 1 rfl) ?_
  refine r_put (ws' := [(rA, .inr (2, [.int (nI x), .int (nI nm), .int (nI nu)]))]) C Z 0 f_Reader_11 rfl rfl rfl (Nat.le_of_ble_eq_true rfl) rfl d_Reader_goOn_2 (fun H locs Z => ?_)
  refine lv_iconst (v := nI 1) C.1 C.2.1 d_Reader_goOn_5 (by decide) ?_
  exact r_iret C Z x (by first | exact ⟨rfl, rfl⟩ | (clear C Z hl; grind)) rfl hQ d_Reader_goOn_6

set_option maxHeartbeats 4000000 in
set_option maxRecDepth 100000 in
theorem c_Reader_finish (l : Launch) (D : va_G) (cI cZ : ClassId) (rA : Nat) (st : Nat) (nm : Nat) (nu : Nat) (x : Nat) : Mi l y_Reader_finish b_Reader_finish 2 (some .int) ({ frames := 0, cells := 0, slots := 0, locals := 0 } : Room) D cI cZ [.ref rA, .int (nI x)] [(rA, .inr (2, [.int (nI st), .int (nI nm), .int (nI nu)]))] (fun (r : Int32) (u : Nat) => r = nI x ∧ u = 0) (fun u : Nat => [(rA, .inr (2, [.int (nI u), .int (nI nm), .int (nI nu)]))]) := by
  refine Mi.intro (by decide) (Nat.le_of_ble_eq_true rfl) ?_
  intro p e s m args below meth cd A ls R Q hR hQ C Z hl
  have hl : lv_has ls 2 [(0, .ref rA), (1, .int (nI x))] := hl
  refine lv_aload_n C.1 C.2.1 d_Reader_finish_0 rfl (lv_at hl 0 rfl) ?_
  refine lv_iconst (v := nI 0) C.1 C.2.1 d_Reader_finish_1 (by decide) ?_
  refine r_put (ws' := [(rA, .inr (2, [.int (nI 0), .int (nI nm), .int (nI nu)]))]) C Z 0 f_Reader_11 rfl rfl rfl (Nat.le_of_ble_eq_true rfl) rfl d_Reader_finish_2 (fun H locs Z => ?_)
  refine lv_iload_n C.1 C.2.1 d_Reader_finish_5 rfl (lv_at hl 1 rfl) ?_
  exact r_iret C Z 0 (by first | exact ⟨rfl, rfl⟩ | (clear C Z hl; grind)) rfl hQ d_Reader_finish_6

set_option maxHeartbeats 4000000 in
set_option maxRecDepth 100000 in
theorem c_Reader_mayBe (l : Launch) (D : va_G) (cI cZ : ClassId) (x : Nat) (hx : x < 1000) : Mi l y_Reader_mayBe b_Reader_mayBe 1 (some .boolean) ({ frames := 0, cells := 0, slots := 0, locals := 0 } : Room) D cI cZ [.int (nI x)] [] (fun (r : Int32) (u : Unit) => r = nI (mayN x) ∧ u = ()) (fun u : Unit => []) := by
  refine Mi.intro (by decide) (Nat.le_of_ble_eq_true rfl) ?_
  intro p e s m args below meth cd A ls R Q hR hQ C Z hl
  have hl : lv_has ls 1 [(0, .int (nI x))] := hl
  refine lv_iload_n C.1 C.2.1 d_Reader_mayBe_0 rfl (lv_at hl 0 rfl) ?_
  refine lv_bipush (v := nI 9) C.1 C.2.1 d_Reader_mayBe_1 (by decide) ?_
  refine r_eq (tgt := 31) C d_Reader_mayBe_3 (by decide) (by omega) (by omega) (fun h3 => ?_) (fun h3 => ?_)
  · skip
    refine lv_iconst (v := nI 1) C.1 C.2.1 d_Reader_mayBe_31 (by decide) ?_
    refine lv_goto (tgt := 36) C.1 C.2.1 d_Reader_mayBe_32 (by decide) ?_
    exact r_zret C Z (by omega) () ⟨by congr 1; unfold mayN; split <;> omega, rfl⟩ rfl hQ d_Reader_mayBe_36
  · skip
    refine lv_iload_n C.1 C.2.1 d_Reader_mayBe_6 rfl (lv_at hl 0 rfl) ?_
    refine lv_bipush (v := nI 10) C.1 C.2.1 d_Reader_mayBe_7 (by decide) ?_
    refine r_eq (tgt := 31) C d_Reader_mayBe_9 (by decide) (by omega) (by omega) (fun h9 => ?_) (fun h9 => ?_)
    · skip
      refine lv_iconst (v := nI 1) C.1 C.2.1 d_Reader_mayBe_31 (by decide) ?_
      refine lv_goto (tgt := 36) C.1 C.2.1 d_Reader_mayBe_32 (by decide) ?_
      exact r_zret C Z (by omega) () ⟨by congr 1; unfold mayN; split <;> omega, rfl⟩ rfl hQ d_Reader_mayBe_36
    · skip
      refine lv_iload_n C.1 C.2.1 d_Reader_mayBe_12 rfl (lv_at hl 0 rfl) ?_
      refine lv_bipush (v := nI 13) C.1 C.2.1 d_Reader_mayBe_13 (by decide) ?_
      refine r_eq (tgt := 31) C d_Reader_mayBe_15 (by decide) (by omega) (by omega) (fun h15 => ?_) (fun h15 => ?_)
      · skip
        refine lv_iconst (v := nI 1) C.1 C.2.1 d_Reader_mayBe_31 (by decide) ?_
        refine lv_goto (tgt := 36) C.1 C.2.1 d_Reader_mayBe_32 (by decide) ?_
        exact r_zret C Z (by omega) () ⟨by congr 1; unfold mayN; split <;> omega, rfl⟩ rfl hQ d_Reader_mayBe_36
      · skip
        refine lv_iload_n C.1 C.2.1 d_Reader_mayBe_18 rfl (lv_at hl 0 rfl) ?_
        refine lv_bipush (v := nI 32) C.1 C.2.1 d_Reader_mayBe_19 (by decide) ?_
        refine r_lt (tgt := 35) C d_Reader_mayBe_21 (by decide) (by omega) (by omega) (fun h21 => ?_) (fun h21 => ?_)
        · skip
          refine lv_iconst (v := nI 0) C.1 C.2.1 d_Reader_mayBe_35 (by decide) ?_
          exact r_zret C Z (by omega) () ⟨by congr 1; unfold mayN; split <;> omega, rfl⟩ rfl hQ d_Reader_mayBe_36
        · skip
          refine lv_iload_n C.1 C.2.1 d_Reader_mayBe_24 rfl (lv_at hl 0 rfl) ?_
          refine lv_sipush (v := nI 255) C.1 C.2.1 d_Reader_mayBe_25 (by decide) ?_
          refine r_gt (tgt := 35) C d_Reader_mayBe_28 (by decide) (by omega) (by omega) (fun h28 => ?_) (fun h28 => ?_)
          · skip
            refine lv_iconst (v := nI 0) C.1 C.2.1 d_Reader_mayBe_35 (by decide) ?_
            exact r_zret C Z (by omega) () ⟨by congr 1; unfold mayN; split <;> omega, rfl⟩ rfl hQ d_Reader_mayBe_36
          · skip
            refine lv_iconst (v := nI 1) C.1 C.2.1 d_Reader_mayBe_31 (by decide) ?_
            refine lv_goto (tgt := 36) C.1 C.2.1 d_Reader_mayBe_32 (by decide) ?_
            exact r_zret C Z (by omega) () ⟨by congr 1; unfold mayN; split <;> omega, rfl⟩ rfl hQ d_Reader_mayBe_36

set_option maxHeartbeats 4000000 in
set_option maxRecDepth 100000 in
theorem c_Reader_valueOf (l : Launch) (D : va_G) (cI cZ : ClassId) (c : Nat) (v : Nat) (hc : c < 256) (hv : vN c = v + 1) : Mi l y_Reader_valueOf b_Reader_valueOf 1 (some .int) ({ frames := 0, cells := 0, slots := 0, locals := 0 } : Room) D cI cZ [.int (nI c)] [] (fun (r : Int32) (u : Unit) => r = nI v ∧ u = ()) (fun u : Unit => []) := by
  refine Mi.intro (by decide) (Nat.le_of_ble_eq_true rfl) ?_
  intro p e s m args below meth cd A ls R Q hR hQ C Z hl
  have hl : lv_has ls 1 [(0, .int (nI c))] := hl
  refine lv_iload_n C.1 C.2.1 d_Reader_valueOf_0 rfl (lv_at hl 0 rfl) ?_
  refine lv_bipush (v := nI 48) C.1 C.2.1 d_Reader_valueOf_1 (by decide) ?_
  refine r_lt (tgt := 17) C d_Reader_valueOf_3 (by decide) (by omega) (by omega) (fun h3 => ?_) (fun h3 => ?_)
  · skip
    refine lv_iload_n C.1 C.2.1 d_Reader_valueOf_17 rfl (lv_at hl 0 rfl) ?_
    refine lv_bipush (v := nI 97) C.1 C.2.1 d_Reader_valueOf_18 (by decide) ?_
    refine r_lt (tgt := 37) C d_Reader_valueOf_20 (by decide) (by omega) (by omega) (fun h20 => ?_) (fun h20 => ?_)
    · skip
      refine lv_iload_n C.1 C.2.1 d_Reader_valueOf_37 rfl (lv_at hl 0 rfl) ?_
      refine lv_bipush (v := nI 65) C.1 C.2.1 d_Reader_valueOf_38 (by decide) ?_
      refine r_lt (tgt := 57) C d_Reader_valueOf_40 (by decide) (by omega) (by omega) (fun h40 => ?_) (fun h40 => ?_)
      · skip
        refine lv_iconst (v := (-1)) C.1 C.2.1 d_Reader_valueOf_57 (by decide) ?_
        exact r_iret C Z () (by clear C Z hl; unfold vN at hv; (repeat' split at hv) <;> first | omega | exact ⟨by congr 1; omega, rfl⟩) rfl hQ d_Reader_valueOf_58
      · skip
        refine lv_iload_n C.1 C.2.1 d_Reader_valueOf_43 rfl (lv_at hl 0 rfl) ?_
        refine lv_bipush (v := nI 70) C.1 C.2.1 d_Reader_valueOf_44 (by decide) ?_
        refine r_gt (tgt := 57) C d_Reader_valueOf_46 (by decide) (by omega) (by omega) (fun h46 => ?_) (fun h46 => ?_)
        · skip
          refine lv_iconst (v := (-1)) C.1 C.2.1 d_Reader_valueOf_57 (by decide) ?_
          exact r_iret C Z () (by clear C Z hl; unfold vN at hv; (repeat' split at hv) <;> first | omega | exact ⟨by congr 1; omega, rfl⟩) rfl hQ d_Reader_valueOf_58
        · skip
          refine lv_iload_n C.1 C.2.1 d_Reader_valueOf_49 rfl (lv_at hl 0 rfl) ?_
          refine lv_bipush (v := nI 65) C.1 C.2.1 d_Reader_valueOf_50 (by decide) ?_
          refine r_sub C (by omega) d_Reader_valueOf_52 ?_
          refine lv_bipush (v := nI 10) C.1 C.2.1 d_Reader_valueOf_53 (by decide) ?_
          refine r_add C d_Reader_valueOf_55 ?_
          exact r_iret C Z () (by clear C Z hl; unfold vN at hv; (repeat' split at hv) <;> first | omega | exact ⟨by congr 1; omega, rfl⟩) rfl hQ d_Reader_valueOf_56
    · skip
      refine lv_iload_n C.1 C.2.1 d_Reader_valueOf_23 rfl (lv_at hl 0 rfl) ?_
      refine lv_bipush (v := nI 102) C.1 C.2.1 d_Reader_valueOf_24 (by decide) ?_
      refine r_gt (tgt := 37) C d_Reader_valueOf_26 (by decide) (by omega) (by omega) (fun h26 => ?_) (fun h26 => ?_)
      · skip
        refine lv_iload_n C.1 C.2.1 d_Reader_valueOf_37 rfl (lv_at hl 0 rfl) ?_
        refine lv_bipush (v := nI 65) C.1 C.2.1 d_Reader_valueOf_38 (by decide) ?_
        refine r_lt (tgt := 57) C d_Reader_valueOf_40 (by decide) (by omega) (by omega) (fun h40 => ?_) (fun h40 => ?_)
        · skip
          refine lv_iconst (v := (-1)) C.1 C.2.1 d_Reader_valueOf_57 (by decide) ?_
          exact r_iret C Z () (by clear C Z hl; unfold vN at hv; (repeat' split at hv) <;> first | omega | exact ⟨by congr 1; omega, rfl⟩) rfl hQ d_Reader_valueOf_58
        · skip
          refine lv_iload_n C.1 C.2.1 d_Reader_valueOf_43 rfl (lv_at hl 0 rfl) ?_
          refine lv_bipush (v := nI 70) C.1 C.2.1 d_Reader_valueOf_44 (by decide) ?_
          refine r_gt (tgt := 57) C d_Reader_valueOf_46 (by decide) (by omega) (by omega) (fun h46 => ?_) (fun h46 => ?_)
          · skip
            refine lv_iconst (v := (-1)) C.1 C.2.1 d_Reader_valueOf_57 (by decide) ?_
            exact r_iret C Z () (by clear C Z hl; unfold vN at hv; (repeat' split at hv) <;> first | omega | exact ⟨by congr 1; omega, rfl⟩) rfl hQ d_Reader_valueOf_58
          · skip
            refine lv_iload_n C.1 C.2.1 d_Reader_valueOf_49 rfl (lv_at hl 0 rfl) ?_
            refine lv_bipush (v := nI 65) C.1 C.2.1 d_Reader_valueOf_50 (by decide) ?_
            refine r_sub C (by omega) d_Reader_valueOf_52 ?_
            refine lv_bipush (v := nI 10) C.1 C.2.1 d_Reader_valueOf_53 (by decide) ?_
            refine r_add C d_Reader_valueOf_55 ?_
            exact r_iret C Z () (by clear C Z hl; unfold vN at hv; (repeat' split at hv) <;> first | omega | exact ⟨by congr 1; omega, rfl⟩) rfl hQ d_Reader_valueOf_56
      · skip
        refine lv_iload_n C.1 C.2.1 d_Reader_valueOf_29 rfl (lv_at hl 0 rfl) ?_
        refine lv_bipush (v := nI 97) C.1 C.2.1 d_Reader_valueOf_30 (by decide) ?_
        refine r_sub C (by omega) d_Reader_valueOf_32 ?_
        refine lv_bipush (v := nI 10) C.1 C.2.1 d_Reader_valueOf_33 (by decide) ?_
        refine r_add C d_Reader_valueOf_35 ?_
        exact r_iret C Z () (by clear C Z hl; unfold vN at hv; (repeat' split at hv) <;> first | omega | exact ⟨by congr 1; omega, rfl⟩) rfl hQ d_Reader_valueOf_36
  · skip
    refine lv_iload_n C.1 C.2.1 d_Reader_valueOf_6 rfl (lv_at hl 0 rfl) ?_
    refine lv_bipush (v := nI 57) C.1 C.2.1 d_Reader_valueOf_7 (by decide) ?_
    refine r_gt (tgt := 17) C d_Reader_valueOf_9 (by decide) (by omega) (by omega) (fun h9 => ?_) (fun h9 => ?_)
    · skip
      refine lv_iload_n C.1 C.2.1 d_Reader_valueOf_17 rfl (lv_at hl 0 rfl) ?_
      refine lv_bipush (v := nI 97) C.1 C.2.1 d_Reader_valueOf_18 (by decide) ?_
      refine r_lt (tgt := 37) C d_Reader_valueOf_20 (by decide) (by omega) (by omega) (fun h20 => ?_) (fun h20 => ?_)
      · skip
        refine lv_iload_n C.1 C.2.1 d_Reader_valueOf_37 rfl (lv_at hl 0 rfl) ?_
        refine lv_bipush (v := nI 65) C.1 C.2.1 d_Reader_valueOf_38 (by decide) ?_
        refine r_lt (tgt := 57) C d_Reader_valueOf_40 (by decide) (by omega) (by omega) (fun h40 => ?_) (fun h40 => ?_)
        · skip
          refine lv_iconst (v := (-1)) C.1 C.2.1 d_Reader_valueOf_57 (by decide) ?_
          exact r_iret C Z () (by clear C Z hl; unfold vN at hv; (repeat' split at hv) <;> first | omega | exact ⟨by congr 1; omega, rfl⟩) rfl hQ d_Reader_valueOf_58
        · skip
          refine lv_iload_n C.1 C.2.1 d_Reader_valueOf_43 rfl (lv_at hl 0 rfl) ?_
          refine lv_bipush (v := nI 70) C.1 C.2.1 d_Reader_valueOf_44 (by decide) ?_
          refine r_gt (tgt := 57) C d_Reader_valueOf_46 (by decide) (by omega) (by omega) (fun h46 => ?_) (fun h46 => ?_)
          · skip
            refine lv_iconst (v := (-1)) C.1 C.2.1 d_Reader_valueOf_57 (by decide) ?_
            exact r_iret C Z () (by clear C Z hl; unfold vN at hv; (repeat' split at hv) <;> first | omega | exact ⟨by congr 1; omega, rfl⟩) rfl hQ d_Reader_valueOf_58
          · skip
            refine lv_iload_n C.1 C.2.1 d_Reader_valueOf_49 rfl (lv_at hl 0 rfl) ?_
            refine lv_bipush (v := nI 65) C.1 C.2.1 d_Reader_valueOf_50 (by decide) ?_
            refine r_sub C (by omega) d_Reader_valueOf_52 ?_
            refine lv_bipush (v := nI 10) C.1 C.2.1 d_Reader_valueOf_53 (by decide) ?_
            refine r_add C d_Reader_valueOf_55 ?_
            exact r_iret C Z () (by clear C Z hl; unfold vN at hv; (repeat' split at hv) <;> first | omega | exact ⟨by congr 1; omega, rfl⟩) rfl hQ d_Reader_valueOf_56
      · skip
        refine lv_iload_n C.1 C.2.1 d_Reader_valueOf_23 rfl (lv_at hl 0 rfl) ?_
        refine lv_bipush (v := nI 102) C.1 C.2.1 d_Reader_valueOf_24 (by decide) ?_
        refine r_gt (tgt := 37) C d_Reader_valueOf_26 (by decide) (by omega) (by omega) (fun h26 => ?_) (fun h26 => ?_)
        · skip
          refine lv_iload_n C.1 C.2.1 d_Reader_valueOf_37 rfl (lv_at hl 0 rfl) ?_
          refine lv_bipush (v := nI 65) C.1 C.2.1 d_Reader_valueOf_38 (by decide) ?_
          refine r_lt (tgt := 57) C d_Reader_valueOf_40 (by decide) (by omega) (by omega) (fun h40 => ?_) (fun h40 => ?_)
          · skip
            refine lv_iconst (v := (-1)) C.1 C.2.1 d_Reader_valueOf_57 (by decide) ?_
            exact r_iret C Z () (by clear C Z hl; unfold vN at hv; (repeat' split at hv) <;> first | omega | exact ⟨by congr 1; omega, rfl⟩) rfl hQ d_Reader_valueOf_58
          · skip
            refine lv_iload_n C.1 C.2.1 d_Reader_valueOf_43 rfl (lv_at hl 0 rfl) ?_
            refine lv_bipush (v := nI 70) C.1 C.2.1 d_Reader_valueOf_44 (by decide) ?_
            refine r_gt (tgt := 57) C d_Reader_valueOf_46 (by decide) (by omega) (by omega) (fun h46 => ?_) (fun h46 => ?_)
            · skip
              refine lv_iconst (v := (-1)) C.1 C.2.1 d_Reader_valueOf_57 (by decide) ?_
              exact r_iret C Z () (by clear C Z hl; unfold vN at hv; (repeat' split at hv) <;> first | omega | exact ⟨by congr 1; omega, rfl⟩) rfl hQ d_Reader_valueOf_58
            · skip
              refine lv_iload_n C.1 C.2.1 d_Reader_valueOf_49 rfl (lv_at hl 0 rfl) ?_
              refine lv_bipush (v := nI 65) C.1 C.2.1 d_Reader_valueOf_50 (by decide) ?_
              refine r_sub C (by omega) d_Reader_valueOf_52 ?_
              refine lv_bipush (v := nI 10) C.1 C.2.1 d_Reader_valueOf_53 (by decide) ?_
              refine r_add C d_Reader_valueOf_55 ?_
              exact r_iret C Z () (by clear C Z hl; unfold vN at hv; (repeat' split at hv) <;> first | omega | exact ⟨by congr 1; omega, rfl⟩) rfl hQ d_Reader_valueOf_56
        · skip
          refine lv_iload_n C.1 C.2.1 d_Reader_valueOf_29 rfl (lv_at hl 0 rfl) ?_
          refine lv_bipush (v := nI 97) C.1 C.2.1 d_Reader_valueOf_30 (by decide) ?_
          refine r_sub C (by omega) d_Reader_valueOf_32 ?_
          refine lv_bipush (v := nI 10) C.1 C.2.1 d_Reader_valueOf_33 (by decide) ?_
          refine r_add C d_Reader_valueOf_35 ?_
          exact r_iret C Z () (by clear C Z hl; unfold vN at hv; (repeat' split at hv) <;> first | omega | exact ⟨by congr 1; omega, rfl⟩) rfl hQ d_Reader_valueOf_36
    · skip
      refine lv_iload_n C.1 C.2.1 d_Reader_valueOf_12 rfl (lv_at hl 0 rfl) ?_
      refine lv_bipush (v := nI 48) C.1 C.2.1 d_Reader_valueOf_13 (by decide) ?_
      refine r_sub C (by omega) d_Reader_valueOf_15 ?_
      exact r_iret C Z () (by clear C Z hl; unfold vN at hv; (repeat' split at hv) <;> first | omega | exact ⟨by congr 1; omega, rfl⟩) rfl hQ d_Reader_valueOf_16

set_option maxHeartbeats 4000000 in
set_option maxRecDepth 100000 in
theorem c_Reader_valueOf0 (l : Launch) (D : va_G) (cI cZ : ClassId) (c : Nat) (hc : c < 256) (hv : vN c = 0) : Mi l y_Reader_valueOf b_Reader_valueOf 1 (some .int) ({ frames := 0, cells := 0, slots := 0, locals := 0 } : Room) D cI cZ [.int (nI c)] [] (fun (r : Int32) (u : Unit) => r = (-1) ∧ u = ()) (fun u : Unit => []) := by
  refine Mi.intro (by decide) (Nat.le_of_ble_eq_true rfl) ?_
  intro p e s m args below meth cd A ls R Q hR hQ C Z hl
  have hl : lv_has ls 1 [(0, .int (nI c))] := hl
  refine lv_iload_n C.1 C.2.1 d_Reader_valueOf_0 rfl (lv_at hl 0 rfl) ?_
  refine lv_bipush (v := nI 48) C.1 C.2.1 d_Reader_valueOf_1 (by decide) ?_
  refine r_lt (tgt := 17) C d_Reader_valueOf_3 (by decide) (by omega) (by omega) (fun h3 => ?_) (fun h3 => ?_)
  · skip
    refine lv_iload_n C.1 C.2.1 d_Reader_valueOf_17 rfl (lv_at hl 0 rfl) ?_
    refine lv_bipush (v := nI 97) C.1 C.2.1 d_Reader_valueOf_18 (by decide) ?_
    refine r_lt (tgt := 37) C d_Reader_valueOf_20 (by decide) (by omega) (by omega) (fun h20 => ?_) (fun h20 => ?_)
    · skip
      refine lv_iload_n C.1 C.2.1 d_Reader_valueOf_37 rfl (lv_at hl 0 rfl) ?_
      refine lv_bipush (v := nI 65) C.1 C.2.1 d_Reader_valueOf_38 (by decide) ?_
      refine r_lt (tgt := 57) C d_Reader_valueOf_40 (by decide) (by omega) (by omega) (fun h40 => ?_) (fun h40 => ?_)
      · skip
        refine lv_iconst (v := (-1)) C.1 C.2.1 d_Reader_valueOf_57 (by decide) ?_
        exact r_iret C Z () (by clear C Z hl; unfold vN at hv; (repeat' split at hv) <;> first | omega | exact ⟨rfl, rfl⟩) rfl hQ d_Reader_valueOf_58
      · skip
        refine lv_iload_n C.1 C.2.1 d_Reader_valueOf_43 rfl (lv_at hl 0 rfl) ?_
        refine lv_bipush (v := nI 70) C.1 C.2.1 d_Reader_valueOf_44 (by decide) ?_
        refine r_gt (tgt := 57) C d_Reader_valueOf_46 (by decide) (by omega) (by omega) (fun h46 => ?_) (fun h46 => ?_)
        · skip
          refine lv_iconst (v := (-1)) C.1 C.2.1 d_Reader_valueOf_57 (by decide) ?_
          exact r_iret C Z () (by clear C Z hl; unfold vN at hv; (repeat' split at hv) <;> first | omega | exact ⟨rfl, rfl⟩) rfl hQ d_Reader_valueOf_58
        · skip
          refine lv_iload_n C.1 C.2.1 d_Reader_valueOf_49 rfl (lv_at hl 0 rfl) ?_
          refine lv_bipush (v := nI 65) C.1 C.2.1 d_Reader_valueOf_50 (by decide) ?_
          refine r_sub C (by omega) d_Reader_valueOf_52 ?_
          refine lv_bipush (v := nI 10) C.1 C.2.1 d_Reader_valueOf_53 (by decide) ?_
          refine r_add C d_Reader_valueOf_55 ?_
          exact r_iret C Z () (by clear C Z hl; unfold vN at hv; (repeat' split at hv) <;> first | omega | exact ⟨rfl, rfl⟩) rfl hQ d_Reader_valueOf_56
    · skip
      refine lv_iload_n C.1 C.2.1 d_Reader_valueOf_23 rfl (lv_at hl 0 rfl) ?_
      refine lv_bipush (v := nI 102) C.1 C.2.1 d_Reader_valueOf_24 (by decide) ?_
      refine r_gt (tgt := 37) C d_Reader_valueOf_26 (by decide) (by omega) (by omega) (fun h26 => ?_) (fun h26 => ?_)
      · skip
        refine lv_iload_n C.1 C.2.1 d_Reader_valueOf_37 rfl (lv_at hl 0 rfl) ?_
        refine lv_bipush (v := nI 65) C.1 C.2.1 d_Reader_valueOf_38 (by decide) ?_
        refine r_lt (tgt := 57) C d_Reader_valueOf_40 (by decide) (by omega) (by omega) (fun h40 => ?_) (fun h40 => ?_)
        · skip
          refine lv_iconst (v := (-1)) C.1 C.2.1 d_Reader_valueOf_57 (by decide) ?_
          exact r_iret C Z () (by clear C Z hl; unfold vN at hv; (repeat' split at hv) <;> first | omega | exact ⟨rfl, rfl⟩) rfl hQ d_Reader_valueOf_58
        · skip
          refine lv_iload_n C.1 C.2.1 d_Reader_valueOf_43 rfl (lv_at hl 0 rfl) ?_
          refine lv_bipush (v := nI 70) C.1 C.2.1 d_Reader_valueOf_44 (by decide) ?_
          refine r_gt (tgt := 57) C d_Reader_valueOf_46 (by decide) (by omega) (by omega) (fun h46 => ?_) (fun h46 => ?_)
          · skip
            refine lv_iconst (v := (-1)) C.1 C.2.1 d_Reader_valueOf_57 (by decide) ?_
            exact r_iret C Z () (by clear C Z hl; unfold vN at hv; (repeat' split at hv) <;> first | omega | exact ⟨rfl, rfl⟩) rfl hQ d_Reader_valueOf_58
          · skip
            refine lv_iload_n C.1 C.2.1 d_Reader_valueOf_49 rfl (lv_at hl 0 rfl) ?_
            refine lv_bipush (v := nI 65) C.1 C.2.1 d_Reader_valueOf_50 (by decide) ?_
            refine r_sub C (by omega) d_Reader_valueOf_52 ?_
            refine lv_bipush (v := nI 10) C.1 C.2.1 d_Reader_valueOf_53 (by decide) ?_
            refine r_add C d_Reader_valueOf_55 ?_
            exact r_iret C Z () (by clear C Z hl; unfold vN at hv; (repeat' split at hv) <;> first | omega | exact ⟨rfl, rfl⟩) rfl hQ d_Reader_valueOf_56
      · skip
        refine lv_iload_n C.1 C.2.1 d_Reader_valueOf_29 rfl (lv_at hl 0 rfl) ?_
        refine lv_bipush (v := nI 97) C.1 C.2.1 d_Reader_valueOf_30 (by decide) ?_
        refine r_sub C (by omega) d_Reader_valueOf_32 ?_
        refine lv_bipush (v := nI 10) C.1 C.2.1 d_Reader_valueOf_33 (by decide) ?_
        refine r_add C d_Reader_valueOf_35 ?_
        exact r_iret C Z () (by clear C Z hl; unfold vN at hv; (repeat' split at hv) <;> first | omega | exact ⟨rfl, rfl⟩) rfl hQ d_Reader_valueOf_36
  · skip
    refine lv_iload_n C.1 C.2.1 d_Reader_valueOf_6 rfl (lv_at hl 0 rfl) ?_
    refine lv_bipush (v := nI 57) C.1 C.2.1 d_Reader_valueOf_7 (by decide) ?_
    refine r_gt (tgt := 17) C d_Reader_valueOf_9 (by decide) (by omega) (by omega) (fun h9 => ?_) (fun h9 => ?_)
    · skip
      refine lv_iload_n C.1 C.2.1 d_Reader_valueOf_17 rfl (lv_at hl 0 rfl) ?_
      refine lv_bipush (v := nI 97) C.1 C.2.1 d_Reader_valueOf_18 (by decide) ?_
      refine r_lt (tgt := 37) C d_Reader_valueOf_20 (by decide) (by omega) (by omega) (fun h20 => ?_) (fun h20 => ?_)
      · skip
        refine lv_iload_n C.1 C.2.1 d_Reader_valueOf_37 rfl (lv_at hl 0 rfl) ?_
        refine lv_bipush (v := nI 65) C.1 C.2.1 d_Reader_valueOf_38 (by decide) ?_
        refine r_lt (tgt := 57) C d_Reader_valueOf_40 (by decide) (by omega) (by omega) (fun h40 => ?_) (fun h40 => ?_)
        · skip
          refine lv_iconst (v := (-1)) C.1 C.2.1 d_Reader_valueOf_57 (by decide) ?_
          exact r_iret C Z () (by clear C Z hl; unfold vN at hv; (repeat' split at hv) <;> first | omega | exact ⟨rfl, rfl⟩) rfl hQ d_Reader_valueOf_58
        · skip
          refine lv_iload_n C.1 C.2.1 d_Reader_valueOf_43 rfl (lv_at hl 0 rfl) ?_
          refine lv_bipush (v := nI 70) C.1 C.2.1 d_Reader_valueOf_44 (by decide) ?_
          refine r_gt (tgt := 57) C d_Reader_valueOf_46 (by decide) (by omega) (by omega) (fun h46 => ?_) (fun h46 => ?_)
          · skip
            refine lv_iconst (v := (-1)) C.1 C.2.1 d_Reader_valueOf_57 (by decide) ?_
            exact r_iret C Z () (by clear C Z hl; unfold vN at hv; (repeat' split at hv) <;> first | omega | exact ⟨rfl, rfl⟩) rfl hQ d_Reader_valueOf_58
          · skip
            refine lv_iload_n C.1 C.2.1 d_Reader_valueOf_49 rfl (lv_at hl 0 rfl) ?_
            refine lv_bipush (v := nI 65) C.1 C.2.1 d_Reader_valueOf_50 (by decide) ?_
            refine r_sub C (by omega) d_Reader_valueOf_52 ?_
            refine lv_bipush (v := nI 10) C.1 C.2.1 d_Reader_valueOf_53 (by decide) ?_
            refine r_add C d_Reader_valueOf_55 ?_
            exact r_iret C Z () (by clear C Z hl; unfold vN at hv; (repeat' split at hv) <;> first | omega | exact ⟨rfl, rfl⟩) rfl hQ d_Reader_valueOf_56
      · skip
        refine lv_iload_n C.1 C.2.1 d_Reader_valueOf_23 rfl (lv_at hl 0 rfl) ?_
        refine lv_bipush (v := nI 102) C.1 C.2.1 d_Reader_valueOf_24 (by decide) ?_
        refine r_gt (tgt := 37) C d_Reader_valueOf_26 (by decide) (by omega) (by omega) (fun h26 => ?_) (fun h26 => ?_)
        · skip
          refine lv_iload_n C.1 C.2.1 d_Reader_valueOf_37 rfl (lv_at hl 0 rfl) ?_
          refine lv_bipush (v := nI 65) C.1 C.2.1 d_Reader_valueOf_38 (by decide) ?_
          refine r_lt (tgt := 57) C d_Reader_valueOf_40 (by decide) (by omega) (by omega) (fun h40 => ?_) (fun h40 => ?_)
          · skip
            refine lv_iconst (v := (-1)) C.1 C.2.1 d_Reader_valueOf_57 (by decide) ?_
            exact r_iret C Z () (by clear C Z hl; unfold vN at hv; (repeat' split at hv) <;> first | omega | exact ⟨rfl, rfl⟩) rfl hQ d_Reader_valueOf_58
          · skip
            refine lv_iload_n C.1 C.2.1 d_Reader_valueOf_43 rfl (lv_at hl 0 rfl) ?_
            refine lv_bipush (v := nI 70) C.1 C.2.1 d_Reader_valueOf_44 (by decide) ?_
            refine r_gt (tgt := 57) C d_Reader_valueOf_46 (by decide) (by omega) (by omega) (fun h46 => ?_) (fun h46 => ?_)
            · skip
              refine lv_iconst (v := (-1)) C.1 C.2.1 d_Reader_valueOf_57 (by decide) ?_
              exact r_iret C Z () (by clear C Z hl; unfold vN at hv; (repeat' split at hv) <;> first | omega | exact ⟨rfl, rfl⟩) rfl hQ d_Reader_valueOf_58
            · skip
              refine lv_iload_n C.1 C.2.1 d_Reader_valueOf_49 rfl (lv_at hl 0 rfl) ?_
              refine lv_bipush (v := nI 65) C.1 C.2.1 d_Reader_valueOf_50 (by decide) ?_
              refine r_sub C (by omega) d_Reader_valueOf_52 ?_
              refine lv_bipush (v := nI 10) C.1 C.2.1 d_Reader_valueOf_53 (by decide) ?_
              refine r_add C d_Reader_valueOf_55 ?_
              exact r_iret C Z () (by clear C Z hl; unfold vN at hv; (repeat' split at hv) <;> first | omega | exact ⟨rfl, rfl⟩) rfl hQ d_Reader_valueOf_56
        · skip
          refine lv_iload_n C.1 C.2.1 d_Reader_valueOf_29 rfl (lv_at hl 0 rfl) ?_
          refine lv_bipush (v := nI 97) C.1 C.2.1 d_Reader_valueOf_30 (by decide) ?_
          refine r_sub C (by omega) d_Reader_valueOf_32 ?_
          refine lv_bipush (v := nI 10) C.1 C.2.1 d_Reader_valueOf_33 (by decide) ?_
          refine r_add C d_Reader_valueOf_35 ?_
          exact r_iret C Z () (by clear C Z hl; unfold vN at hv; (repeat' split at hv) <;> first | omega | exact ⟨rfl, rfl⟩) rfl hQ d_Reader_valueOf_36
    · skip
      refine lv_iload_n C.1 C.2.1 d_Reader_valueOf_12 rfl (lv_at hl 0 rfl) ?_
      refine lv_bipush (v := nI 48) C.1 C.2.1 d_Reader_valueOf_13 (by decide) ?_
      refine r_sub C (by omega) d_Reader_valueOf_15 ?_
      exact r_iret C Z () (by clear C Z hl; unfold vN at hv; (repeat' split at hv) <;> first | omega | exact ⟨rfl, rfl⟩) rfl hQ d_Reader_valueOf_16

set_option maxHeartbeats 4000000 in
set_option maxRecDepth 100000 in
theorem c_Reader_finishNumber (l : Launch) (D : va_G) (cI cZ : ClassId) (rA : Nat) (st : Nat) (nm : Nat) (nu : Nat) (hnu : nu ≤ 256) : Mi l y_Reader_finishNumber b_Reader_finishNumber 1 (some .int) ({ frames := 1, cells := 0, slots := 0, locals := 21 } : Room) D cI cZ [.ref rA] [(rA, .inr (2, [.int (nI st), .int (nI nm), .int (nI nu)]))] (fun (r : Int32) (u : Nat) => r = nI ((rdFin nm nu).1) ∧ u = 0) (fun u : Nat => [(rA, .inr (2, [.int (nI u), .int (nI nm), .int (nI nu)]))]) := by
  refine Mi.intro (by decide) (Nat.le_of_ble_eq_true rfl) ?_
  intro p e s m args below meth cd A ls R Q hR hQ C Z hl
  have hl : lv_has ls 1 [(0, .ref rA)] := hl
  refine lv_aload_n C.1 C.2.1 d_Reader_finishNumber_0 rfl (lv_at hl 0 rfl) ?_
  refine lv_aload_n C.1 C.2.1 d_Reader_finishNumber_1 rfl (lv_at hl 0 rfl) ?_
  refine r_get C Z 0 f_Reader_18 rfl rfl d_Reader_finishNumber_2 ?_
  refine r_callSi (rest := [.ref rA]) (wr := [(rA, .inr (2, [.int (nI st), .int (nI nm), .int (nI nu)]))]) (wn := fun u => [(rA, .inr (2, [.int (nI st), .int (nI nm), .int (nI nu)]))]) C Z (c_Reader_mayBe l D cI cZ nu (by first | assumption | omega)) k_Reader_48 rfl ⟨by rw [hR]; decide, by rw [hR]; decide⟩ ⟨rfl, rfl⟩ [] [0] [0] (by decide) rfl rfl (by decide) (by decide) (by decide) (fun _ => rfl) hl.1 rfl (Nat.le_of_ble_eq_true rfl) d_Reader_finishNumber_5 ⟨Nat.zero_le _, Nat.zero_le _⟩ (fun r u H locs hp Z => ?_)
  obtain ⟨hp1, hp2⟩ := hp; have hp1 := hp1.symm; have hp2 := hp2.symm; subst hp1; subst hp2
  have Z : Wd D A s.heap [(rA, .inr (2, [.int (nI st), .int (nI nm), .int (nI nu)]))] H locs := Z
  have hm := mayN_le nu
  refine r_zeq (tgt := 15) C d_Reader_finishNumber_8 (by decide) (by omega) (fun h8 => ?_) (fun h8 => ?_)
  · skip
    refine lv_iconst (v := nI 4) C.1 C.2.1 d_Reader_finishNumber_15 (by decide) ?_
    refine r_callVi (rest := []) (wr := []) (wn := fun u => [(rA, .inr (2, [.int (nI u), .int (nI nm), .int (nI nu)]))]) C Z (c_Reader_finish l D cI cZ rA st nm nu 4) k_Reader_25 rfl ⟨by rw [hR]; decide, by rw [hR]; decide⟩ ⟨rfl, rfl⟩ [0] [] [0] (by decide) rfl rfl (by decide) (by decide) (by decide) (fun _ => rfl) 0 rfl rfl hl.1 rfl (Nat.le_of_ble_eq_true rfl) d_Reader_finishNumber_16 ⟨Nat.zero_le _, Nat.zero_le _⟩ (fun r u H locs hp Z => ?_)
    obtain ⟨hp1, hp2⟩ := hp; have hp1 := hp1.symm; have hp2 := hp2.symm; subst hp1; subst hp2
    have Z : Wd D A s.heap [(rA, .inr (2, [.int (nI 0), .int (nI nm), .int (nI nu)]))] H locs := Z
    exact r_iret C Z 0 ⟨by congr 1; unfold rdFin; have := mayN_le nu; first | rw [if_pos (by omega)] | rw [if_neg (by omega)], rfl⟩ rfl hQ d_Reader_finishNumber_19
  · skip
    refine lv_iconst (v := nI 2) C.1 C.2.1 d_Reader_finishNumber_11 (by decide) ?_
    refine lv_goto (tgt := 16) C.1 C.2.1 d_Reader_finishNumber_12 (by decide) ?_
    refine r_callVi (rest := []) (wr := []) (wn := fun u => [(rA, .inr (2, [.int (nI u), .int (nI nm), .int (nI nu)]))]) C Z (c_Reader_finish l D cI cZ rA st nm nu 2) k_Reader_25 rfl ⟨by rw [hR]; decide, by rw [hR]; decide⟩ ⟨rfl, rfl⟩ [0] [] [0] (by decide) rfl rfl (by decide) (by decide) (by decide) (fun _ => rfl) 0 rfl rfl hl.1 rfl (Nat.le_of_ble_eq_true rfl) d_Reader_finishNumber_16 ⟨Nat.zero_le _, Nat.zero_le _⟩ (fun r u H locs hp Z => ?_)
    obtain ⟨hp1, hp2⟩ := hp; have hp1 := hp1.symm; have hp2 := hp2.symm; subst hp1; subst hp2
    have Z : Wd D A s.heap [(rA, .inr (2, [.int (nI 0), .int (nI nm), .int (nI nu)]))] H locs := Z
    exact r_iret C Z 0 ⟨by congr 1; unfold rdFin; have := mayN_le nu; first | rw [if_pos (by omega)] | rw [if_neg (by omega)], rfl⟩ rfl hQ d_Reader_finishNumber_19

set_option maxHeartbeats 4000000 in
set_option maxRecDepth 100000 in
theorem c_Reader_readDigit (l : Launch) (D : va_G) (cI cZ : ClassId) (rA : Nat) (st : Nat) (nm : Nat) (nu : Nat) (c : Nat) (base : Nat) (x : Nat) (hc : c < 256) (hb : base ≤ 16) (hnu : nu ≤ 256) : Mi l y_Reader_readDigit b_Reader_readDigit 5 (some .int) ({ frames := 1, cells := 0, slots := 0, locals := 21 } : Room) D cI cZ [.ref rA, .int (nI c), .int (nI base), .int (nI x)] [(rA, .inr (2, [.int (nI st), .int (nI nm), .int (nI nu)]))] (fun (r : Int32) (u : Nat × Nat) => r = nI ((rdDig st nm nu c base x).1) ∧ u = ((rdDig st nm nu c base x).2.1, (rdDig st nm nu c base x).2.2.2)) (fun u : Nat × Nat => [(rA, .inr (2, [.int (nI u.1), .int (nI nm), .int (nI u.2)]))]) := by
  refine Mi.intro (by decide) (Nat.le_of_ble_eq_true rfl) ?_
  intro p e s m args below meth cd A ls R Q hR hQ C Z hl
  have hl : lv_has ls 5 [(0, .ref rA), (1, .int (nI c)), (2, .int (nI base)), (3, .int (nI x))] := hl
  have hv16 := vN_le c
  have hmul : nu * base ≤ 256 * 16 := Nat.mul_le_mul hnu hb
  obtain hv | ⟨v, hv⟩ : vN c = 0 ∨ ∃ v, vN c = v + 1 := by cases h : vN c with | zero => exact Or.inl rfl | succ v => exact Or.inr ⟨v, rfl⟩
  · skip
    refine lv_iload_n C.1 C.2.1 d_Reader_readDigit_0 rfl (lv_at hl 1 rfl) ?_
    refine r_callSi (rest := []) (wr := [(rA, .inr (2, [.int (nI st), .int (nI nm), .int (nI nu)]))]) (wn := fun u => [(rA, .inr (2, [.int (nI st), .int (nI nm), .int (nI nu)]))]) C Z (c_Reader_valueOf0 l D cI cZ c (by first | assumption | omega) (by first | assumption | omega)) k_Reader_39 rfl ⟨by rw [hR]; decide, by rw [hR]; decide⟩ ⟨rfl, rfl⟩ [] [0] [0] (by decide) rfl rfl (by decide) (by decide) (by decide) (fun _ => rfl) hl.1 rfl (Nat.le_of_ble_eq_true rfl) d_Reader_readDigit_1 ⟨Nat.zero_le _, Nat.zero_le _⟩ (fun r u H locs hp Z => ?_)
    obtain ⟨hp1, hp2⟩ := hp; have hp1 := hp1.symm; have hp2 := hp2.symm; subst hp1; subst hp2
    have Z : Wd D A s.heap [(rA, .inr (2, [.int (nI st), .int (nI nm), .int (nI nu)]))] H locs := Z
    refine lv_istore (lv' := [(4, .int (-1)), (0, .ref rA), (1, .int (nI c)), (2, .int (nI base)), (3, .int (nI x))]) C.1 C.2.1 d_Reader_readDigit_4 hl (by decide) rfl (fun ls hl => ?_)
    refine lv_iload C.1 C.2.1 d_Reader_readDigit_6 (lv_at hl 0 rfl) ?_
    refine lv_if_lt (tgt := 17) C.1 C.2.1 d_Reader_readDigit_8 (by decide) (fun h8 => ?_) (fun h8 => absurd h8 (by decide))
    refine lv_iconst (v := nI 5) C.1 C.2.1 d_Reader_readDigit_17 (by decide) ?_
    exact r_iret C Z (st, nu) (by clear C Z hl; unfold rdDig; first | rw [if_pos (by omega)]; exact ⟨rfl, rfl⟩ | rw [if_neg (by omega)]; (try rw [hv]); exact ⟨rfl, rfl⟩) rfl hQ d_Reader_readDigit_18
  · skip
    refine lv_iload_n C.1 C.2.1 d_Reader_readDigit_0 rfl (lv_at hl 1 rfl) ?_
    refine r_callSi (rest := []) (wr := [(rA, .inr (2, [.int (nI st), .int (nI nm), .int (nI nu)]))]) (wn := fun u => [(rA, .inr (2, [.int (nI st), .int (nI nm), .int (nI nu)]))]) C Z (c_Reader_valueOf l D cI cZ c v (by first | assumption | omega) (by first | assumption | omega)) k_Reader_39 rfl ⟨by rw [hR]; decide, by rw [hR]; decide⟩ ⟨rfl, rfl⟩ [] [0] [0] (by decide) rfl rfl (by decide) (by decide) (by decide) (fun _ => rfl) hl.1 rfl (Nat.le_of_ble_eq_true rfl) d_Reader_readDigit_1 ⟨Nat.zero_le _, Nat.zero_le _⟩ (fun r u H locs hp Z => ?_)
    obtain ⟨hp1, hp2⟩ := hp; have hp1 := hp1.symm; have hp2 := hp2.symm; subst hp1; subst hp2
    have Z : Wd D A s.heap [(rA, .inr (2, [.int (nI st), .int (nI nm), .int (nI nu)]))] H locs := Z
    refine lv_istore (lv' := [(4, .int (nI v)), (0, .ref rA), (1, .int (nI c)), (2, .int (nI base)), (3, .int (nI x))]) C.1 C.2.1 d_Reader_readDigit_4 hl (by decide) rfl (fun ls hl => ?_)
    refine lv_iload C.1 C.2.1 d_Reader_readDigit_6 (lv_at hl 0 rfl) ?_
    refine r_zlt (tgt := 17) C d_Reader_readDigit_8 (by decide) (by omega) ?_
    refine lv_iload C.1 C.2.1 d_Reader_readDigit_11 (lv_at hl 0 rfl) ?_
    refine lv_iload_n C.1 C.2.1 d_Reader_readDigit_13 rfl (lv_at hl 3 rfl) ?_
    refine r_lt (tgt := 19) C d_Reader_readDigit_14 (by decide) (by omega) (by omega) (fun h14 => ?_) (fun h14 => ?_)
    · skip
      refine lv_aload_n C.1 C.2.1 d_Reader_readDigit_19 rfl (lv_at hl 1 rfl) ?_
      refine lv_aload_n C.1 C.2.1 d_Reader_readDigit_20 rfl (lv_at hl 1 rfl) ?_
      refine r_get C Z 0 f_Reader_18 rfl rfl d_Reader_readDigit_21 ?_
      refine lv_iload_n C.1 C.2.1 d_Reader_readDigit_24 rfl (lv_at hl 3 rfl) ?_
      refine r_mul C d_Reader_readDigit_25 ?_
      refine lv_iload C.1 C.2.1 d_Reader_readDigit_26 (lv_at hl 0 rfl) ?_
      refine r_add C d_Reader_readDigit_28 ?_
      refine lv_sipush (v := nI 256) C.1 C.2.1 d_Reader_readDigit_29 (by decide) ?_
      refine r_mmin C k_Reader_42 hl.1 (by rw [hR]; decide) (by rw [hR]; exact Nat.le_of_ble_eq_true rfl) (Nat.zero_le _) (Nat.zero_le _) (by omega) (by omega) d_Reader_readDigit_32 ?_
      refine r_put (ws' := [(rA, .inr (2, [.int (nI st), .int (nI nm), .int (nI (min ((nu * base) + v) 256))]))]) C Z 0 f_Reader_18 rfl rfl rfl (Nat.le_of_ble_eq_true rfl) rfl d_Reader_readDigit_35 (fun H locs Z => ?_)
      refine lv_aload_n C.1 C.2.1 d_Reader_readDigit_38 rfl (lv_at hl 1 rfl) ?_
      refine lv_iload_n C.1 C.2.1 d_Reader_readDigit_39 rfl (lv_at hl 4 rfl) ?_
      refine r_callVi (rest := []) (wr := []) (wn := fun u => [(rA, .inr (2, [.int (nI u), .int (nI nm), .int (nI (min ((nu * base) + v) 256))]))]) C Z (c_Reader_goOn l D cI cZ rA st nm (min ((nu * base) + v) 256) x) k_Reader_28 rfl ⟨by rw [hR]; decide, by rw [hR]; decide⟩ ⟨rfl, rfl⟩ [0] [] [0] (by decide) rfl rfl (by decide) (by decide) (by decide) (fun _ => rfl) 0 rfl rfl hl.1 rfl (Nat.le_of_ble_eq_true rfl) d_Reader_readDigit_40 ⟨Nat.zero_le _, Nat.zero_le _⟩ (fun r u H locs hp Z => ?_)
      obtain ⟨hp1, hp2⟩ := hp; have hp1 := hp1.symm; have hp2 := hp2.symm; subst hp1; subst hp2
      have Z : Wd D A s.heap [(rA, .inr (2, [.int (nI x), .int (nI nm), .int (nI (min ((nu * base) + v) 256))]))] H locs := Z
      exact r_iret C Z (x, min ((nu * base) + v) 256) (by clear C Z hl; unfold rdDig; first | rw [if_pos (by omega)]; exact ⟨rfl, rfl⟩ | rw [if_neg (by omega)]; (try rw [hv]); exact ⟨rfl, rfl⟩) rfl hQ d_Reader_readDigit_43
    · skip
      refine lv_iconst (v := nI 5) C.1 C.2.1 d_Reader_readDigit_17 (by decide) ?_
      exact r_iret C Z (st, nu) (by clear C Z hl; unfold rdDig; first | rw [if_pos (by omega)]; exact ⟨rfl, rfl⟩ | rw [if_neg (by omega)]; (try rw [hv]); exact ⟨rfl, rfl⟩) rfl hQ d_Reader_readDigit_18

set_option maxHeartbeats 4000000 in
set_option maxRecDepth 100000 in
theorem c_Reader_readBehindAmpersand (l : Launch) (D : va_G) (cI cZ : ClassId) (rA : Nat) (st : Nat) (nm : Nat) (nu : Nat) (c : Nat) (hc : c < 256) : Mi l y_Reader_readBehindAmpersand b_Reader_readBehindAmpersand 2 (some .int) ({ frames := 1, cells := 0, slots := 0, locals := 21 } : Room) D cI cZ [.ref rA, .int (nI c)] [(rA, .inr (2, [.int (nI st), .int (nI nm), .int (nI nu)]))] (fun (r : Int32) (u : Nat × Nat × Nat) => r = nI ((rdAmp st nm nu c).1) ∧ u = ((rdAmp st nm nu c).2.1, (rdAmp st nm nu c).2.2.1, (rdAmp st nm nu c).2.2.2)) (fun u : Nat × Nat × Nat => [(rA, .inr (2, [.int (nI u.1), .int (nI u.2.1), .int (nI u.2.2)]))]) := by
  refine Mi.intro (by decide) (Nat.le_of_ble_eq_true rfl) ?_
  intro p e s m args below meth cd A ls R Q hR hQ C Z hl
  have hl : lv_has ls 2 [(0, .ref rA), (1, .int (nI c))] := hl
  refine lv_iload_n C.1 C.2.1 d_Reader_readBehindAmpersand_0 rfl (lv_at hl 1 rfl) ?_
  refine lv_bipush (v := nI 35) C.1 C.2.1 d_Reader_readBehindAmpersand_1 (by decide) ?_
  refine r_ne (tgt := 17) C d_Reader_readBehindAmpersand_3 (by decide) (by omega) (by omega) (fun h3 => ?_) (fun h3 => ?_)
  · skip
    refine lv_iload_n C.1 C.2.1 d_Reader_readBehindAmpersand_17 rfl (lv_at hl 1 rfl) ?_
    refine lv_bipush (v := nI 97) C.1 C.2.1 d_Reader_readBehindAmpersand_18 (by decide) ?_
    refine r_lt (tgt := 43) C d_Reader_readBehindAmpersand_20 (by decide) (by omega) (by omega) (fun h20 => ?_) (fun h20 => ?_)
    · skip
      refine lv_iconst (v := nI 5) C.1 C.2.1 d_Reader_readBehindAmpersand_43 (by decide) ?_
      exact r_iret C Z (st, nm, nu) (by clear C Z hl; unfold rdAmp; (repeat' split) <;> first | exact ⟨rfl, rfl⟩ | omega) rfl hQ d_Reader_readBehindAmpersand_44
    · skip
      refine lv_iload_n C.1 C.2.1 d_Reader_readBehindAmpersand_23 rfl (lv_at hl 1 rfl) ?_
      refine lv_bipush (v := nI 122) C.1 C.2.1 d_Reader_readBehindAmpersand_24 (by decide) ?_
      refine r_gt (tgt := 43) C d_Reader_readBehindAmpersand_26 (by decide) (by omega) (by omega) (fun h26 => ?_) (fun h26 => ?_)
      · skip
        refine lv_iconst (v := nI 5) C.1 C.2.1 d_Reader_readBehindAmpersand_43 (by decide) ?_
        exact r_iret C Z (st, nm, nu) (by clear C Z hl; unfold rdAmp; (repeat' split) <;> first | exact ⟨rfl, rfl⟩ | omega) rfl hQ d_Reader_readBehindAmpersand_44
      · skip
        refine lv_aload_n C.1 C.2.1 d_Reader_readBehindAmpersand_29 rfl (lv_at hl 0 rfl) ?_
        refine lv_iload_n C.1 C.2.1 d_Reader_readBehindAmpersand_30 rfl (lv_at hl 1 rfl) ?_
        refine lv_bipush (v := nI 97) C.1 C.2.1 d_Reader_readBehindAmpersand_31 (by decide) ?_
        refine r_sub C (by omega) d_Reader_readBehindAmpersand_33 ?_
        refine r_put (ws' := [(rA, .inr (2, [.int (nI st), .int (nI (c - 97)), .int (nI nu)]))]) C Z 0 f_Reader_15 rfl rfl rfl (Nat.le_of_ble_eq_true rfl) rfl d_Reader_readBehindAmpersand_34 (fun H locs Z => ?_)
        refine lv_aload_n C.1 C.2.1 d_Reader_readBehindAmpersand_37 rfl (lv_at hl 0 rfl) ?_
        refine lv_iconst (v := nI 2) C.1 C.2.1 d_Reader_readBehindAmpersand_38 (by decide) ?_
        refine r_callVi (rest := []) (wr := []) (wn := fun u => [(rA, .inr (2, [.int (nI u), .int (nI (c - 97)), .int (nI nu)]))]) C Z (c_Reader_goOn l D cI cZ rA st (c - 97) nu 2) k_Reader_28 rfl ⟨by rw [hR]; decide, by rw [hR]; decide⟩ ⟨rfl, rfl⟩ [0] [] [0] (by decide) rfl rfl (by decide) (by decide) (by decide) (fun _ => rfl) 0 rfl rfl hl.1 rfl (Nat.le_of_ble_eq_true rfl) d_Reader_readBehindAmpersand_39 ⟨Nat.zero_le _, Nat.zero_le _⟩ (fun r u H locs hp Z => ?_)
        obtain ⟨hp1, hp2⟩ := hp; have hp1 := hp1.symm; have hp2 := hp2.symm; subst hp1; subst hp2
        have Z : Wd D A s.heap [(rA, .inr (2, [.int (nI 2), .int (nI (c - 97)), .int (nI nu)]))] H locs := Z
        exact r_iret C Z (2, c - 97, nu) (by clear C Z hl; unfold rdAmp; (repeat' split) <;> first | exact ⟨rfl, rfl⟩ | omega) rfl hQ d_Reader_readBehindAmpersand_42
  · skip
    refine lv_aload_n C.1 C.2.1 d_Reader_readBehindAmpersand_6 rfl (lv_at hl 0 rfl) ?_
    refine lv_iconst (v := nI 0) C.1 C.2.1 d_Reader_readBehindAmpersand_7 (by decide) ?_
    refine r_put (ws' := [(rA, .inr (2, [.int (nI st), .int (nI nm), .int (nI 0)]))]) C Z 0 f_Reader_18 rfl rfl rfl (Nat.le_of_ble_eq_true rfl) rfl d_Reader_readBehindAmpersand_8 (fun H locs Z => ?_)
    refine lv_aload_n C.1 C.2.1 d_Reader_readBehindAmpersand_11 rfl (lv_at hl 0 rfl) ?_
    refine lv_iconst (v := nI 3) C.1 C.2.1 d_Reader_readBehindAmpersand_12 (by decide) ?_
    refine r_callVi (rest := []) (wr := []) (wn := fun u => [(rA, .inr (2, [.int (nI u), .int (nI nm), .int (nI 0)]))]) C Z (c_Reader_goOn l D cI cZ rA st nm 0 3) k_Reader_28 rfl ⟨by rw [hR]; decide, by rw [hR]; decide⟩ ⟨rfl, rfl⟩ [0] [] [0] (by decide) rfl rfl (by decide) (by decide) (by decide) (fun _ => rfl) 0 rfl rfl hl.1 rfl (Nat.le_of_ble_eq_true rfl) d_Reader_readBehindAmpersand_13 ⟨Nat.zero_le _, Nat.zero_le _⟩ (fun r u H locs hp Z => ?_)
    obtain ⟨hp1, hp2⟩ := hp; have hp1 := hp1.symm; have hp2 := hp2.symm; subst hp1; subst hp2
    have Z : Wd D A s.heap [(rA, .inr (2, [.int (nI 3), .int (nI nm), .int (nI 0)]))] H locs := Z
    exact r_iret C Z (3, nm, 0) (by clear C Z hl; unfold rdAmp; (repeat' split) <;> first | exact ⟨rfl, rfl⟩ | omega) rfl hQ d_Reader_readBehindAmpersand_16

set_option maxHeartbeats 4000000 in
set_option maxRecDepth 100000 in
theorem c_Reader_read (l : Launch) (D : va_G) (cI cZ : ClassId) (rA : Nat) (st : Nat) (nm : Nat) (nu : Nat) (c : Nat) (hst : st ≤ 6) (hc : c < 256) (hnu : nu ≤ 256) : Mi l y_Reader_read b_Reader_read 2 (some .int) ({ frames := 2, cells := 0, slots := 0, locals := 45 } : Room) D cI cZ [.ref rA, .int (nI c)] [(rA, .inr (2, [.int (nI st), .int (nI nm), .int (nI nu)]))] (fun (r : Int32) (u : Nat × Nat × Nat) => r = nI ((rdP st nm nu c).1) ∧ u = ((rdP st nm nu c).2.1, (rdP st nm nu c).2.2.1, (rdP st nm nu c).2.2.2)) (fun u : Nat × Nat × Nat => [(rA, .inr (2, [.int (nI u.1), .int (nI u.2.1), .int (nI u.2.2)]))]) := by
  refine Mi.intro (by decide) (Nat.le_of_ble_eq_true rfl) ?_
  intro p e s m args below meth cd A ls R Q hR hQ C Z hl
  have hl : lv_has ls 2 [(0, .ref rA), (1, .int (nI c))] := hl
  obtain rfl | rfl | rfl | rfl | rfl | rfl | rfl : st = 0 ∨ st = 1 ∨ st = 2 ∨ st = 3 ∨ st = 4 ∨ st = 5 ∨ st = 6 := by omega
  · skip
    have hl : lv_has ls 2 [(0, .ref rA), (1, .int (nI c))] := hl
    refine lv_aload_n C.1 C.2.1 d_Reader_read_0 rfl (lv_at hl 0 rfl) ?_
    refine r_get C Z 0 f_Reader_11 rfl rfl d_Reader_read_1 ?_
    refine lv_tableOut (tgt := 144) C.1 C.2.1 d_Reader_read_4 (by decide) (by decide) ?_
    refine lv_iload_n C.1 C.2.1 d_Reader_read_144 rfl (lv_at hl 1 rfl) ?_
    refine lv_bipush (v := nI 38) C.1 C.2.1 d_Reader_read_145 (by decide) ?_
    refine r_ne (tgt := 158) C d_Reader_read_147 (by decide) (by omega) (by omega) (fun h147 => ?_) (fun h147 => ?_)
    · skip
      refine lv_iconst (v := nI 0) C.1 C.2.1 d_Reader_read_158 (by decide) ?_
      exact r_iret C Z (0, nm, nu) (by clear C Z hl; rw [rdP_0]; first | exact ⟨rfl, rfl⟩ | exact ⟨rfl, by rw [rdDig_nm]⟩ | (rw [if_pos (by omega)]; first | exact ⟨rfl, rfl⟩ | exact ⟨rfl, by rw [rdDig_nm]⟩) | (rw [if_neg (by omega)]; first | exact ⟨rfl, rfl⟩ | exact ⟨rfl, by rw [rdDig_nm]⟩)) rfl hQ d_Reader_read_159
    · skip
      refine lv_aload_n C.1 C.2.1 d_Reader_read_150 rfl (lv_at hl 0 rfl) ?_
      refine lv_iconst (v := nI 1) C.1 C.2.1 d_Reader_read_151 (by decide) ?_
      refine r_callVi (rest := []) (wr := []) (wn := fun u => [(rA, .inr (2, [.int (nI u), .int (nI nm), .int (nI nu)]))]) C Z (c_Reader_goOn l D cI cZ rA 0 nm nu 1) k_Reader_28 rfl ⟨by rw [hR]; decide, by rw [hR]; decide⟩ ⟨rfl, rfl⟩ [0] [] [0] (by decide) rfl rfl (by decide) (by decide) (by decide) (fun _ => rfl) 0 rfl rfl hl.1 rfl (Nat.le_of_ble_eq_true rfl) d_Reader_read_152 ⟨Nat.zero_le _, Nat.zero_le _⟩ (fun r u H locs hp Z => ?_)
      obtain ⟨hp1, hp2⟩ := hp; have hp1 := hp1.symm; have hp2 := hp2.symm; subst hp1; subst hp2
      have Z : Wd D A s.heap [(rA, .inr (2, [.int (nI 1), .int (nI nm), .int (nI nu)]))] H locs := Z
      refine lv_goto (tgt := 159) C.1 C.2.1 d_Reader_read_155 (by decide) ?_
      exact r_iret C Z (1, nm, nu) (by clear C Z hl; rw [rdP_0]; first | exact ⟨rfl, rfl⟩ | exact ⟨rfl, by rw [rdDig_nm]⟩ | (rw [if_pos (by omega)]; first | exact ⟨rfl, rfl⟩ | exact ⟨rfl, by rw [rdDig_nm]⟩) | (rw [if_neg (by omega)]; first | exact ⟨rfl, rfl⟩ | exact ⟨rfl, by rw [rdDig_nm]⟩)) rfl hQ d_Reader_read_159
  · skip
    have hl : lv_has ls 2 [(0, .ref rA), (1, .int (nI c))] := hl
    refine lv_aload_n C.1 C.2.1 d_Reader_read_0 rfl (lv_at hl 0 rfl) ?_
    refine r_get C Z 0 f_Reader_11 rfl rfl d_Reader_read_1 ?_
    refine lv_tableIn (tgt := 44) (off := 40) C.1 C.2.1 d_Reader_read_4 (by decide) (by decide) (by decide) (by decide) ?_
    refine lv_aload_n C.1 C.2.1 d_Reader_read_44 rfl (lv_at hl 0 rfl) ?_
    refine lv_iload_n C.1 C.2.1 d_Reader_read_45 rfl (lv_at hl 1 rfl) ?_
    refine r_callVi (rest := []) (wr := []) (wn := fun u => [(rA, .inr (2, [.int (nI u.1), .int (nI u.2.1), .int (nI u.2.2)]))]) C Z (c_Reader_readBehindAmpersand l D cI cZ rA 1 nm nu c (by first | assumption | omega)) k_Reader_21 rfl ⟨by rw [hR]; decide, by rw [hR]; decide⟩ ⟨rfl, rfl⟩ [0] [] [0] (by decide) rfl rfl (by decide) (by decide) (by decide) (fun _ => rfl) 0 rfl rfl hl.1 rfl (Nat.le_of_ble_eq_true rfl) d_Reader_read_46 ⟨Nat.zero_le _, Nat.zero_le _⟩ (fun r u H locs hp Z => ?_)
    obtain ⟨hp1, hp2⟩ := hp; have hp1 := hp1.symm; have hp2 := hp2.symm; subst hp1; subst hp2
    have Z : Wd D A s.heap [(rA, .inr (2, [.int (nI ((rdAmp 1 nm nu c).2.1)), .int (nI ((rdAmp 1 nm nu c).2.2.1)), .int (nI ((rdAmp 1 nm nu c).2.2.2))]))] H locs := Z
    exact r_iret C Z ((rdAmp 1 nm nu c).2.1, (rdAmp 1 nm nu c).2.2.1, (rdAmp 1 nm nu c).2.2.2) (by clear C Z hl; rw [rdP_1]; first | exact ⟨rfl, rfl⟩ | exact ⟨rfl, by rw [rdDig_nm]⟩ | (rw [if_pos (by omega)]; first | exact ⟨rfl, rfl⟩ | exact ⟨rfl, by rw [rdDig_nm]⟩) | (rw [if_neg (by omega)]; first | exact ⟨rfl, rfl⟩ | exact ⟨rfl, by rw [rdDig_nm]⟩)) rfl hQ d_Reader_read_49
  · skip
    have hl : lv_has ls 2 [(0, .ref rA), (1, .int (nI c))] := hl
    refine lv_aload_n C.1 C.2.1 d_Reader_read_0 rfl (lv_at hl 0 rfl) ?_
    refine r_get C Z 0 f_Reader_11 rfl rfl d_Reader_read_1 ?_
    refine lv_tableIn (tgt := 50) (off := 46) C.1 C.2.1 d_Reader_read_4 (by decide) (by decide) (by decide) (by decide) ?_
    refine lv_iload_n C.1 C.2.1 d_Reader_read_50 rfl (lv_at hl 1 rfl) ?_
    refine lv_bipush (v := nI 59) C.1 C.2.1 d_Reader_read_51 (by decide) ?_
    refine r_ne (tgt := 64) C d_Reader_read_53 (by decide) (by omega) (by omega) (fun h53 => ?_) (fun h53 => ?_)
    · skip
      refine lv_iconst (v := nI 5) C.1 C.2.1 d_Reader_read_64 (by decide) ?_
      exact r_iret C Z (2, nm, nu) (by clear C Z hl; rw [rdP_2]; first | exact ⟨rfl, rfl⟩ | exact ⟨rfl, by rw [rdDig_nm]⟩ | (rw [if_pos (by omega)]; first | exact ⟨rfl, rfl⟩ | exact ⟨rfl, by rw [rdDig_nm]⟩) | (rw [if_neg (by omega)]; first | exact ⟨rfl, rfl⟩ | exact ⟨rfl, by rw [rdDig_nm]⟩)) rfl hQ d_Reader_read_65
    · skip
      refine lv_aload_n C.1 C.2.1 d_Reader_read_56 rfl (lv_at hl 0 rfl) ?_
      refine lv_iconst (v := nI 3) C.1 C.2.1 d_Reader_read_57 (by decide) ?_
      refine r_callVi (rest := []) (wr := []) (wn := fun u => [(rA, .inr (2, [.int (nI u), .int (nI nm), .int (nI nu)]))]) C Z (c_Reader_finish l D cI cZ rA 2 nm nu 3) k_Reader_25 rfl ⟨by rw [hR]; decide, by rw [hR]; decide⟩ ⟨rfl, rfl⟩ [0] [] [0] (by decide) rfl rfl (by decide) (by decide) (by decide) (fun _ => rfl) 0 rfl rfl hl.1 rfl (Nat.le_of_ble_eq_true rfl) d_Reader_read_58 ⟨Nat.zero_le _, Nat.zero_le _⟩ (fun r u H locs hp Z => ?_)
      obtain ⟨hp1, hp2⟩ := hp; have hp1 := hp1.symm; have hp2 := hp2.symm; subst hp1; subst hp2
      have Z : Wd D A s.heap [(rA, .inr (2, [.int (nI 0), .int (nI nm), .int (nI nu)]))] H locs := Z
      refine lv_goto (tgt := 65) C.1 C.2.1 d_Reader_read_61 (by decide) ?_
      exact r_iret C Z (0, nm, nu) (by clear C Z hl; rw [rdP_2]; first | exact ⟨rfl, rfl⟩ | exact ⟨rfl, by rw [rdDig_nm]⟩ | (rw [if_pos (by omega)]; first | exact ⟨rfl, rfl⟩ | exact ⟨rfl, by rw [rdDig_nm]⟩) | (rw [if_neg (by omega)]; first | exact ⟨rfl, rfl⟩ | exact ⟨rfl, by rw [rdDig_nm]⟩)) rfl hQ d_Reader_read_65
  · skip
    have hl : lv_has ls 2 [(0, .ref rA), (1, .int (nI c))] := hl
    refine lv_aload_n C.1 C.2.1 d_Reader_read_0 rfl (lv_at hl 0 rfl) ?_
    refine r_get C Z 0 f_Reader_11 rfl rfl d_Reader_read_1 ?_
    refine lv_tableIn (tgt := 66) (off := 62) C.1 C.2.1 d_Reader_read_4 (by decide) (by decide) (by decide) (by decide) ?_
    refine lv_iload_n C.1 C.2.1 d_Reader_read_66 rfl (lv_at hl 1 rfl) ?_
    refine lv_bipush (v := nI 120) C.1 C.2.1 d_Reader_read_67 (by decide) ?_
    refine r_ne (tgt := 80) C d_Reader_read_69 (by decide) (by omega) (by omega) (fun h69 => ?_) (fun h69 => ?_)
    · skip
      refine lv_aload_n C.1 C.2.1 d_Reader_read_80 rfl (lv_at hl 0 rfl) ?_
      refine lv_iload_n C.1 C.2.1 d_Reader_read_81 rfl (lv_at hl 1 rfl) ?_
      refine lv_bipush (v := nI 10) C.1 C.2.1 d_Reader_read_82 (by decide) ?_
      refine lv_iconst (v := nI 4) C.1 C.2.1 d_Reader_read_84 (by decide) ?_
      refine r_callVi (rest := []) (wr := []) (wn := fun u => [(rA, .inr (2, [.int (nI u.1), .int (nI nm), .int (nI u.2)]))]) C Z (c_Reader_readDigit l D cI cZ rA 3 nm nu c 10 4 (by first | assumption | omega) (by first | assumption | omega) (by first | assumption | omega)) k_Reader_31 rfl ⟨by rw [hR]; decide, by rw [hR]; decide⟩ ⟨rfl, rfl⟩ [0] [] [0] (by decide) rfl rfl (by decide) (by decide) (by decide) (fun _ => rfl) 0 rfl rfl hl.1 rfl (Nat.le_of_ble_eq_true rfl) d_Reader_read_85 ⟨Nat.zero_le _, Nat.zero_le _⟩ (fun r u H locs hp Z => ?_)
      obtain ⟨hp1, hp2⟩ := hp; have hp1 := hp1.symm; have hp2 := hp2.symm; subst hp1; subst hp2
      have Z : Wd D A s.heap [(rA, .inr (2, [.int (nI ((rdDig 3 nm nu c 10 4).2.1)), .int (nI nm), .int (nI ((rdDig 3 nm nu c 10 4).2.2.2))]))] H locs := Z
      exact r_iret C Z ((rdDig 3 nm nu c 10 4).2.1, nm, (rdDig 3 nm nu c 10 4).2.2.2) (by clear C Z hl; rw [rdP_3]; first | exact ⟨rfl, rfl⟩ | exact ⟨rfl, by rw [rdDig_nm]⟩ | (rw [if_pos (by omega)]; first | exact ⟨rfl, rfl⟩ | exact ⟨rfl, by rw [rdDig_nm]⟩) | (rw [if_neg (by omega)]; first | exact ⟨rfl, rfl⟩ | exact ⟨rfl, by rw [rdDig_nm]⟩)) rfl hQ d_Reader_read_88
    · skip
      refine lv_aload_n C.1 C.2.1 d_Reader_read_72 rfl (lv_at hl 0 rfl) ?_
      refine lv_iconst (v := nI 5) C.1 C.2.1 d_Reader_read_73 (by decide) ?_
      refine r_callVi (rest := []) (wr := []) (wn := fun u => [(rA, .inr (2, [.int (nI u), .int (nI nm), .int (nI nu)]))]) C Z (c_Reader_goOn l D cI cZ rA 3 nm nu 5) k_Reader_28 rfl ⟨by rw [hR]; decide, by rw [hR]; decide⟩ ⟨rfl, rfl⟩ [0] [] [0] (by decide) rfl rfl (by decide) (by decide) (by decide) (fun _ => rfl) 0 rfl rfl hl.1 rfl (Nat.le_of_ble_eq_true rfl) d_Reader_read_74 ⟨Nat.zero_le _, Nat.zero_le _⟩ (fun r u H locs hp Z => ?_)
      obtain ⟨hp1, hp2⟩ := hp; have hp1 := hp1.symm; have hp2 := hp2.symm; subst hp1; subst hp2
      have Z : Wd D A s.heap [(rA, .inr (2, [.int (nI 5), .int (nI nm), .int (nI nu)]))] H locs := Z
      refine lv_goto (tgt := 88) C.1 C.2.1 d_Reader_read_77 (by decide) ?_
      exact r_iret C Z (5, nm, nu) (by clear C Z hl; rw [rdP_3]; first | exact ⟨rfl, rfl⟩ | exact ⟨rfl, by rw [rdDig_nm]⟩ | (rw [if_pos (by omega)]; first | exact ⟨rfl, rfl⟩ | exact ⟨rfl, by rw [rdDig_nm]⟩) | (rw [if_neg (by omega)]; first | exact ⟨rfl, rfl⟩ | exact ⟨rfl, by rw [rdDig_nm]⟩)) rfl hQ d_Reader_read_88
  · skip
    have hl : lv_has ls 2 [(0, .ref rA), (1, .int (nI c))] := hl
    refine lv_aload_n C.1 C.2.1 d_Reader_read_0 rfl (lv_at hl 0 rfl) ?_
    refine r_get C Z 0 f_Reader_11 rfl rfl d_Reader_read_1 ?_
    refine lv_tableIn (tgt := 89) (off := 85) C.1 C.2.1 d_Reader_read_4 (by decide) (by decide) (by decide) (by decide) ?_
    refine lv_iload_n C.1 C.2.1 d_Reader_read_89 rfl (lv_at hl 1 rfl) ?_
    refine lv_bipush (v := nI 59) C.1 C.2.1 d_Reader_read_90 (by decide) ?_
    refine r_ne (tgt := 102) C d_Reader_read_92 (by decide) (by omega) (by omega) (fun h92 => ?_) (fun h92 => ?_)
    · skip
      refine lv_aload_n C.1 C.2.1 d_Reader_read_102 rfl (lv_at hl 0 rfl) ?_
      refine lv_iload_n C.1 C.2.1 d_Reader_read_103 rfl (lv_at hl 1 rfl) ?_
      refine lv_bipush (v := nI 10) C.1 C.2.1 d_Reader_read_104 (by decide) ?_
      refine lv_iconst (v := nI 4) C.1 C.2.1 d_Reader_read_106 (by decide) ?_
      refine r_callVi (rest := []) (wr := []) (wn := fun u => [(rA, .inr (2, [.int (nI u.1), .int (nI nm), .int (nI u.2)]))]) C Z (c_Reader_readDigit l D cI cZ rA 4 nm nu c 10 4 (by first | assumption | omega) (by first | assumption | omega) (by first | assumption | omega)) k_Reader_31 rfl ⟨by rw [hR]; decide, by rw [hR]; decide⟩ ⟨rfl, rfl⟩ [0] [] [0] (by decide) rfl rfl (by decide) (by decide) (by decide) (fun _ => rfl) 0 rfl rfl hl.1 rfl (Nat.le_of_ble_eq_true rfl) d_Reader_read_107 ⟨Nat.zero_le _, Nat.zero_le _⟩ (fun r u H locs hp Z => ?_)
      obtain ⟨hp1, hp2⟩ := hp; have hp1 := hp1.symm; have hp2 := hp2.symm; subst hp1; subst hp2
      have Z : Wd D A s.heap [(rA, .inr (2, [.int (nI ((rdDig 4 nm nu c 10 4).2.1)), .int (nI nm), .int (nI ((rdDig 4 nm nu c 10 4).2.2.2))]))] H locs := Z
      exact r_iret C Z ((rdDig 4 nm nu c 10 4).2.1, nm, (rdDig 4 nm nu c 10 4).2.2.2) (by clear C Z hl; rw [rdP_4]; first | exact ⟨rfl, rfl⟩ | exact ⟨rfl, by rw [rdDig_nm]⟩ | (rw [if_pos (by omega)]; first | exact ⟨rfl, rfl⟩ | exact ⟨rfl, by rw [rdDig_nm]⟩) | (rw [if_neg (by omega)]; first | exact ⟨rfl, rfl⟩ | exact ⟨rfl, by rw [rdDig_nm]⟩)) rfl hQ d_Reader_read_110
    · skip
      refine lv_aload_n C.1 C.2.1 d_Reader_read_95 rfl (lv_at hl 0 rfl) ?_
      refine r_callVi (rest := []) (wr := []) (wn := fun u => [(rA, .inr (2, [.int (nI u), .int (nI nm), .int (nI nu)]))]) C Z (c_Reader_finishNumber l D cI cZ rA 4 nm nu (by first | assumption | omega)) k_Reader_35 rfl ⟨by rw [hR]; decide, by rw [hR]; decide⟩ ⟨rfl, rfl⟩ [0] [] [0] (by decide) rfl rfl (by decide) (by decide) (by decide) (fun _ => rfl) 0 rfl rfl hl.1 rfl (Nat.le_of_ble_eq_true rfl) d_Reader_read_96 ⟨Nat.zero_le _, Nat.zero_le _⟩ (fun r u H locs hp Z => ?_)
      obtain ⟨hp1, hp2⟩ := hp; have hp1 := hp1.symm; have hp2 := hp2.symm; subst hp1; subst hp2
      have Z : Wd D A s.heap [(rA, .inr (2, [.int (nI 0), .int (nI nm), .int (nI nu)]))] H locs := Z
      refine lv_goto (tgt := 110) C.1 C.2.1 d_Reader_read_99 (by decide) ?_
      exact r_iret C Z (0, nm, nu) (by clear C Z hl; rw [rdP_4]; first | exact ⟨rfl, rfl⟩ | exact ⟨rfl, by rw [rdDig_nm]⟩ | (rw [if_pos (by omega)]; first | exact ⟨rfl, rfl⟩ | exact ⟨rfl, by rw [rdDig_nm]⟩) | (rw [if_neg (by omega)]; first | exact ⟨rfl, rfl⟩ | exact ⟨rfl, by rw [rdDig_nm]⟩)) rfl hQ d_Reader_read_110
  · skip
    have hl : lv_has ls 2 [(0, .ref rA), (1, .int (nI c))] := hl
    refine lv_aload_n C.1 C.2.1 d_Reader_read_0 rfl (lv_at hl 0 rfl) ?_
    refine r_get C Z 0 f_Reader_11 rfl rfl d_Reader_read_1 ?_
    refine lv_tableIn (tgt := 111) (off := 107) C.1 C.2.1 d_Reader_read_4 (by decide) (by decide) (by decide) (by decide) ?_
    refine lv_aload_n C.1 C.2.1 d_Reader_read_111 rfl (lv_at hl 0 rfl) ?_
    refine lv_iload_n C.1 C.2.1 d_Reader_read_112 rfl (lv_at hl 1 rfl) ?_
    refine lv_bipush (v := nI 16) C.1 C.2.1 d_Reader_read_113 (by decide) ?_
    refine lv_bipush (v := nI 6) C.1 C.2.1 d_Reader_read_115 (by decide) ?_
    refine r_callVi (rest := []) (wr := []) (wn := fun u => [(rA, .inr (2, [.int (nI u.1), .int (nI nm), .int (nI u.2)]))]) C Z (c_Reader_readDigit l D cI cZ rA 5 nm nu c 16 6 (by first | assumption | omega) (by first | assumption | omega) (by first | assumption | omega)) k_Reader_31 rfl ⟨by rw [hR]; decide, by rw [hR]; decide⟩ ⟨rfl, rfl⟩ [0] [] [0] (by decide) rfl rfl (by decide) (by decide) (by decide) (fun _ => rfl) 0 rfl rfl hl.1 rfl (Nat.le_of_ble_eq_true rfl) d_Reader_read_117 ⟨Nat.zero_le _, Nat.zero_le _⟩ (fun r u H locs hp Z => ?_)
    obtain ⟨hp1, hp2⟩ := hp; have hp1 := hp1.symm; have hp2 := hp2.symm; subst hp1; subst hp2
    have Z : Wd D A s.heap [(rA, .inr (2, [.int (nI ((rdDig 5 nm nu c 16 6).2.1)), .int (nI nm), .int (nI ((rdDig 5 nm nu c 16 6).2.2.2))]))] H locs := Z
    exact r_iret C Z ((rdDig 5 nm nu c 16 6).2.1, nm, (rdDig 5 nm nu c 16 6).2.2.2) (by clear C Z hl; rw [rdP_5]; first | exact ⟨rfl, rfl⟩ | exact ⟨rfl, by rw [rdDig_nm]⟩ | (rw [if_pos (by omega)]; first | exact ⟨rfl, rfl⟩ | exact ⟨rfl, by rw [rdDig_nm]⟩) | (rw [if_neg (by omega)]; first | exact ⟨rfl, rfl⟩ | exact ⟨rfl, by rw [rdDig_nm]⟩)) rfl hQ d_Reader_read_120
  · skip
    have hl : lv_has ls 2 [(0, .ref rA), (1, .int (nI c))] := hl
    refine lv_aload_n C.1 C.2.1 d_Reader_read_0 rfl (lv_at hl 0 rfl) ?_
    refine r_get C Z 0 f_Reader_11 rfl rfl d_Reader_read_1 ?_
    refine lv_tableIn (tgt := 121) (off := 117) C.1 C.2.1 d_Reader_read_4 (by decide) (by decide) (by decide) (by decide) ?_
    refine lv_iload_n C.1 C.2.1 d_Reader_read_121 rfl (lv_at hl 1 rfl) ?_
    refine lv_bipush (v := nI 59) C.1 C.2.1 d_Reader_read_122 (by decide) ?_
    refine r_ne (tgt := 134) C d_Reader_read_124 (by decide) (by omega) (by omega) (fun h124 => ?_) (fun h124 => ?_)
    · skip
      refine lv_aload_n C.1 C.2.1 d_Reader_read_134 rfl (lv_at hl 0 rfl) ?_
      refine lv_iload_n C.1 C.2.1 d_Reader_read_135 rfl (lv_at hl 1 rfl) ?_
      refine lv_bipush (v := nI 16) C.1 C.2.1 d_Reader_read_136 (by decide) ?_
      refine lv_bipush (v := nI 6) C.1 C.2.1 d_Reader_read_138 (by decide) ?_
      refine r_callVi (rest := []) (wr := []) (wn := fun u => [(rA, .inr (2, [.int (nI u.1), .int (nI nm), .int (nI u.2)]))]) C Z (c_Reader_readDigit l D cI cZ rA 6 nm nu c 16 6 (by first | assumption | omega) (by first | assumption | omega) (by first | assumption | omega)) k_Reader_31 rfl ⟨by rw [hR]; decide, by rw [hR]; decide⟩ ⟨rfl, rfl⟩ [0] [] [0] (by decide) rfl rfl (by decide) (by decide) (by decide) (fun _ => rfl) 0 rfl rfl hl.1 rfl (Nat.le_of_ble_eq_true rfl) d_Reader_read_140 ⟨Nat.zero_le _, Nat.zero_le _⟩ (fun r u H locs hp Z => ?_)
      obtain ⟨hp1, hp2⟩ := hp; have hp1 := hp1.symm; have hp2 := hp2.symm; subst hp1; subst hp2
      have Z : Wd D A s.heap [(rA, .inr (2, [.int (nI ((rdDig 6 nm nu c 16 6).2.1)), .int (nI nm), .int (nI ((rdDig 6 nm nu c 16 6).2.2.2))]))] H locs := Z
      exact r_iret C Z ((rdDig 6 nm nu c 16 6).2.1, nm, (rdDig 6 nm nu c 16 6).2.2.2) (by clear C Z hl; rw [rdP_6]; first | exact ⟨rfl, rfl⟩ | exact ⟨rfl, by rw [rdDig_nm]⟩ | (rw [if_pos (by omega)]; first | exact ⟨rfl, rfl⟩ | exact ⟨rfl, by rw [rdDig_nm]⟩) | (rw [if_neg (by omega)]; first | exact ⟨rfl, rfl⟩ | exact ⟨rfl, by rw [rdDig_nm]⟩)) rfl hQ d_Reader_read_143
    · skip
      refine lv_aload_n C.1 C.2.1 d_Reader_read_127 rfl (lv_at hl 0 rfl) ?_
      refine r_callVi (rest := []) (wr := []) (wn := fun u => [(rA, .inr (2, [.int (nI u), .int (nI nm), .int (nI nu)]))]) C Z (c_Reader_finishNumber l D cI cZ rA 6 nm nu (by first | assumption | omega)) k_Reader_35 rfl ⟨by rw [hR]; decide, by rw [hR]; decide⟩ ⟨rfl, rfl⟩ [0] [] [0] (by decide) rfl rfl (by decide) (by decide) (by decide) (fun _ => rfl) 0 rfl rfl hl.1 rfl (Nat.le_of_ble_eq_true rfl) d_Reader_read_128 ⟨Nat.zero_le _, Nat.zero_le _⟩ (fun r u H locs hp Z => ?_)
      obtain ⟨hp1, hp2⟩ := hp; have hp1 := hp1.symm; have hp2 := hp2.symm; subst hp1; subst hp2
      have Z : Wd D A s.heap [(rA, .inr (2, [.int (nI 0), .int (nI nm), .int (nI nu)]))] H locs := Z
      refine lv_goto (tgt := 143) C.1 C.2.1 d_Reader_read_131 (by decide) ?_
      exact r_iret C Z (0, nm, nu) (by clear C Z hl; rw [rdP_6]; first | exact ⟨rfl, rfl⟩ | exact ⟨rfl, by rw [rdDig_nm]⟩ | (rw [if_pos (by omega)]; first | exact ⟨rfl, rfl⟩ | exact ⟨rfl, by rw [rdDig_nm]⟩) | (rw [if_neg (by omega)]; first | exact ⟨rfl, rfl⟩ | exact ⟨rfl, by rw [rdDig_nm]⟩)) rfl hQ d_Reader_read_143
end
section
set_option maxHeartbeats 4000000 in
set_option maxRecDepth 100000 in
theorem c_Ents_has (l : Launch) (D : va_G) (cI cZ : ClassId) (eA wA sA lA : Nat) (dl : Int32) (kept : Nat) (dr : Nat) (ln : Nat → Nat) (k : Nat) (hk : k < 26) (hln : ln k < 2 ^ 31) : Mi l y_Ents_has b_Ents_has 2 (some .boolean) ({ frames := 0, cells := 0, slots := 0, locals := 0 } : Room) D cI cZ [.ref eA, .int (nI k)] [(eA, .inr (1, [.ref wA, .ref sA, .ref lA, .int dl, .int (nI kept), .int (nI dr)])), (lA, .inl (cI, 26, .inl (aM ln)))] (fun (r : Int32) (u : Unit) => r = nI (min (ln k) 1) ∧ u = ()) (fun u : Unit => [(eA, .inr (1, [.ref wA, .ref sA, .ref lA, .int dl, .int (nI kept), .int (nI dr)])), (lA, .inl (cI, 26, .inl (aM ln)))]) := by
  refine Mi.intro (by decide) (Nat.le_of_ble_eq_true rfl) ?_
  intro p e s m args below meth cd A ls R Q hR hQ C Z hl
  have hl : lv_has ls 2 [(0, .ref eA), (1, .int (nI k))] := hl
  refine lv_aload_n C.1 C.2.1 d_Ents_has_0 rfl (lv_at hl 0 rfl) ?_
  refine r_get C Z 0 f_Ents_18 rfl rfl d_Ents_has_1 ?_
  refine lv_iload_n C.1 C.2.1 d_Ents_has_4 rfl (lv_at hl 1 rfl) ?_
  refine r_ildM C Z 1 rfl (by omega) (by decide) d_Ents_has_5 ?_
  refine lv_iconst (v := (-1)) C.1 C.2.1 d_Ents_has_6 (by decide) ?_
  refine lv_icmp_eq (tgt := 14) C.1 C.2.1 d_Ents_has_7 (by decide) (fun h7 => ?_) (fun h7 => ?_)
  · skip
    refine lv_iconst (v := nI 0) C.1 C.2.1 d_Ents_has_14 (by decide) ?_
    exact r_zret C Z (by omega) () ⟨by have := m1_eq hln; congr 1; first | (have := this.mp h7; omega) | (have : ¬ ln k = 0 := fun q => h7 (m1_eq hln |>.mpr q); omega), rfl⟩ rfl hQ d_Ents_has_15
  · skip
    refine lv_iconst (v := nI 1) C.1 C.2.1 d_Ents_has_10 (by decide) ?_
    refine lv_goto (tgt := 15) C.1 C.2.1 d_Ents_has_11 (by decide) ?_
    exact r_zret C Z (by omega) () ⟨by have := m1_eq hln; congr 1; first | (have := this.mp h7; omega) | (have : ¬ ln k = 0 := fun q => h7 (m1_eq hln |>.mpr q); omega), rfl⟩ rfl hQ d_Ents_has_15

set_option maxHeartbeats 4000000 in
set_option maxRecDepth 100000 in
theorem c_Ents_startOf (l : Launch) (D : va_G) (cI cZ : ClassId) (eA wA sA lA : Nat) (dl : Int32) (kept : Nat) (dr : Nat) (sf : Nat → Nat) (k : Nat) (hk : k < 26) : Mi l y_Ents_startOf b_Ents_startOf 2 (some .int) ({ frames := 0, cells := 0, slots := 0, locals := 0 } : Room) D cI cZ [.ref eA, .int (nI k)] [(eA, .inr (1, [.ref wA, .ref sA, .ref lA, .int dl, .int (nI kept), .int (nI dr)])), (sA, .inl (cI, 26, .inl (aN sf)))] (fun (r : Int32) (u : Unit) => r = nI (sf k) ∧ u = ()) (fun u : Unit => [(eA, .inr (1, [.ref wA, .ref sA, .ref lA, .int dl, .int (nI kept), .int (nI dr)])), (sA, .inl (cI, 26, .inl (aN sf)))]) := by
  refine Mi.intro (by decide) (Nat.le_of_ble_eq_true rfl) ?_
  intro p e s m args below meth cd A ls R Q hR hQ C Z hl
  have hl : lv_has ls 2 [(0, .ref eA), (1, .int (nI k))] := hl
  refine lv_aload_n C.1 C.2.1 d_Ents_startOf_0 rfl (lv_at hl 0 rfl) ?_
  refine r_get C Z 0 f_Ents_15 rfl rfl d_Ents_startOf_1 ?_
  refine lv_iload_n C.1 C.2.1 d_Ents_startOf_4 rfl (lv_at hl 1 rfl) ?_
  refine r_ildN C Z 1 rfl (by omega) (by decide) d_Ents_startOf_5 ?_
  exact r_iret C Z () (by first | exact ⟨rfl, rfl⟩ | (clear C Z hl; grind)) rfl hQ d_Ents_startOf_6

set_option maxHeartbeats 4000000 in
set_option maxRecDepth 100000 in
theorem c_Ents_lengthOf (l : Launch) (D : va_G) (cI cZ : ClassId) (eA wA sA lA : Nat) (dl : Int32) (kept : Nat) (dr : Nat) (ln : Nat → Nat) (k : Nat) (hk : k < 26) (hln : ln k ≠ 0) : Mi l y_Ents_lengthOf b_Ents_lengthOf 2 (some .int) ({ frames := 0, cells := 0, slots := 0, locals := 0 } : Room) D cI cZ [.ref eA, .int (nI k)] [(eA, .inr (1, [.ref wA, .ref sA, .ref lA, .int dl, .int (nI kept), .int (nI dr)])), (lA, .inl (cI, 26, .inl (aM ln)))] (fun (r : Int32) (u : Unit) => r = nI (ln k - 1) ∧ u = ()) (fun u : Unit => [(eA, .inr (1, [.ref wA, .ref sA, .ref lA, .int dl, .int (nI kept), .int (nI dr)])), (lA, .inl (cI, 26, .inl (aM ln)))]) := by
  refine Mi.intro (by decide) (Nat.le_of_ble_eq_true rfl) ?_
  intro p e s m args below meth cd A ls R Q hR hQ C Z hl
  have hl : lv_has ls 2 [(0, .ref eA), (1, .int (nI k))] := hl
  refine lv_aload_n C.1 C.2.1 d_Ents_lengthOf_0 rfl (lv_at hl 0 rfl) ?_
  refine r_get C Z 0 f_Ents_18 rfl rfl d_Ents_lengthOf_1 ?_
  refine lv_iload_n C.1 C.2.1 d_Ents_lengthOf_4 rfl (lv_at hl 1 rfl) ?_
  refine r_ildM C Z 1 rfl (by omega) (by decide) d_Ents_lengthOf_5 ?_
  exact r_iret C Z () ⟨m1_sub hln, rfl⟩ rfl hQ d_Ents_lengthOf_6

set_option maxHeartbeats 4000000 in
set_option maxRecDepth 100000 in
theorem c_Ents_characterOf (l : Launch) (D : va_G) (cI cZ : ClassId) (eA wA sA lA : Nat) (dl : Int32) (kept : Nat) (dr : Nat) (tx : Nat → Nat) (sf : Nat → Nat) (k : Nat) (i : Nat) (hk : k < 26) (hi : sf k + i < 2000) : Mi l y_Ents_characterOf b_Ents_characterOf 3 (some .int) ({ frames := 0, cells := 0, slots := 0, locals := 0 } : Room) D cI cZ [.ref eA, .int (nI k), .int (nI i)] [(eA, .inr (1, [.ref wA, .ref sA, .ref lA, .int dl, .int (nI kept), .int (nI dr)])), (wA, .inl (cI, 2000, .inl (aN tx))), (sA, .inl (cI, 26, .inl (aN sf)))] (fun (r : Int32) (u : Unit) => r = nI (tx (sf k + i)) ∧ u = ()) (fun u : Unit => [(eA, .inr (1, [.ref wA, .ref sA, .ref lA, .int dl, .int (nI kept), .int (nI dr)])), (wA, .inl (cI, 2000, .inl (aN tx))), (sA, .inl (cI, 26, .inl (aN sf)))]) := by
  refine Mi.intro (by decide) (Nat.le_of_ble_eq_true rfl) ?_
  intro p e s m args below meth cd A ls R Q hR hQ C Z hl
  have hl : lv_has ls 3 [(0, .ref eA), (1, .int (nI k)), (2, .int (nI i))] := hl
  refine lv_aload_n C.1 C.2.1 d_Ents_characterOf_0 rfl (lv_at hl 0 rfl) ?_
  refine r_get C Z 0 f_Ents_9 rfl rfl d_Ents_characterOf_1 ?_
  refine lv_aload_n C.1 C.2.1 d_Ents_characterOf_4 rfl (lv_at hl 0 rfl) ?_
  refine r_get C Z 0 f_Ents_15 rfl rfl d_Ents_characterOf_5 ?_
  refine lv_iload_n C.1 C.2.1 d_Ents_characterOf_8 rfl (lv_at hl 1 rfl) ?_
  refine r_ildN C Z 2 rfl (by omega) (by decide) d_Ents_characterOf_9 ?_
  refine lv_iload_n C.1 C.2.1 d_Ents_characterOf_10 rfl (lv_at hl 2 rfl) ?_
  refine r_add C d_Ents_characterOf_11 ?_
  refine r_ildN C Z 1 rfl (by omega) (by decide) d_Ents_characterOf_12 ?_
  exact r_iret C Z () (by first | exact ⟨rfl, rfl⟩ | (clear C Z hl; grind)) rfl hQ d_Ents_characterOf_13

set_option maxHeartbeats 4000000 in
set_option maxRecDepth 100000 in
theorem c_Ents_beginDraft (l : Launch) (D : va_G) (cI cZ : ClassId) (eA wA sA lA : Nat) (dl : Int32) (kept : Nat) (dr : Nat) : Mv l y_Ents_beginDraft b_Ents_beginDraft 1 ({ frames := 0, cells := 0, slots := 0, locals := 0 } : Room) D cI cZ [.ref eA] [(eA, .inr (1, [.ref wA, .ref sA, .ref lA, .int dl, .int (nI kept), .int (nI dr)]))] (fun u : Nat => u = 0) (fun u : Nat => [(eA, .inr (1, [.ref wA, .ref sA, .ref lA, .int dl, .int (nI kept), .int (nI u)]))]) 0 0 := by
  refine Mv.intro (by decide) (Nat.le_of_ble_eq_true rfl) ?_
  intro p e s m args below meth cd A ls R Q hR hQ C hin Z hl
  have hl : lv_has ls 1 [(0, .ref eA)] := hl
  refine lv_aload_n C.1 C.2.1 d_Ents_beginDraft_0 rfl (lv_at hl 0 rfl) ?_
  refine lv_iconst (v := nI 0) C.1 C.2.1 d_Ents_beginDraft_1 (by decide) ?_
  refine r_put (ws' := [(eA, .inr (1, [.ref wA, .ref sA, .ref lA, .int dl, .int (nI kept), .int (nI 0)]))]) C Z 0 f_Ents_28 rfl rfl rfl (Nat.le_of_ble_eq_true rfl) rfl d_Ents_beginDraft_2 (fun H locs Z => ?_)
  exact r_vret C Z 0 (by first | exact rfl | (clear C Z hl; grind)) rfl hQ d_Ents_beginDraft_5

set_option maxHeartbeats 4000000 in
set_option maxRecDepth 100000 in
theorem c_Ents_draft (l : Launch) (D : va_G) (cI cZ : ClassId) (eA wA sA lA : Nat) (dl : Int32) (kept : Nat) (dr : Nat) (tx : Nat → Nat) (c : Nat) (hkept : kept ≤ 2000) (hdr : dr ≤ 100000) : Mv l y_Ents_draft b_Ents_draft 2 ({ frames := 0, cells := 0, slots := 0, locals := 0 } : Room) D cI cZ [.ref eA, .int (nI c)] [(eA, .inr (1, [.ref wA, .ref sA, .ref lA, .int dl, .int (nI kept), .int (nI dr)])), (wA, .inl (cI, 2000, .inl (aN tx)))] (fun u : (Nat → Nat) × Nat => u = (drX kept dr c tx, dr + 1)) (fun u : (Nat → Nat) × Nat => [(eA, .inr (1, [.ref wA, .ref sA, .ref lA, .int dl, .int (nI kept), .int (nI u.2)])), (wA, .inl (cI, 2000, .inl (aN u.1)))]) 0 0 := by
  refine Mv.intro (by decide) (Nat.le_of_ble_eq_true rfl) ?_
  intro p e s m args below meth cd A ls R Q hR hQ C hin Z hl
  have hl : lv_has ls 2 [(0, .ref eA), (1, .int (nI c))] := hl
  refine lv_aload_n C.1 C.2.1 d_Ents_draft_0 rfl (lv_at hl 0 rfl) ?_
  refine r_get C Z 0 f_Ents_25 rfl rfl d_Ents_draft_1 ?_
  refine lv_aload_n C.1 C.2.1 d_Ents_draft_4 rfl (lv_at hl 0 rfl) ?_
  refine r_get C Z 0 f_Ents_28 rfl rfl d_Ents_draft_5 ?_
  refine r_add C d_Ents_draft_8 ?_
  refine lv_sipush (v := nI 2000) C.1 C.2.1 d_Ents_draft_9 (by decide) ?_
  refine r_ge (tgt := 30) C d_Ents_draft_12 (by decide) (by omega) (by omega) (fun h12 => ?_) (fun h12 => ?_)
  · skip
    refine lv_aload_n C.1 C.2.1 d_Ents_draft_30 rfl (lv_at hl 0 rfl) ?_
    refine lv_dup C.1 C.2.1 d_Ents_draft_31 rfl ?_
    refine r_get C Z 0 f_Ents_28 rfl rfl d_Ents_draft_32 ?_
    refine lv_iconst (v := nI 1) C.1 C.2.1 d_Ents_draft_35 (by decide) ?_
    refine r_add C d_Ents_draft_36 ?_
    refine r_put (ws' := [(eA, .inr (1, [.ref wA, .ref sA, .ref lA, .int dl, .int (nI kept), .int (nI (dr + 1))])), (wA, .inl (cI, 2000, .inl (aN tx)))]) C Z 0 f_Ents_28 rfl rfl rfl (Nat.le_of_ble_eq_true rfl) rfl d_Ents_draft_37 (fun H locs Z => ?_)
    exact r_vret C Z (tx, dr + 1) (by unfold drX; first | rw [if_pos (by omega)] | rw [if_neg (by omega)]) rfl hQ d_Ents_draft_40
  · skip
    refine lv_aload_n C.1 C.2.1 d_Ents_draft_15 rfl (lv_at hl 0 rfl) ?_
    refine r_get C Z 0 f_Ents_9 rfl rfl d_Ents_draft_16 ?_
    refine lv_aload_n C.1 C.2.1 d_Ents_draft_19 rfl (lv_at hl 0 rfl) ?_
    refine r_get C Z 0 f_Ents_25 rfl rfl d_Ents_draft_20 ?_
    refine lv_aload_n C.1 C.2.1 d_Ents_draft_23 rfl (lv_at hl 0 rfl) ?_
    refine r_get C Z 0 f_Ents_28 rfl rfl d_Ents_draft_24 ?_
    refine r_add C d_Ents_draft_27 ?_
    refine lv_iload_n C.1 C.2.1 d_Ents_draft_28 rfl (lv_at hl 1 rfl) ?_
    refine r_istN (ws' := [(eA, .inr (1, [.ref wA, .ref sA, .ref lA, .int dl, .int (nI kept), .int (nI dr)])), (wA, .inl (cI, 2000, .inl (aN (updN tx (kept + dr) c))))]) C Z 1 rfl (by omega) (by decide) rfl d_Ents_draft_29 (fun H locs Z => ?_)
    refine lv_aload_n C.1 C.2.1 d_Ents_draft_30 rfl (lv_at hl 0 rfl) ?_
    refine lv_dup C.1 C.2.1 d_Ents_draft_31 rfl ?_
    refine r_get C Z 0 f_Ents_28 rfl rfl d_Ents_draft_32 ?_
    refine lv_iconst (v := nI 1) C.1 C.2.1 d_Ents_draft_35 (by decide) ?_
    refine r_add C d_Ents_draft_36 ?_
    refine r_put (ws' := [(eA, .inr (1, [.ref wA, .ref sA, .ref lA, .int dl, .int (nI kept), .int (nI (dr + 1))])), (wA, .inl (cI, 2000, .inl (aN (updN tx (kept + dr) c))))]) C Z 0 f_Ents_28 rfl rfl rfl (Nat.le_of_ble_eq_true rfl) rfl d_Ents_draft_37 (fun H locs Z => ?_)
    exact r_vret C Z (updN tx (kept + dr) c, dr + 1) (by unfold drX; first | rw [if_pos (by omega)] | rw [if_neg (by omega)]) rfl hQ d_Ents_draft_40

set_option maxHeartbeats 4000000 in
set_option maxRecDepth 100000 in
theorem c_Ents_draftFits (l : Launch) (D : va_G) (cI cZ : ClassId) (eA wA sA lA : Nat) (dl : Int32) (kept : Nat) (dr : Nat) (hkept : kept ≤ 2000) (hdr : dr ≤ 100000) : Mi l y_Ents_draftFits b_Ents_draftFits 1 (some .boolean) ({ frames := 0, cells := 0, slots := 0, locals := 0 } : Room) D cI cZ [.ref eA] [(eA, .inr (1, [.ref wA, .ref sA, .ref lA, .int dl, .int (nI kept), .int (nI dr)]))] (fun (r : Int32) (u : Unit) => r = nI (1 - (kept + dr - 2000)) ∧ u = ()) (fun u : Unit => [(eA, .inr (1, [.ref wA, .ref sA, .ref lA, .int dl, .int (nI kept), .int (nI dr)]))]) := by
  refine Mi.intro (by decide) (Nat.le_of_ble_eq_true rfl) ?_
  intro p e s m args below meth cd A ls R Q hR hQ C Z hl
  have hl : lv_has ls 1 [(0, .ref eA)] := hl
  refine lv_aload_n C.1 C.2.1 d_Ents_draftFits_0 rfl (lv_at hl 0 rfl) ?_
  refine r_get C Z 0 f_Ents_25 rfl rfl d_Ents_draftFits_1 ?_
  refine lv_aload_n C.1 C.2.1 d_Ents_draftFits_4 rfl (lv_at hl 0 rfl) ?_
  refine r_get C Z 0 f_Ents_28 rfl rfl d_Ents_draftFits_5 ?_
  refine r_add C d_Ents_draftFits_8 ?_
  refine lv_sipush (v := nI 2000) C.1 C.2.1 d_Ents_draftFits_9 (by decide) ?_
  refine r_gt (tgt := 19) C d_Ents_draftFits_12 (by decide) (by omega) (by omega) (fun h12 => ?_) (fun h12 => ?_)
  · skip
    refine lv_iconst (v := nI 0) C.1 C.2.1 d_Ents_draftFits_19 (by decide) ?_
    exact r_zret C Z (by omega) () ⟨by congr 1; omega, rfl⟩ rfl hQ d_Ents_draftFits_20
  · skip
    refine lv_iconst (v := nI 1) C.1 C.2.1 d_Ents_draftFits_15 (by decide) ?_
    refine lv_goto (tgt := 20) C.1 C.2.1 d_Ents_draftFits_16 (by decide) ?_
    exact r_zret C Z (by omega) () ⟨by congr 1; omega, rfl⟩ rfl hQ d_Ents_draftFits_20

set_option maxHeartbeats 4000000 in
set_option maxRecDepth 100000 in
theorem c_Ents_keepDraft (l : Launch) (D : va_G) (cI cZ : ClassId) (eA wA sA lA : Nat) (dl : Int32) (kept : Nat) (dr : Nat) (sf : Nat → Nat) (ln : Nat → Nat) (k : Nat) (hk : k < 26) : Mv l y_Ents_keepDraft b_Ents_keepDraft 2 ({ frames := 0, cells := 0, slots := 0, locals := 0 } : Room) D cI cZ [.ref eA, .int (nI k)] [(eA, .inr (1, [.ref wA, .ref sA, .ref lA, .int dl, .int (nI kept), .int (nI dr)])), (sA, .inl (cI, 26, .inl (aN sf))), (lA, .inl (cI, 26, .inl (aM ln)))] (fun u : (Nat → Nat) × (Nat → Nat) × Nat × Int32 => u = (updN sf k kept, updN ln k (dr + 1), kept + dr, dl + nI 1)) (fun u : (Nat → Nat) × (Nat → Nat) × Nat × Int32 => [(eA, .inr (1, [.ref wA, .ref sA, .ref lA, .int u.2.2.2, .int (nI u.2.2.1), .int (nI dr)])), (sA, .inl (cI, 26, .inl (aN u.1))), (lA, .inl (cI, 26, .inl (aM u.2.1)))]) 0 0 := by
  refine Mv.intro (by decide) (Nat.le_of_ble_eq_true rfl) ?_
  intro p e s m args below meth cd A ls R Q hR hQ C hin Z hl
  have hl : lv_has ls 2 [(0, .ref eA), (1, .int (nI k))] := hl
  refine lv_aload_n C.1 C.2.1 d_Ents_keepDraft_0 rfl (lv_at hl 0 rfl) ?_
  refine r_get C Z 0 f_Ents_15 rfl rfl d_Ents_keepDraft_1 ?_
  refine lv_iload_n C.1 C.2.1 d_Ents_keepDraft_4 rfl (lv_at hl 1 rfl) ?_
  refine lv_aload_n C.1 C.2.1 d_Ents_keepDraft_5 rfl (lv_at hl 0 rfl) ?_
  refine r_get C Z 0 f_Ents_25 rfl rfl d_Ents_keepDraft_6 ?_
  refine r_istN (ws' := [(eA, .inr (1, [.ref wA, .ref sA, .ref lA, .int dl, .int (nI kept), .int (nI dr)])), (sA, .inl (cI, 26, .inl (aN (updN sf k kept)))), (lA, .inl (cI, 26, .inl (aM ln)))]) C Z 1 rfl (by omega) (by decide) rfl d_Ents_keepDraft_9 (fun H locs Z => ?_)
  refine lv_aload_n C.1 C.2.1 d_Ents_keepDraft_10 rfl (lv_at hl 0 rfl) ?_
  refine r_get C Z 0 f_Ents_18 rfl rfl d_Ents_keepDraft_11 ?_
  refine lv_iload_n C.1 C.2.1 d_Ents_keepDraft_14 rfl (lv_at hl 1 rfl) ?_
  refine lv_aload_n C.1 C.2.1 d_Ents_keepDraft_15 rfl (lv_at hl 0 rfl) ?_
  refine r_get C Z 0 f_Ents_28 rfl rfl d_Ents_keepDraft_16 ?_
  refine r_istM (ws' := [(eA, .inr (1, [.ref wA, .ref sA, .ref lA, .int dl, .int (nI kept), .int (nI dr)])), (sA, .inl (cI, 26, .inl (aN (updN sf k kept)))), (lA, .inl (cI, 26, .inl (aM (updN ln k (dr + 1)))))]) C Z 2 rfl (by omega) (by decide) rfl d_Ents_keepDraft_19 (fun H locs Z => ?_)
  refine lv_aload_n C.1 C.2.1 d_Ents_keepDraft_20 rfl (lv_at hl 0 rfl) ?_
  refine lv_dup C.1 C.2.1 d_Ents_keepDraft_21 rfl ?_
  refine r_get C Z 0 f_Ents_25 rfl rfl d_Ents_keepDraft_22 ?_
  refine lv_aload_n C.1 C.2.1 d_Ents_keepDraft_25 rfl (lv_at hl 0 rfl) ?_
  refine r_get C Z 0 f_Ents_28 rfl rfl d_Ents_keepDraft_26 ?_
  refine r_add C d_Ents_keepDraft_29 ?_
  refine r_put (ws' := [(eA, .inr (1, [.ref wA, .ref sA, .ref lA, .int dl, .int (nI (kept + dr)), .int (nI dr)])), (sA, .inl (cI, 26, .inl (aN (updN sf k kept)))), (lA, .inl (cI, 26, .inl (aM (updN ln k (dr + 1)))))]) C Z 0 f_Ents_25 rfl rfl rfl (Nat.le_of_ble_eq_true rfl) rfl d_Ents_keepDraft_30 (fun H locs Z => ?_)
  refine lv_aload_n C.1 C.2.1 d_Ents_keepDraft_33 rfl (lv_at hl 0 rfl) ?_
  refine lv_dup C.1 C.2.1 d_Ents_keepDraft_34 rfl ?_
  refine r_get C Z 0 f_Ents_21 rfl rfl d_Ents_keepDraft_35 ?_
  refine lv_iconst (v := nI 1) C.1 C.2.1 d_Ents_keepDraft_38 (by decide) ?_
  refine lv_iadd C.1 C.2.1 d_Ents_keepDraft_39 ?_
  refine r_put (ws' := [(eA, .inr (1, [.ref wA, .ref sA, .ref lA, .int (dl + nI 1), .int (nI (kept + dr)), .int (nI dr)])), (sA, .inl (cI, 26, .inl (aN (updN sf k kept)))), (lA, .inl (cI, 26, .inl (aM (updN ln k (dr + 1)))))]) C Z 0 f_Ents_21 rfl rfl rfl (Nat.le_of_ble_eq_true rfl) rfl d_Ents_keepDraft_40 (fun H locs Z => ?_)
  exact r_vret C Z (updN sf k kept, updN ln k (dr + 1), kept + dr, dl + nI 1) (by first | exact rfl | (clear C Z hl; grind)) rfl hQ d_Ents_keepDraft_43
end
section
/-! THE PURE WORDS of the desk: drafting, giving, going over. -/
def fltK (w fa : Nat) : Nat := if w = 5 then 2 else if w = 4 then 8 else fa
def fltP (w at' op : Nat) (fp : Int32) : Int32 := if w = 5 then nI at' else if w = 4 then nI op else fp
def dcX (w c nm nu kept dr : Nat) (tx : Nat → Nat) : Nat → Nat := if w = 0 then drX kept dr c tx else if w = 2 then drX kept dr nu tx else if w = 3 then drX kept (dr + 1 + 1) 59 (drX kept (dr + 1) (97 + nm) (drX kept dr 38 tx)) else tx
def dcN (w dr : Nat) : Nat := if w = 0 then dr + 1 else if w = 2 then dr + 1 else if w = 3 then dr + 1 + 1 + 1 else dr
theorem dcN_le (w dr : Nat) : dcN w dr ≤ dr + 3 := by unfold dcN; (repeat' split) <;> omega
theorem fltK_le {w fa : Nat} (h : fa ≤ 15) : fltK w fa ≤ 15 := by unfold fltK; (repeat' split) <;> omega
/-- what drafting carries: fault, place, outer place, texts, how many drafted, the reader's three -/
abbrev DS : Type := Nat × Int32 × Nat × (Nat → Nat) × Nat × Nat × Nat × Nat
def dOp (st i op : Nat) : Nat := if st = 0 then i else op
def dStep (kept c i : Nat) (fa : Nat) (fp : Int32) (op : Nat) (tx : Nat → Nat) (dr st nm nu : Nat) : DS :=
  (fltK (rdP st nm nu c).1 fa, fltP (rdP st nm nu c).1 i (dOp st i op) fp, dOp st i op, dcX (rdP st nm nu c).1 c (rdP st nm nu c).2.2.1 (rdP st nm nu c).2.2.2 kept dr tx, dcN (rdP st nm nu c).1 dr, (rdP st nm nu c).2.1, (rdP st nm nu c).2.2.1, (rdP st nm nu c).2.2.2)
def dLoop (kept : Nat) (hand : Nat → Nat) : Nat → Nat → DS → DS
  | 0, _, S => S
  | k + 1, i, S => if S.1 = 0 then dLoop kept hand k (i + 1) (dStep kept (hand i) i S.1 S.2.1 S.2.2.1 S.2.2.2.1 S.2.2.2.2.1 S.2.2.2.2.2.1 S.2.2.2.2.2.2.1 S.2.2.2.2.2.2.2) else S
def dEnd (told : Nat) (S : DS) : DS := if S.1 = 0 ∧ S.2.2.2.2.2.1 ≠ 0 then (2, nI told, S.2.2) else S
def dText (kept told : Nat) (hand : Nat → Nat) (S : DS) : DS := dEnd told (dLoop kept hand told 0 S)
def gvK (ol fa : Nat) : Nat := if 3000 ≤ ol then 15 else fa
def gvP (ol op : Nat) (fp : Int32) : Int32 := if 3000 ≤ ol then nI op else fp
def gvO (ol c : Nat) (out : Nat → Nat) : Nat → Nat := if 3000 ≤ ol then out else updN out ol c
def gvN (ol : Nat) : Nat := if 3000 ≤ ol then ol else ol + 1
def fltE (lnk opk depth me ml : Nat) : Nat := if lnk = 0 then 5 else if opk ≠ 0 then 6 else if 12 < depth then 15 else if ml < me + (lnk - 1) then 14 else 0
theorem fltE_le (lnk opk depth me ml : Nat) : fltE lnk opk depth me ml ≤ 15 := by unfold fltE; (repeat' split) <;> omega
theorem gvN_le {ol : Nat} (h : ol ≤ 3000) : gvN ol ≤ 3000 := by unfold gvN; split <;> omega
/-- what going over carries: fault, place, outer place, what is given, how many, the meter, put in, deepest, open, the reader's three -/
abbrev RS : Type := Nat × Int32 × Nat × (Nat → Nat) × Nat × Nat × Int32 × Nat × (Nat → Nat) × Nat × Nat × Nat
def gRead (c x : Nat) : RS → RS := fun (fa, fp, op, out, ol, me, pu, de, opn, st, nm, nu) =>
  (fltK (rdP st nm nu c).1 fa, fltP (rdP st nm nu c).1 x op fp, op, out, ol, me, pu, de, opn, (rdP st nm nu c).2.1, (rdP st nm nu c).2.2.1, (rdP st nm nu c).2.2.2)
def gGive (c : Nat) : RS → RS := fun (fa, fp, op, out, ol, me, pu, de, opn, st, nm, nu) =>
  (gvK ol fa, gvP ol op fp, op, gvO ol c out, gvN ol, me, pu, de, opn, st, nm, nu)
def gRd (c : Nat) : RS → Nat × Nat × Nat × Nat := fun (_, _, _, _, _, _, _, _, _, st, nm, nu) => rdP st nm nu c
def gChar (goI : Nat → RS → RS) (c x : Nat) (S : RS) : RS :=
  if (gRd c S).1 = 0 then gGive c (gRead c x S) else if (gRd c S).1 = 2 then gGive (gRd c S).2.2.2 (gRead c x S) else if (gRd c S).1 = 3 then goI (gRd c S).2.2.1 (gRead c x S) else gRead c x S
def gOp (x i : Nat) : RS → RS := fun (fa, fp, op, out, ol, me, pu, de, opn, st, nm, nu) =>
  (fa, fp, if x = 0 then dOp st i op else op, out, ol, me, pu, de, opn, st, nm, nu)
def gAt (x i : Nat) (S : RS) : Nat := if x = 0 then i else S.2.2.1
def gLoop (goI : Nat → RS → RS) (x : Nat) (f : Nat → Nat) : Nat → Nat → RS → RS
  | 0, _, S => S
  | k + 1, i, S => if S.1 = 0 then gLoop goI x f k (i + 1) (gChar goI (f i) (gAt x i S) (gOp x i S)) else S
def gEnd (x to : Nat) : RS → RS := fun (fa, fp, op, out, ol, me, pu, de, opn, st, nm, nu) =>
  if fa = 0 ∧ st ≠ 0 then (if x = 0 then 2 else 13, if x = 0 then nI to else nI op, op, out, ol, me, pu, de, opn, st, nm, nu) else (fa, fp, op, out, ol, me, pu, de, opn, st, nm, nu)
def gOver (goI : Nat → RS → RS) (x : Nat) (f : Nat → Nat) (fr to : Nat) (S : RS) : RS := gEnd x to (gLoop goI x f (to - fr) fr S)
def gFlt (ln : Nat → Nat) (ml k x : Nat) : RS → Nat := fun (_, _, _, _, _, me, _, _, opn, _, _, _) => fltE (ln k) (opn k) x me ml
def gFail (w : Nat) : RS → RS := fun (_, _, op, out, ol, me, pu, de, opn, st, nm, nu) => (w, nI op, op, out, ol, me, pu, de, opn, st, nm, nu)
def gEnter (len k x : Nat) : RS → RS := fun (fa, fp, op, out, ol, me, pu, de, opn, st, nm, nu) => (fa, fp, op, out, ol, me + len, pu + nI 1, max de x, updN opn k 1, st, nm, nu)
def gLeave (k : Nat) : RS → RS := fun (fa, fp, op, out, ol, me, pu, de, opn, st, nm, nu) => (fa, fp, op, out, ol, me, pu, de, updN opn k 0, st, nm, nu)
/-- goInto with d levels left below it: it stands at depth 13 - d -/
def gInto (tx sf ln : Nat → Nat) (ml : Nat) : Nat → Nat → RS → RS
  | 0, k, S => gFail (gFlt ln ml k 13 S) S
  | d + 1, k, S => if gFlt ln ml k (12 - d) S = 0 then gLeave k (gOver (gInto tx sf ln ml d) (12 - d) tx (sf k) (sf k + (ln k - 1)) (gEnter (ln k - 1) k (12 - d) S)) else gFail (gFlt ln ml k (12 - d) S) S

/-! what a run keeps -/
def gOk : RS → Prop := fun (fa, _, _, _, ol, me, _, de, opn, st, nm, nu) => fa ≤ 15 ∧ ol ≤ 3000 ∧ me ≤ 100000 ∧ de ≤ 12 ∧ st ≤ 6 ∧ nm < 26 ∧ nu ≤ 256 ∧ ∀ j, opn j ≤ 1
def gEnv (tx sf ln : Nat → Nat) (ml : Nat) : Prop := (∀ j, tx j < 256) ∧ (∀ k, k < 26 → ln k ≠ 0 → sf k + (ln k - 1) ≤ 2000) ∧ (∀ k, ln k ≤ 2001) ∧ ml ≤ 100000
theorem fltE_0 {a b x me ml : Nat} (h : fltE a b x me ml = 0) : a ≠ 0 ∧ b = 0 ∧ x ≤ 12 ∧ me + (a - 1) ≤ ml := by
  unfold fltE at h
  (repeat' split at h) <;> omega
theorem fltE_13 (a b me ml : Nat) : fltE a b 13 me ml ≠ 0 := by
  unfold fltE
  (repeat' split) <;> omega
theorem gOk_read {c x : Nat} {S : RS} (h : gOk S) : gOk (gRead c x S) := by
  obtain ⟨fa, fp, op, out, ol, me, pu, de, opn, st, nm, nu⟩ := S
  obtain ⟨h1, h2, h3, h4, h5, h6, h7, h8⟩ := h
  have hr := rdP_ok (c := c) h5 h6 h7
  exact ⟨fltK_le h1, h2, h3, h4, hr.2.1, hr.2.2.1, hr.2.2.2, h8⟩
theorem gOk_give {c : Nat} {S : RS} (h : gOk S) : gOk (gGive c S) := by
  obtain ⟨fa, fp, op, out, ol, me, pu, de, opn, st, nm, nu⟩ := S
  obtain ⟨h1, h2, h3, h4, h5, h6, h7, h8⟩ := h
  exact ⟨by unfold gvK; split <;> omega, gvN_le h2, h3, h4, h5, h6, h7, h8⟩
theorem gOk_op {x i : Nat} {S : RS} (h : gOk S) : gOk (gOp x i S) := by
  obtain ⟨fa, fp, op, out, ol, me, pu, de, opn, st, nm, nu⟩ := S
  exact h
theorem gRd_nm {c : Nat} {S : RS} (h : gOk S) : (gRd c S).2.2.1 < 26 := by
  obtain ⟨fa, fp, op, out, ol, me, pu, de, opn, st, nm, nu⟩ := S
  obtain ⟨h1, h2, h3, h4, h5, h6, h7, h8⟩ := h
  exact (rdP_ok (c := c) h5 h6 h7).2.2.1
theorem gOk_char {goI : Nat → RS → RS} (hI : ∀ k S, k < 26 → gOk S → gOk (goI k S)) {c x : Nat} {S : RS} (h : gOk S) : gOk (gChar goI c x S) := by
  unfold gChar
  split
  · exact gOk_give (gOk_read h)
  · split
    · exact gOk_give (gOk_read h)
    · split
      · exact hI _ _ (gRd_nm h) (gOk_read h)
      · exact gOk_read h
theorem gOk_loop {goI : Nat → RS → RS} (hI : ∀ k S, k < 26 → gOk S → gOk (goI k S)) {x : Nat} {f : Nat → Nat} : ∀ (k i : Nat) (S : RS), gOk S → gOk (gLoop goI x f k i S) := by
  intro k
  induction k with
  | zero => intro i S h; exact h
  | succ k ih =>
    intro i S h
    unfold gLoop
    split
    · exact ih _ _ (gOk_char hI (gOk_op h))
    · exact h
theorem gOk_end {x to : Nat} {S : RS} (h : gOk S) : gOk (gEnd x to S) := by
  obtain ⟨fa, fp, op, out, ol, me, pu, de, opn, st, nm, nu⟩ := S
  obtain ⟨h1, h2, h3, h4, h5, h6, h7, h8⟩ := h
  unfold gEnd
  dsimp only
  split
  · exact ⟨by split <;> omega, h2, h3, h4, h5, h6, h7, h8⟩
  · exact ⟨h1, h2, h3, h4, h5, h6, h7, h8⟩
theorem gOk_fail {w : Nat} (hw : w ≤ 15) {S : RS} (h : gOk S) : gOk (gFail w S) := by
  obtain ⟨fa, fp, op, out, ol, me, pu, de, opn, st, nm, nu⟩ := S
  obtain ⟨h1, h2, h3, h4, h5, h6, h7, h8⟩ := h
  exact ⟨hw, h2, h3, h4, h5, h6, h7, h8⟩
theorem updN_le {f : Nat → Nat} {k x b : Nat} (h : ∀ j, f j ≤ b) (hx : x ≤ b) : ∀ j, updN f k x j ≤ b := by
  intro j
  unfold updN
  split
  · exact hx
  · exact h j
theorem gOk_leave {k : Nat} {S : RS} (h : gOk S) : gOk (gLeave k S) := by
  obtain ⟨fa, fp, op, out, ol, me, pu, de, opn, st, nm, nu⟩ := S
  obtain ⟨h1, h2, h3, h4, h5, h6, h7, h8⟩ := h
  exact ⟨h1, h2, h3, h4, h5, h6, h7, updN_le h8 (by omega)⟩
theorem gOk_enter {ln : Nat → Nat} {ml k x : Nat} (hml : ml ≤ 100000) {S : RS} (h : gOk S) (hf : gFlt ln ml k x S = 0) : gOk (gEnter (ln k - 1) k x S) := by
  obtain ⟨fa, fp, op, out, ol, me, pu, de, opn, st, nm, nu⟩ := S
  obtain ⟨h1, h2, h3, h4, h5, h6, h7, h8⟩ := h
  obtain ⟨q1, q2, q3, q4⟩ := fltE_0 hf
  exact ⟨h1, h2, by omega, by omega, h5, h6, h7, updN_le h8 (by omega)⟩
theorem gFlt_le {ln : Nat → Nat} {ml k x : Nat} {S : RS} : gFlt ln ml k x S ≤ 15 := by
  obtain ⟨fa, fp, op, out, ol, me, pu, de, opn, st, nm, nu⟩ := S
  exact fltE_le _ _ _ _ _
theorem gOk_into {tx sf ln : Nat → Nat} {ml : Nat} (hml : ml ≤ 100000) : ∀ (d k : Nat) (S : RS), k < 26 → gOk S → gOk (gInto tx sf ln ml d k S) := by
  intro d
  induction d with
  | zero => intro k S hk h; exact gOk_fail gFlt_le h
  | succ d ih =>
    intro k S hk h
    unfold gInto
    split
    · rename_i hf
      exact gOk_leave (gOk_end (gOk_loop ih _ _ _ (gOk_enter hml h hf)))
    · exact gOk_fail gFlt_le h

/-! put, declare, expand: the desk's public words -/
def byt (v : Int64) (r : Nat) : Nat := v.toBitVec.toNat / 2 ^ (8 * r) % 256
theorem byt_lt (v : Int64) (r : Nat) : byt v r < 256 := Nat.mod_lt _ (by decide)
def putL (v : Int64) : Nat → Nat → (Nat → Nat) → (Nat → Nat)
  | 0, _, h => h
  | r + 1, i, h => putL v r (i + 1) (updN h i (byt v r))
theorem r_dec1 (x : Nat) : nI x + Int32.ofInt (-1) = nI x - 1 := by
  rw [show Int32.ofInt (-1) = -1 from by decide, Int32.sub_eq_add_neg]
def declR (kept : Nat) (T : DS) : Int32 := if T.1 ≠ 0 then -1 - nI T.1 else if 2000 < kept + T.2.2.2.2.1 then -101 else nI T.2.2.2.2.1
def declS (k kept : Nat) (sf ln : Nat → Nat) (dl : Int32) (T : DS) : (Nat → Nat) × (Nat → Nat) × Nat × Int32 := if T.1 = 0 ∧ kept + T.2.2.2.2.1 ≤ 2000 then (updN sf k kept, updN ln k (T.2.2.2.2.1 + 1), kept + T.2.2.2.2.1, dl + nI 1) else (sf, ln, kept, dl)
def expR (T : RS) : Int32 := if T.1 ≠ 0 then -1 - nI T.1 else nI T.2.2.2.2.1
def expN (T : RS) : Nat := if T.1 ≠ 0 then 0 else T.2.2.2.2.1
def expG (tx sf ln hand : Nat → Nat) (ml n : Nat) (out opn : Nat → Nat) (nm nu : Nat) : RS := gOver (gInto tx sf ln ml 12) 0 hand 0 n (0, -1, 0, out, 0, 0, nI 0, 0, opn, 0, nm, nu)

theorem dStep_ok {kept c i fa : Nat} {fp : Int32} {op : Nat} {tx : Nat → Nat} {dr st nm nu : Nat} (h1 : fa ≤ 15) (h2 : st ≤ 6) (h3 : nm < 26) (h4 : nu ≤ 256) : (dStep kept c i fa fp op tx dr st nm nu).1 ≤ 15 ∧ (dStep kept c i fa fp op tx dr st nm nu).2.2.2.2.1 ≤ dr + 3 ∧ (dStep kept c i fa fp op tx dr st nm nu).2.2.2.2.2.1 ≤ 6 ∧ (dStep kept c i fa fp op tx dr st nm nu).2.2.2.2.2.2.1 < 26 ∧ (dStep kept c i fa fp op tx dr st nm nu).2.2.2.2.2.2.2 ≤ 256 := by
  have hr := rdP_ok (c := c) h2 h3 h4
  exact ⟨fltK_le h1, dcN_le _ _, hr.2.1, hr.2.2.1, hr.2.2.2⟩
theorem dLoop_ok {kept : Nat} {hand : Nat → Nat} : ∀ (k i : Nat) (S : DS), S.1 ≤ 15 → S.2.2.2.2.2.1 ≤ 6 → S.2.2.2.2.2.2.1 < 26 → S.2.2.2.2.2.2.2 ≤ 256 → (dLoop kept hand k i S).1 ≤ 15 ∧ (dLoop kept hand k i S).2.2.2.2.1 ≤ S.2.2.2.2.1 + 3 * k ∧ (dLoop kept hand k i S).2.2.2.2.2.1 ≤ 6 ∧ (dLoop kept hand k i S).2.2.2.2.2.2.1 < 26 ∧ (dLoop kept hand k i S).2.2.2.2.2.2.2 ≤ 256 := by
  intro k
  induction k with
  | zero => intro i S h1 h2 h3 h4; exact ⟨h1, by show S.2.2.2.2.1 ≤ _; omega, h2, h3, h4⟩
  | succ k ih =>
    intro i S h1 h2 h3 h4
    unfold dLoop
    split
    · have hs := dStep_ok (kept := kept) (c := hand i) (i := i) (fp := S.2.1) (op := S.2.2.1) (tx := S.2.2.2.1) (dr := S.2.2.2.2.1) h1 h2 h3 h4
      have := ih (i + 1) _ hs.1 hs.2.2.1 hs.2.2.2.1 hs.2.2.2.2
      exact ⟨this.1, by omega, this.2.2.1, this.2.2.2.1, this.2.2.2.2⟩
    · exact ⟨h1, by omega, h2, h3, h4⟩
theorem dText_ok' {kept told : Nat} {hand : Nat → Nat} {S : DS} (h1 : S.1 ≤ 15) (h2 : S.2.2.2.2.2.1 ≤ 6) (h3 : S.2.2.2.2.2.2.1 < 26) (h4 : S.2.2.2.2.2.2.2 ≤ 256) : (dText kept told hand S).1 ≤ 15 ∧ (dText kept told hand S).2.2.2.2.1 ≤ S.2.2.2.2.1 + 3 * told ∧ (dText kept told hand S).2.2.2.2.2.1 ≤ 6 ∧ (dText kept told hand S).2.2.2.2.2.2.1 < 26 ∧ (dText kept told hand S).2.2.2.2.2.2.2 ≤ 256 := by
  have h := dLoop_ok (kept := kept) (hand := hand) told 0 S h1 h2 h3 h4
  unfold dText dEnd
  split
  · exact ⟨by dsimp only; omega, h.2⟩
  · exact h
theorem dText_ok {kept told : Nat} {hand : Nat → Nat} {S : DS} (h1 : S.1 ≤ 15) (h2 : S.2.2.2.2.2.1 ≤ 6) (h3 : S.2.2.2.2.2.2.1 < 26) (h4 : S.2.2.2.2.2.2.2 ≤ 256) : (dText kept told hand S).1 ≤ 15 ∧ (dText kept told hand S).2.2.2.2.1 ≤ S.2.2.2.2.1 + 3 * told := ⟨(dText_ok' h1 h2 h3 h4).1, (dText_ok' h1 h2 h3 h4).2.1⟩
/-! the byte of a long, as the desk reads it -/
theorem byt_u (v : Int64) {r : Nat} (hr : r < 8) : ((v.toUInt64 >>> ((nI (8 * r)).toInt64.toUInt64 &&& Int64.toUInt64 63)).toInt64).toInt32 &&& nI 255 = nI (byt v r) := by
  sorry
theorem byt_s (v : Int64) {r : Nat} (hr : r < 8) : ((v >>> ((nI (8 * r)).toInt64 &&& 63)) &&& lN 255).toInt32 = nI (byt v r) := by
  sorry
end
section
set_option maxHeartbeats 4000000 in
set_option maxRecDepth 100000 in
theorem c_Desk_isName (l : Launch) (D : va_G) (cI cZ : ClassId) (k : Nat) (hk : k < 26) : Mi l y_Desk_isName b_Desk_isName 1 (some .boolean) ({ frames := 0, cells := 0, slots := 0, locals := 0 } : Room) D cI cZ [.int (nI k)] [] (fun (r : Int32) (u : Unit) => r = nI 1 ∧ u = ()) (fun u : Unit => []) := by
  refine Mi.intro (by decide) (Nat.le_of_ble_eq_true rfl) ?_
  intro p e s m args below meth cd A ls R Q hR hQ C Z hl
  have hl : lv_has ls 1 [(0, .int (nI k))] := hl
  refine lv_iload_n C.1 C.2.1 d_Desk_isName_0 rfl (lv_at hl 0 rfl) ?_
  refine r_zlt (tgt := 14) C d_Desk_isName_1 (by decide) (by omega) ?_
  refine lv_iload_n C.1 C.2.1 d_Desk_isName_4 rfl (lv_at hl 0 rfl) ?_
  refine lv_bipush (v := nI 26) C.1 C.2.1 d_Desk_isName_5 (by decide) ?_
  refine r_ge (tgt := 14) C d_Desk_isName_7 (by decide) (by omega) (by omega) (fun h7 => (by omega : False).elim) (fun h7 => ?_)
  refine lv_iconst (v := nI 1) C.1 C.2.1 d_Desk_isName_10 (by decide) ?_
  refine lv_goto (tgt := 15) C.1 C.2.1 d_Desk_isName_11 (by decide) ?_
  exact r_zret C Z (by omega) () (by first | exact ⟨rfl, rfl⟩ | (clear C Z hl; simp [h7]; done) | (clear C Z hl; grind)) rfl hQ d_Desk_isName_15

set_option maxHeartbeats 4000000 in
set_option maxRecDepth 100000 in
theorem c_Desk_isNameBad (l : Launch) (D : va_G) (cI cZ : ClassId) (x : Int32) (hx : x < 0 ∨ nI 26 ≤ x) : Mi l y_Desk_isName b_Desk_isName 1 (some .boolean) ({ frames := 0, cells := 0, slots := 0, locals := 0 } : Room) D cI cZ [.int x] [] (fun (r : Int32) (u : Unit) => r = nI 0 ∧ u = ()) (fun u : Unit => []) := by
  refine Mi.intro (by decide) (Nat.le_of_ble_eq_true rfl) ?_
  intro p e s m args below meth cd A ls R Q hR hQ C Z hl
  have hl : lv_has ls 1 [(0, .int x)] := hl
  refine lv_iload_n C.1 C.2.1 d_Desk_isName_0 rfl (lv_at hl 0 rfl) ?_
  refine lv_if_lt (tgt := 14) C.1 C.2.1 d_Desk_isName_1 (by decide) (fun h1 => ?_) (fun h1 => ?_)
  · skip
    refine lv_iconst (v := nI 0) C.1 C.2.1 d_Desk_isName_14 (by decide) ?_
    exact r_zret C Z (by omega) () (by first | exact ⟨rfl, rfl⟩ | (rcases hx with hx | hx <;> contradiction)) rfl hQ d_Desk_isName_15
  · skip
    refine lv_iload_n C.1 C.2.1 d_Desk_isName_4 rfl (lv_at hl 0 rfl) ?_
    refine lv_bipush (v := nI 26) C.1 C.2.1 d_Desk_isName_5 (by decide) ?_
    refine lv_icmp_ge (tgt := 14) C.1 C.2.1 d_Desk_isName_7 (by decide) (fun h7 => ?_) (fun h7 => ?_)
    · skip
      refine lv_iconst (v := nI 0) C.1 C.2.1 d_Desk_isName_14 (by decide) ?_
      exact r_zret C Z (by omega) () (by first | exact ⟨rfl, rfl⟩ | (rcases hx with hx | hx <;> contradiction)) rfl hQ d_Desk_isName_15
    · skip
      refine lv_iconst (v := nI 1) C.1 C.2.1 d_Desk_isName_10 (by decide) ?_
      refine lv_goto (tgt := 15) C.1 C.2.1 d_Desk_isName_11 (by decide) ?_
      exact r_zret C Z (by omega) () (by first | exact ⟨rfl, rfl⟩ | (rcases hx with hx | hx <;> contradiction)) rfl hQ d_Desk_isName_15

set_option maxHeartbeats 4000000 in
set_option maxRecDepth 100000 in
theorem c_Desk_beginReading (l : Launch) (D : va_G) (cI cZ : ClassId) (dA hA eA rA oA pA : Nat) (n : Nat) (fa : Nat) (fp : Int32) (op : Nat) (ol : Nat) (ml : Nat) (me : Nat) (pu : Int32) (de : Nat) (st : Nat) (nm : Nat) (nu : Nat) : Mv l y_Desk_beginReading b_Desk_beginReading 1 ({ frames := 1, cells := 0, slots := 0, locals := 20 } : Room) D cI cZ [.ref dA] [(dA, .inr (0, [.ref hA, .int (nI n), .ref eA, .ref rA, .int (nI fa), .int fp, .int (nI op), .ref oA, .int (nI ol), .ref pA, .int (nI ml), .int (nI me), .int pu, .int (nI de)])), (rA, .inr (2, [.int (nI st), .int (nI nm), .int (nI nu)]))] (fun u : Nat × Int32 × Nat × Nat => u = (0, (-1), 0, 0)) (fun u : Nat × Int32 × Nat × Nat => [(dA, .inr (0, [.ref hA, .int (nI n), .ref eA, .ref rA, .int (nI u.1), .int u.2.1, .int (nI u.2.2.1), .ref oA, .int (nI ol), .ref pA, .int (nI ml), .int (nI me), .int pu, .int (nI de)])), (rA, .inr (2, [.int (nI u.2.2.2), .int (nI nm), .int (nI nu)]))]) 0 0 := by
  refine Mv.intro (by decide) (Nat.le_of_ble_eq_true rfl) ?_
  intro p e s m args below meth cd A ls R Q hR hQ C hin Z hl
  have hl : lv_has ls 1 [(0, .ref dA)] := hl
  refine lv_aload_n C.1 C.2.1 d_Desk_beginReading_0 rfl (lv_at hl 0 rfl) ?_
  refine lv_iconst (v := nI 0) C.1 C.2.1 d_Desk_beginReading_1 (by decide) ?_
  refine r_put (ws' := [(dA, .inr (0, [.ref hA, .int (nI n), .ref eA, .ref rA, .int (nI 0), .int fp, .int (nI op), .ref oA, .int (nI ol), .ref pA, .int (nI ml), .int (nI me), .int pu, .int (nI de)])), (rA, .inr (2, [.int (nI st), .int (nI nm), .int (nI nu)]))]) C Z 0 f_Desk_31 rfl rfl rfl (Nat.le_of_ble_eq_true rfl) rfl d_Desk_beginReading_2 (fun H locs Z => ?_)
  refine lv_aload_n C.1 C.2.1 d_Desk_beginReading_5 rfl (lv_at hl 0 rfl) ?_
  refine lv_iconst (v := (-1)) C.1 C.2.1 d_Desk_beginReading_6 (by decide) ?_
  refine r_put (ws' := [(dA, .inr (0, [.ref hA, .int (nI n), .ref eA, .ref rA, .int (nI 0), .int (-1), .int (nI op), .ref oA, .int (nI ol), .ref pA, .int (nI ml), .int (nI me), .int pu, .int (nI de)])), (rA, .inr (2, [.int (nI st), .int (nI nm), .int (nI nu)]))]) C Z 0 f_Desk_34 rfl rfl rfl (Nat.le_of_ble_eq_true rfl) rfl d_Desk_beginReading_7 (fun H locs Z => ?_)
  refine lv_aload_n C.1 C.2.1 d_Desk_beginReading_10 rfl (lv_at hl 0 rfl) ?_
  refine lv_iconst (v := nI 0) C.1 C.2.1 d_Desk_beginReading_11 (by decide) ?_
  refine r_put (ws' := [(dA, .inr (0, [.ref hA, .int (nI n), .ref eA, .ref rA, .int (nI 0), .int (-1), .int (nI 0), .ref oA, .int (nI ol), .ref pA, .int (nI ml), .int (nI me), .int pu, .int (nI de)])), (rA, .inr (2, [.int (nI st), .int (nI nm), .int (nI nu)]))]) C Z 0 f_Desk_37 rfl rfl rfl (Nat.le_of_ble_eq_true rfl) rfl d_Desk_beginReading_12 (fun H locs Z => ?_)
  refine lv_aload_n C.1 C.2.1 d_Desk_beginReading_15 rfl (lv_at hl 0 rfl) ?_
  refine r_get C Z 0 f_Desk_27 rfl rfl d_Desk_beginReading_16 ?_
  refine r_callNv (rest := []) (wr := [(dA, .inr (0, [.ref hA, .int (nI n), .ref eA, .ref rA, .int (nI 0), .int (-1), .int (nI 0), .ref oA, .int (nI ol), .ref pA, .int (nI ml), .int (nI me), .int pu, .int (nI de)]))]) (wn := fun u => [(dA, .inr (0, [.ref hA, .int (nI n), .ref eA, .ref rA, .int (nI 0), .int (-1), .int (nI 0), .ref oA, .int (nI ol), .ref pA, .int (nI ml), .int (nI me), .int pu, .int (nI de)])), (rA, .inr (2, [.int (nI u), .int (nI nm), .int (nI nu)]))]) C Z (c_Reader_begin l D cI cZ rA st nm nu) k_Desk_102 rfl ⟨by rw [hR]; decide, by rw [hR]; decide⟩ ⟨rfl, rfl⟩ [1] [0] [0, 1] (by decide) rfl rfl (by decide) (by decide) (by decide) (fun _ => rfl) 1 rfl rfl hl.1 rfl (Nat.le_of_ble_eq_true rfl) d_Desk_beginReading_19 ⟨Nat.zero_le _, Nat.zero_le _⟩ (fun u H locs hp Z => ?_)
  have hp := hp.symm; subst hp
  have Z : Wd D A s.heap [(dA, .inr (0, [.ref hA, .int (nI n), .ref eA, .ref rA, .int (nI 0), .int (-1), .int (nI 0), .ref oA, .int (nI ol), .ref pA, .int (nI ml), .int (nI me), .int pu, .int (nI de)])), (rA, .inr (2, [.int (nI 0), .int (nI nm), .int (nI nu)]))] H locs := Z
  exact r_vret C Z (0, (-1), 0, 0) (by first | exact rfl | (clear C Z hl; grind)) rfl hQ d_Desk_beginReading_22

set_option maxHeartbeats 4000000 in
set_option maxRecDepth 100000 in
theorem c_Desk_fail (l : Launch) (D : va_G) (cI cZ : ClassId) (dA hA eA rA oA pA : Nat) (n : Nat) (fa : Nat) (fp : Int32) (op : Nat) (ol : Nat) (ml : Nat) (me : Nat) (pu : Int32) (de : Nat) (w : Nat) (x : Int32) : Mv l y_Desk_fail b_Desk_fail 3 ({ frames := 0, cells := 0, slots := 0, locals := 0 } : Room) D cI cZ [.ref dA, .int (nI w), .int x] [(dA, .inr (0, [.ref hA, .int (nI n), .ref eA, .ref rA, .int (nI fa), .int fp, .int (nI op), .ref oA, .int (nI ol), .ref pA, .int (nI ml), .int (nI me), .int pu, .int (nI de)]))] (fun u : Nat × Int32 => u = (w, x)) (fun u : Nat × Int32 => [(dA, .inr (0, [.ref hA, .int (nI n), .ref eA, .ref rA, .int (nI u.1), .int u.2, .int (nI op), .ref oA, .int (nI ol), .ref pA, .int (nI ml), .int (nI me), .int pu, .int (nI de)]))]) 0 0 := by
  refine Mv.intro (by decide) (Nat.le_of_ble_eq_true rfl) ?_
  intro p e s m args below meth cd A ls R Q hR hQ C hin Z hl
  have hl : lv_has ls 3 [(0, .ref dA), (1, .int (nI w)), (2, .int x)] := hl
  refine lv_aload_n C.1 C.2.1 d_Desk_fail_0 rfl (lv_at hl 0 rfl) ?_
  refine lv_iload_n C.1 C.2.1 d_Desk_fail_1 rfl (lv_at hl 1 rfl) ?_
  refine r_put (ws' := [(dA, .inr (0, [.ref hA, .int (nI n), .ref eA, .ref rA, .int (nI w), .int fp, .int (nI op), .ref oA, .int (nI ol), .ref pA, .int (nI ml), .int (nI me), .int pu, .int (nI de)]))]) C Z 0 f_Desk_31 rfl rfl rfl (Nat.le_of_ble_eq_true rfl) rfl d_Desk_fail_2 (fun H locs Z => ?_)
  refine lv_aload_n C.1 C.2.1 d_Desk_fail_5 rfl (lv_at hl 0 rfl) ?_
  refine lv_iload_n C.1 C.2.1 d_Desk_fail_6 rfl (lv_at hl 2 rfl) ?_
  refine r_put (ws' := [(dA, .inr (0, [.ref hA, .int (nI n), .ref eA, .ref rA, .int (nI w), .int x, .int (nI op), .ref oA, .int (nI ol), .ref pA, .int (nI ml), .int (nI me), .int pu, .int (nI de)]))]) C Z 0 f_Desk_34 rfl rfl rfl (Nat.le_of_ble_eq_true rfl) rfl d_Desk_fail_7 (fun H locs Z => ?_)
  exact r_vret C Z (w, x) (by first | exact rfl | (clear C Z hl; grind)) rfl hQ d_Desk_fail_10

set_option maxHeartbeats 4000000 in
set_option maxRecDepth 100000 in
theorem c_Desk_readOn (l : Launch) (D : va_G) (cI cZ : ClassId) (dA hA eA rA oA pA : Nat) (n : Nat) (fa : Nat) (fp : Int32) (op : Nat) (ol : Nat) (ml : Nat) (me : Nat) (pu : Int32) (de : Nat) (st : Nat) (nm : Nat) (nu : Nat) (c : Nat) (x : Nat) (hst : st ≤ 6) (hnm : nm < 26) (hnu : nu ≤ 256) (hc : c < 256) : Mi l y_Desk_readOn b_Desk_readOn 4 (some .int) ({ frames := 3, cells := 0, slots := 0, locals := 66 } : Room) D cI cZ [.ref dA, .int (nI c), .int (nI x)] [(dA, .inr (0, [.ref hA, .int (nI n), .ref eA, .ref rA, .int (nI fa), .int fp, .int (nI op), .ref oA, .int (nI ol), .ref pA, .int (nI ml), .int (nI me), .int pu, .int (nI de)])), (rA, .inr (2, [.int (nI st), .int (nI nm), .int (nI nu)]))] (fun (r : Int32) (u : Nat × Int32 × Nat × Nat × Nat) => r = nI ((rdP st nm nu c).1) ∧ u = (fltK (rdP st nm nu c).1 fa, fltP (rdP st nm nu c).1 x op fp, (rdP st nm nu c).2.1, (rdP st nm nu c).2.2.1, (rdP st nm nu c).2.2.2)) (fun u : Nat × Int32 × Nat × Nat × Nat => [(dA, .inr (0, [.ref hA, .int (nI n), .ref eA, .ref rA, .int (nI u.1), .int u.2.1, .int (nI op), .ref oA, .int (nI ol), .ref pA, .int (nI ml), .int (nI me), .int pu, .int (nI de)])), (rA, .inr (2, [.int (nI u.2.2.1), .int (nI u.2.2.2.1), .int (nI u.2.2.2.2)]))]) := by
  refine Mi.intro (by decide) (Nat.le_of_ble_eq_true rfl) ?_
  intro p e s m args below meth cd A ls R Q hR hQ C Z hl
  have hl : lv_has ls 4 [(0, .ref dA), (1, .int (nI c)), (2, .int (nI x))] := hl
  refine lv_aload_n C.1 C.2.1 d_Desk_readOn_0 rfl (lv_at hl 0 rfl) ?_
  refine r_get C Z 0 f_Desk_27 rfl rfl d_Desk_readOn_1 ?_
  refine lv_iload_n C.1 C.2.1 d_Desk_readOn_4 rfl (lv_at hl 1 rfl) ?_
  refine r_callNi (rest := []) (wr := [(dA, .inr (0, [.ref hA, .int (nI n), .ref eA, .ref rA, .int (nI fa), .int fp, .int (nI op), .ref oA, .int (nI ol), .ref pA, .int (nI ml), .int (nI me), .int pu, .int (nI de)]))]) (wn := fun u => [(dA, .inr (0, [.ref hA, .int (nI n), .ref eA, .ref rA, .int (nI fa), .int fp, .int (nI op), .ref oA, .int (nI ol), .ref pA, .int (nI ml), .int (nI me), .int pu, .int (nI de)])), (rA, .inr (2, [.int (nI u.1), .int (nI u.2.1), .int (nI u.2.2)]))]) C Z (c_Reader_read l D cI cZ rA st nm nu c (by first | assumption | omega) (by first | assumption | omega) (by first | assumption | omega)) k_Desk_105 rfl ⟨by rw [hR]; decide, by rw [hR]; decide⟩ ⟨rfl, rfl⟩ [1] [0] [0, 1] (by decide) rfl rfl (by decide) (by decide) (by decide) (fun _ => rfl) 1 rfl rfl hl.1 rfl (Nat.le_of_ble_eq_true rfl) d_Desk_readOn_5 ⟨Nat.zero_le _, Nat.zero_le _⟩ (fun r u H locs hp Z => ?_)
  obtain ⟨hp1, hp2⟩ := hp; have hp1 := hp1.symm; have hp2 := hp2.symm; subst hp1; subst hp2
  have Z : Wd D A s.heap [(dA, .inr (0, [.ref hA, .int (nI n), .ref eA, .ref rA, .int (nI fa), .int fp, .int (nI op), .ref oA, .int (nI ol), .ref pA, .int (nI ml), .int (nI me), .int pu, .int (nI de)])), (rA, .inr (2, [.int (nI ((rdP st nm nu c).2.1)), .int (nI ((rdP st nm nu c).2.2.1)), .int (nI ((rdP st nm nu c).2.2.2))]))] H locs := Z
  have hw := (rdP_ok (c := c) hst hnm hnu).1
  refine lv_istore_n (lv' := [(3, .int (nI ((rdP st nm nu c).1))), (0, .ref dA), (1, .int (nI c)), (2, .int (nI x))]) C.1 C.2.1 d_Desk_readOn_8 rfl hl (by decide) rfl (fun ls hl => ?_)
  refine lv_iload_n C.1 C.2.1 d_Desk_readOn_9 rfl (lv_at hl 0 rfl) ?_
  refine lv_iconst (v := nI 5) C.1 C.2.1 d_Desk_readOn_10 (by decide) ?_
  refine r_ne (tgt := 23) C d_Desk_readOn_11 (by decide) (by omega) (by omega) (fun h11 => ?_) (fun h11 => ?_)
  · skip
    refine lv_iload_n C.1 C.2.1 d_Desk_readOn_23 rfl (lv_at hl 0 rfl) ?_
    refine lv_iconst (v := nI 4) C.1 C.2.1 d_Desk_readOn_24 (by decide) ?_
    refine r_ne (tgt := 38) C d_Desk_readOn_25 (by decide) (by omega) (by omega) (fun h25 => ?_) (fun h25 => ?_)
    · skip
      refine lv_iload_n C.1 C.2.1 d_Desk_readOn_38 rfl (lv_at hl 0 rfl) ?_
      exact r_iret C Z (fa, fp, (rdP st nm nu c).2.1, (rdP st nm nu c).2.2.1, (rdP st nm nu c).2.2.2) (by clear C Z hl; simp [fltK, fltP, h11, h25]) rfl hQ d_Desk_readOn_39
    · skip
      refine lv_aload_n C.1 C.2.1 d_Desk_readOn_28 rfl (lv_at hl 1 rfl) ?_
      refine lv_bipush (v := nI 8) C.1 C.2.1 d_Desk_readOn_29 (by decide) ?_
      refine lv_aload_n C.1 C.2.1 d_Desk_readOn_31 rfl (lv_at hl 1 rfl) ?_
      refine r_get C Z 0 f_Desk_37 rfl rfl d_Desk_readOn_32 ?_
      refine r_callVv (rest := []) (wr := [(rA, .inr (2, [.int (nI ((rdP st nm nu c).2.1)), .int (nI ((rdP st nm nu c).2.2.1)), .int (nI ((rdP st nm nu c).2.2.2))]))]) (wn := fun u => [(dA, .inr (0, [.ref hA, .int (nI n), .ref eA, .ref rA, .int (nI u.1), .int u.2, .int (nI op), .ref oA, .int (nI ol), .ref pA, .int (nI ml), .int (nI me), .int pu, .int (nI de)])), (rA, .inr (2, [.int (nI ((rdP st nm nu c).2.1)), .int (nI ((rdP st nm nu c).2.2.1)), .int (nI ((rdP st nm nu c).2.2.2))]))]) C Z (c_Desk_fail l D cI cZ dA hA eA rA oA pA n fa fp op ol ml me pu de 8 (nI op)) k_Desk_108 rfl ⟨by rw [hR]; decide, by rw [hR]; decide⟩ ⟨rfl, rfl⟩ [0] [1] [1, 0] (by decide) rfl rfl (by decide) (by decide) (by decide) (fun _ => rfl) 0 rfl rfl hl.1 rfl (Nat.le_of_ble_eq_true rfl) d_Desk_readOn_35 ⟨Nat.zero_le _, Nat.zero_le _⟩ (fun u H locs hp Z => ?_)
      have hp := hp.symm; subst hp
      have Z : Wd D A s.heap [(dA, .inr (0, [.ref hA, .int (nI n), .ref eA, .ref rA, .int (nI 8), .int (nI op), .int (nI op), .ref oA, .int (nI ol), .ref pA, .int (nI ml), .int (nI me), .int pu, .int (nI de)])), (rA, .inr (2, [.int (nI ((rdP st nm nu c).2.1)), .int (nI ((rdP st nm nu c).2.2.1)), .int (nI ((rdP st nm nu c).2.2.2))]))] H locs := Z
      refine lv_iload_n C.1 C.2.1 d_Desk_readOn_38 rfl (lv_at hl 0 rfl) ?_
      exact r_iret C Z (8, nI op, (rdP st nm nu c).2.1, (rdP st nm nu c).2.2.1, (rdP st nm nu c).2.2.2) (by clear C Z hl; simp [fltK, fltP, h11, h25]) rfl hQ d_Desk_readOn_39
  · skip
    refine lv_aload_n C.1 C.2.1 d_Desk_readOn_14 rfl (lv_at hl 1 rfl) ?_
    refine lv_iconst (v := nI 2) C.1 C.2.1 d_Desk_readOn_15 (by decide) ?_
    refine lv_iload_n C.1 C.2.1 d_Desk_readOn_16 rfl (lv_at hl 3 rfl) ?_
    refine r_callVv (rest := []) (wr := [(rA, .inr (2, [.int (nI ((rdP st nm nu c).2.1)), .int (nI ((rdP st nm nu c).2.2.1)), .int (nI ((rdP st nm nu c).2.2.2))]))]) (wn := fun u => [(dA, .inr (0, [.ref hA, .int (nI n), .ref eA, .ref rA, .int (nI u.1), .int u.2, .int (nI op), .ref oA, .int (nI ol), .ref pA, .int (nI ml), .int (nI me), .int pu, .int (nI de)])), (rA, .inr (2, [.int (nI ((rdP st nm nu c).2.1)), .int (nI ((rdP st nm nu c).2.2.1)), .int (nI ((rdP st nm nu c).2.2.2))]))]) C Z (c_Desk_fail l D cI cZ dA hA eA rA oA pA n fa fp op ol ml me pu de 2 (nI x)) k_Desk_108 rfl ⟨by rw [hR]; decide, by rw [hR]; decide⟩ ⟨rfl, rfl⟩ [0] [1] [1, 0] (by decide) rfl rfl (by decide) (by decide) (by decide) (fun _ => rfl) 0 rfl rfl hl.1 rfl (Nat.le_of_ble_eq_true rfl) d_Desk_readOn_17 ⟨Nat.zero_le _, Nat.zero_le _⟩ (fun u H locs hp Z => ?_)
    have hp := hp.symm; subst hp
    have Z : Wd D A s.heap [(dA, .inr (0, [.ref hA, .int (nI n), .ref eA, .ref rA, .int (nI 2), .int (nI x), .int (nI op), .ref oA, .int (nI ol), .ref pA, .int (nI ml), .int (nI me), .int pu, .int (nI de)])), (rA, .inr (2, [.int (nI ((rdP st nm nu c).2.1)), .int (nI ((rdP st nm nu c).2.2.1)), .int (nI ((rdP st nm nu c).2.2.2))]))] H locs := Z
    refine lv_goto (tgt := 38) C.1 C.2.1 d_Desk_readOn_20 (by decide) ?_
    refine lv_iload_n C.1 C.2.1 d_Desk_readOn_38 rfl (lv_at hl 0 rfl) ?_
    exact r_iret C Z (2, nI x, (rdP st nm nu c).2.1, (rdP st nm nu c).2.2.1, (rdP st nm nu c).2.2.2) (by clear C Z hl; simp [fltK, fltP, h11]) rfl hQ d_Desk_readOn_39

set_option maxHeartbeats 4000000 in
set_option maxRecDepth 100000 in
theorem c_Desk_draftCharacter (l : Launch) (D : va_G) (cI cZ : ClassId) (dA hA eA rA oA pA wA sA lA : Nat) (n : Nat) (fa : Nat) (fp : Int32) (op : Nat) (ol : Nat) (ml : Nat) (me : Nat) (pu : Int32) (de : Nat) (st : Nat) (nm : Nat) (nu : Nat) (dl : Int32) (kept : Nat) (dr : Nat) (tx : Nat → Nat) (c : Nat) (x : Nat) (hst : st ≤ 6) (hnm : nm < 26) (hnu : nu ≤ 256) (hc : c < 256) (hkept : kept ≤ 2000) (hdr : dr ≤ 90000) : Mv l y_Desk_draftCharacter b_Desk_draftCharacter 4 ({ frames := 4, cells := 0, slots := 0, locals := 89 } : Room) D cI cZ [.ref dA, .int (nI c), .int (nI x)] [(dA, .inr (0, [.ref hA, .int (nI n), .ref eA, .ref rA, .int (nI fa), .int fp, .int (nI op), .ref oA, .int (nI ol), .ref pA, .int (nI ml), .int (nI me), .int pu, .int (nI de)])), (eA, .inr (1, [.ref wA, .ref sA, .ref lA, .int dl, .int (nI kept), .int (nI dr)])), (wA, .inl (cI, 2000, .inl (aN tx))), (rA, .inr (2, [.int (nI st), .int (nI nm), .int (nI nu)]))] (fun u : Nat × Int32 × (Nat → Nat) × Nat × Nat × Nat × Nat => u = (fltK (rdP st nm nu c).1 fa, fltP (rdP st nm nu c).1 x op fp, dcX (rdP st nm nu c).1 c (rdP st nm nu c).2.2.1 (rdP st nm nu c).2.2.2 kept dr tx, dcN (rdP st nm nu c).1 dr, (rdP st nm nu c).2.1, (rdP st nm nu c).2.2.1, (rdP st nm nu c).2.2.2)) (fun u : Nat × Int32 × (Nat → Nat) × Nat × Nat × Nat × Nat => [(dA, .inr (0, [.ref hA, .int (nI n), .ref eA, .ref rA, .int (nI u.1), .int u.2.1, .int (nI op), .ref oA, .int (nI ol), .ref pA, .int (nI ml), .int (nI me), .int pu, .int (nI de)])), (eA, .inr (1, [.ref wA, .ref sA, .ref lA, .int dl, .int (nI kept), .int (nI u.2.2.2.1)])), (wA, .inl (cI, 2000, .inl (aN u.2.2.1))), (rA, .inr (2, [.int (nI u.2.2.2.2.1), .int (nI u.2.2.2.2.2.1), .int (nI u.2.2.2.2.2.2)]))]) 0 0 := by
  refine Mv.intro (by decide) (Nat.le_of_ble_eq_true rfl) ?_
  intro p e s m args below meth cd A ls R Q hR hQ C hin Z hl
  have hl : lv_has ls 4 [(0, .ref dA), (1, .int (nI c)), (2, .int (nI x))] := hl
  refine lv_aload_n C.1 C.2.1 d_Desk_draftCharacter_0 rfl (lv_at hl 0 rfl) ?_
  refine lv_iload_n C.1 C.2.1 d_Desk_draftCharacter_1 rfl (lv_at hl 1 rfl) ?_
  refine lv_iload_n C.1 C.2.1 d_Desk_draftCharacter_2 rfl (lv_at hl 2 rfl) ?_
  refine r_callVi (rest := []) (wr := [(eA, .inr (1, [.ref wA, .ref sA, .ref lA, .int dl, .int (nI kept), .int (nI dr)])), (wA, .inl (cI, 2000, .inl (aN tx)))]) (wn := fun u => [(dA, .inr (0, [.ref hA, .int (nI n), .ref eA, .ref rA, .int (nI u.1), .int u.2.1, .int (nI op), .ref oA, .int (nI ol), .ref pA, .int (nI ml), .int (nI me), .int pu, .int (nI de)])), (eA, .inr (1, [.ref wA, .ref sA, .ref lA, .int dl, .int (nI kept), .int (nI dr)])), (wA, .inl (cI, 2000, .inl (aN tx))), (rA, .inr (2, [.int (nI u.2.2.1), .int (nI u.2.2.2.1), .int (nI u.2.2.2.2)]))]) C Z (c_Desk_readOn l D cI cZ dA hA eA rA oA pA n fa fp op ol ml me pu de st nm nu c x (by first | assumption | omega) (by first | assumption | omega) (by first | assumption | omega) (by first | assumption | omega)) k_Desk_121 rfl ⟨by rw [hR]; decide, by rw [hR]; decide⟩ ⟨rfl, rfl⟩ [0, 3] [1, 2] [2, 0, 1, 3] (by decide) rfl rfl (by decide) (by decide) (by decide) (fun _ => rfl) 0 rfl rfl hl.1 rfl (Nat.le_of_ble_eq_true rfl) d_Desk_draftCharacter_3 ⟨Nat.zero_le _, Nat.zero_le _⟩ (fun r u H locs hp Z => ?_)
  obtain ⟨hp1, hp2⟩ := hp; have hp1 := hp1.symm; have hp2 := hp2.symm; subst hp1; subst hp2
  have Z : Wd D A s.heap [(dA, .inr (0, [.ref hA, .int (nI n), .ref eA, .ref rA, .int (nI (fltK (rdP st nm nu c).1 fa)), .int (fltP (rdP st nm nu c).1 x op fp), .int (nI op), .ref oA, .int (nI ol), .ref pA, .int (nI ml), .int (nI me), .int pu, .int (nI de)])), (eA, .inr (1, [.ref wA, .ref sA, .ref lA, .int dl, .int (nI kept), .int (nI dr)])), (wA, .inl (cI, 2000, .inl (aN tx))), (rA, .inr (2, [.int (nI ((rdP st nm nu c).2.1)), .int (nI ((rdP st nm nu c).2.2.1)), .int (nI ((rdP st nm nu c).2.2.2))]))] H locs := Z
  have hw := (rdP_ok (c := c) hst hnm hnu).1
  refine lv_istore_n (lv' := [(3, .int (nI ((rdP st nm nu c).1))), (0, .ref dA), (1, .int (nI c)), (2, .int (nI x))]) C.1 C.2.1 d_Desk_draftCharacter_6 rfl hl (by decide) rfl (fun ls hl => ?_)
  refine lv_iload_n C.1 C.2.1 d_Desk_draftCharacter_7 rfl (lv_at hl 0 rfl) ?_
  refine r_zne (tgt := 22) C d_Desk_draftCharacter_8 (by decide) (by omega) (fun h8 => ?_) (fun h8 => ?_)
  · skip
    refine lv_iload_n C.1 C.2.1 d_Desk_draftCharacter_22 rfl (lv_at hl 0 rfl) ?_
    refine lv_iconst (v := nI 2) C.1 C.2.1 d_Desk_draftCharacter_23 (by decide) ?_
    refine r_ne (tgt := 44) C d_Desk_draftCharacter_24 (by decide) (by omega) (by omega) (fun h24 => ?_) (fun h24 => ?_)
    · skip
      refine lv_iload_n C.1 C.2.1 d_Desk_draftCharacter_44 rfl (lv_at hl 0 rfl) ?_
      refine lv_iconst (v := nI 3) C.1 C.2.1 d_Desk_draftCharacter_45 (by decide) ?_
      refine r_ne (tgt := 84) C d_Desk_draftCharacter_46 (by decide) (by omega) (by omega) (fun h46 => ?_) (fun h46 => ?_)
      · skip
        exact r_vret C Z (fltK (rdP st nm nu c).1 fa, fltP (rdP st nm nu c).1 x op fp, tx, dr, (rdP st nm nu c).2.1, (rdP st nm nu c).2.2.1, (rdP st nm nu c).2.2.2) (by clear C Z hl; simp [dcX, dcN, h8, h24, h46]) rfl hQ d_Desk_draftCharacter_84
      · skip
        refine lv_aload_n C.1 C.2.1 d_Desk_draftCharacter_49 rfl (lv_at hl 1 rfl) ?_
        refine r_get C Z 0 f_Desk_20 rfl rfl d_Desk_draftCharacter_50 ?_
        refine lv_bipush (v := nI 38) C.1 C.2.1 d_Desk_draftCharacter_53 (by decide) ?_
        refine r_callNv (rest := []) (wr := [(dA, .inr (0, [.ref hA, .int (nI n), .ref eA, .ref rA, .int (nI (fltK (rdP st nm nu c).1 fa)), .int (fltP (rdP st nm nu c).1 x op fp), .int (nI op), .ref oA, .int (nI ol), .ref pA, .int (nI ml), .int (nI me), .int pu, .int (nI de)])), (rA, .inr (2, [.int (nI ((rdP st nm nu c).2.1)), .int (nI ((rdP st nm nu c).2.2.1)), .int (nI ((rdP st nm nu c).2.2.2))]))]) (wn := fun u => [(dA, .inr (0, [.ref hA, .int (nI n), .ref eA, .ref rA, .int (nI (fltK (rdP st nm nu c).1 fa)), .int (fltP (rdP st nm nu c).1 x op fp), .int (nI op), .ref oA, .int (nI ol), .ref pA, .int (nI ml), .int (nI me), .int pu, .int (nI de)])), (eA, .inr (1, [.ref wA, .ref sA, .ref lA, .int dl, .int (nI kept), .int (nI u.2)])), (wA, .inl (cI, 2000, .inl (aN u.1))), (rA, .inr (2, [.int (nI ((rdP st nm nu c).2.1)), .int (nI ((rdP st nm nu c).2.2.1)), .int (nI ((rdP st nm nu c).2.2.2))]))]) C Z (c_Ents_draft l D cI cZ eA wA sA lA dl kept dr tx 38 (by first | assumption | omega) (by first | assumption | omega)) k_Desk_124 rfl ⟨by rw [hR]; decide, by rw [hR]; decide⟩ ⟨rfl, rfl⟩ [1, 2] [0, 3] [0, 2, 3, 1] (by decide) rfl rfl (by decide) (by decide) (by decide) (fun _ => rfl) 1 rfl rfl hl.1 rfl (Nat.le_of_ble_eq_true rfl) d_Desk_draftCharacter_55 ⟨Nat.zero_le _, Nat.zero_le _⟩ (fun u H locs hp Z => ?_)
        have hp := hp.symm; subst hp
        have Z : Wd D A s.heap [(dA, .inr (0, [.ref hA, .int (nI n), .ref eA, .ref rA, .int (nI (fltK (rdP st nm nu c).1 fa)), .int (fltP (rdP st nm nu c).1 x op fp), .int (nI op), .ref oA, .int (nI ol), .ref pA, .int (nI ml), .int (nI me), .int pu, .int (nI de)])), (eA, .inr (1, [.ref wA, .ref sA, .ref lA, .int dl, .int (nI kept), .int (nI (dr + 1))])), (wA, .inl (cI, 2000, .inl (aN (drX kept dr 38 tx)))), (rA, .inr (2, [.int (nI ((rdP st nm nu c).2.1)), .int (nI ((rdP st nm nu c).2.2.1)), .int (nI ((rdP st nm nu c).2.2.2))]))] H locs := Z
        refine lv_aload_n C.1 C.2.1 d_Desk_draftCharacter_58 rfl (lv_at hl 1 rfl) ?_
        refine r_get C Z 0 f_Desk_20 rfl rfl d_Desk_draftCharacter_59 ?_
        refine lv_bipush (v := nI 97) C.1 C.2.1 d_Desk_draftCharacter_62 (by decide) ?_
        refine lv_aload_n C.1 C.2.1 d_Desk_draftCharacter_64 rfl (lv_at hl 1 rfl) ?_
        refine r_get C Z 0 f_Desk_27 rfl rfl d_Desk_draftCharacter_65 ?_
        refine r_getN C Z 3 f_Desk_130 rfl rfl d_Desk_draftCharacter_68 ?_
        refine r_add C d_Desk_draftCharacter_71 ?_
        refine r_callNv (rest := []) (wr := [(dA, .inr (0, [.ref hA, .int (nI n), .ref eA, .ref rA, .int (nI (fltK (rdP st nm nu c).1 fa)), .int (fltP (rdP st nm nu c).1 x op fp), .int (nI op), .ref oA, .int (nI ol), .ref pA, .int (nI ml), .int (nI me), .int pu, .int (nI de)])), (rA, .inr (2, [.int (nI ((rdP st nm nu c).2.1)), .int (nI ((rdP st nm nu c).2.2.1)), .int (nI ((rdP st nm nu c).2.2.2))]))]) (wn := fun u => [(dA, .inr (0, [.ref hA, .int (nI n), .ref eA, .ref rA, .int (nI (fltK (rdP st nm nu c).1 fa)), .int (fltP (rdP st nm nu c).1 x op fp), .int (nI op), .ref oA, .int (nI ol), .ref pA, .int (nI ml), .int (nI me), .int pu, .int (nI de)])), (eA, .inr (1, [.ref wA, .ref sA, .ref lA, .int dl, .int (nI kept), .int (nI u.2)])), (wA, .inl (cI, 2000, .inl (aN u.1))), (rA, .inr (2, [.int (nI ((rdP st nm nu c).2.1)), .int (nI ((rdP st nm nu c).2.2.1)), .int (nI ((rdP st nm nu c).2.2.2))]))]) C Z (c_Ents_draft l D cI cZ eA wA sA lA dl kept (dr + 1) (drX kept dr 38 tx) (97 + ((rdP st nm nu c).2.2.1)) (by first | assumption | omega) (by first | assumption | omega)) k_Desk_124 rfl ⟨by rw [hR]; decide, by rw [hR]; decide⟩ ⟨rfl, rfl⟩ [1, 2] [0, 3] [0, 2, 3, 1] (by decide) rfl rfl (by decide) (by decide) (by decide) (fun _ => rfl) 1 rfl rfl hl.1 rfl (Nat.le_of_ble_eq_true rfl) d_Desk_draftCharacter_72 ⟨Nat.zero_le _, Nat.zero_le _⟩ (fun u H locs hp Z => ?_)
        have hp := hp.symm; subst hp
        have Z : Wd D A s.heap [(dA, .inr (0, [.ref hA, .int (nI n), .ref eA, .ref rA, .int (nI (fltK (rdP st nm nu c).1 fa)), .int (fltP (rdP st nm nu c).1 x op fp), .int (nI op), .ref oA, .int (nI ol), .ref pA, .int (nI ml), .int (nI me), .int pu, .int (nI de)])), (eA, .inr (1, [.ref wA, .ref sA, .ref lA, .int dl, .int (nI kept), .int (nI ((dr + 1) + 1))])), (wA, .inl (cI, 2000, .inl (aN (drX kept (dr + 1) (97 + ((rdP st nm nu c).2.2.1)) (drX kept dr 38 tx))))), (rA, .inr (2, [.int (nI ((rdP st nm nu c).2.1)), .int (nI ((rdP st nm nu c).2.2.1)), .int (nI ((rdP st nm nu c).2.2.2))]))] H locs := Z
        refine lv_aload_n C.1 C.2.1 d_Desk_draftCharacter_75 rfl (lv_at hl 1 rfl) ?_
        refine r_get C Z 0 f_Desk_20 rfl rfl d_Desk_draftCharacter_76 ?_
        refine lv_bipush (v := nI 59) C.1 C.2.1 d_Desk_draftCharacter_79 (by decide) ?_
        refine r_callNv (rest := []) (wr := [(dA, .inr (0, [.ref hA, .int (nI n), .ref eA, .ref rA, .int (nI (fltK (rdP st nm nu c).1 fa)), .int (fltP (rdP st nm nu c).1 x op fp), .int (nI op), .ref oA, .int (nI ol), .ref pA, .int (nI ml), .int (nI me), .int pu, .int (nI de)])), (rA, .inr (2, [.int (nI ((rdP st nm nu c).2.1)), .int (nI ((rdP st nm nu c).2.2.1)), .int (nI ((rdP st nm nu c).2.2.2))]))]) (wn := fun u => [(dA, .inr (0, [.ref hA, .int (nI n), .ref eA, .ref rA, .int (nI (fltK (rdP st nm nu c).1 fa)), .int (fltP (rdP st nm nu c).1 x op fp), .int (nI op), .ref oA, .int (nI ol), .ref pA, .int (nI ml), .int (nI me), .int pu, .int (nI de)])), (eA, .inr (1, [.ref wA, .ref sA, .ref lA, .int dl, .int (nI kept), .int (nI u.2)])), (wA, .inl (cI, 2000, .inl (aN u.1))), (rA, .inr (2, [.int (nI ((rdP st nm nu c).2.1)), .int (nI ((rdP st nm nu c).2.2.1)), .int (nI ((rdP st nm nu c).2.2.2))]))]) C Z (c_Ents_draft l D cI cZ eA wA sA lA dl kept ((dr + 1) + 1) (drX kept (dr + 1) (97 + ((rdP st nm nu c).2.2.1)) (drX kept dr 38 tx)) 59 (by first | assumption | omega) (by first | assumption | omega)) k_Desk_124 rfl ⟨by rw [hR]; decide, by rw [hR]; decide⟩ ⟨rfl, rfl⟩ [1, 2] [0, 3] [0, 2, 3, 1] (by decide) rfl rfl (by decide) (by decide) (by decide) (fun _ => rfl) 1 rfl rfl hl.1 rfl (Nat.le_of_ble_eq_true rfl) d_Desk_draftCharacter_81 ⟨Nat.zero_le _, Nat.zero_le _⟩ (fun u H locs hp Z => ?_)
        have hp := hp.symm; subst hp
        have Z : Wd D A s.heap [(dA, .inr (0, [.ref hA, .int (nI n), .ref eA, .ref rA, .int (nI (fltK (rdP st nm nu c).1 fa)), .int (fltP (rdP st nm nu c).1 x op fp), .int (nI op), .ref oA, .int (nI ol), .ref pA, .int (nI ml), .int (nI me), .int pu, .int (nI de)])), (eA, .inr (1, [.ref wA, .ref sA, .ref lA, .int dl, .int (nI kept), .int (nI (((dr + 1) + 1) + 1))])), (wA, .inl (cI, 2000, .inl (aN (drX kept ((dr + 1) + 1) 59 (drX kept (dr + 1) (97 + ((rdP st nm nu c).2.2.1)) (drX kept dr 38 tx)))))), (rA, .inr (2, [.int (nI ((rdP st nm nu c).2.1)), .int (nI ((rdP st nm nu c).2.2.1)), .int (nI ((rdP st nm nu c).2.2.2))]))] H locs := Z
        exact r_vret C Z (fltK (rdP st nm nu c).1 fa, fltP (rdP st nm nu c).1 x op fp, drX kept ((dr + 1) + 1) 59 (drX kept (dr + 1) (97 + ((rdP st nm nu c).2.2.1)) (drX kept dr 38 tx)), ((dr + 1) + 1) + 1, (rdP st nm nu c).2.1, (rdP st nm nu c).2.2.1, (rdP st nm nu c).2.2.2) (by clear C Z hl; simp [dcX, dcN, h8, h24, h46]) rfl hQ d_Desk_draftCharacter_84
    · skip
      refine lv_aload_n C.1 C.2.1 d_Desk_draftCharacter_27 rfl (lv_at hl 1 rfl) ?_
      refine r_get C Z 0 f_Desk_20 rfl rfl d_Desk_draftCharacter_28 ?_
      refine lv_aload_n C.1 C.2.1 d_Desk_draftCharacter_31 rfl (lv_at hl 1 rfl) ?_
      refine r_get C Z 0 f_Desk_27 rfl rfl d_Desk_draftCharacter_32 ?_
      refine r_getN C Z 3 f_Desk_127 rfl rfl d_Desk_draftCharacter_35 ?_
      refine r_callNv (rest := []) (wr := [(dA, .inr (0, [.ref hA, .int (nI n), .ref eA, .ref rA, .int (nI (fltK (rdP st nm nu c).1 fa)), .int (fltP (rdP st nm nu c).1 x op fp), .int (nI op), .ref oA, .int (nI ol), .ref pA, .int (nI ml), .int (nI me), .int pu, .int (nI de)])), (rA, .inr (2, [.int (nI ((rdP st nm nu c).2.1)), .int (nI ((rdP st nm nu c).2.2.1)), .int (nI ((rdP st nm nu c).2.2.2))]))]) (wn := fun u => [(dA, .inr (0, [.ref hA, .int (nI n), .ref eA, .ref rA, .int (nI (fltK (rdP st nm nu c).1 fa)), .int (fltP (rdP st nm nu c).1 x op fp), .int (nI op), .ref oA, .int (nI ol), .ref pA, .int (nI ml), .int (nI me), .int pu, .int (nI de)])), (eA, .inr (1, [.ref wA, .ref sA, .ref lA, .int dl, .int (nI kept), .int (nI u.2)])), (wA, .inl (cI, 2000, .inl (aN u.1))), (rA, .inr (2, [.int (nI ((rdP st nm nu c).2.1)), .int (nI ((rdP st nm nu c).2.2.1)), .int (nI ((rdP st nm nu c).2.2.2))]))]) C Z (c_Ents_draft l D cI cZ eA wA sA lA dl kept dr tx ((rdP st nm nu c).2.2.2) (by first | assumption | omega) (by first | assumption | omega)) k_Desk_124 rfl ⟨by rw [hR]; decide, by rw [hR]; decide⟩ ⟨rfl, rfl⟩ [1, 2] [0, 3] [0, 2, 3, 1] (by decide) rfl rfl (by decide) (by decide) (by decide) (fun _ => rfl) 1 rfl rfl hl.1 rfl (Nat.le_of_ble_eq_true rfl) d_Desk_draftCharacter_38 ⟨Nat.zero_le _, Nat.zero_le _⟩ (fun u H locs hp Z => ?_)
      have hp := hp.symm; subst hp
      have Z : Wd D A s.heap [(dA, .inr (0, [.ref hA, .int (nI n), .ref eA, .ref rA, .int (nI (fltK (rdP st nm nu c).1 fa)), .int (fltP (rdP st nm nu c).1 x op fp), .int (nI op), .ref oA, .int (nI ol), .ref pA, .int (nI ml), .int (nI me), .int pu, .int (nI de)])), (eA, .inr (1, [.ref wA, .ref sA, .ref lA, .int dl, .int (nI kept), .int (nI (dr + 1))])), (wA, .inl (cI, 2000, .inl (aN (drX kept dr ((rdP st nm nu c).2.2.2) tx)))), (rA, .inr (2, [.int (nI ((rdP st nm nu c).2.1)), .int (nI ((rdP st nm nu c).2.2.1)), .int (nI ((rdP st nm nu c).2.2.2))]))] H locs := Z
      refine lv_goto (tgt := 84) C.1 C.2.1 d_Desk_draftCharacter_41 (by decide) ?_
      exact r_vret C Z (fltK (rdP st nm nu c).1 fa, fltP (rdP st nm nu c).1 x op fp, drX kept dr ((rdP st nm nu c).2.2.2) tx, dr + 1, (rdP st nm nu c).2.1, (rdP st nm nu c).2.2.1, (rdP st nm nu c).2.2.2) (by clear C Z hl; simp [dcX, dcN, h8, h24]) rfl hQ d_Desk_draftCharacter_84
  · skip
    refine lv_aload_n C.1 C.2.1 d_Desk_draftCharacter_11 rfl (lv_at hl 1 rfl) ?_
    refine r_get C Z 0 f_Desk_20 rfl rfl d_Desk_draftCharacter_12 ?_
    refine lv_iload_n C.1 C.2.1 d_Desk_draftCharacter_15 rfl (lv_at hl 2 rfl) ?_
    refine r_callNv (rest := []) (wr := [(dA, .inr (0, [.ref hA, .int (nI n), .ref eA, .ref rA, .int (nI (fltK (rdP st nm nu c).1 fa)), .int (fltP (rdP st nm nu c).1 x op fp), .int (nI op), .ref oA, .int (nI ol), .ref pA, .int (nI ml), .int (nI me), .int pu, .int (nI de)])), (rA, .inr (2, [.int (nI ((rdP st nm nu c).2.1)), .int (nI ((rdP st nm nu c).2.2.1)), .int (nI ((rdP st nm nu c).2.2.2))]))]) (wn := fun u => [(dA, .inr (0, [.ref hA, .int (nI n), .ref eA, .ref rA, .int (nI (fltK (rdP st nm nu c).1 fa)), .int (fltP (rdP st nm nu c).1 x op fp), .int (nI op), .ref oA, .int (nI ol), .ref pA, .int (nI ml), .int (nI me), .int pu, .int (nI de)])), (eA, .inr (1, [.ref wA, .ref sA, .ref lA, .int dl, .int (nI kept), .int (nI u.2)])), (wA, .inl (cI, 2000, .inl (aN u.1))), (rA, .inr (2, [.int (nI ((rdP st nm nu c).2.1)), .int (nI ((rdP st nm nu c).2.2.1)), .int (nI ((rdP st nm nu c).2.2.2))]))]) C Z (c_Ents_draft l D cI cZ eA wA sA lA dl kept dr tx c (by first | assumption | omega) (by first | assumption | omega)) k_Desk_124 rfl ⟨by rw [hR]; decide, by rw [hR]; decide⟩ ⟨rfl, rfl⟩ [1, 2] [0, 3] [0, 2, 3, 1] (by decide) rfl rfl (by decide) (by decide) (by decide) (fun _ => rfl) 1 rfl rfl hl.1 rfl (Nat.le_of_ble_eq_true rfl) d_Desk_draftCharacter_16 ⟨Nat.zero_le _, Nat.zero_le _⟩ (fun u H locs hp Z => ?_)
    have hp := hp.symm; subst hp
    have Z : Wd D A s.heap [(dA, .inr (0, [.ref hA, .int (nI n), .ref eA, .ref rA, .int (nI (fltK (rdP st nm nu c).1 fa)), .int (fltP (rdP st nm nu c).1 x op fp), .int (nI op), .ref oA, .int (nI ol), .ref pA, .int (nI ml), .int (nI me), .int pu, .int (nI de)])), (eA, .inr (1, [.ref wA, .ref sA, .ref lA, .int dl, .int (nI kept), .int (nI (dr + 1))])), (wA, .inl (cI, 2000, .inl (aN (drX kept dr c tx)))), (rA, .inr (2, [.int (nI ((rdP st nm nu c).2.1)), .int (nI ((rdP st nm nu c).2.2.1)), .int (nI ((rdP st nm nu c).2.2.2))]))] H locs := Z
    refine lv_goto (tgt := 84) C.1 C.2.1 d_Desk_draftCharacter_19 (by decide) ?_
    exact r_vret C Z (fltK (rdP st nm nu c).1 fa, fltP (rdP st nm nu c).1 x op fp, drX kept dr c tx, dr + 1, (rdP st nm nu c).2.1, (rdP st nm nu c).2.2.1, (rdP st nm nu c).2.2.2) (by clear C Z hl; simp [dcX, dcN, h8]) rfl hQ d_Desk_draftCharacter_84

set_option maxHeartbeats 4000000 in
set_option maxRecDepth 100000 in
theorem c_Desk_give (l : Launch) (D : va_G) (cI cZ : ClassId) (dA hA eA rA oA pA : Nat) (n : Nat) (fa : Nat) (fp : Int32) (op : Nat) (ol : Nat) (ml : Nat) (me : Nat) (pu : Int32) (de : Nat) (out : Nat → Nat) (c : Nat) (hol : ol ≤ 3000) : Mv l y_Desk_give b_Desk_give 2 ({ frames := 1, cells := 0, slots := 0, locals := 22 } : Room) D cI cZ [.ref dA, .int (nI c)] [(dA, .inr (0, [.ref hA, .int (nI n), .ref eA, .ref rA, .int (nI fa), .int fp, .int (nI op), .ref oA, .int (nI ol), .ref pA, .int (nI ml), .int (nI me), .int pu, .int (nI de)])), (oA, .inl (cI, 3000, .inl (aN out)))] (fun u : Nat × Int32 × Nat × (Nat → Nat) => u = (gvK ol fa, gvP ol op fp, gvN ol, gvO ol c out)) (fun u : Nat × Int32 × Nat × (Nat → Nat) => [(dA, .inr (0, [.ref hA, .int (nI n), .ref eA, .ref rA, .int (nI u.1), .int u.2.1, .int (nI op), .ref oA, .int (nI u.2.2.1), .ref pA, .int (nI ml), .int (nI me), .int pu, .int (nI de)])), (oA, .inl (cI, 3000, .inl (aN u.2.2.2)))]) 0 0 := by
  refine Mv.intro (by decide) (Nat.le_of_ble_eq_true rfl) ?_
  intro p e s m args below meth cd A ls R Q hR hQ C hin Z hl
  have hl : lv_has ls 2 [(0, .ref dA), (1, .int (nI c))] := hl
  refine lv_aload_n C.1 C.2.1 d_Desk_give_0 rfl (lv_at hl 0 rfl) ?_
  refine r_get C Z 0 f_Desk_43 rfl rfl d_Desk_give_1 ?_
  refine lv_sipush (v := nI 3000) C.1 C.2.1 d_Desk_give_4 (by decide) ?_
  refine r_lt (tgt := 21) C d_Desk_give_7 (by decide) (by omega) (by omega) (fun h7 => ?_) (fun h7 => ?_)
  · skip
    refine lv_aload_n C.1 C.2.1 d_Desk_give_21 rfl (lv_at hl 0 rfl) ?_
    refine r_get C Z 0 f_Desk_40 rfl rfl d_Desk_give_22 ?_
    refine lv_aload_n C.1 C.2.1 d_Desk_give_25 rfl (lv_at hl 0 rfl) ?_
    refine r_get C Z 0 f_Desk_43 rfl rfl d_Desk_give_26 ?_
    refine lv_iload_n C.1 C.2.1 d_Desk_give_29 rfl (lv_at hl 1 rfl) ?_
    refine r_istN (ws' := [(dA, .inr (0, [.ref hA, .int (nI n), .ref eA, .ref rA, .int (nI fa), .int fp, .int (nI op), .ref oA, .int (nI ol), .ref pA, .int (nI ml), .int (nI me), .int pu, .int (nI de)])), (oA, .inl (cI, 3000, .inl (aN (updN out ol c))))]) C Z 1 rfl (by omega) (by decide) rfl d_Desk_give_30 (fun H locs Z => ?_)
    refine lv_aload_n C.1 C.2.1 d_Desk_give_31 rfl (lv_at hl 0 rfl) ?_
    refine lv_dup C.1 C.2.1 d_Desk_give_32 rfl ?_
    refine r_get C Z 0 f_Desk_43 rfl rfl d_Desk_give_33 ?_
    refine lv_iconst (v := nI 1) C.1 C.2.1 d_Desk_give_36 (by decide) ?_
    refine r_add C d_Desk_give_37 ?_
    refine r_put (ws' := [(dA, .inr (0, [.ref hA, .int (nI n), .ref eA, .ref rA, .int (nI fa), .int fp, .int (nI op), .ref oA, .int (nI (ol + 1)), .ref pA, .int (nI ml), .int (nI me), .int pu, .int (nI de)])), (oA, .inl (cI, 3000, .inl (aN (updN out ol c))))]) C Z 0 f_Desk_43 rfl rfl rfl (Nat.le_of_ble_eq_true rfl) rfl d_Desk_give_38 (fun H locs Z => ?_)
    exact r_vret C Z (fa, fp, ol + 1, updN out ol c) (by unfold gvK gvP gvN gvO; first | (rw [if_pos (by omega), if_pos (by omega), if_pos (by omega), if_pos (by omega)]) | (rw [if_neg (by omega), if_neg (by omega), if_neg (by omega), if_neg (by omega)])) rfl hQ d_Desk_give_41
  · skip
    refine lv_aload_n C.1 C.2.1 d_Desk_give_10 rfl (lv_at hl 0 rfl) ?_
    refine lv_bipush (v := nI 15) C.1 C.2.1 d_Desk_give_11 (by decide) ?_
    refine lv_aload_n C.1 C.2.1 d_Desk_give_13 rfl (lv_at hl 0 rfl) ?_
    refine r_get C Z 0 f_Desk_37 rfl rfl d_Desk_give_14 ?_
    refine r_callVv (rest := []) (wr := [(oA, .inl (cI, 3000, .inl (aN out)))]) (wn := fun u => [(dA, .inr (0, [.ref hA, .int (nI n), .ref eA, .ref rA, .int (nI u.1), .int u.2, .int (nI op), .ref oA, .int (nI ol), .ref pA, .int (nI ml), .int (nI me), .int pu, .int (nI de)])), (oA, .inl (cI, 3000, .inl (aN out)))]) C Z (c_Desk_fail l D cI cZ dA hA eA rA oA pA n fa fp op ol ml me pu de 15 (nI op)) k_Desk_108 rfl ⟨by rw [hR]; decide, by rw [hR]; decide⟩ ⟨rfl, rfl⟩ [0] [1] [1, 0] (by decide) rfl rfl (by decide) (by decide) (by decide) (fun _ => rfl) 0 rfl rfl hl.1 rfl (Nat.le_of_ble_eq_true rfl) d_Desk_give_17 ⟨Nat.zero_le _, Nat.zero_le _⟩ (fun u H locs hp Z => ?_)
    have hp := hp.symm; subst hp
    have Z : Wd D A s.heap [(dA, .inr (0, [.ref hA, .int (nI n), .ref eA, .ref rA, .int (nI 15), .int (nI op), .int (nI op), .ref oA, .int (nI ol), .ref pA, .int (nI ml), .int (nI me), .int pu, .int (nI de)])), (oA, .inl (cI, 3000, .inl (aN out)))] H locs := Z
    exact r_vret C Z (15, nI op, ol, out) (by unfold gvK gvP gvN gvO; first | (rw [if_pos (by omega), if_pos (by omega), if_pos (by omega), if_pos (by omega)]) | (rw [if_neg (by omega), if_neg (by omega), if_neg (by omega), if_neg (by omega)])) rfl hQ d_Desk_give_20

set_option maxHeartbeats 4000000 in
set_option maxRecDepth 100000 in
theorem c_Desk_faultOfEntity (l : Launch) (D : va_G) (cI cZ : ClassId) (dA hA eA rA oA pA wA sA lA : Nat) (n : Nat) (fa : Nat) (fp : Int32) (op : Nat) (ol : Nat) (ml : Nat) (me : Nat) (pu : Int32) (de : Nat) (dl : Int32) (kept : Nat) (dr : Nat) (ln : Nat → Nat) (opn : Nat → Nat) (k : Nat) (x : Nat) (hk : k < 26) (hln : ln k ≤ 2001) (hx : x ≤ 13) (hme : me ≤ 100000) (hml : ml ≤ 100000) (hop : opn k ≤ 1) : Mi l y_Desk_faultOfEntity b_Desk_faultOfEntity 3 (some .int) ({ frames := 1, cells := 0, slots := 0, locals := 21 } : Room) D cI cZ [.ref dA, .int (nI k), .int (nI x)] [(dA, .inr (0, [.ref hA, .int (nI n), .ref eA, .ref rA, .int (nI fa), .int fp, .int (nI op), .ref oA, .int (nI ol), .ref pA, .int (nI ml), .int (nI me), .int pu, .int (nI de)])), (eA, .inr (1, [.ref wA, .ref sA, .ref lA, .int dl, .int (nI kept), .int (nI dr)])), (lA, .inl (cI, 26, .inl (aM ln))), (pA, .inl (cZ, 26, .inl (aN opn)))] (fun (r : Int32) (u : Unit) => r = nI (fltE (ln k) (opn k) x me ml) ∧ u = ()) (fun u : Unit => [(dA, .inr (0, [.ref hA, .int (nI n), .ref eA, .ref rA, .int (nI fa), .int fp, .int (nI op), .ref oA, .int (nI ol), .ref pA, .int (nI ml), .int (nI me), .int pu, .int (nI de)])), (eA, .inr (1, [.ref wA, .ref sA, .ref lA, .int dl, .int (nI kept), .int (nI dr)])), (lA, .inl (cI, 26, .inl (aM ln))), (pA, .inl (cZ, 26, .inl (aN opn)))]) := by
  refine Mi.intro (by decide) (Nat.le_of_ble_eq_true rfl) ?_
  intro p e s m args below meth cd A ls R Q hR hQ C Z hl
  have hl : lv_has ls 3 [(0, .ref dA), (1, .int (nI k)), (2, .int (nI x))] := hl
  refine lv_aload_n C.1 C.2.1 d_Desk_faultOfEntity_0 rfl (lv_at hl 0 rfl) ?_
  refine r_get C Z 0 f_Desk_20 rfl rfl d_Desk_faultOfEntity_1 ?_
  refine lv_iload_n C.1 C.2.1 d_Desk_faultOfEntity_4 rfl (lv_at hl 1 rfl) ?_
  refine r_callNi (rest := []) (wr := [(dA, .inr (0, [.ref hA, .int (nI n), .ref eA, .ref rA, .int (nI fa), .int fp, .int (nI op), .ref oA, .int (nI ol), .ref pA, .int (nI ml), .int (nI me), .int pu, .int (nI de)])), (pA, .inl (cZ, 26, .inl (aN opn)))]) (wn := fun u => [(dA, .inr (0, [.ref hA, .int (nI n), .ref eA, .ref rA, .int (nI fa), .int fp, .int (nI op), .ref oA, .int (nI ol), .ref pA, .int (nI ml), .int (nI me), .int pu, .int (nI de)])), (eA, .inr (1, [.ref wA, .ref sA, .ref lA, .int dl, .int (nI kept), .int (nI dr)])), (lA, .inl (cI, 26, .inl (aM ln))), (pA, .inl (cZ, 26, .inl (aN opn)))]) C Z (c_Ents_has l D cI cZ eA wA sA lA dl kept dr ln k (by first | assumption | omega) (by first | assumption | omega)) k_Desk_69 rfl ⟨by rw [hR]; decide, by rw [hR]; decide⟩ ⟨rfl, rfl⟩ [1, 2] [0, 3] [0, 2, 3, 1] (by decide) rfl rfl (by decide) (by decide) (by decide) (fun _ => rfl) 1 rfl rfl hl.1 rfl (Nat.le_of_ble_eq_true rfl) d_Desk_faultOfEntity_5 ⟨Nat.zero_le _, Nat.zero_le _⟩ (fun r u H locs hp Z => ?_)
  obtain ⟨hp1, hp2⟩ := hp; have hp1 := hp1.symm; have hp2 := hp2.symm; subst hp1; subst hp2
  have Z : Wd D A s.heap [(dA, .inr (0, [.ref hA, .int (nI n), .ref eA, .ref rA, .int (nI fa), .int fp, .int (nI op), .ref oA, .int (nI ol), .ref pA, .int (nI ml), .int (nI me), .int pu, .int (nI de)])), (eA, .inr (1, [.ref wA, .ref sA, .ref lA, .int dl, .int (nI kept), .int (nI dr)])), (lA, .inl (cI, 26, .inl (aM ln))), (pA, .inl (cZ, 26, .inl (aN opn)))] H locs := Z
  refine r_zne (tgt := 13) C d_Desk_faultOfEntity_8 (by decide) (by omega) (fun h8 => ?_) (fun h8 => ?_)
  · skip
    refine lv_aload_n C.1 C.2.1 d_Desk_faultOfEntity_13 rfl (lv_at hl 0 rfl) ?_
    refine r_get C Z 0 f_Desk_46 rfl rfl d_Desk_faultOfEntity_14 ?_
    refine lv_iload_n C.1 C.2.1 d_Desk_faultOfEntity_17 rfl (lv_at hl 1 rfl) ?_
    refine r_zldN C Z 3 rfl (by omega) (by decide) d_Desk_faultOfEntity_18 ?_
    refine r_zeq (tgt := 25) C d_Desk_faultOfEntity_19 (by decide) (by omega) (fun h19 => ?_) (fun h19 => ?_)
    · skip
      refine lv_iload_n C.1 C.2.1 d_Desk_faultOfEntity_25 rfl (lv_at hl 2 rfl) ?_
      refine lv_bipush (v := nI 12) C.1 C.2.1 d_Desk_faultOfEntity_26 (by decide) ?_
      refine r_le (tgt := 34) C d_Desk_faultOfEntity_28 (by decide) (by omega) (by omega) (fun h28 => ?_) (fun h28 => ?_)
      · skip
        refine lv_aload_n C.1 C.2.1 d_Desk_faultOfEntity_34 rfl (lv_at hl 0 rfl) ?_
        refine r_get C Z 0 f_Desk_53 rfl rfl d_Desk_faultOfEntity_35 ?_
        refine lv_aload_n C.1 C.2.1 d_Desk_faultOfEntity_38 rfl (lv_at hl 0 rfl) ?_
        refine r_get C Z 0 f_Desk_20 rfl rfl d_Desk_faultOfEntity_39 ?_
        refine lv_iload_n C.1 C.2.1 d_Desk_faultOfEntity_42 rfl (lv_at hl 1 rfl) ?_
        refine r_callNi (rest := [.int (nI me)]) (wr := [(dA, .inr (0, [.ref hA, .int (nI n), .ref eA, .ref rA, .int (nI fa), .int fp, .int (nI op), .ref oA, .int (nI ol), .ref pA, .int (nI ml), .int (nI me), .int pu, .int (nI de)])), (pA, .inl (cZ, 26, .inl (aN opn)))]) (wn := fun u => [(dA, .inr (0, [.ref hA, .int (nI n), .ref eA, .ref rA, .int (nI fa), .int fp, .int (nI op), .ref oA, .int (nI ol), .ref pA, .int (nI ml), .int (nI me), .int pu, .int (nI de)])), (eA, .inr (1, [.ref wA, .ref sA, .ref lA, .int dl, .int (nI kept), .int (nI dr)])), (lA, .inl (cI, 26, .inl (aM ln))), (pA, .inl (cZ, 26, .inl (aN opn)))]) C Z (c_Ents_lengthOf l D cI cZ eA wA sA lA dl kept dr ln k (by first | assumption | omega) (by first | assumption | omega)) k_Desk_83 rfl ⟨by rw [hR]; decide, by rw [hR]; decide⟩ ⟨rfl, rfl⟩ [1, 2] [0, 3] [0, 2, 3, 1] (by decide) rfl rfl (by decide) (by decide) (by decide) (fun _ => rfl) 1 rfl rfl hl.1 rfl (Nat.le_of_ble_eq_true rfl) d_Desk_faultOfEntity_43 ⟨Nat.zero_le _, Nat.zero_le _⟩ (fun r u H locs hp Z => ?_)
        obtain ⟨hp1, hp2⟩ := hp; have hp1 := hp1.symm; have hp2 := hp2.symm; subst hp1; subst hp2
        have Z : Wd D A s.heap [(dA, .inr (0, [.ref hA, .int (nI n), .ref eA, .ref rA, .int (nI fa), .int fp, .int (nI op), .ref oA, .int (nI ol), .ref pA, .int (nI ml), .int (nI me), .int pu, .int (nI de)])), (eA, .inr (1, [.ref wA, .ref sA, .ref lA, .int dl, .int (nI kept), .int (nI dr)])), (lA, .inl (cI, 26, .inl (aM ln))), (pA, .inl (cZ, 26, .inl (aN opn)))] H locs := Z
        refine r_add C d_Desk_faultOfEntity_46 ?_
        refine lv_aload_n C.1 C.2.1 d_Desk_faultOfEntity_47 rfl (lv_at hl 0 rfl) ?_
        refine r_get C Z 0 f_Desk_50 rfl rfl d_Desk_faultOfEntity_48 ?_
        refine r_le (tgt := 59) C d_Desk_faultOfEntity_51 (by decide) (by omega) (by omega) (fun h51 => ?_) (fun h51 => ?_)
        · skip
          refine lv_iconst (v := nI 0) C.1 C.2.1 d_Desk_faultOfEntity_59 (by decide) ?_
          exact r_iret C Z () ⟨by clear C Z hl; congr 1; unfold fltE; (repeat' split) <;> omega, rfl⟩ rfl hQ d_Desk_faultOfEntity_60
        · skip
          refine lv_bipush (v := nI 14) C.1 C.2.1 d_Desk_faultOfEntity_54 (by decide) ?_
          refine lv_goto (tgt := 60) C.1 C.2.1 d_Desk_faultOfEntity_56 (by decide) ?_
          exact r_iret C Z () ⟨by clear C Z hl; congr 1; unfold fltE; (repeat' split) <;> omega, rfl⟩ rfl hQ d_Desk_faultOfEntity_60
      · skip
        refine lv_bipush (v := nI 15) C.1 C.2.1 d_Desk_faultOfEntity_31 (by decide) ?_
        exact r_iret C Z () ⟨by clear C Z hl; congr 1; unfold fltE; (repeat' split) <;> omega, rfl⟩ rfl hQ d_Desk_faultOfEntity_33
    · skip
      refine lv_bipush (v := nI 6) C.1 C.2.1 d_Desk_faultOfEntity_22 (by decide) ?_
      exact r_iret C Z () ⟨by clear C Z hl; congr 1; unfold fltE; (repeat' split) <;> omega, rfl⟩ rfl hQ d_Desk_faultOfEntity_24
  · skip
    refine lv_iconst (v := nI 5) C.1 C.2.1 d_Desk_faultOfEntity_11 (by decide) ?_
    exact r_iret C Z () ⟨by clear C Z hl; congr 1; unfold fltE; (repeat' split) <;> omega, rfl⟩ rfl hQ d_Desk_faultOfEntity_12
end
section
set_option maxHeartbeats 4000000 in
set_option maxRecDepth 100000 in
theorem c_Desk_draftText (l : Launch) (D : va_G) (cI cZ : ClassId) (dA hA eA rA oA pA wA sA lA : Nat) (n : Nat) (fa : Nat) (fp : Int32) (op : Nat) (ol : Nat) (ml : Nat) (me : Nat) (pu : Int32) (de : Nat) (st : Nat) (nm : Nat) (nu : Nat) (dl : Int32) (kept : Nat) (dr : Nat) (tx : Nat → Nat) (hand : Nat → Nat) (told : Nat) (hst : st ≤ 6) (hnm : nm < 26) (hnu : nu ≤ 256) (hfa : fa ≤ 15) (hkept : kept ≤ 2000) (htold : told ≤ 400) (hh : ∀ j, hand j < 256) : Mv l y_Desk_draftText b_Desk_draftText 3 ({ frames := 5, cells := 0, slots := 0, locals := 112 } : Room) D cI cZ [.ref dA, .int (nI told)] [(dA, .inr (0, [.ref hA, .int (nI n), .ref eA, .ref rA, .int (nI fa), .int fp, .int (nI op), .ref oA, .int (nI ol), .ref pA, .int (nI ml), .int (nI me), .int pu, .int (nI de)])), (hA, .inl (cI, 400, .inl (aN hand))), (eA, .inr (1, [.ref wA, .ref sA, .ref lA, .int dl, .int (nI kept), .int (nI dr)])), (wA, .inl (cI, 2000, .inl (aN tx))), (rA, .inr (2, [.int (nI st), .int (nI nm), .int (nI nu)]))] (fun u : Nat × Int32 × Nat × (Nat → Nat) × Nat × Nat × Nat × Nat => u = dText kept told hand (fa, fp, op, tx, 0, st, nm, nu)) (fun u : Nat × Int32 × Nat × (Nat → Nat) × Nat × Nat × Nat × Nat => [(dA, .inr (0, [.ref hA, .int (nI n), .ref eA, .ref rA, .int (nI u.1), .int u.2.1, .int (nI u.2.2.1), .ref oA, .int (nI ol), .ref pA, .int (nI ml), .int (nI me), .int pu, .int (nI de)])), (hA, .inl (cI, 400, .inl (aN hand))), (eA, .inr (1, [.ref wA, .ref sA, .ref lA, .int dl, .int (nI kept), .int (nI u.2.2.2.2.1)])), (wA, .inl (cI, 2000, .inl (aN u.2.2.2.1))), (rA, .inr (2, [.int (nI u.2.2.2.2.2.1), .int (nI u.2.2.2.2.2.2.1), .int (nI u.2.2.2.2.2.2.2)]))]) 0 0 := by
  refine Mv.intro (by decide) (Nat.le_of_ble_eq_true rfl) ?_
  intro p e s m args below meth cd A ls R Q hR hQ C hin Z hl
  have hl : lv_has ls 3 [(0, .ref dA), (1, .int (nI told))] := hl
  refine lv_aload_n C.1 C.2.1 d_Desk_draftText_0 rfl (lv_at hl 0 rfl) ?_
  refine r_get C Z 0 f_Desk_20 rfl rfl d_Desk_draftText_1 ?_
  refine r_callNv (rest := []) (wr := [(dA, .inr (0, [.ref hA, .int (nI n), .ref eA, .ref rA, .int (nI fa), .int fp, .int (nI op), .ref oA, .int (nI ol), .ref pA, .int (nI ml), .int (nI me), .int pu, .int (nI de)])), (hA, .inl (cI, 400, .inl (aN hand))), (wA, .inl (cI, 2000, .inl (aN tx))), (rA, .inr (2, [.int (nI st), .int (nI nm), .int (nI nu)]))]) (wn := fun u => [(dA, .inr (0, [.ref hA, .int (nI n), .ref eA, .ref rA, .int (nI fa), .int fp, .int (nI op), .ref oA, .int (nI ol), .ref pA, .int (nI ml), .int (nI me), .int pu, .int (nI de)])), (hA, .inl (cI, 400, .inl (aN hand))), (eA, .inr (1, [.ref wA, .ref sA, .ref lA, .int dl, .int (nI kept), .int (nI u)])), (wA, .inl (cI, 2000, .inl (aN tx))), (rA, .inr (2, [.int (nI st), .int (nI nm), .int (nI nu)]))]) C Z (c_Ents_beginDraft l D cI cZ eA wA sA lA dl kept dr) k_Desk_112 rfl ⟨by rw [hR]; decide, by rw [hR]; decide⟩ ⟨rfl, rfl⟩ [2] [0, 1, 3, 4] [0, 1, 4, 2, 3] (by decide) rfl rfl (by decide) (by decide) (by decide) (fun _ => rfl) 2 rfl rfl hl.1 rfl (Nat.le_of_ble_eq_true rfl) d_Desk_draftText_4 ⟨Nat.zero_le _, Nat.zero_le _⟩ (fun u H locs hp Z => ?_)
  have hp := hp.symm; subst hp
  have Z : Wd D A s.heap [(dA, .inr (0, [.ref hA, .int (nI n), .ref eA, .ref rA, .int (nI fa), .int fp, .int (nI op), .ref oA, .int (nI ol), .ref pA, .int (nI ml), .int (nI me), .int pu, .int (nI de)])), (hA, .inl (cI, 400, .inl (aN hand))), (eA, .inr (1, [.ref wA, .ref sA, .ref lA, .int dl, .int (nI kept), .int (nI 0)])), (wA, .inl (cI, 2000, .inl (aN tx))), (rA, .inr (2, [.int (nI st), .int (nI nm), .int (nI nu)]))] H locs := Z
  refine lv_iconst (v := nI 0) C.1 C.2.1 d_Desk_draftText_7 (by decide) ?_
  refine lv_istore_n (lv' := [(2, .int (nI 0)), (0, .ref dA), (1, .int (nI told))]) C.1 C.2.1 d_Desk_draftText_8 rfl hl (by decide) rfl (fun ls hl => ?_)
  obtain ⟨X, hX⟩ : ∃ X, X = dLoop kept hand told 0 (fa, fp, op, tx, 0, st, nm, nu) := ⟨_, rfl⟩
  have loop : ∀ (k i fa : Nat) (fp : Int32) (op : Nat) (tx : Nat → Nat) (dr st nm nu : Nat), i + k = told → dr ≤ 3 * i → fa ≤ 15 → st ≤ 6 → nm < 26 → nu ≤ 256 → dLoop kept hand k i (fa, fp, op, tx, dr, st, nm, nu) = X → ∀ (H : Heap) (locs : List Loc) (ls : Array Slot), Wd D A s.heap [(dA, .inr (0, [.ref hA, .int (nI n), .ref eA, .ref rA, .int (nI fa), .int fp, .int (nI op), .ref oA, .int (nI ol), .ref pA, .int (nI ml), .int (nI me), .int pu, .int (nI de)])), (hA, .inl (cI, 400, .inl (aN hand))), (eA, .inr (1, [.ref wA, .ref sA, .ref lA, .int dl, .int (nI kept), .int (nI dr)])), (wA, .inl (cI, 2000, .inl (aN tx))), (rA, .inr (2, [.int (nI st), .int (nI nm), .int (nI nu)]))] H locs → lv_has ls 3 [(2, .int (nI i)), (0, .ref dA), (1, .int (nI told))] → W p l e R s m args below meth cd H locs 0 0 Q (F0 m 9 ls []) := by
    clear hst hnm hnu hfa hl Z
    intro k
    induction k with
    | zero =>
      intro i fa fp op tx dr st nm nu hik hdr hfa hst hnm hnu hF H locs ls Z hl
      have hF : (fa, fp, op, tx, dr, st, nm, nu) = X := hF
      refine lv_iload_n C.1 C.2.1 d_Desk_draftText_9 rfl (lv_at hl 0 rfl) ?_
      refine lv_iload_n C.1 C.2.1 d_Desk_draftText_10 rfl (lv_at hl 2 rfl) ?_
      refine r_ge (tgt := 53) C d_Desk_draftText_11 (by decide) (by omega) (by omega) (fun h11 => ?_) (fun h11 => (by omega : False).elim)
      refine lv_aload_n C.1 C.2.1 d_Desk_draftText_53 rfl (lv_at hl 1 rfl) ?_
      refine r_get C Z 0 f_Desk_31 rfl rfl d_Desk_draftText_54 ?_
      refine r_zne (tgt := 76) C d_Desk_draftText_57 (by decide) (by omega) (fun h57 => ?_) (fun h57 => ?_)
      · skip
        exact r_vret C Z (fa, fp, op, tx, dr, st, nm, nu) (by clear C Z hl; unfold dText; rw [← hX, ← hF]; unfold dEnd; dsimp only; first | rw [if_pos (by omega)] | rw [if_neg (by omega)]) rfl hQ d_Desk_draftText_76
      · skip
        refine lv_aload_n C.1 C.2.1 d_Desk_draftText_60 rfl (lv_at hl 1 rfl) ?_
        refine r_get C Z 0 f_Desk_27 rfl rfl d_Desk_draftText_61 ?_
        refine r_callNi (rest := []) (wr := [(dA, .inr (0, [.ref hA, .int (nI n), .ref eA, .ref rA, .int (nI fa), .int fp, .int (nI op), .ref oA, .int (nI ol), .ref pA, .int (nI ml), .int (nI me), .int pu, .int (nI de)])), (hA, .inl (cI, 400, .inl (aN hand))), (eA, .inr (1, [.ref wA, .ref sA, .ref lA, .int dl, .int (nI kept), .int (nI dr)])), (wA, .inl (cI, 2000, .inl (aN tx)))]) (wn := fun u => [(dA, .inr (0, [.ref hA, .int (nI n), .ref eA, .ref rA, .int (nI fa), .int fp, .int (nI op), .ref oA, .int (nI ol), .ref pA, .int (nI ml), .int (nI me), .int pu, .int (nI de)])), (hA, .inl (cI, 400, .inl (aN hand))), (eA, .inr (1, [.ref wA, .ref sA, .ref lA, .int dl, .int (nI kept), .int (nI dr)])), (wA, .inl (cI, 2000, .inl (aN tx))), (rA, .inr (2, [.int (nI st), .int (nI nm), .int (nI nu)]))]) C Z (c_Reader_isWithin l D cI cZ rA st nm nu (by first | assumption | omega)) k_Desk_115 rfl ⟨by rw [hR]; decide, by rw [hR]; decide⟩ ⟨rfl, rfl⟩ [4] [0, 1, 2, 3] [0, 1, 2, 3, 4] (by decide) rfl rfl (by decide) (by decide) (by decide) (fun _ => rfl) 4 rfl rfl hl.1 rfl (Nat.le_of_ble_eq_true rfl) d_Desk_draftText_64 ⟨Nat.zero_le _, Nat.zero_le _⟩ (fun r u H locs hp Z => ?_)
        obtain ⟨hp1, hp2⟩ := hp; have hp1 := hp1.symm; have hp2 := hp2.symm; subst hp1; subst hp2
        have Z : Wd D A s.heap [(dA, .inr (0, [.ref hA, .int (nI n), .ref eA, .ref rA, .int (nI fa), .int fp, .int (nI op), .ref oA, .int (nI ol), .ref pA, .int (nI ml), .int (nI me), .int pu, .int (nI de)])), (hA, .inl (cI, 400, .inl (aN hand))), (eA, .inr (1, [.ref wA, .ref sA, .ref lA, .int dl, .int (nI kept), .int (nI dr)])), (wA, .inl (cI, 2000, .inl (aN tx))), (rA, .inr (2, [.int (nI st), .int (nI nm), .int (nI nu)]))] H locs := Z
        refine r_zeq (tgt := 76) C d_Desk_draftText_67 (by decide) (by omega) (fun h67 => ?_) (fun h67 => ?_)
        · skip
          exact r_vret C Z (fa, fp, op, tx, dr, st, nm, nu) (by clear C Z hl; unfold dText; rw [← hX, ← hF]; unfold dEnd; dsimp only; first | rw [if_pos (by omega)] | rw [if_neg (by omega)]) rfl hQ d_Desk_draftText_76
        · skip
          refine lv_aload_n C.1 C.2.1 d_Desk_draftText_70 rfl (lv_at hl 1 rfl) ?_
          refine lv_iconst (v := nI 2) C.1 C.2.1 d_Desk_draftText_71 (by decide) ?_
          refine lv_iload_n C.1 C.2.1 d_Desk_draftText_72 rfl (lv_at hl 2 rfl) ?_
          refine r_callVv (rest := []) (wr := [(hA, .inl (cI, 400, .inl (aN hand))), (eA, .inr (1, [.ref wA, .ref sA, .ref lA, .int dl, .int (nI kept), .int (nI dr)])), (wA, .inl (cI, 2000, .inl (aN tx))), (rA, .inr (2, [.int (nI st), .int (nI nm), .int (nI nu)]))]) (wn := fun u => [(dA, .inr (0, [.ref hA, .int (nI n), .ref eA, .ref rA, .int (nI u.1), .int u.2, .int (nI op), .ref oA, .int (nI ol), .ref pA, .int (nI ml), .int (nI me), .int pu, .int (nI de)])), (hA, .inl (cI, 400, .inl (aN hand))), (eA, .inr (1, [.ref wA, .ref sA, .ref lA, .int dl, .int (nI kept), .int (nI dr)])), (wA, .inl (cI, 2000, .inl (aN tx))), (rA, .inr (2, [.int (nI st), .int (nI nm), .int (nI nu)]))]) C Z (c_Desk_fail l D cI cZ dA hA eA rA oA pA n fa fp op ol ml me pu de 2 (nI told)) k_Desk_108 rfl ⟨by rw [hR]; decide, by rw [hR]; decide⟩ ⟨rfl, rfl⟩ [0] [1, 2, 3, 4] [4, 0, 1, 2, 3] (by decide) rfl rfl (by decide) (by decide) (by decide) (fun _ => rfl) 0 rfl rfl hl.1 rfl (Nat.le_of_ble_eq_true rfl) d_Desk_draftText_73 ⟨Nat.zero_le _, Nat.zero_le _⟩ (fun u H locs hp Z => ?_)
          have hp := hp.symm; subst hp
          have Z : Wd D A s.heap [(dA, .inr (0, [.ref hA, .int (nI n), .ref eA, .ref rA, .int (nI 2), .int (nI told), .int (nI op), .ref oA, .int (nI ol), .ref pA, .int (nI ml), .int (nI me), .int pu, .int (nI de)])), (hA, .inl (cI, 400, .inl (aN hand))), (eA, .inr (1, [.ref wA, .ref sA, .ref lA, .int dl, .int (nI kept), .int (nI dr)])), (wA, .inl (cI, 2000, .inl (aN tx))), (rA, .inr (2, [.int (nI st), .int (nI nm), .int (nI nu)]))] H locs := Z
          exact r_vret C Z (2, nI told, op, tx, dr, st, nm, nu) (by clear C Z hl; unfold dText; rw [← hX, ← hF]; unfold dEnd; dsimp only; first | rw [if_pos (by omega)] | rw [if_neg (by omega)]) rfl hQ d_Desk_draftText_76
    | succ k ih =>
      intro i fa fp op tx dr st nm nu hik hdr hfa hst hnm hnu hF H locs ls Z hl
      refine lv_iload_n C.1 C.2.1 d_Desk_draftText_9 rfl (lv_at hl 0 rfl) ?_
      refine lv_iload_n C.1 C.2.1 d_Desk_draftText_10 rfl (lv_at hl 2 rfl) ?_
      refine r_ge (tgt := 53) C d_Desk_draftText_11 (by decide) (by omega) (by omega) (fun h11 => (by omega : False).elim) (fun h11 => ?_)
      refine lv_aload_n C.1 C.2.1 d_Desk_draftText_14 rfl (lv_at hl 1 rfl) ?_
      refine r_get C Z 0 f_Desk_31 rfl rfl d_Desk_draftText_15 ?_
      refine r_zne (tgt := 53) C d_Desk_draftText_18 (by decide) (by omega) (fun h18 => ?_) (fun h18 => ?_)
      · skip
        rw [dLoop, if_neg h18] at hF
        refine lv_aload_n C.1 C.2.1 d_Desk_draftText_53 rfl (lv_at hl 1 rfl) ?_
        refine r_get C Z 0 f_Desk_31 rfl rfl d_Desk_draftText_54 ?_
        refine r_zne (tgt := 76) C d_Desk_draftText_57 (by decide) (by omega) (fun h57 => ?_) (fun h57 => (by omega : False).elim)
        exact r_vret C Z (fa, fp, op, tx, dr, st, nm, nu) (by clear C Z hl; unfold dText; rw [← hX, ← hF]; unfold dEnd; dsimp only; first | rw [if_pos (by omega)] | rw [if_neg (by omega)]) rfl hQ d_Desk_draftText_76
      · skip
        refine lv_aload_n C.1 C.2.1 d_Desk_draftText_21 rfl (lv_at hl 1 rfl) ?_
        refine r_get C Z 0 f_Desk_27 rfl rfl d_Desk_draftText_22 ?_
        refine r_callNi (rest := []) (wr := [(dA, .inr (0, [.ref hA, .int (nI n), .ref eA, .ref rA, .int (nI fa), .int fp, .int (nI op), .ref oA, .int (nI ol), .ref pA, .int (nI ml), .int (nI me), .int pu, .int (nI de)])), (hA, .inl (cI, 400, .inl (aN hand))), (eA, .inr (1, [.ref wA, .ref sA, .ref lA, .int dl, .int (nI kept), .int (nI dr)])), (wA, .inl (cI, 2000, .inl (aN tx)))]) (wn := fun u => [(dA, .inr (0, [.ref hA, .int (nI n), .ref eA, .ref rA, .int (nI fa), .int fp, .int (nI op), .ref oA, .int (nI ol), .ref pA, .int (nI ml), .int (nI me), .int pu, .int (nI de)])), (hA, .inl (cI, 400, .inl (aN hand))), (eA, .inr (1, [.ref wA, .ref sA, .ref lA, .int dl, .int (nI kept), .int (nI dr)])), (wA, .inl (cI, 2000, .inl (aN tx))), (rA, .inr (2, [.int (nI st), .int (nI nm), .int (nI nu)]))]) C Z (c_Reader_isWithin l D cI cZ rA st nm nu (by first | assumption | omega)) k_Desk_115 rfl ⟨by rw [hR]; decide, by rw [hR]; decide⟩ ⟨rfl, rfl⟩ [4] [0, 1, 2, 3] [0, 1, 2, 3, 4] (by decide) rfl rfl (by decide) (by decide) (by decide) (fun _ => rfl) 4 rfl rfl hl.1 rfl (Nat.le_of_ble_eq_true rfl) d_Desk_draftText_25 ⟨Nat.zero_le _, Nat.zero_le _⟩ (fun r u H locs hp Z => ?_)
        obtain ⟨hp1, hp2⟩ := hp; have hp1 := hp1.symm; have hp2 := hp2.symm; subst hp1; subst hp2
        have Z : Wd D A s.heap [(dA, .inr (0, [.ref hA, .int (nI n), .ref eA, .ref rA, .int (nI fa), .int fp, .int (nI op), .ref oA, .int (nI ol), .ref pA, .int (nI ml), .int (nI me), .int pu, .int (nI de)])), (hA, .inl (cI, 400, .inl (aN hand))), (eA, .inr (1, [.ref wA, .ref sA, .ref lA, .int dl, .int (nI kept), .int (nI dr)])), (wA, .inl (cI, 2000, .inl (aN tx))), (rA, .inr (2, [.int (nI st), .int (nI nm), .int (nI nu)]))] H locs := Z
        refine r_zne (tgt := 36) C d_Desk_draftText_28 (by decide) (by omega) (fun h28 => ?_) (fun h28 => ?_)
        · skip
          refine lv_aload_n C.1 C.2.1 d_Desk_draftText_36 rfl (lv_at hl 1 rfl) ?_
          refine lv_aload_n C.1 C.2.1 d_Desk_draftText_37 rfl (lv_at hl 1 rfl) ?_
          refine r_get C Z 0 f_Desk_9 rfl rfl d_Desk_draftText_38 ?_
          refine lv_iload_n C.1 C.2.1 d_Desk_draftText_41 rfl (lv_at hl 0 rfl) ?_
          refine r_ildN C Z 1 rfl (by omega) (by decide) d_Desk_draftText_42 ?_
          refine lv_iload_n C.1 C.2.1 d_Desk_draftText_43 rfl (lv_at hl 0 rfl) ?_
          refine r_callVv (rest := []) (wr := [(hA, .inl (cI, 400, .inl (aN hand)))]) (wn := fun u => [(dA, .inr (0, [.ref hA, .int (nI n), .ref eA, .ref rA, .int (nI u.1), .int u.2.1, .int (nI op), .ref oA, .int (nI ol), .ref pA, .int (nI ml), .int (nI me), .int pu, .int (nI de)])), (hA, .inl (cI, 400, .inl (aN hand))), (eA, .inr (1, [.ref wA, .ref sA, .ref lA, .int dl, .int (nI kept), .int (nI u.2.2.2.1)])), (wA, .inl (cI, 2000, .inl (aN u.2.2.1))), (rA, .inr (2, [.int (nI u.2.2.2.2.1), .int (nI u.2.2.2.2.2.1), .int (nI u.2.2.2.2.2.2)]))]) C Z (c_Desk_draftCharacter l D cI cZ dA hA eA rA oA pA wA sA lA n fa fp op ol ml me pu de st nm nu dl kept dr tx (hand i) i (by first | assumption | omega) (by first | assumption | omega) (by first | assumption | omega) (hh _) (by first | assumption | omega) (by first | assumption | omega)) k_Desk_118 rfl ⟨by rw [hR]; decide, by rw [hR]; decide⟩ ⟨rfl, rfl⟩ [0, 2, 3, 4] [1] [1, 0, 2, 3, 4] (by decide) rfl rfl (by decide) (by decide) (by decide) (fun _ => rfl) 0 rfl rfl hl.1 rfl (Nat.le_of_ble_eq_true rfl) d_Desk_draftText_44 ⟨Nat.zero_le _, Nat.zero_le _⟩ (fun u H locs hp Z => ?_)
          have hp := hp.symm; subst hp
          have Z : Wd D A s.heap [(dA, .inr (0, [.ref hA, .int (nI n), .ref eA, .ref rA, .int (nI (fltK (rdP st nm nu (hand i)).1 fa)), .int (fltP (rdP st nm nu (hand i)).1 i op fp), .int (nI op), .ref oA, .int (nI ol), .ref pA, .int (nI ml), .int (nI me), .int pu, .int (nI de)])), (hA, .inl (cI, 400, .inl (aN hand))), (eA, .inr (1, [.ref wA, .ref sA, .ref lA, .int dl, .int (nI kept), .int (nI (dcN (rdP st nm nu (hand i)).1 dr))])), (wA, .inl (cI, 2000, .inl (aN (dcX (rdP st nm nu (hand i)).1 (hand i) (rdP st nm nu (hand i)).2.2.1 (rdP st nm nu (hand i)).2.2.2 kept dr tx)))), (rA, .inr (2, [.int (nI ((rdP st nm nu (hand i)).2.1)), .int (nI ((rdP st nm nu (hand i)).2.2.1)), .int (nI ((rdP st nm nu (hand i)).2.2.2))]))] H locs := Z
          refine lv_iinc (v := nI (i + 1)) (lv' := [(2, .int (nI (i + 1))), (0, .ref dA), (1, .int (nI told))]) C.1 C.2.1 d_Desk_draftText_47 hl (k := 0) rfl (r_inc1 _) (by decide) rfl (fun ls hl => ?_)
          refine lv_goto (tgt := 9) C.1 C.2.1 d_Desk_draftText_50 (by decide) ?_
          have hO : dOp st i op = op := by unfold dOp; first | rw [if_pos (by omega)] | rw [if_neg (by omega)]
          have hok := rdP_ok (c := hand i) hst hnm hnu
          have hdn := dcN_le (rdP st nm nu (hand i)).1 dr
          exact ih (i + 1) (fltK (rdP st nm nu (hand i)).1 fa) (fltP (rdP st nm nu (hand i)).1 i op fp) op (dcX (rdP st nm nu (hand i)).1 (hand i) (rdP st nm nu (hand i)).2.2.1 (rdP st nm nu (hand i)).2.2.2 kept dr tx) (dcN (rdP st nm nu (hand i)).1 dr) ((rdP st nm nu (hand i)).2.1) ((rdP st nm nu (hand i)).2.2.1) ((rdP st nm nu (hand i)).2.2.2) (by omega) (by omega) (fltK_le hfa) hok.2.1 hok.2.2.1 hok.2.2.2 (by rw [← hF, dLoop, if_pos h18]; dsimp only [dStep]; rw [hO]) _ _ _ Z hl
        · skip
          refine lv_aload_n C.1 C.2.1 d_Desk_draftText_31 rfl (lv_at hl 1 rfl) ?_
          refine lv_iload_n C.1 C.2.1 d_Desk_draftText_32 rfl (lv_at hl 0 rfl) ?_
          refine r_put (ws' := [(dA, .inr (0, [.ref hA, .int (nI n), .ref eA, .ref rA, .int (nI fa), .int fp, .int (nI i), .ref oA, .int (nI ol), .ref pA, .int (nI ml), .int (nI me), .int pu, .int (nI de)])), (hA, .inl (cI, 400, .inl (aN hand))), (eA, .inr (1, [.ref wA, .ref sA, .ref lA, .int dl, .int (nI kept), .int (nI dr)])), (wA, .inl (cI, 2000, .inl (aN tx))), (rA, .inr (2, [.int (nI st), .int (nI nm), .int (nI nu)]))]) C Z 0 f_Desk_37 rfl rfl rfl (Nat.le_of_ble_eq_true rfl) rfl d_Desk_draftText_33 (fun H locs Z => ?_)
          refine lv_aload_n C.1 C.2.1 d_Desk_draftText_36 rfl (lv_at hl 1 rfl) ?_
          refine lv_aload_n C.1 C.2.1 d_Desk_draftText_37 rfl (lv_at hl 1 rfl) ?_
          refine r_get C Z 0 f_Desk_9 rfl rfl d_Desk_draftText_38 ?_
          refine lv_iload_n C.1 C.2.1 d_Desk_draftText_41 rfl (lv_at hl 0 rfl) ?_
          refine r_ildN C Z 1 rfl (by omega) (by decide) d_Desk_draftText_42 ?_
          refine lv_iload_n C.1 C.2.1 d_Desk_draftText_43 rfl (lv_at hl 0 rfl) ?_
          refine r_callVv (rest := []) (wr := [(hA, .inl (cI, 400, .inl (aN hand)))]) (wn := fun u => [(dA, .inr (0, [.ref hA, .int (nI n), .ref eA, .ref rA, .int (nI u.1), .int u.2.1, .int (nI i), .ref oA, .int (nI ol), .ref pA, .int (nI ml), .int (nI me), .int pu, .int (nI de)])), (hA, .inl (cI, 400, .inl (aN hand))), (eA, .inr (1, [.ref wA, .ref sA, .ref lA, .int dl, .int (nI kept), .int (nI u.2.2.2.1)])), (wA, .inl (cI, 2000, .inl (aN u.2.2.1))), (rA, .inr (2, [.int (nI u.2.2.2.2.1), .int (nI u.2.2.2.2.2.1), .int (nI u.2.2.2.2.2.2)]))]) C Z (c_Desk_draftCharacter l D cI cZ dA hA eA rA oA pA wA sA lA n fa fp i ol ml me pu de st nm nu dl kept dr tx (hand i) i (by first | assumption | omega) (by first | assumption | omega) (by first | assumption | omega) (hh _) (by first | assumption | omega) (by first | assumption | omega)) k_Desk_118 rfl ⟨by rw [hR]; decide, by rw [hR]; decide⟩ ⟨rfl, rfl⟩ [0, 2, 3, 4] [1] [1, 0, 2, 3, 4] (by decide) rfl rfl (by decide) (by decide) (by decide) (fun _ => rfl) 0 rfl rfl hl.1 rfl (Nat.le_of_ble_eq_true rfl) d_Desk_draftText_44 ⟨Nat.zero_le _, Nat.zero_le _⟩ (fun u H locs hp Z => ?_)
          have hp := hp.symm; subst hp
          have Z : Wd D A s.heap [(dA, .inr (0, [.ref hA, .int (nI n), .ref eA, .ref rA, .int (nI (fltK (rdP st nm nu (hand i)).1 fa)), .int (fltP (rdP st nm nu (hand i)).1 i i fp), .int (nI i), .ref oA, .int (nI ol), .ref pA, .int (nI ml), .int (nI me), .int pu, .int (nI de)])), (hA, .inl (cI, 400, .inl (aN hand))), (eA, .inr (1, [.ref wA, .ref sA, .ref lA, .int dl, .int (nI kept), .int (nI (dcN (rdP st nm nu (hand i)).1 dr))])), (wA, .inl (cI, 2000, .inl (aN (dcX (rdP st nm nu (hand i)).1 (hand i) (rdP st nm nu (hand i)).2.2.1 (rdP st nm nu (hand i)).2.2.2 kept dr tx)))), (rA, .inr (2, [.int (nI ((rdP st nm nu (hand i)).2.1)), .int (nI ((rdP st nm nu (hand i)).2.2.1)), .int (nI ((rdP st nm nu (hand i)).2.2.2))]))] H locs := Z
          refine lv_iinc (v := nI (i + 1)) (lv' := [(2, .int (nI (i + 1))), (0, .ref dA), (1, .int (nI told))]) C.1 C.2.1 d_Desk_draftText_47 hl (k := 0) rfl (r_inc1 _) (by decide) rfl (fun ls hl => ?_)
          refine lv_goto (tgt := 9) C.1 C.2.1 d_Desk_draftText_50 (by decide) ?_
          have hO : dOp st i op = i := by unfold dOp; first | rw [if_pos (by omega)] | rw [if_neg (by omega)]
          have hok := rdP_ok (c := hand i) hst hnm hnu
          have hdn := dcN_le (rdP st nm nu (hand i)).1 dr
          exact ih (i + 1) (fltK (rdP st nm nu (hand i)).1 fa) (fltP (rdP st nm nu (hand i)).1 i i fp) i (dcX (rdP st nm nu (hand i)).1 (hand i) (rdP st nm nu (hand i)).2.2.1 (rdP st nm nu (hand i)).2.2.2 kept dr tx) (dcN (rdP st nm nu (hand i)).1 dr) ((rdP st nm nu (hand i)).2.1) ((rdP st nm nu (hand i)).2.2.1) ((rdP st nm nu (hand i)).2.2.2) (by omega) (by omega) (fltK_le hfa) hok.2.1 hok.2.2.1 hok.2.2.2 (by rw [← hF, dLoop, if_pos h18]; dsimp only [dStep]; rw [hO]) _ _ _ Z hl
  exact loop told 0 fa fp op tx 0 st nm nu (by omega) (by omega) hfa hst hnm hnu hX.symm _ _ _ Z hl
end
section
/-- goInto, with d levels left -/
def GI (l : Launch) (D : va_G) (cI cZ : ClassId) (d : Nat) : Prop := ∀ (dA hA eA rA oA pA wA sA lA : Nat) (n : Nat) (fa : Nat) (fp : Int32) (op : Nat) (ol : Nat) (ml : Nat) (me : Nat) (pu : Int32) (de : Nat) (st : Nat) (nm : Nat) (nu : Nat) (dl : Int32) (kept : Nat) (dr : Nat) (tx : Nat → Nat) (sf : Nat → Nat) (ln : Nat → Nat) (hand : Nat → Nat) (out : Nat → Nat) (opn : Nat → Nat) (k : Nat) (y : Nat) (hE : gEnv tx sf ln ml) (hS : gOk (fa, fp, op, out, ol, me, pu, de, opn, st, nm, nu)) (hk : k < 26) (hy : y + d = 13) (hy0 : 0 < y), Mv l y_Desk_goInto b_Desk_goInto 5 ({ frames := 3 + 3 * d, cells := 0, slots := 0, locals := 65 + 73 * d } : Room) D cI cZ [.ref dA, .int (nI k), .int (nI y)] [(dA, .inr (0, [.ref hA, .int (nI n), .ref eA, .ref rA, .int (nI fa), .int fp, .int (nI op), .ref oA, .int (nI ol), .ref pA, .int (nI ml), .int (nI me), .int pu, .int (nI de)])), (hA, .inl (cI, 400, .inl (aN hand))), (eA, .inr (1, [.ref wA, .ref sA, .ref lA, .int dl, .int (nI kept), .int (nI dr)])), (wA, .inl (cI, 2000, .inl (aN tx))), (sA, .inl (cI, 26, .inl (aN sf))), (lA, .inl (cI, 26, .inl (aM ln))), (rA, .inr (2, [.int (nI st), .int (nI nm), .int (nI nu)])), (oA, .inl (cI, 3000, .inl (aN out))), (pA, .inl (cZ, 26, .inl (aN opn)))] (fun u : Nat × Int32 × Nat × (Nat → Nat) × Nat × Nat × Int32 × Nat × (Nat → Nat) × Nat × Nat × Nat => u = gInto tx sf ln ml d k (fa, fp, op, out, ol, me, pu, de, opn, st, nm, nu)) (fun u : Nat × Int32 × Nat × (Nat → Nat) × Nat × Nat × Int32 × Nat × (Nat → Nat) × Nat × Nat × Nat => [(dA, .inr (0, [.ref hA, .int (nI n), .ref eA, .ref rA, .int (nI u.1), .int u.2.1, .int (nI u.2.2.1), .ref oA, .int (nI u.2.2.2.2.1), .ref pA, .int (nI ml), .int (nI u.2.2.2.2.2.1), .int u.2.2.2.2.2.2.1, .int (nI u.2.2.2.2.2.2.2.1)])), (hA, .inl (cI, 400, .inl (aN hand))), (eA, .inr (1, [.ref wA, .ref sA, .ref lA, .int dl, .int (nI kept), .int (nI dr)])), (wA, .inl (cI, 2000, .inl (aN tx))), (sA, .inl (cI, 26, .inl (aN sf))), (lA, .inl (cI, 26, .inl (aM ln))), (rA, .inr (2, [.int (nI u.2.2.2.2.2.2.2.2.2.1), .int (nI u.2.2.2.2.2.2.2.2.2.2.1), .int (nI u.2.2.2.2.2.2.2.2.2.2.2)])), (oA, .inl (cI, 3000, .inl (aN u.2.2.2.1))), (pA, .inl (cZ, 26, .inl (aN u.2.2.2.2.2.2.2.2.1)))]) 0 0
/-- goOverCharacter, with d levels left -/
def GC (l : Launch) (D : va_G) (cI cZ : ClassId) (d : Nat) : Prop := ∀ (dA hA eA rA oA pA wA sA lA : Nat) (n : Nat) (fa : Nat) (fp : Int32) (op : Nat) (ol : Nat) (ml : Nat) (me : Nat) (pu : Int32) (de : Nat) (st : Nat) (nm : Nat) (nu : Nat) (dl : Int32) (kept : Nat) (dr : Nat) (tx : Nat → Nat) (sf : Nat → Nat) (ln : Nat → Nat) (hand : Nat → Nat) (out : Nat → Nat) (opn : Nat → Nat) (c : Nat) (x : Nat) (y : Nat) (hE : gEnv tx sf ln ml) (hS : gOk (fa, fp, op, out, ol, me, pu, de, opn, st, nm, nu)) (hc : c < 256) (hy : y + d = 12), Mv l y_Desk_goOverCharacter b_Desk_goOverCharacter 5 ({ frames := 4 + 3 * d, cells := 0, slots := 0, locals := 89 + 73 * d } : Room) D cI cZ [.ref dA, .int (nI c), .int (nI x), .int (nI y)] [(dA, .inr (0, [.ref hA, .int (nI n), .ref eA, .ref rA, .int (nI fa), .int fp, .int (nI op), .ref oA, .int (nI ol), .ref pA, .int (nI ml), .int (nI me), .int pu, .int (nI de)])), (hA, .inl (cI, 400, .inl (aN hand))), (eA, .inr (1, [.ref wA, .ref sA, .ref lA, .int dl, .int (nI kept), .int (nI dr)])), (wA, .inl (cI, 2000, .inl (aN tx))), (sA, .inl (cI, 26, .inl (aN sf))), (lA, .inl (cI, 26, .inl (aM ln))), (rA, .inr (2, [.int (nI st), .int (nI nm), .int (nI nu)])), (oA, .inl (cI, 3000, .inl (aN out))), (pA, .inl (cZ, 26, .inl (aN opn)))] (fun u : Nat × Int32 × Nat × (Nat → Nat) × Nat × Nat × Int32 × Nat × (Nat → Nat) × Nat × Nat × Nat => u = gChar (gInto tx sf ln ml d) c x (fa, fp, op, out, ol, me, pu, de, opn, st, nm, nu)) (fun u : Nat × Int32 × Nat × (Nat → Nat) × Nat × Nat × Int32 × Nat × (Nat → Nat) × Nat × Nat × Nat => [(dA, .inr (0, [.ref hA, .int (nI n), .ref eA, .ref rA, .int (nI u.1), .int u.2.1, .int (nI u.2.2.1), .ref oA, .int (nI u.2.2.2.2.1), .ref pA, .int (nI ml), .int (nI u.2.2.2.2.2.1), .int u.2.2.2.2.2.2.1, .int (nI u.2.2.2.2.2.2.2.1)])), (hA, .inl (cI, 400, .inl (aN hand))), (eA, .inr (1, [.ref wA, .ref sA, .ref lA, .int dl, .int (nI kept), .int (nI dr)])), (wA, .inl (cI, 2000, .inl (aN tx))), (sA, .inl (cI, 26, .inl (aN sf))), (lA, .inl (cI, 26, .inl (aM ln))), (rA, .inr (2, [.int (nI u.2.2.2.2.2.2.2.2.2.1), .int (nI u.2.2.2.2.2.2.2.2.2.2.1), .int (nI u.2.2.2.2.2.2.2.2.2.2.2)])), (oA, .inl (cI, 3000, .inl (aN u.2.2.2.1))), (pA, .inl (cZ, 26, .inl (aN u.2.2.2.2.2.2.2.2.1)))]) 0 0
/-- goOver, with d levels left -/
def GO (l : Launch) (D : va_G) (cI cZ : ClassId) (d : Nat) : Prop := ∀ (dA hA eA rA oA pA wA sA lA : Nat) (n : Nat) (fa : Nat) (fp : Int32) (op : Nat) (ol : Nat) (ml : Nat) (me : Nat) (pu : Int32) (de : Nat) (st : Nat) (nm : Nat) (nu : Nat) (dl : Int32) (kept : Nat) (dr : Nat) (tx : Nat → Nat) (sf : Nat → Nat) (ln : Nat → Nat) (hand : Nat → Nat) (out : Nat → Nat) (opn : Nat → Nat) (fr : Nat) (to : Nat) (x : Nat) (hE : gEnv tx sf ln ml) (hS : gOk (fa, fp, op, out, ol, me, pu, de, opn, st, nm, nu)) (hx : x + d = 12) (hx0 : 0 < x) (hft : fr ≤ to) (hto : to ≤ 2000), Mv l y_Desk_goOver b_Desk_goOver 6 ({ frames := 5 + 3 * d, cells := 0, slots := 0, locals := 113 + 73 * d } : Room) D cI cZ [.ref dA, .ref wA, .int (nI fr), .int (nI to), .int (nI x)] [(dA, .inr (0, [.ref hA, .int (nI n), .ref eA, .ref rA, .int (nI fa), .int fp, .int (nI op), .ref oA, .int (nI ol), .ref pA, .int (nI ml), .int (nI me), .int pu, .int (nI de)])), (hA, .inl (cI, 400, .inl (aN hand))), (eA, .inr (1, [.ref wA, .ref sA, .ref lA, .int dl, .int (nI kept), .int (nI dr)])), (wA, .inl (cI, 2000, .inl (aN tx))), (sA, .inl (cI, 26, .inl (aN sf))), (lA, .inl (cI, 26, .inl (aM ln))), (rA, .inr (2, [.int (nI st), .int (nI nm), .int (nI nu)])), (oA, .inl (cI, 3000, .inl (aN out))), (pA, .inl (cZ, 26, .inl (aN opn)))] (fun u : Nat × Int32 × Nat × (Nat → Nat) × Nat × Nat × Int32 × Nat × (Nat → Nat) × Nat × Nat × Nat => u = gOver (gInto tx sf ln ml d) x tx fr to (fa, fp, op, out, ol, me, pu, de, opn, st, nm, nu)) (fun u : Nat × Int32 × Nat × (Nat → Nat) × Nat × Nat × Int32 × Nat × (Nat → Nat) × Nat × Nat × Nat => [(dA, .inr (0, [.ref hA, .int (nI n), .ref eA, .ref rA, .int (nI u.1), .int u.2.1, .int (nI u.2.2.1), .ref oA, .int (nI u.2.2.2.2.1), .ref pA, .int (nI ml), .int (nI u.2.2.2.2.2.1), .int u.2.2.2.2.2.2.1, .int (nI u.2.2.2.2.2.2.2.1)])), (hA, .inl (cI, 400, .inl (aN hand))), (eA, .inr (1, [.ref wA, .ref sA, .ref lA, .int dl, .int (nI kept), .int (nI dr)])), (wA, .inl (cI, 2000, .inl (aN tx))), (sA, .inl (cI, 26, .inl (aN sf))), (lA, .inl (cI, 26, .inl (aM ln))), (rA, .inr (2, [.int (nI u.2.2.2.2.2.2.2.2.2.1), .int (nI u.2.2.2.2.2.2.2.2.2.2.1), .int (nI u.2.2.2.2.2.2.2.2.2.2.2)])), (oA, .inl (cI, 3000, .inl (aN u.2.2.2.1))), (pA, .inl (cZ, 26, .inl (aN u.2.2.2.2.2.2.2.2.1)))]) 0 0
/-- goOver, with d levels left -/
def GZ (l : Launch) (D : va_G) (cI cZ : ClassId) (d : Nat) : Prop := ∀ (dA hA eA rA oA pA wA sA lA : Nat) (n : Nat) (fa : Nat) (fp : Int32) (op : Nat) (ol : Nat) (ml : Nat) (me : Nat) (pu : Int32) (de : Nat) (st : Nat) (nm : Nat) (nu : Nat) (dl : Int32) (kept : Nat) (dr : Nat) (tx : Nat → Nat) (sf : Nat → Nat) (ln : Nat → Nat) (hand : Nat → Nat) (out : Nat → Nat) (opn : Nat → Nat) (fr : Nat) (to : Nat) (hE : gEnv tx sf ln ml) (hS : gOk (fa, fp, op, out, ol, me, pu, de, opn, st, nm, nu)) (hd : d = 12) (hft : fr ≤ to) (hto : to ≤ 400) (hh : ∀ j, hand j < 256), Mv l y_Desk_goOver b_Desk_goOver 6 ({ frames := 5 + 3 * d, cells := 0, slots := 0, locals := 113 + 73 * d } : Room) D cI cZ [.ref dA, .ref hA, .int (nI fr), .int (nI to), .int (nI 0)] [(dA, .inr (0, [.ref hA, .int (nI n), .ref eA, .ref rA, .int (nI fa), .int fp, .int (nI op), .ref oA, .int (nI ol), .ref pA, .int (nI ml), .int (nI me), .int pu, .int (nI de)])), (hA, .inl (cI, 400, .inl (aN hand))), (eA, .inr (1, [.ref wA, .ref sA, .ref lA, .int dl, .int (nI kept), .int (nI dr)])), (wA, .inl (cI, 2000, .inl (aN tx))), (sA, .inl (cI, 26, .inl (aN sf))), (lA, .inl (cI, 26, .inl (aM ln))), (rA, .inr (2, [.int (nI st), .int (nI nm), .int (nI nu)])), (oA, .inl (cI, 3000, .inl (aN out))), (pA, .inl (cZ, 26, .inl (aN opn)))] (fun u : Nat × Int32 × Nat × (Nat → Nat) × Nat × Nat × Int32 × Nat × (Nat → Nat) × Nat × Nat × Nat => u = gOver (gInto tx sf ln ml d) 0 hand fr to (fa, fp, op, out, ol, me, pu, de, opn, st, nm, nu)) (fun u : Nat × Int32 × Nat × (Nat → Nat) × Nat × Nat × Int32 × Nat × (Nat → Nat) × Nat × Nat × Nat => [(dA, .inr (0, [.ref hA, .int (nI n), .ref eA, .ref rA, .int (nI u.1), .int u.2.1, .int (nI u.2.2.1), .ref oA, .int (nI u.2.2.2.2.1), .ref pA, .int (nI ml), .int (nI u.2.2.2.2.2.1), .int u.2.2.2.2.2.2.1, .int (nI u.2.2.2.2.2.2.2.1)])), (hA, .inl (cI, 400, .inl (aN hand))), (eA, .inr (1, [.ref wA, .ref sA, .ref lA, .int dl, .int (nI kept), .int (nI dr)])), (wA, .inl (cI, 2000, .inl (aN tx))), (sA, .inl (cI, 26, .inl (aN sf))), (lA, .inl (cI, 26, .inl (aM ln))), (rA, .inr (2, [.int (nI u.2.2.2.2.2.2.2.2.2.1), .int (nI u.2.2.2.2.2.2.2.2.2.2.1), .int (nI u.2.2.2.2.2.2.2.2.2.2.2)])), (oA, .inl (cI, 3000, .inl (aN u.2.2.2.1))), (pA, .inl (cZ, 26, .inl (aN u.2.2.2.2.2.2.2.2.1)))]) 0 0
set_option maxHeartbeats 8000000 in
set_option maxRecDepth 100000 in
/-- goOverCharacter -/
theorem GC_of (l : Launch) (D : va_G) (cI cZ : ClassId) (d : Nat) (hI : GI l D cI cZ d) : GC l D cI cZ d := by
  intro dA hA eA rA oA pA wA sA lA n fa fp op ol ml me pu de st nm nu dl kept dr tx sf ln hand out opn c x y hE hS hc hy
  refine Mv.intro (by decide) (Nat.le_of_ble_eq_true rfl) ?_
  intro p e s m args below meth cd A ls R Q hR hQ C hin Z hl
  have hl : lv_has ls 5 [(0, .ref dA), (1, .int (nI c)), (2, .int (nI x)), (3, .int (nI y))] := hl
  have hS0 := id hS
  obtain ⟨hfa, hol, hme, hde, hst, hnm, hnu, hop⟩ := hS0
  obtain ⟨htx, hsf, hln, hml⟩ := id hE
  have hw := rdP_ok (c := c) hst hnm hnu
  refine lv_aload_n C.1 C.2.1 d_Desk_goOverCharacter_0 rfl (lv_at hl 0 rfl) ?_
  refine lv_iload_n C.1 C.2.1 d_Desk_goOverCharacter_1 rfl (lv_at hl 1 rfl) ?_
  refine lv_iload_n C.1 C.2.1 d_Desk_goOverCharacter_2 rfl (lv_at hl 2 rfl) ?_
  refine r_callVi (rest := []) (wr := [(hA, .inl (cI, 400, .inl (aN hand))), (eA, .inr (1, [.ref wA, .ref sA, .ref lA, .int dl, .int (nI kept), .int (nI dr)])), (wA, .inl (cI, 2000, .inl (aN tx))), (sA, .inl (cI, 26, .inl (aN sf))), (lA, .inl (cI, 26, .inl (aM ln))), (oA, .inl (cI, 3000, .inl (aN out))), (pA, .inl (cZ, 26, .inl (aN opn)))]) (wn := fun u => [(dA, .inr (0, [.ref hA, .int (nI n), .ref eA, .ref rA, .int (nI u.1), .int u.2.1, .int (nI op), .ref oA, .int (nI ol), .ref pA, .int (nI ml), .int (nI me), .int pu, .int (nI de)])), (hA, .inl (cI, 400, .inl (aN hand))), (eA, .inr (1, [.ref wA, .ref sA, .ref lA, .int dl, .int (nI kept), .int (nI dr)])), (wA, .inl (cI, 2000, .inl (aN tx))), (sA, .inl (cI, 26, .inl (aN sf))), (lA, .inl (cI, 26, .inl (aM ln))), (rA, .inr (2, [.int (nI u.2.2.1), .int (nI u.2.2.2.1), .int (nI u.2.2.2.2)])), (oA, .inl (cI, 3000, .inl (aN out))), (pA, .inl (cZ, 26, .inl (aN opn)))]) C Z (c_Desk_readOn l D cI cZ dA hA eA rA oA pA n fa fp op ol ml me pu de st nm nu c x (by first | assumption | omega) (by first | assumption | omega) (by first | assumption | omega) (by first | assumption | omega)) k_Desk_121 rfl ⟨by rw [hR]; dsimp only; omega, by rw [hR]; dsimp only; omega⟩ ⟨rfl, rfl⟩ [0, 6] [1, 2, 3, 4, 5, 7, 8] [7, 0, 1, 2, 3, 4, 8, 5, 6] (by decide) rfl rfl (by decide) (by decide) (by decide) (fun _ => rfl) 0 rfl rfl hl.1 rfl (Nat.le_of_ble_eq_true rfl) d_Desk_goOverCharacter_3 ⟨Nat.zero_le _, Nat.zero_le _⟩ (fun r u H locs hp Z => ?_)
  obtain ⟨hp1, hp2⟩ := hp; have hp1 := hp1.symm; have hp2 := hp2.symm; subst hp1; subst hp2
  have Z : Wd D A s.heap [(dA, .inr (0, [.ref hA, .int (nI n), .ref eA, .ref rA, .int (nI (fltK (rdP st nm nu c).1 fa)), .int (fltP (rdP st nm nu c).1 x op fp), .int (nI op), .ref oA, .int (nI ol), .ref pA, .int (nI ml), .int (nI me), .int pu, .int (nI de)])), (hA, .inl (cI, 400, .inl (aN hand))), (eA, .inr (1, [.ref wA, .ref sA, .ref lA, .int dl, .int (nI kept), .int (nI dr)])), (wA, .inl (cI, 2000, .inl (aN tx))), (sA, .inl (cI, 26, .inl (aN sf))), (lA, .inl (cI, 26, .inl (aM ln))), (rA, .inr (2, [.int (nI ((rdP st nm nu c).2.1)), .int (nI ((rdP st nm nu c).2.2.1)), .int (nI ((rdP st nm nu c).2.2.2))])), (oA, .inl (cI, 3000, .inl (aN out))), (pA, .inl (cZ, 26, .inl (aN opn)))] H locs := Z
  refine lv_istore (lv' := [(4, .int (nI ((rdP st nm nu c).1))), (0, .ref dA), (1, .int (nI c)), (2, .int (nI x)), (3, .int (nI y))]) C.1 C.2.1 d_Desk_goOverCharacter_6 hl (by decide) rfl (fun ls hl => ?_)
  refine lv_iload C.1 C.2.1 d_Desk_goOverCharacter_8 (lv_at hl 0 rfl) ?_
  refine r_zne (tgt := 21) C d_Desk_goOverCharacter_10 (by decide) (by omega) (fun h10 => ?_) (fun h10 => ?_)
  · skip
    refine lv_iload C.1 C.2.1 d_Desk_goOverCharacter_21 (lv_at hl 0 rfl) ?_
    refine lv_iconst (v := nI 2) C.1 C.2.1 d_Desk_goOverCharacter_23 (by decide) ?_
    refine r_ne (tgt := 41) C d_Desk_goOverCharacter_24 (by decide) (by omega) (by omega) (fun h24 => ?_) (fun h24 => ?_)
    · skip
      refine lv_iload C.1 C.2.1 d_Desk_goOverCharacter_41 (lv_at hl 0 rfl) ?_
      refine lv_iconst (v := nI 3) C.1 C.2.1 d_Desk_goOverCharacter_43 (by decide) ?_
      refine r_ne (tgt := 61) C d_Desk_goOverCharacter_44 (by decide) (by omega) (by omega) (fun h44 => ?_) (fun h44 => ?_)
      · skip
        exact r_vret C Z (fltK (rdP st nm nu c).1 fa, fltP (rdP st nm nu c).1 x op fp, op, out, ol, me, pu, de, opn, (rdP st nm nu c).2.1, (rdP st nm nu c).2.2.1, (rdP st nm nu c).2.2.2) (by clear C Z hl; rw [gChar, if_neg (show ¬ (gRd c (fa, fp, op, out, ol, me, pu, de, opn, st, nm, nu)).1 = 0 from h10), if_neg (show ¬ (gRd c (fa, fp, op, out, ol, me, pu, de, opn, st, nm, nu)).1 = 2 from h24), if_neg (show ¬ (gRd c (fa, fp, op, out, ol, me, pu, de, opn, st, nm, nu)).1 = 3 from h44)]; rfl) rfl hQ d_Desk_goOverCharacter_61
      · skip
        refine lv_aload_n C.1 C.2.1 d_Desk_goOverCharacter_47 rfl (lv_at hl 1 rfl) ?_
        refine lv_aload_n C.1 C.2.1 d_Desk_goOverCharacter_48 rfl (lv_at hl 1 rfl) ?_
        refine r_get C Z 0 f_Desk_27 rfl rfl d_Desk_goOverCharacter_49 ?_
        refine r_getN C Z 6 f_Desk_130 rfl rfl d_Desk_goOverCharacter_52 ?_
        refine lv_iload_n C.1 C.2.1 d_Desk_goOverCharacter_55 rfl (lv_at hl 4 rfl) ?_
        refine lv_iconst (v := nI 1) C.1 C.2.1 d_Desk_goOverCharacter_56 (by decide) ?_
        refine r_add C d_Desk_goOverCharacter_57 ?_
        refine r_callVv (rest := []) (wr := []) (wn := fun u => [(dA, .inr (0, [.ref hA, .int (nI n), .ref eA, .ref rA, .int (nI u.1), .int u.2.1, .int (nI u.2.2.1), .ref oA, .int (nI u.2.2.2.2.1), .ref pA, .int (nI ml), .int (nI u.2.2.2.2.2.1), .int u.2.2.2.2.2.2.1, .int (nI u.2.2.2.2.2.2.2.1)])), (hA, .inl (cI, 400, .inl (aN hand))), (eA, .inr (1, [.ref wA, .ref sA, .ref lA, .int dl, .int (nI kept), .int (nI dr)])), (wA, .inl (cI, 2000, .inl (aN tx))), (sA, .inl (cI, 26, .inl (aN sf))), (lA, .inl (cI, 26, .inl (aM ln))), (rA, .inr (2, [.int (nI u.2.2.2.2.2.2.2.2.2.1), .int (nI u.2.2.2.2.2.2.2.2.2.2.1), .int (nI u.2.2.2.2.2.2.2.2.2.2.2)])), (oA, .inl (cI, 3000, .inl (aN u.2.2.2.1))), (pA, .inl (cZ, 26, .inl (aN u.2.2.2.2.2.2.2.2.1)))]) C Z (hI dA hA eA rA oA pA wA sA lA n (fltK (rdP st nm nu c).1 fa) (fltP (rdP st nm nu c).1 x op fp) op ol ml me pu de ((rdP st nm nu c).2.1) ((rdP st nm nu c).2.2.1) ((rdP st nm nu c).2.2.2) dl kept dr tx sf ln hand out opn ((rdP st nm nu c).2.2.1) (y + 1) hE (gOk_read (c := c) (x := x) hS) hw.2.2.1 (by omega) (by first | assumption | omega)) k_Desk_140 rfl ⟨by rw [hR]; dsimp only; omega, by rw [hR]; dsimp only; omega⟩ ⟨rfl, rfl⟩ [0, 1, 2, 3, 4, 5, 6, 7, 8] [] [0, 1, 2, 3, 4, 5, 6, 7, 8] (by decide) rfl rfl (by decide) (by decide) (by decide) (fun _ => rfl) 0 rfl rfl hl.1 rfl (Nat.le_of_ble_eq_true rfl) d_Desk_goOverCharacter_58 ⟨Nat.zero_le _, Nat.zero_le _⟩ (fun u H locs hp Z => ?_)
        obtain ⟨fa1, fp1, op1, out1, ol1, me1, pu1, de1, opn1, st1, nm1, nu1⟩ := u
        have e1 : (fa1, fp1, op1, out1, ol1, me1, pu1, de1, opn1, st1, nm1, nu1) = gInto tx sf ln ml d ((rdP st nm nu c).2.2.1) ((fltK (rdP st nm nu c).1 fa), (fltP (rdP st nm nu c).1 x op fp), op, out, ol, me, pu, de, opn, ((rdP st nm nu c).2.1), ((rdP st nm nu c).2.2.1), ((rdP st nm nu c).2.2.2)) := hp
        have Z : Wd D A s.heap [(dA, .inr (0, [.ref hA, .int (nI n), .ref eA, .ref rA, .int (nI fa1), .int fp1, .int (nI op1), .ref oA, .int (nI ol1), .ref pA, .int (nI ml), .int (nI me1), .int pu1, .int (nI de1)])), (hA, .inl (cI, 400, .inl (aN hand))), (eA, .inr (1, [.ref wA, .ref sA, .ref lA, .int dl, .int (nI kept), .int (nI dr)])), (wA, .inl (cI, 2000, .inl (aN tx))), (sA, .inl (cI, 26, .inl (aN sf))), (lA, .inl (cI, 26, .inl (aM ln))), (rA, .inr (2, [.int (nI st1), .int (nI nm1), .int (nI nu1)])), (oA, .inl (cI, 3000, .inl (aN out1))), (pA, .inl (cZ, 26, .inl (aN opn1)))] H locs := Z
        exact r_vret C Z (fa1, fp1, op1, out1, ol1, me1, pu1, de1, opn1, st1, nm1, nu1) (by clear C Z hl; rw [e1]; rw [gChar, if_neg (show ¬ (gRd c (fa, fp, op, out, ol, me, pu, de, opn, st, nm, nu)).1 = 0 from h10), if_neg (show ¬ (gRd c (fa, fp, op, out, ol, me, pu, de, opn, st, nm, nu)).1 = 2 from h24), if_pos (show (gRd c (fa, fp, op, out, ol, me, pu, de, opn, st, nm, nu)).1 = 3 from h44)]; rfl) rfl hQ d_Desk_goOverCharacter_61
    · skip
      refine lv_aload_n C.1 C.2.1 d_Desk_goOverCharacter_27 rfl (lv_at hl 1 rfl) ?_
      refine lv_aload_n C.1 C.2.1 d_Desk_goOverCharacter_28 rfl (lv_at hl 1 rfl) ?_
      refine r_get C Z 0 f_Desk_27 rfl rfl d_Desk_goOverCharacter_29 ?_
      refine r_getN C Z 6 f_Desk_127 rfl rfl d_Desk_goOverCharacter_32 ?_
      refine r_callVv (rest := []) (wr := [(hA, .inl (cI, 400, .inl (aN hand))), (eA, .inr (1, [.ref wA, .ref sA, .ref lA, .int dl, .int (nI kept), .int (nI dr)])), (wA, .inl (cI, 2000, .inl (aN tx))), (sA, .inl (cI, 26, .inl (aN sf))), (lA, .inl (cI, 26, .inl (aM ln))), (rA, .inr (2, [.int (nI ((rdP st nm nu c).2.1)), .int (nI ((rdP st nm nu c).2.2.1)), .int (nI ((rdP st nm nu c).2.2.2))])), (pA, .inl (cZ, 26, .inl (aN opn)))]) (wn := fun u => [(dA, .inr (0, [.ref hA, .int (nI n), .ref eA, .ref rA, .int (nI u.1), .int u.2.1, .int (nI op), .ref oA, .int (nI u.2.2.1), .ref pA, .int (nI ml), .int (nI me), .int pu, .int (nI de)])), (hA, .inl (cI, 400, .inl (aN hand))), (eA, .inr (1, [.ref wA, .ref sA, .ref lA, .int dl, .int (nI kept), .int (nI dr)])), (wA, .inl (cI, 2000, .inl (aN tx))), (sA, .inl (cI, 26, .inl (aN sf))), (lA, .inl (cI, 26, .inl (aM ln))), (rA, .inr (2, [.int (nI ((rdP st nm nu c).2.1)), .int (nI ((rdP st nm nu c).2.2.1)), .int (nI ((rdP st nm nu c).2.2.2))])), (oA, .inl (cI, 3000, .inl (aN u.2.2.2))), (pA, .inl (cZ, 26, .inl (aN opn)))]) C Z (c_Desk_give l D cI cZ dA hA eA rA oA pA n (fltK (rdP st nm nu c).1 fa) (fltP (rdP st nm nu c).1 x op fp) op ol ml me pu de out ((rdP st nm nu c).2.2.2) (by first | assumption | omega)) k_Desk_137 rfl ⟨by rw [hR]; dsimp only; omega, by rw [hR]; dsimp only; omega⟩ ⟨rfl, rfl⟩ [0, 7] [1, 2, 3, 4, 5, 6, 8] [7, 0, 1, 2, 3, 4, 5, 8, 6] (by decide) rfl rfl (by decide) (by decide) (by decide) (fun _ => rfl) 0 rfl rfl hl.1 rfl (Nat.le_of_ble_eq_true rfl) d_Desk_goOverCharacter_35 ⟨Nat.zero_le _, Nat.zero_le _⟩ (fun u H locs hp Z => ?_)
      have hp := hp.symm; subst hp
      have Z : Wd D A s.heap [(dA, .inr (0, [.ref hA, .int (nI n), .ref eA, .ref rA, .int (nI (gvK ol (fltK (rdP st nm nu c).1 fa))), .int (gvP ol op (fltP (rdP st nm nu c).1 x op fp)), .int (nI op), .ref oA, .int (nI (gvN ol)), .ref pA, .int (nI ml), .int (nI me), .int pu, .int (nI de)])), (hA, .inl (cI, 400, .inl (aN hand))), (eA, .inr (1, [.ref wA, .ref sA, .ref lA, .int dl, .int (nI kept), .int (nI dr)])), (wA, .inl (cI, 2000, .inl (aN tx))), (sA, .inl (cI, 26, .inl (aN sf))), (lA, .inl (cI, 26, .inl (aM ln))), (rA, .inr (2, [.int (nI ((rdP st nm nu c).2.1)), .int (nI ((rdP st nm nu c).2.2.1)), .int (nI ((rdP st nm nu c).2.2.2))])), (oA, .inl (cI, 3000, .inl (aN (gvO ol ((rdP st nm nu c).2.2.2) out)))), (pA, .inl (cZ, 26, .inl (aN opn)))] H locs := Z
      refine lv_goto (tgt := 61) C.1 C.2.1 d_Desk_goOverCharacter_38 (by decide) ?_
      exact r_vret C Z (gvK ol (fltK (rdP st nm nu c).1 fa), gvP ol op (fltP (rdP st nm nu c).1 x op fp), op, gvO ol ((rdP st nm nu c).2.2.2) out, gvN ol, me, pu, de, opn, (rdP st nm nu c).2.1, (rdP st nm nu c).2.2.1, (rdP st nm nu c).2.2.2) (by clear C Z hl; rw [gChar, if_neg (show ¬ (gRd c (fa, fp, op, out, ol, me, pu, de, opn, st, nm, nu)).1 = 0 from h10), if_pos (show (gRd c (fa, fp, op, out, ol, me, pu, de, opn, st, nm, nu)).1 = 2 from h24)]; rfl) rfl hQ d_Desk_goOverCharacter_61
  · skip
    refine lv_aload_n C.1 C.2.1 d_Desk_goOverCharacter_13 rfl (lv_at hl 1 rfl) ?_
    refine lv_iload_n C.1 C.2.1 d_Desk_goOverCharacter_14 rfl (lv_at hl 2 rfl) ?_
    refine r_callVv (rest := []) (wr := [(hA, .inl (cI, 400, .inl (aN hand))), (eA, .inr (1, [.ref wA, .ref sA, .ref lA, .int dl, .int (nI kept), .int (nI dr)])), (wA, .inl (cI, 2000, .inl (aN tx))), (sA, .inl (cI, 26, .inl (aN sf))), (lA, .inl (cI, 26, .inl (aM ln))), (rA, .inr (2, [.int (nI ((rdP st nm nu c).2.1)), .int (nI ((rdP st nm nu c).2.2.1)), .int (nI ((rdP st nm nu c).2.2.2))])), (pA, .inl (cZ, 26, .inl (aN opn)))]) (wn := fun u => [(dA, .inr (0, [.ref hA, .int (nI n), .ref eA, .ref rA, .int (nI u.1), .int u.2.1, .int (nI op), .ref oA, .int (nI u.2.2.1), .ref pA, .int (nI ml), .int (nI me), .int pu, .int (nI de)])), (hA, .inl (cI, 400, .inl (aN hand))), (eA, .inr (1, [.ref wA, .ref sA, .ref lA, .int dl, .int (nI kept), .int (nI dr)])), (wA, .inl (cI, 2000, .inl (aN tx))), (sA, .inl (cI, 26, .inl (aN sf))), (lA, .inl (cI, 26, .inl (aM ln))), (rA, .inr (2, [.int (nI ((rdP st nm nu c).2.1)), .int (nI ((rdP st nm nu c).2.2.1)), .int (nI ((rdP st nm nu c).2.2.2))])), (oA, .inl (cI, 3000, .inl (aN u.2.2.2))), (pA, .inl (cZ, 26, .inl (aN opn)))]) C Z (c_Desk_give l D cI cZ dA hA eA rA oA pA n (fltK (rdP st nm nu c).1 fa) (fltP (rdP st nm nu c).1 x op fp) op ol ml me pu de out c (by first | assumption | omega)) k_Desk_137 rfl ⟨by rw [hR]; dsimp only; omega, by rw [hR]; dsimp only; omega⟩ ⟨rfl, rfl⟩ [0, 7] [1, 2, 3, 4, 5, 6, 8] [7, 0, 1, 2, 3, 4, 5, 8, 6] (by decide) rfl rfl (by decide) (by decide) (by decide) (fun _ => rfl) 0 rfl rfl hl.1 rfl (Nat.le_of_ble_eq_true rfl) d_Desk_goOverCharacter_15 ⟨Nat.zero_le _, Nat.zero_le _⟩ (fun u H locs hp Z => ?_)
    have hp := hp.symm; subst hp
    have Z : Wd D A s.heap [(dA, .inr (0, [.ref hA, .int (nI n), .ref eA, .ref rA, .int (nI (gvK ol (fltK (rdP st nm nu c).1 fa))), .int (gvP ol op (fltP (rdP st nm nu c).1 x op fp)), .int (nI op), .ref oA, .int (nI (gvN ol)), .ref pA, .int (nI ml), .int (nI me), .int pu, .int (nI de)])), (hA, .inl (cI, 400, .inl (aN hand))), (eA, .inr (1, [.ref wA, .ref sA, .ref lA, .int dl, .int (nI kept), .int (nI dr)])), (wA, .inl (cI, 2000, .inl (aN tx))), (sA, .inl (cI, 26, .inl (aN sf))), (lA, .inl (cI, 26, .inl (aM ln))), (rA, .inr (2, [.int (nI ((rdP st nm nu c).2.1)), .int (nI ((rdP st nm nu c).2.2.1)), .int (nI ((rdP st nm nu c).2.2.2))])), (oA, .inl (cI, 3000, .inl (aN (gvO ol c out)))), (pA, .inl (cZ, 26, .inl (aN opn)))] H locs := Z
    refine lv_goto (tgt := 61) C.1 C.2.1 d_Desk_goOverCharacter_18 (by decide) ?_
    exact r_vret C Z (gvK ol (fltK (rdP st nm nu c).1 fa), gvP ol op (fltP (rdP st nm nu c).1 x op fp), op, gvO ol c out, gvN ol, me, pu, de, opn, (rdP st nm nu c).2.1, (rdP st nm nu c).2.2.1, (rdP st nm nu c).2.2.2) (by clear C Z hl; rw [gChar, if_pos (show (gRd c (fa, fp, op, out, ol, me, pu, de, opn, st, nm, nu)).1 = 0 from h10)]; rfl) rfl hQ d_Desk_goOverCharacter_61
set_option maxHeartbeats 8000000 in
set_option maxRecDepth 100000 in
/-- goOver -/
theorem GO_of (l : Launch) (D : va_G) (cI cZ : ClassId) (d : Nat) (hC : GC l D cI cZ d) : GO l D cI cZ d := by
  intro dA hA eA rA oA pA wA sA lA n fa fp op ol ml me pu de st nm nu dl kept dr tx sf ln hand out opn fr to x hE hS hx hx0 hft hto
  refine Mv.intro (by decide) (Nat.le_of_ble_eq_true rfl) ?_
  intro p e s m args below meth cd A ls R Q hR hQ C hin Z hl
  have hl : lv_has ls 6 [(0, .ref dA), (1, .ref wA), (2, .int (nI fr)), (3, .int (nI to)), (4, .int (nI x))] := hl
  have hS0 := id hS
  obtain ⟨hfa, hol, hme, hde, hst, hnm, hnu, hop⟩ := hS0
  obtain ⟨htx, hsf, hln, hml⟩ := id hE
  refine lv_iload_n C.1 C.2.1 d_Desk_goOver_0 rfl (lv_at hl 2 rfl) ?_
  refine lv_istore (lv' := [(5, .int (nI fr)), (0, .ref dA), (1, .ref wA), (2, .int (nI fr)), (3, .int (nI to)), (4, .int (nI x))]) C.1 C.2.1 d_Desk_goOver_1 hl (by decide) rfl (fun ls hl => ?_)
  obtain ⟨X, hX⟩ : ∃ X, X = gLoop (gInto tx sf ln ml d) x tx (to - fr) fr (fa, fp, op, out, ol, me, pu, de, opn, st, nm, nu) := ⟨_, rfl⟩
  have loop : ∀ (k i fa : Nat) (fp : Int32) (op : Nat) (out : Nat → Nat) (ol me : Nat) (pu : Int32) (de : Nat) (opn : Nat → Nat) (st nm nu : Nat), i + k = to → gOk (fa, fp, op, out, ol, me, pu, de, opn, st, nm, nu) → gLoop (gInto tx sf ln ml d) x tx k i (fa, fp, op, out, ol, me, pu, de, opn, st, nm, nu) = X → ∀ (H : Heap) (locs : List Loc) (ls : Array Slot), Wd D A s.heap [(dA, .inr (0, [.ref hA, .int (nI n), .ref eA, .ref rA, .int (nI fa), .int fp, .int (nI op), .ref oA, .int (nI ol), .ref pA, .int (nI ml), .int (nI me), .int pu, .int (nI de)])), (hA, .inl (cI, 400, .inl (aN hand))), (eA, .inr (1, [.ref wA, .ref sA, .ref lA, .int dl, .int (nI kept), .int (nI dr)])), (wA, .inl (cI, 2000, .inl (aN tx))), (sA, .inl (cI, 26, .inl (aN sf))), (lA, .inl (cI, 26, .inl (aM ln))), (rA, .inr (2, [.int (nI st), .int (nI nm), .int (nI nu)])), (oA, .inl (cI, 3000, .inl (aN out))), (pA, .inl (cZ, 26, .inl (aN opn)))] H locs → lv_has ls 6 [(5, .int (nI i)), (0, .ref dA), (1, .ref wA), (2, .int (nI fr)), (3, .int (nI to)), (4, .int (nI x))] → W p l e R s m args below meth cd H locs 0 0 Q (F0 m 3 ls []) := by
    clear hS hfa hol hme hde hst hnm hnu hop hl Z
    intro k
    induction k with
    | zero =>
      intro i fa fp op out ol me pu de opn st nm nu hik hS hF H locs ls Z hl
      obtain ⟨hfa, hol, hme, hde, hst, hnm, hnu, hop⟩ := id hS
      have hF : (fa, fp, op, out, ol, me, pu, de, opn, st, nm, nu) = X := hF
      refine lv_iload C.1 C.2.1 d_Desk_goOver_3 (lv_at hl 0 rfl) ?_
      refine lv_iload_n C.1 C.2.1 d_Desk_goOver_5 rfl (lv_at hl 4 rfl) ?_
      refine r_ge (tgt := 67) C d_Desk_goOver_6 (by decide) (by omega) (by omega) (fun h6 => ?_) (fun h6 => (by omega : False).elim)
      refine lv_aload_n C.1 C.2.1 d_Desk_goOver_67 rfl (lv_at hl 1 rfl) ?_
      refine r_get C Z 0 f_Desk_31 rfl rfl d_Desk_goOver_68 ?_
      refine r_zne (tgt := 108) C d_Desk_goOver_71 (by decide) (by omega) (fun h71 => ?_) (fun h71 => ?_)
      · skip
        exact r_vret C Z (fa, fp, op, out, ol, me, pu, de, opn, st, nm, nu) (by clear C Z hl; unfold gOver; rw [← hX, ← hF]; dsimp only [gEnd]; first | rw [if_neg (by omega)] | (rw [if_pos (by omega)]; first | rfl | rw [if_neg (by omega), if_neg (by omega)])) rfl hQ d_Desk_goOver_108
      · skip
        refine lv_aload_n C.1 C.2.1 d_Desk_goOver_74 rfl (lv_at hl 1 rfl) ?_
        refine r_get C Z 0 f_Desk_27 rfl rfl d_Desk_goOver_75 ?_
        refine r_callNi (rest := []) (wr := [(dA, .inr (0, [.ref hA, .int (nI n), .ref eA, .ref rA, .int (nI fa), .int fp, .int (nI op), .ref oA, .int (nI ol), .ref pA, .int (nI ml), .int (nI me), .int pu, .int (nI de)])), (hA, .inl (cI, 400, .inl (aN hand))), (eA, .inr (1, [.ref wA, .ref sA, .ref lA, .int dl, .int (nI kept), .int (nI dr)])), (wA, .inl (cI, 2000, .inl (aN tx))), (sA, .inl (cI, 26, .inl (aN sf))), (lA, .inl (cI, 26, .inl (aM ln))), (oA, .inl (cI, 3000, .inl (aN out))), (pA, .inl (cZ, 26, .inl (aN opn)))]) (wn := fun u => [(dA, .inr (0, [.ref hA, .int (nI n), .ref eA, .ref rA, .int (nI fa), .int fp, .int (nI op), .ref oA, .int (nI ol), .ref pA, .int (nI ml), .int (nI me), .int pu, .int (nI de)])), (hA, .inl (cI, 400, .inl (aN hand))), (eA, .inr (1, [.ref wA, .ref sA, .ref lA, .int dl, .int (nI kept), .int (nI dr)])), (wA, .inl (cI, 2000, .inl (aN tx))), (sA, .inl (cI, 26, .inl (aN sf))), (lA, .inl (cI, 26, .inl (aM ln))), (rA, .inr (2, [.int (nI st), .int (nI nm), .int (nI nu)])), (oA, .inl (cI, 3000, .inl (aN out))), (pA, .inl (cZ, 26, .inl (aN opn)))]) C Z (c_Reader_isWithin l D cI cZ rA st nm nu (by first | assumption | omega)) k_Desk_115 rfl ⟨by rw [hR]; dsimp only; omega, by rw [hR]; dsimp only; omega⟩ ⟨rfl, rfl⟩ [6] [0, 1, 2, 3, 4, 5, 7, 8] [0, 1, 2, 3, 4, 5, 8, 6, 7] (by decide) rfl rfl (by decide) (by decide) (by decide) (fun _ => rfl) 6 rfl rfl hl.1 rfl (Nat.le_of_ble_eq_true rfl) d_Desk_goOver_78 ⟨Nat.zero_le _, Nat.zero_le _⟩ (fun r u H locs hp Z => ?_)
        obtain ⟨hp1, hp2⟩ := hp; have hp1 := hp1.symm; have hp2 := hp2.symm; subst hp1; subst hp2
        have Z : Wd D A s.heap [(dA, .inr (0, [.ref hA, .int (nI n), .ref eA, .ref rA, .int (nI fa), .int fp, .int (nI op), .ref oA, .int (nI ol), .ref pA, .int (nI ml), .int (nI me), .int pu, .int (nI de)])), (hA, .inl (cI, 400, .inl (aN hand))), (eA, .inr (1, [.ref wA, .ref sA, .ref lA, .int dl, .int (nI kept), .int (nI dr)])), (wA, .inl (cI, 2000, .inl (aN tx))), (sA, .inl (cI, 26, .inl (aN sf))), (lA, .inl (cI, 26, .inl (aM ln))), (rA, .inr (2, [.int (nI st), .int (nI nm), .int (nI nu)])), (oA, .inl (cI, 3000, .inl (aN out))), (pA, .inl (cZ, 26, .inl (aN opn)))] H locs := Z
        refine r_zeq (tgt := 108) C d_Desk_goOver_81 (by decide) (by omega) (fun h81 => ?_) (fun h81 => ?_)
        · skip
          exact r_vret C Z (fa, fp, op, out, ol, me, pu, de, opn, st, nm, nu) (by clear C Z hl; unfold gOver; rw [← hX, ← hF]; dsimp only [gEnd]; first | rw [if_neg (by omega)] | (rw [if_pos (by omega)]; first | rfl | rw [if_neg (by omega), if_neg (by omega)])) rfl hQ d_Desk_goOver_108
        · skip
          refine lv_iload C.1 C.2.1 d_Desk_goOver_84 (lv_at hl 5 rfl) ?_
          refine r_zne (tgt := 98) C d_Desk_goOver_86 (by decide) (by omega) (fun h86 => ?_) (fun h86 => (by omega : False).elim)
          refine lv_aload_n C.1 C.2.1 d_Desk_goOver_98 rfl (lv_at hl 1 rfl) ?_
          refine lv_bipush (v := nI 13) C.1 C.2.1 d_Desk_goOver_99 (by decide) ?_
          refine lv_aload_n C.1 C.2.1 d_Desk_goOver_101 rfl (lv_at hl 1 rfl) ?_
          refine r_get C Z 0 f_Desk_37 rfl rfl d_Desk_goOver_102 ?_
          refine r_callVv (rest := []) (wr := [(hA, .inl (cI, 400, .inl (aN hand))), (eA, .inr (1, [.ref wA, .ref sA, .ref lA, .int dl, .int (nI kept), .int (nI dr)])), (wA, .inl (cI, 2000, .inl (aN tx))), (sA, .inl (cI, 26, .inl (aN sf))), (lA, .inl (cI, 26, .inl (aM ln))), (rA, .inr (2, [.int (nI st), .int (nI nm), .int (nI nu)])), (oA, .inl (cI, 3000, .inl (aN out))), (pA, .inl (cZ, 26, .inl (aN opn)))]) (wn := fun u => [(dA, .inr (0, [.ref hA, .int (nI n), .ref eA, .ref rA, .int (nI u.1), .int u.2, .int (nI op), .ref oA, .int (nI ol), .ref pA, .int (nI ml), .int (nI me), .int pu, .int (nI de)])), (hA, .inl (cI, 400, .inl (aN hand))), (eA, .inr (1, [.ref wA, .ref sA, .ref lA, .int dl, .int (nI kept), .int (nI dr)])), (wA, .inl (cI, 2000, .inl (aN tx))), (sA, .inl (cI, 26, .inl (aN sf))), (lA, .inl (cI, 26, .inl (aM ln))), (rA, .inr (2, [.int (nI st), .int (nI nm), .int (nI nu)])), (oA, .inl (cI, 3000, .inl (aN out))), (pA, .inl (cZ, 26, .inl (aN opn)))]) C Z (c_Desk_fail l D cI cZ dA hA eA rA oA pA n fa fp op ol ml me pu de 13 (nI op)) k_Desk_108 rfl ⟨by rw [hR]; dsimp only; omega, by rw [hR]; dsimp only; omega⟩ ⟨rfl, rfl⟩ [0] [1, 2, 3, 4, 5, 6, 7, 8] [8, 0, 1, 2, 3, 4, 5, 6, 7] (by decide) rfl rfl (by decide) (by decide) (by decide) (fun _ => rfl) 0 rfl rfl hl.1 rfl (Nat.le_of_ble_eq_true rfl) d_Desk_goOver_105 ⟨Nat.zero_le _, Nat.zero_le _⟩ (fun u H locs hp Z => ?_)
          have hp := hp.symm; subst hp
          have Z : Wd D A s.heap [(dA, .inr (0, [.ref hA, .int (nI n), .ref eA, .ref rA, .int (nI 13), .int (nI op), .int (nI op), .ref oA, .int (nI ol), .ref pA, .int (nI ml), .int (nI me), .int pu, .int (nI de)])), (hA, .inl (cI, 400, .inl (aN hand))), (eA, .inr (1, [.ref wA, .ref sA, .ref lA, .int dl, .int (nI kept), .int (nI dr)])), (wA, .inl (cI, 2000, .inl (aN tx))), (sA, .inl (cI, 26, .inl (aN sf))), (lA, .inl (cI, 26, .inl (aM ln))), (rA, .inr (2, [.int (nI st), .int (nI nm), .int (nI nu)])), (oA, .inl (cI, 3000, .inl (aN out))), (pA, .inl (cZ, 26, .inl (aN opn)))] H locs := Z
          exact r_vret C Z (13, nI op, op, out, ol, me, pu, de, opn, st, nm, nu) (by clear C Z hl; unfold gOver; rw [← hX, ← hF]; dsimp only [gEnd]; first | rw [if_neg (by omega)] | (rw [if_pos (by omega)]; first | rfl | rw [if_neg (by omega), if_neg (by omega)])) rfl hQ d_Desk_goOver_108
    | succ k ih =>
      intro i fa fp op out ol me pu de opn st nm nu hik hS hF H locs ls Z hl
      obtain ⟨hfa, hol, hme, hde, hst, hnm, hnu, hop⟩ := id hS
      refine lv_iload C.1 C.2.1 d_Desk_goOver_3 (lv_at hl 0 rfl) ?_
      refine lv_iload_n C.1 C.2.1 d_Desk_goOver_5 rfl (lv_at hl 4 rfl) ?_
      refine r_ge (tgt := 67) C d_Desk_goOver_6 (by decide) (by omega) (by omega) (fun h6 => (by omega : False).elim) (fun h6 => ?_)
      refine lv_aload_n C.1 C.2.1 d_Desk_goOver_9 rfl (lv_at hl 1 rfl) ?_
      refine r_get C Z 0 f_Desk_31 rfl rfl d_Desk_goOver_10 ?_
      refine r_zne (tgt := 67) C d_Desk_goOver_13 (by decide) (by omega) (fun h13 => ?_) (fun h13 => ?_)
      · skip
        rw [gLoop, if_neg h13] at hF
        refine lv_aload_n C.1 C.2.1 d_Desk_goOver_67 rfl (lv_at hl 1 rfl) ?_
        refine r_get C Z 0 f_Desk_31 rfl rfl d_Desk_goOver_68 ?_
        refine r_zne (tgt := 108) C d_Desk_goOver_71 (by decide) (by omega) (fun h71 => ?_) (fun h71 => (by omega : False).elim)
        exact r_vret C Z (fa, fp, op, out, ol, me, pu, de, opn, st, nm, nu) (by clear C Z hl; unfold gOver; rw [← hX, ← hF]; dsimp only [gEnd]; first | rw [if_neg (by omega)] | (rw [if_pos (by omega)]; first | rfl | rw [if_neg (by omega), if_neg (by omega)])) rfl hQ d_Desk_goOver_108
      · skip
        refine lv_iload C.1 C.2.1 d_Desk_goOver_16 (lv_at hl 5 rfl) ?_
        refine r_zne (tgt := 37) C d_Desk_goOver_18 (by decide) (by omega) (fun h18 => ?_) (fun h18 => (by omega : False).elim)
        refine lv_aload_n C.1 C.2.1 d_Desk_goOver_37 rfl (lv_at hl 1 rfl) ?_
        refine lv_aload_n C.1 C.2.1 d_Desk_goOver_38 rfl (lv_at hl 2 rfl) ?_
        refine lv_iload C.1 C.2.1 d_Desk_goOver_39 (lv_at hl 0 rfl) ?_
        refine r_ildN C Z 3 rfl (by omega) (by decide) d_Desk_goOver_41 ?_
        refine lv_iload C.1 C.2.1 d_Desk_goOver_42 (lv_at hl 5 rfl) ?_
        refine r_zne (tgt := 52) C d_Desk_goOver_44 (by decide) (by omega) (fun h44 => ?_) (fun h44 => (by omega : False).elim)
        refine lv_aload_n C.1 C.2.1 d_Desk_goOver_52 rfl (lv_at hl 1 rfl) ?_
        refine r_get C Z 0 f_Desk_37 rfl rfl d_Desk_goOver_53 ?_
        refine lv_iload C.1 C.2.1 d_Desk_goOver_56 (lv_at hl 5 rfl) ?_
        refine r_callVv (rest := []) (wr := []) (wn := fun u => [(dA, .inr (0, [.ref hA, .int (nI n), .ref eA, .ref rA, .int (nI u.1), .int u.2.1, .int (nI u.2.2.1), .ref oA, .int (nI u.2.2.2.2.1), .ref pA, .int (nI ml), .int (nI u.2.2.2.2.2.1), .int u.2.2.2.2.2.2.1, .int (nI u.2.2.2.2.2.2.2.1)])), (hA, .inl (cI, 400, .inl (aN hand))), (eA, .inr (1, [.ref wA, .ref sA, .ref lA, .int dl, .int (nI kept), .int (nI dr)])), (wA, .inl (cI, 2000, .inl (aN tx))), (sA, .inl (cI, 26, .inl (aN sf))), (lA, .inl (cI, 26, .inl (aM ln))), (rA, .inr (2, [.int (nI u.2.2.2.2.2.2.2.2.2.1), .int (nI u.2.2.2.2.2.2.2.2.2.2.1), .int (nI u.2.2.2.2.2.2.2.2.2.2.2)])), (oA, .inl (cI, 3000, .inl (aN u.2.2.2.1))), (pA, .inl (cZ, 26, .inl (aN u.2.2.2.2.2.2.2.2.1)))]) C Z (hC dA hA eA rA oA pA wA sA lA n fa fp op ol ml me pu de st nm nu dl kept dr tx sf ln hand out opn (tx i) op x hE hS (htx _) (by omega)) k_Desk_133 rfl ⟨by rw [hR]; dsimp only; omega, by rw [hR]; dsimp only; omega⟩ ⟨rfl, rfl⟩ [0, 1, 2, 3, 4, 5, 6, 7, 8] [] [0, 1, 2, 3, 4, 5, 6, 7, 8] (by decide) rfl rfl (by decide) (by decide) (by decide) (fun _ => rfl) 0 rfl rfl hl.1 rfl (Nat.le_of_ble_eq_true rfl) d_Desk_goOver_58 ⟨Nat.zero_le _, Nat.zero_le _⟩ (fun u H locs hp Z => ?_)
        obtain ⟨fa1, fp1, op1, out1, ol1, me1, pu1, de1, opn1, st1, nm1, nu1⟩ := u
        have e1 : (fa1, fp1, op1, out1, ol1, me1, pu1, de1, opn1, st1, nm1, nu1) = gChar (gInto tx sf ln ml d) (tx i) op (fa, fp, op, out, ol, me, pu, de, opn, st, nm, nu) := hp
        have Z : Wd D A s.heap [(dA, .inr (0, [.ref hA, .int (nI n), .ref eA, .ref rA, .int (nI fa1), .int fp1, .int (nI op1), .ref oA, .int (nI ol1), .ref pA, .int (nI ml), .int (nI me1), .int pu1, .int (nI de1)])), (hA, .inl (cI, 400, .inl (aN hand))), (eA, .inr (1, [.ref wA, .ref sA, .ref lA, .int dl, .int (nI kept), .int (nI dr)])), (wA, .inl (cI, 2000, .inl (aN tx))), (sA, .inl (cI, 26, .inl (aN sf))), (lA, .inl (cI, 26, .inl (aM ln))), (rA, .inr (2, [.int (nI st1), .int (nI nm1), .int (nI nu1)])), (oA, .inl (cI, 3000, .inl (aN out1))), (pA, .inl (cZ, 26, .inl (aN opn1)))] H locs := Z
        refine lv_iinc (v := nI (i + 1)) (lv' := [(5, .int (nI (i + 1))), (0, .ref dA), (1, .ref wA), (2, .int (nI fr)), (3, .int (nI to)), (4, .int (nI x))]) C.1 C.2.1 d_Desk_goOver_61 hl (k := 0) rfl (r_inc1 _) (by decide) rfl (fun ls hl => ?_)
        refine lv_goto (tgt := 3) C.1 C.2.1 d_Desk_goOver_64 (by decide) ?_
        have hOP : gOp x i (fa, fp, op, out, ol, me, pu, de, opn, st, nm, nu) = (fa, fp, op, out, ol, me, pu, de, opn, st, nm, nu) := by dsimp only [gOp, dOp]; first | rfl | rw [if_neg (by omega)] | rw [if_pos rfl, if_pos (by omega)] | rw [if_pos rfl, if_neg (by omega)]
        have hAT : gAt x i (fa, fp, op, out, ol, me, pu, de, opn, st, nm, nu) = op := by dsimp only [gAt]; first | rfl | rw [if_neg (by omega)] | rw [if_pos rfl]
        exact ih (i + 1) fa1 fp1 op1 out1 ol1 me1 pu1 de1 opn1 st1 nm1 nu1 (by omega) (by rw [e1]; exact gOk_char (gOk_into hml d) hS) (by rw [e1, ← hF, gLoop, if_pos h13, hAT, hOP]) _ _ _ Z hl
  exact loop (to - fr) fr fa fp op out ol me pu de opn st nm nu (by omega) hS hX.symm _ _ _ Z hl
set_option maxHeartbeats 8000000 in
set_option maxRecDepth 100000 in
/-- goOver -/
theorem GZ_of (l : Launch) (D : va_G) (cI cZ : ClassId) (d : Nat) (hC : GC l D cI cZ d) : GZ l D cI cZ d := by
  intro dA hA eA rA oA pA wA sA lA n fa fp op ol ml me pu de st nm nu dl kept dr tx sf ln hand out opn fr to hE hS hd hft hto hh
  refine Mv.intro (by decide) (Nat.le_of_ble_eq_true rfl) ?_
  intro p e s m args below meth cd A ls R Q hR hQ C hin Z hl
  have hl : lv_has ls 6 [(0, .ref dA), (1, .ref hA), (2, .int (nI fr)), (3, .int (nI to)), (4, .int (nI 0))] := hl
  have hS0 := id hS
  obtain ⟨hfa, hol, hme, hde, hst, hnm, hnu, hop⟩ := hS0
  obtain ⟨htx, hsf, hln, hml⟩ := id hE
  refine lv_iload_n C.1 C.2.1 d_Desk_goOver_0 rfl (lv_at hl 2 rfl) ?_
  refine lv_istore (lv' := [(5, .int (nI fr)), (0, .ref dA), (1, .ref hA), (2, .int (nI fr)), (3, .int (nI to)), (4, .int (nI 0))]) C.1 C.2.1 d_Desk_goOver_1 hl (by decide) rfl (fun ls hl => ?_)
  obtain ⟨X, hX⟩ : ∃ X, X = gLoop (gInto tx sf ln ml d) 0 hand (to - fr) fr (fa, fp, op, out, ol, me, pu, de, opn, st, nm, nu) := ⟨_, rfl⟩
  have loop : ∀ (k i fa : Nat) (fp : Int32) (op : Nat) (out : Nat → Nat) (ol me : Nat) (pu : Int32) (de : Nat) (opn : Nat → Nat) (st nm nu : Nat), i + k = to → gOk (fa, fp, op, out, ol, me, pu, de, opn, st, nm, nu) → gLoop (gInto tx sf ln ml d) 0 hand k i (fa, fp, op, out, ol, me, pu, de, opn, st, nm, nu) = X → ∀ (H : Heap) (locs : List Loc) (ls : Array Slot), Wd D A s.heap [(dA, .inr (0, [.ref hA, .int (nI n), .ref eA, .ref rA, .int (nI fa), .int fp, .int (nI op), .ref oA, .int (nI ol), .ref pA, .int (nI ml), .int (nI me), .int pu, .int (nI de)])), (hA, .inl (cI, 400, .inl (aN hand))), (eA, .inr (1, [.ref wA, .ref sA, .ref lA, .int dl, .int (nI kept), .int (nI dr)])), (wA, .inl (cI, 2000, .inl (aN tx))), (sA, .inl (cI, 26, .inl (aN sf))), (lA, .inl (cI, 26, .inl (aM ln))), (rA, .inr (2, [.int (nI st), .int (nI nm), .int (nI nu)])), (oA, .inl (cI, 3000, .inl (aN out))), (pA, .inl (cZ, 26, .inl (aN opn)))] H locs → lv_has ls 6 [(5, .int (nI i)), (0, .ref dA), (1, .ref hA), (2, .int (nI fr)), (3, .int (nI to)), (4, .int (nI 0))] → W p l e R s m args below meth cd H locs 0 0 Q (F0 m 3 ls []) := by
    clear hS hfa hol hme hde hst hnm hnu hop hl Z
    intro k
    induction k with
    | zero =>
      intro i fa fp op out ol me pu de opn st nm nu hik hS hF H locs ls Z hl
      obtain ⟨hfa, hol, hme, hde, hst, hnm, hnu, hop⟩ := id hS
      have hF : (fa, fp, op, out, ol, me, pu, de, opn, st, nm, nu) = X := hF
      refine lv_iload C.1 C.2.1 d_Desk_goOver_3 (lv_at hl 0 rfl) ?_
      refine lv_iload_n C.1 C.2.1 d_Desk_goOver_5 rfl (lv_at hl 4 rfl) ?_
      refine r_ge (tgt := 67) C d_Desk_goOver_6 (by decide) (by omega) (by omega) (fun h6 => ?_) (fun h6 => (by omega : False).elim)
      refine lv_aload_n C.1 C.2.1 d_Desk_goOver_67 rfl (lv_at hl 1 rfl) ?_
      refine r_get C Z 0 f_Desk_31 rfl rfl d_Desk_goOver_68 ?_
      refine r_zne (tgt := 108) C d_Desk_goOver_71 (by decide) (by omega) (fun h71 => ?_) (fun h71 => ?_)
      · skip
        exact r_vret C Z (fa, fp, op, out, ol, me, pu, de, opn, st, nm, nu) (by clear C Z hl; unfold gOver; rw [← hX, ← hF]; dsimp only [gEnd]; first | rw [if_neg (by omega)] | (rw [if_pos (by omega)]; first | rfl | rw [if_neg (by omega), if_neg (by omega)])) rfl hQ d_Desk_goOver_108
      · skip
        refine lv_aload_n C.1 C.2.1 d_Desk_goOver_74 rfl (lv_at hl 1 rfl) ?_
        refine r_get C Z 0 f_Desk_27 rfl rfl d_Desk_goOver_75 ?_
        refine r_callNi (rest := []) (wr := [(dA, .inr (0, [.ref hA, .int (nI n), .ref eA, .ref rA, .int (nI fa), .int fp, .int (nI op), .ref oA, .int (nI ol), .ref pA, .int (nI ml), .int (nI me), .int pu, .int (nI de)])), (hA, .inl (cI, 400, .inl (aN hand))), (eA, .inr (1, [.ref wA, .ref sA, .ref lA, .int dl, .int (nI kept), .int (nI dr)])), (wA, .inl (cI, 2000, .inl (aN tx))), (sA, .inl (cI, 26, .inl (aN sf))), (lA, .inl (cI, 26, .inl (aM ln))), (oA, .inl (cI, 3000, .inl (aN out))), (pA, .inl (cZ, 26, .inl (aN opn)))]) (wn := fun u => [(dA, .inr (0, [.ref hA, .int (nI n), .ref eA, .ref rA, .int (nI fa), .int fp, .int (nI op), .ref oA, .int (nI ol), .ref pA, .int (nI ml), .int (nI me), .int pu, .int (nI de)])), (hA, .inl (cI, 400, .inl (aN hand))), (eA, .inr (1, [.ref wA, .ref sA, .ref lA, .int dl, .int (nI kept), .int (nI dr)])), (wA, .inl (cI, 2000, .inl (aN tx))), (sA, .inl (cI, 26, .inl (aN sf))), (lA, .inl (cI, 26, .inl (aM ln))), (rA, .inr (2, [.int (nI st), .int (nI nm), .int (nI nu)])), (oA, .inl (cI, 3000, .inl (aN out))), (pA, .inl (cZ, 26, .inl (aN opn)))]) C Z (c_Reader_isWithin l D cI cZ rA st nm nu (by first | assumption | omega)) k_Desk_115 rfl ⟨by rw [hR]; dsimp only; omega, by rw [hR]; dsimp only; omega⟩ ⟨rfl, rfl⟩ [6] [0, 1, 2, 3, 4, 5, 7, 8] [0, 1, 2, 3, 4, 5, 8, 6, 7] (by decide) rfl rfl (by decide) (by decide) (by decide) (fun _ => rfl) 6 rfl rfl hl.1 rfl (Nat.le_of_ble_eq_true rfl) d_Desk_goOver_78 ⟨Nat.zero_le _, Nat.zero_le _⟩ (fun r u H locs hp Z => ?_)
        obtain ⟨hp1, hp2⟩ := hp; have hp1 := hp1.symm; have hp2 := hp2.symm; subst hp1; subst hp2
        have Z : Wd D A s.heap [(dA, .inr (0, [.ref hA, .int (nI n), .ref eA, .ref rA, .int (nI fa), .int fp, .int (nI op), .ref oA, .int (nI ol), .ref pA, .int (nI ml), .int (nI me), .int pu, .int (nI de)])), (hA, .inl (cI, 400, .inl (aN hand))), (eA, .inr (1, [.ref wA, .ref sA, .ref lA, .int dl, .int (nI kept), .int (nI dr)])), (wA, .inl (cI, 2000, .inl (aN tx))), (sA, .inl (cI, 26, .inl (aN sf))), (lA, .inl (cI, 26, .inl (aM ln))), (rA, .inr (2, [.int (nI st), .int (nI nm), .int (nI nu)])), (oA, .inl (cI, 3000, .inl (aN out))), (pA, .inl (cZ, 26, .inl (aN opn)))] H locs := Z
        refine r_zeq (tgt := 108) C d_Desk_goOver_81 (by decide) (by omega) (fun h81 => ?_) (fun h81 => ?_)
        · skip
          exact r_vret C Z (fa, fp, op, out, ol, me, pu, de, opn, st, nm, nu) (by clear C Z hl; unfold gOver; rw [← hX, ← hF]; dsimp only [gEnd]; first | rw [if_neg (by omega)] | (rw [if_pos (by omega)]; first | rfl | rw [if_neg (by omega), if_neg (by omega)])) rfl hQ d_Desk_goOver_108
        · skip
          refine lv_iload C.1 C.2.1 d_Desk_goOver_84 (lv_at hl 5 rfl) ?_
          refine r_zne (tgt := 98) C d_Desk_goOver_86 (by decide) (by omega) (fun h86 => (by omega : False).elim) (fun h86 => ?_)
          refine lv_aload_n C.1 C.2.1 d_Desk_goOver_89 rfl (lv_at hl 1 rfl) ?_
          refine lv_iconst (v := nI 2) C.1 C.2.1 d_Desk_goOver_90 (by decide) ?_
          refine lv_iload_n C.1 C.2.1 d_Desk_goOver_91 rfl (lv_at hl 4 rfl) ?_
          refine r_callVv (rest := []) (wr := [(hA, .inl (cI, 400, .inl (aN hand))), (eA, .inr (1, [.ref wA, .ref sA, .ref lA, .int dl, .int (nI kept), .int (nI dr)])), (wA, .inl (cI, 2000, .inl (aN tx))), (sA, .inl (cI, 26, .inl (aN sf))), (lA, .inl (cI, 26, .inl (aM ln))), (rA, .inr (2, [.int (nI st), .int (nI nm), .int (nI nu)])), (oA, .inl (cI, 3000, .inl (aN out))), (pA, .inl (cZ, 26, .inl (aN opn)))]) (wn := fun u => [(dA, .inr (0, [.ref hA, .int (nI n), .ref eA, .ref rA, .int (nI u.1), .int u.2, .int (nI op), .ref oA, .int (nI ol), .ref pA, .int (nI ml), .int (nI me), .int pu, .int (nI de)])), (hA, .inl (cI, 400, .inl (aN hand))), (eA, .inr (1, [.ref wA, .ref sA, .ref lA, .int dl, .int (nI kept), .int (nI dr)])), (wA, .inl (cI, 2000, .inl (aN tx))), (sA, .inl (cI, 26, .inl (aN sf))), (lA, .inl (cI, 26, .inl (aM ln))), (rA, .inr (2, [.int (nI st), .int (nI nm), .int (nI nu)])), (oA, .inl (cI, 3000, .inl (aN out))), (pA, .inl (cZ, 26, .inl (aN opn)))]) C Z (c_Desk_fail l D cI cZ dA hA eA rA oA pA n fa fp op ol ml me pu de 2 (nI to)) k_Desk_108 rfl ⟨by rw [hR]; dsimp only; omega, by rw [hR]; dsimp only; omega⟩ ⟨rfl, rfl⟩ [0] [1, 2, 3, 4, 5, 6, 7, 8] [8, 0, 1, 2, 3, 4, 5, 6, 7] (by decide) rfl rfl (by decide) (by decide) (by decide) (fun _ => rfl) 0 rfl rfl hl.1 rfl (Nat.le_of_ble_eq_true rfl) d_Desk_goOver_92 ⟨Nat.zero_le _, Nat.zero_le _⟩ (fun u H locs hp Z => ?_)
          have hp := hp.symm; subst hp
          have Z : Wd D A s.heap [(dA, .inr (0, [.ref hA, .int (nI n), .ref eA, .ref rA, .int (nI 2), .int (nI to), .int (nI op), .ref oA, .int (nI ol), .ref pA, .int (nI ml), .int (nI me), .int pu, .int (nI de)])), (hA, .inl (cI, 400, .inl (aN hand))), (eA, .inr (1, [.ref wA, .ref sA, .ref lA, .int dl, .int (nI kept), .int (nI dr)])), (wA, .inl (cI, 2000, .inl (aN tx))), (sA, .inl (cI, 26, .inl (aN sf))), (lA, .inl (cI, 26, .inl (aM ln))), (rA, .inr (2, [.int (nI st), .int (nI nm), .int (nI nu)])), (oA, .inl (cI, 3000, .inl (aN out))), (pA, .inl (cZ, 26, .inl (aN opn)))] H locs := Z
          refine lv_goto (tgt := 108) C.1 C.2.1 d_Desk_goOver_95 (by decide) ?_
          exact r_vret C Z (2, nI to, op, out, ol, me, pu, de, opn, st, nm, nu) (by clear C Z hl; unfold gOver; rw [← hX, ← hF]; dsimp only [gEnd]; first | rw [if_neg (by omega)] | (rw [if_pos (by omega)]; first | rfl | rw [if_neg (by omega), if_neg (by omega)])) rfl hQ d_Desk_goOver_108
    | succ k ih =>
      intro i fa fp op out ol me pu de opn st nm nu hik hS hF H locs ls Z hl
      obtain ⟨hfa, hol, hme, hde, hst, hnm, hnu, hop⟩ := id hS
      refine lv_iload C.1 C.2.1 d_Desk_goOver_3 (lv_at hl 0 rfl) ?_
      refine lv_iload_n C.1 C.2.1 d_Desk_goOver_5 rfl (lv_at hl 4 rfl) ?_
      refine r_ge (tgt := 67) C d_Desk_goOver_6 (by decide) (by omega) (by omega) (fun h6 => (by omega : False).elim) (fun h6 => ?_)
      refine lv_aload_n C.1 C.2.1 d_Desk_goOver_9 rfl (lv_at hl 1 rfl) ?_
      refine r_get C Z 0 f_Desk_31 rfl rfl d_Desk_goOver_10 ?_
      refine r_zne (tgt := 67) C d_Desk_goOver_13 (by decide) (by omega) (fun h13 => ?_) (fun h13 => ?_)
      · skip
        rw [gLoop, if_neg h13] at hF
        refine lv_aload_n C.1 C.2.1 d_Desk_goOver_67 rfl (lv_at hl 1 rfl) ?_
        refine r_get C Z 0 f_Desk_31 rfl rfl d_Desk_goOver_68 ?_
        refine r_zne (tgt := 108) C d_Desk_goOver_71 (by decide) (by omega) (fun h71 => ?_) (fun h71 => (by omega : False).elim)
        exact r_vret C Z (fa, fp, op, out, ol, me, pu, de, opn, st, nm, nu) (by clear C Z hl; unfold gOver; rw [← hX, ← hF]; dsimp only [gEnd]; first | rw [if_neg (by omega)] | (rw [if_pos (by omega)]; first | rfl | rw [if_neg (by omega), if_neg (by omega)])) rfl hQ d_Desk_goOver_108
      · skip
        refine lv_iload C.1 C.2.1 d_Desk_goOver_16 (lv_at hl 5 rfl) ?_
        refine r_zne (tgt := 37) C d_Desk_goOver_18 (by decide) (by omega) (fun h18 => (by omega : False).elim) (fun h18 => ?_)
        refine lv_aload_n C.1 C.2.1 d_Desk_goOver_21 rfl (lv_at hl 1 rfl) ?_
        refine r_get C Z 0 f_Desk_27 rfl rfl d_Desk_goOver_22 ?_
        refine r_callNi (rest := []) (wr := [(dA, .inr (0, [.ref hA, .int (nI n), .ref eA, .ref rA, .int (nI fa), .int fp, .int (nI op), .ref oA, .int (nI ol), .ref pA, .int (nI ml), .int (nI me), .int pu, .int (nI de)])), (hA, .inl (cI, 400, .inl (aN hand))), (eA, .inr (1, [.ref wA, .ref sA, .ref lA, .int dl, .int (nI kept), .int (nI dr)])), (wA, .inl (cI, 2000, .inl (aN tx))), (sA, .inl (cI, 26, .inl (aN sf))), (lA, .inl (cI, 26, .inl (aM ln))), (oA, .inl (cI, 3000, .inl (aN out))), (pA, .inl (cZ, 26, .inl (aN opn)))]) (wn := fun u => [(dA, .inr (0, [.ref hA, .int (nI n), .ref eA, .ref rA, .int (nI fa), .int fp, .int (nI op), .ref oA, .int (nI ol), .ref pA, .int (nI ml), .int (nI me), .int pu, .int (nI de)])), (hA, .inl (cI, 400, .inl (aN hand))), (eA, .inr (1, [.ref wA, .ref sA, .ref lA, .int dl, .int (nI kept), .int (nI dr)])), (wA, .inl (cI, 2000, .inl (aN tx))), (sA, .inl (cI, 26, .inl (aN sf))), (lA, .inl (cI, 26, .inl (aM ln))), (rA, .inr (2, [.int (nI st), .int (nI nm), .int (nI nu)])), (oA, .inl (cI, 3000, .inl (aN out))), (pA, .inl (cZ, 26, .inl (aN opn)))]) C Z (c_Reader_isWithin l D cI cZ rA st nm nu (by first | assumption | omega)) k_Desk_115 rfl ⟨by rw [hR]; dsimp only; omega, by rw [hR]; dsimp only; omega⟩ ⟨rfl, rfl⟩ [6] [0, 1, 2, 3, 4, 5, 7, 8] [0, 1, 2, 3, 4, 5, 8, 6, 7] (by decide) rfl rfl (by decide) (by decide) (by decide) (fun _ => rfl) 6 rfl rfl hl.1 rfl (Nat.le_of_ble_eq_true rfl) d_Desk_goOver_25 ⟨Nat.zero_le _, Nat.zero_le _⟩ (fun r u H locs hp Z => ?_)
        obtain ⟨hp1, hp2⟩ := hp; have hp1 := hp1.symm; have hp2 := hp2.symm; subst hp1; subst hp2
        have Z : Wd D A s.heap [(dA, .inr (0, [.ref hA, .int (nI n), .ref eA, .ref rA, .int (nI fa), .int fp, .int (nI op), .ref oA, .int (nI ol), .ref pA, .int (nI ml), .int (nI me), .int pu, .int (nI de)])), (hA, .inl (cI, 400, .inl (aN hand))), (eA, .inr (1, [.ref wA, .ref sA, .ref lA, .int dl, .int (nI kept), .int (nI dr)])), (wA, .inl (cI, 2000, .inl (aN tx))), (sA, .inl (cI, 26, .inl (aN sf))), (lA, .inl (cI, 26, .inl (aM ln))), (rA, .inr (2, [.int (nI st), .int (nI nm), .int (nI nu)])), (oA, .inl (cI, 3000, .inl (aN out))), (pA, .inl (cZ, 26, .inl (aN opn)))] H locs := Z
        refine r_zne (tgt := 37) C d_Desk_goOver_28 (by decide) (by omega) (fun h28 => ?_) (fun h28 => ?_)
        · skip
          refine lv_aload_n C.1 C.2.1 d_Desk_goOver_37 rfl (lv_at hl 1 rfl) ?_
          refine lv_aload_n C.1 C.2.1 d_Desk_goOver_38 rfl (lv_at hl 2 rfl) ?_
          refine lv_iload C.1 C.2.1 d_Desk_goOver_39 (lv_at hl 0 rfl) ?_
          refine r_ildN C Z 1 rfl (by omega) (by decide) d_Desk_goOver_41 ?_
          refine lv_iload C.1 C.2.1 d_Desk_goOver_42 (lv_at hl 5 rfl) ?_
          refine r_zne (tgt := 52) C d_Desk_goOver_44 (by decide) (by omega) (fun h44 => (by omega : False).elim) (fun h44 => ?_)
          refine lv_iload C.1 C.2.1 d_Desk_goOver_47 (lv_at hl 0 rfl) ?_
          refine lv_goto (tgt := 56) C.1 C.2.1 d_Desk_goOver_49 (by decide) ?_
          refine lv_iload C.1 C.2.1 d_Desk_goOver_56 (lv_at hl 5 rfl) ?_
          refine r_callVv (rest := []) (wr := []) (wn := fun u => [(dA, .inr (0, [.ref hA, .int (nI n), .ref eA, .ref rA, .int (nI u.1), .int u.2.1, .int (nI u.2.2.1), .ref oA, .int (nI u.2.2.2.2.1), .ref pA, .int (nI ml), .int (nI u.2.2.2.2.2.1), .int u.2.2.2.2.2.2.1, .int (nI u.2.2.2.2.2.2.2.1)])), (hA, .inl (cI, 400, .inl (aN hand))), (eA, .inr (1, [.ref wA, .ref sA, .ref lA, .int dl, .int (nI kept), .int (nI dr)])), (wA, .inl (cI, 2000, .inl (aN tx))), (sA, .inl (cI, 26, .inl (aN sf))), (lA, .inl (cI, 26, .inl (aM ln))), (rA, .inr (2, [.int (nI u.2.2.2.2.2.2.2.2.2.1), .int (nI u.2.2.2.2.2.2.2.2.2.2.1), .int (nI u.2.2.2.2.2.2.2.2.2.2.2)])), (oA, .inl (cI, 3000, .inl (aN u.2.2.2.1))), (pA, .inl (cZ, 26, .inl (aN u.2.2.2.2.2.2.2.2.1)))]) C Z (hC dA hA eA rA oA pA wA sA lA n fa fp op ol ml me pu de st nm nu dl kept dr tx sf ln hand out opn (hand i) i 0 hE hS (hh _) (by omega)) k_Desk_133 rfl ⟨by rw [hR]; dsimp only; omega, by rw [hR]; dsimp only; omega⟩ ⟨rfl, rfl⟩ [0, 1, 2, 3, 4, 5, 6, 7, 8] [] [0, 1, 2, 3, 4, 5, 6, 7, 8] (by decide) rfl rfl (by decide) (by decide) (by decide) (fun _ => rfl) 0 rfl rfl hl.1 rfl (Nat.le_of_ble_eq_true rfl) d_Desk_goOver_58 ⟨Nat.zero_le _, Nat.zero_le _⟩ (fun u H locs hp Z => ?_)
          obtain ⟨fa1, fp1, op1, out1, ol1, me1, pu1, de1, opn1, st1, nm1, nu1⟩ := u
          have e1 : (fa1, fp1, op1, out1, ol1, me1, pu1, de1, opn1, st1, nm1, nu1) = gChar (gInto tx sf ln ml d) (hand i) i (fa, fp, op, out, ol, me, pu, de, opn, st, nm, nu) := hp
          have Z : Wd D A s.heap [(dA, .inr (0, [.ref hA, .int (nI n), .ref eA, .ref rA, .int (nI fa1), .int fp1, .int (nI op1), .ref oA, .int (nI ol1), .ref pA, .int (nI ml), .int (nI me1), .int pu1, .int (nI de1)])), (hA, .inl (cI, 400, .inl (aN hand))), (eA, .inr (1, [.ref wA, .ref sA, .ref lA, .int dl, .int (nI kept), .int (nI dr)])), (wA, .inl (cI, 2000, .inl (aN tx))), (sA, .inl (cI, 26, .inl (aN sf))), (lA, .inl (cI, 26, .inl (aM ln))), (rA, .inr (2, [.int (nI st1), .int (nI nm1), .int (nI nu1)])), (oA, .inl (cI, 3000, .inl (aN out1))), (pA, .inl (cZ, 26, .inl (aN opn1)))] H locs := Z
          refine lv_iinc (v := nI (i + 1)) (lv' := [(5, .int (nI (i + 1))), (0, .ref dA), (1, .ref hA), (2, .int (nI fr)), (3, .int (nI to)), (4, .int (nI 0))]) C.1 C.2.1 d_Desk_goOver_61 hl (k := 0) rfl (r_inc1 _) (by decide) rfl (fun ls hl => ?_)
          refine lv_goto (tgt := 3) C.1 C.2.1 d_Desk_goOver_64 (by decide) ?_
          have hOP : gOp 0 i (fa, fp, op, out, ol, me, pu, de, opn, st, nm, nu) = (fa, fp, op, out, ol, me, pu, de, opn, st, nm, nu) := by dsimp only [gOp, dOp]; first | rfl | rw [if_neg (by omega)] | rw [if_pos rfl, if_pos (by omega)] | rw [if_pos rfl, if_neg (by omega)]
          have hAT : gAt 0 i (fa, fp, op, out, ol, me, pu, de, opn, st, nm, nu) = i := by dsimp only [gAt]; first | rfl | rw [if_neg (by omega)] | rw [if_pos rfl]
          exact ih (i + 1) fa1 fp1 op1 out1 ol1 me1 pu1 de1 opn1 st1 nm1 nu1 (by omega) (by rw [e1]; exact gOk_char (gOk_into hml d) hS) (by rw [e1, ← hF, gLoop, if_pos h13, hAT, hOP]) _ _ _ Z hl
        · skip
          refine lv_aload_n C.1 C.2.1 d_Desk_goOver_31 rfl (lv_at hl 1 rfl) ?_
          refine lv_iload C.1 C.2.1 d_Desk_goOver_32 (lv_at hl 0 rfl) ?_
          refine r_put (ws' := [(dA, .inr (0, [.ref hA, .int (nI n), .ref eA, .ref rA, .int (nI fa), .int fp, .int (nI i), .ref oA, .int (nI ol), .ref pA, .int (nI ml), .int (nI me), .int pu, .int (nI de)])), (hA, .inl (cI, 400, .inl (aN hand))), (eA, .inr (1, [.ref wA, .ref sA, .ref lA, .int dl, .int (nI kept), .int (nI dr)])), (wA, .inl (cI, 2000, .inl (aN tx))), (sA, .inl (cI, 26, .inl (aN sf))), (lA, .inl (cI, 26, .inl (aM ln))), (rA, .inr (2, [.int (nI st), .int (nI nm), .int (nI nu)])), (oA, .inl (cI, 3000, .inl (aN out))), (pA, .inl (cZ, 26, .inl (aN opn)))]) C Z 0 f_Desk_37 rfl rfl rfl (Nat.le_of_ble_eq_true rfl) rfl d_Desk_goOver_34 (fun H locs Z => ?_)
          refine lv_aload_n C.1 C.2.1 d_Desk_goOver_37 rfl (lv_at hl 1 rfl) ?_
          refine lv_aload_n C.1 C.2.1 d_Desk_goOver_38 rfl (lv_at hl 2 rfl) ?_
          refine lv_iload C.1 C.2.1 d_Desk_goOver_39 (lv_at hl 0 rfl) ?_
          refine r_ildN C Z 1 rfl (by omega) (by decide) d_Desk_goOver_41 ?_
          refine lv_iload C.1 C.2.1 d_Desk_goOver_42 (lv_at hl 5 rfl) ?_
          refine r_zne (tgt := 52) C d_Desk_goOver_44 (by decide) (by omega) (fun h44 => (by omega : False).elim) (fun h44 => ?_)
          refine lv_iload C.1 C.2.1 d_Desk_goOver_47 (lv_at hl 0 rfl) ?_
          refine lv_goto (tgt := 56) C.1 C.2.1 d_Desk_goOver_49 (by decide) ?_
          refine lv_iload C.1 C.2.1 d_Desk_goOver_56 (lv_at hl 5 rfl) ?_
          refine r_callVv (rest := []) (wr := []) (wn := fun u => [(dA, .inr (0, [.ref hA, .int (nI n), .ref eA, .ref rA, .int (nI u.1), .int u.2.1, .int (nI u.2.2.1), .ref oA, .int (nI u.2.2.2.2.1), .ref pA, .int (nI ml), .int (nI u.2.2.2.2.2.1), .int u.2.2.2.2.2.2.1, .int (nI u.2.2.2.2.2.2.2.1)])), (hA, .inl (cI, 400, .inl (aN hand))), (eA, .inr (1, [.ref wA, .ref sA, .ref lA, .int dl, .int (nI kept), .int (nI dr)])), (wA, .inl (cI, 2000, .inl (aN tx))), (sA, .inl (cI, 26, .inl (aN sf))), (lA, .inl (cI, 26, .inl (aM ln))), (rA, .inr (2, [.int (nI u.2.2.2.2.2.2.2.2.2.1), .int (nI u.2.2.2.2.2.2.2.2.2.2.1), .int (nI u.2.2.2.2.2.2.2.2.2.2.2)])), (oA, .inl (cI, 3000, .inl (aN u.2.2.2.1))), (pA, .inl (cZ, 26, .inl (aN u.2.2.2.2.2.2.2.2.1)))]) C Z (hC dA hA eA rA oA pA wA sA lA n fa fp i ol ml me pu de st nm nu dl kept dr tx sf ln hand out opn (hand i) i 0 hE hS (hh _) (by omega)) k_Desk_133 rfl ⟨by rw [hR]; dsimp only; omega, by rw [hR]; dsimp only; omega⟩ ⟨rfl, rfl⟩ [0, 1, 2, 3, 4, 5, 6, 7, 8] [] [0, 1, 2, 3, 4, 5, 6, 7, 8] (by decide) rfl rfl (by decide) (by decide) (by decide) (fun _ => rfl) 0 rfl rfl hl.1 rfl (Nat.le_of_ble_eq_true rfl) d_Desk_goOver_58 ⟨Nat.zero_le _, Nat.zero_le _⟩ (fun u H locs hp Z => ?_)
          obtain ⟨fa2, fp2, op2, out2, ol2, me2, pu2, de2, opn2, st2, nm2, nu2⟩ := u
          have e2 : (fa2, fp2, op2, out2, ol2, me2, pu2, de2, opn2, st2, nm2, nu2) = gChar (gInto tx sf ln ml d) (hand i) i (fa, fp, i, out, ol, me, pu, de, opn, st, nm, nu) := hp
          have Z : Wd D A s.heap [(dA, .inr (0, [.ref hA, .int (nI n), .ref eA, .ref rA, .int (nI fa2), .int fp2, .int (nI op2), .ref oA, .int (nI ol2), .ref pA, .int (nI ml), .int (nI me2), .int pu2, .int (nI de2)])), (hA, .inl (cI, 400, .inl (aN hand))), (eA, .inr (1, [.ref wA, .ref sA, .ref lA, .int dl, .int (nI kept), .int (nI dr)])), (wA, .inl (cI, 2000, .inl (aN tx))), (sA, .inl (cI, 26, .inl (aN sf))), (lA, .inl (cI, 26, .inl (aM ln))), (rA, .inr (2, [.int (nI st2), .int (nI nm2), .int (nI nu2)])), (oA, .inl (cI, 3000, .inl (aN out2))), (pA, .inl (cZ, 26, .inl (aN opn2)))] H locs := Z
          refine lv_iinc (v := nI (i + 1)) (lv' := [(5, .int (nI (i + 1))), (0, .ref dA), (1, .ref hA), (2, .int (nI fr)), (3, .int (nI to)), (4, .int (nI 0))]) C.1 C.2.1 d_Desk_goOver_61 hl (k := 0) rfl (r_inc1 _) (by decide) rfl (fun ls hl => ?_)
          refine lv_goto (tgt := 3) C.1 C.2.1 d_Desk_goOver_64 (by decide) ?_
          have hOP : gOp 0 i (fa, fp, op, out, ol, me, pu, de, opn, st, nm, nu) = (fa, fp, i, out, ol, me, pu, de, opn, st, nm, nu) := by dsimp only [gOp, dOp]; first | rfl | rw [if_neg (by omega)] | rw [if_pos rfl, if_pos (by omega)] | rw [if_pos rfl, if_neg (by omega)]
          have hAT : gAt 0 i (fa, fp, op, out, ol, me, pu, de, opn, st, nm, nu) = i := by dsimp only [gAt]; first | rfl | rw [if_neg (by omega)] | rw [if_pos rfl]
          exact ih (i + 1) fa2 fp2 op2 out2 ol2 me2 pu2 de2 opn2 st2 nm2 nu2 (by omega) (by rw [e2]; exact gOk_char (gOk_into hml d) hS) (by rw [e2, ← hF, gLoop, if_pos h13, hAT, hOP]) _ _ _ Z hl
  exact loop (to - fr) fr fa fp op out ol me pu de opn st nm nu (by omega) hS hX.symm _ _ _ Z hl
set_option maxHeartbeats 8000000 in
set_option maxRecDepth 100000 in
/-- goInto, with no level left -/
theorem GI_0 (l : Launch) (D : va_G) (cI cZ : ClassId) : GI l D cI cZ 0 := by
  intro dA hA eA rA oA pA wA sA lA n fa fp op ol ml me pu de st nm nu dl kept dr tx sf ln hand out opn k y hE hS hk hy hy0
  refine Mv.intro (by decide) (Nat.le_of_ble_eq_true rfl) ?_
  intro p e s m args below meth cd A ls R Q hR hQ C hin Z hl
  have hl : lv_has ls 5 [(0, .ref dA), (1, .int (nI k)), (2, .int (nI y))] := hl
  have hS0 := id hS
  obtain ⟨hfa, hol, hme, hde, hst, hnm, hnu, hop⟩ := hS0
  obtain ⟨htx, hsf, hln, hml⟩ := id hE
  obtain rfl : y = 13 := by omega
  have h13 := fltE_13 (ln k) (opn k) me ml
  have h15 := fltE_le (ln k) (opn k) 13 me ml
  have hlk := hln k
  have hok := hop k
  have hl : lv_has ls 5 [(0, .ref dA), (1, .int (nI k)), (2, .int (nI 13))] := hl
  refine lv_aload_n C.1 C.2.1 d_Desk_goInto_0 rfl (lv_at hl 0 rfl) ?_
  refine lv_iload_n C.1 C.2.1 d_Desk_goInto_1 rfl (lv_at hl 1 rfl) ?_
  refine lv_iload_n C.1 C.2.1 d_Desk_goInto_2 rfl (lv_at hl 2 rfl) ?_
  refine r_callVi (rest := []) (wr := [(hA, .inl (cI, 400, .inl (aN hand))), (wA, .inl (cI, 2000, .inl (aN tx))), (sA, .inl (cI, 26, .inl (aN sf))), (rA, .inr (2, [.int (nI st), .int (nI nm), .int (nI nu)])), (oA, .inl (cI, 3000, .inl (aN out)))]) (wn := fun u => [(dA, .inr (0, [.ref hA, .int (nI n), .ref eA, .ref rA, .int (nI fa), .int fp, .int (nI op), .ref oA, .int (nI ol), .ref pA, .int (nI ml), .int (nI me), .int pu, .int (nI de)])), (hA, .inl (cI, 400, .inl (aN hand))), (eA, .inr (1, [.ref wA, .ref sA, .ref lA, .int dl, .int (nI kept), .int (nI dr)])), (wA, .inl (cI, 2000, .inl (aN tx))), (sA, .inl (cI, 26, .inl (aN sf))), (lA, .inl (cI, 26, .inl (aM ln))), (rA, .inr (2, [.int (nI st), .int (nI nm), .int (nI nu)])), (oA, .inl (cI, 3000, .inl (aN out))), (pA, .inl (cZ, 26, .inl (aN opn)))]) C Z (c_Desk_faultOfEntity l D cI cZ dA hA eA rA oA pA wA sA lA n fa fp op ol ml me pu de dl kept dr ln opn k 13 (by first | assumption | omega) (by first | assumption | omega) (by first | assumption | omega) (by first | assumption | omega) (by first | assumption | omega) (by first | assumption | omega)) k_Desk_143 rfl ⟨by rw [hR]; dsimp only; omega, by rw [hR]; dsimp only; omega⟩ ⟨rfl, rfl⟩ [0, 2, 5, 8] [1, 3, 4, 6, 7] [5, 0, 6, 1, 2, 7, 3, 4, 8] (by decide) rfl rfl (by decide) (by decide) (by decide) (fun _ => rfl) 0 rfl rfl hl.1 rfl (Nat.le_of_ble_eq_true rfl) d_Desk_goInto_3 ⟨Nat.zero_le _, Nat.zero_le _⟩ (fun r u H locs hp Z => ?_)
  obtain ⟨hp1, hp2⟩ := hp; have hp1 := hp1.symm; have hp2 := hp2.symm; subst hp1; subst hp2
  have Z : Wd D A s.heap [(dA, .inr (0, [.ref hA, .int (nI n), .ref eA, .ref rA, .int (nI fa), .int fp, .int (nI op), .ref oA, .int (nI ol), .ref pA, .int (nI ml), .int (nI me), .int pu, .int (nI de)])), (hA, .inl (cI, 400, .inl (aN hand))), (eA, .inr (1, [.ref wA, .ref sA, .ref lA, .int dl, .int (nI kept), .int (nI dr)])), (wA, .inl (cI, 2000, .inl (aN tx))), (sA, .inl (cI, 26, .inl (aN sf))), (lA, .inl (cI, 26, .inl (aM ln))), (rA, .inr (2, [.int (nI st), .int (nI nm), .int (nI nu)])), (oA, .inl (cI, 3000, .inl (aN out))), (pA, .inl (cZ, 26, .inl (aN opn)))] H locs := Z
  refine lv_istore_n (lv' := [(3, .int (nI (fltE (ln k) (opn k) 13 me ml))), (0, .ref dA), (1, .int (nI k)), (2, .int (nI 13))]) C.1 C.2.1 d_Desk_goInto_6 rfl hl (by decide) rfl (fun ls hl => ?_)
  refine lv_iload_n C.1 C.2.1 d_Desk_goInto_7 rfl (lv_at hl 0 rfl) ?_
  refine r_zeq (tgt := 21) C d_Desk_goInto_8 (by decide) (by omega) (fun h8 => (by omega : False).elim) (fun h8 => ?_)
  refine lv_aload_n C.1 C.2.1 d_Desk_goInto_11 rfl (lv_at hl 1 rfl) ?_
  refine lv_iload_n C.1 C.2.1 d_Desk_goInto_12 rfl (lv_at hl 0 rfl) ?_
  refine lv_aload_n C.1 C.2.1 d_Desk_goInto_13 rfl (lv_at hl 1 rfl) ?_
  refine r_get C Z 0 f_Desk_37 rfl rfl d_Desk_goInto_14 ?_
  refine r_callVv (rest := []) (wr := [(hA, .inl (cI, 400, .inl (aN hand))), (eA, .inr (1, [.ref wA, .ref sA, .ref lA, .int dl, .int (nI kept), .int (nI dr)])), (wA, .inl (cI, 2000, .inl (aN tx))), (sA, .inl (cI, 26, .inl (aN sf))), (lA, .inl (cI, 26, .inl (aM ln))), (rA, .inr (2, [.int (nI st), .int (nI nm), .int (nI nu)])), (oA, .inl (cI, 3000, .inl (aN out))), (pA, .inl (cZ, 26, .inl (aN opn)))]) (wn := fun u => [(dA, .inr (0, [.ref hA, .int (nI n), .ref eA, .ref rA, .int (nI u.1), .int u.2, .int (nI op), .ref oA, .int (nI ol), .ref pA, .int (nI ml), .int (nI me), .int pu, .int (nI de)])), (hA, .inl (cI, 400, .inl (aN hand))), (eA, .inr (1, [.ref wA, .ref sA, .ref lA, .int dl, .int (nI kept), .int (nI dr)])), (wA, .inl (cI, 2000, .inl (aN tx))), (sA, .inl (cI, 26, .inl (aN sf))), (lA, .inl (cI, 26, .inl (aM ln))), (rA, .inr (2, [.int (nI st), .int (nI nm), .int (nI nu)])), (oA, .inl (cI, 3000, .inl (aN out))), (pA, .inl (cZ, 26, .inl (aN opn)))]) C Z (c_Desk_fail l D cI cZ dA hA eA rA oA pA n fa fp op ol ml me pu de (fltE (ln k) (opn k) 13 me ml) (nI op)) k_Desk_108 rfl ⟨by rw [hR]; dsimp only; omega, by rw [hR]; dsimp only; omega⟩ ⟨rfl, rfl⟩ [0] [1, 2, 3, 4, 5, 6, 7, 8] [8, 0, 1, 2, 3, 4, 5, 6, 7] (by decide) rfl rfl (by decide) (by decide) (by decide) (fun _ => rfl) 0 rfl rfl hl.1 rfl (Nat.le_of_ble_eq_true rfl) d_Desk_goInto_17 ⟨Nat.zero_le _, Nat.zero_le _⟩ (fun u H locs hp Z => ?_)
  have hp := hp.symm; subst hp
  have Z : Wd D A s.heap [(dA, .inr (0, [.ref hA, .int (nI n), .ref eA, .ref rA, .int (nI (fltE (ln k) (opn k) 13 me ml)), .int (nI op), .int (nI op), .ref oA, .int (nI ol), .ref pA, .int (nI ml), .int (nI me), .int pu, .int (nI de)])), (hA, .inl (cI, 400, .inl (aN hand))), (eA, .inr (1, [.ref wA, .ref sA, .ref lA, .int dl, .int (nI kept), .int (nI dr)])), (wA, .inl (cI, 2000, .inl (aN tx))), (sA, .inl (cI, 26, .inl (aN sf))), (lA, .inl (cI, 26, .inl (aM ln))), (rA, .inr (2, [.int (nI st), .int (nI nm), .int (nI nu)])), (oA, .inl (cI, 3000, .inl (aN out))), (pA, .inl (cZ, 26, .inl (aN opn)))] H locs := Z
  exact r_vret C Z (fltE (ln k) (opn k) 13 me ml, nI op, op, out, ol, me, pu, de, opn, st, nm, nu) (by clear C Z hl; rfl) rfl hQ d_Desk_goInto_20
set_option maxHeartbeats 8000000 in
set_option maxRecDepth 100000 in
/-- goInto, a level left -/
theorem GI_succ (l : Launch) (D : va_G) (cI cZ : ClassId) (d : Nat) (hO : GO l D cI cZ d) : GI l D cI cZ (d + 1) := by
  intro dA hA eA rA oA pA wA sA lA n fa fp op ol ml me pu de st nm nu dl kept dr tx sf ln hand out opn k y hE hS hk hy hy0
  refine Mv.intro (by decide) (Nat.le_of_ble_eq_true rfl) ?_
  intro p e s m args below meth cd A ls R Q hR hQ C hin Z hl
  have hl : lv_has ls 5 [(0, .ref dA), (1, .int (nI k)), (2, .int (nI y))] := hl
  have hS0 := id hS
  obtain ⟨hfa, hol, hme, hde, hst, hnm, hnu, hop⟩ := hS0
  obtain ⟨htx, hsf, hln, hml⟩ := id hE
  have h15 := fltE_le (ln k) (opn k) y me ml
  have hlk := hln k
  have hok := hop k
  refine lv_aload_n C.1 C.2.1 d_Desk_goInto_0 rfl (lv_at hl 0 rfl) ?_
  refine lv_iload_n C.1 C.2.1 d_Desk_goInto_1 rfl (lv_at hl 1 rfl) ?_
  refine lv_iload_n C.1 C.2.1 d_Desk_goInto_2 rfl (lv_at hl 2 rfl) ?_
  refine r_callVi (rest := []) (wr := [(hA, .inl (cI, 400, .inl (aN hand))), (wA, .inl (cI, 2000, .inl (aN tx))), (sA, .inl (cI, 26, .inl (aN sf))), (rA, .inr (2, [.int (nI st), .int (nI nm), .int (nI nu)])), (oA, .inl (cI, 3000, .inl (aN out)))]) (wn := fun u => [(dA, .inr (0, [.ref hA, .int (nI n), .ref eA, .ref rA, .int (nI fa), .int fp, .int (nI op), .ref oA, .int (nI ol), .ref pA, .int (nI ml), .int (nI me), .int pu, .int (nI de)])), (hA, .inl (cI, 400, .inl (aN hand))), (eA, .inr (1, [.ref wA, .ref sA, .ref lA, .int dl, .int (nI kept), .int (nI dr)])), (wA, .inl (cI, 2000, .inl (aN tx))), (sA, .inl (cI, 26, .inl (aN sf))), (lA, .inl (cI, 26, .inl (aM ln))), (rA, .inr (2, [.int (nI st), .int (nI nm), .int (nI nu)])), (oA, .inl (cI, 3000, .inl (aN out))), (pA, .inl (cZ, 26, .inl (aN opn)))]) C Z (c_Desk_faultOfEntity l D cI cZ dA hA eA rA oA pA wA sA lA n fa fp op ol ml me pu de dl kept dr ln opn k y (by first | assumption | omega) (by first | assumption | omega) (by first | assumption | omega) (by first | assumption | omega) (by first | assumption | omega) (by first | assumption | omega)) k_Desk_143 rfl ⟨by rw [hR]; dsimp only; omega, by rw [hR]; dsimp only; omega⟩ ⟨rfl, rfl⟩ [0, 2, 5, 8] [1, 3, 4, 6, 7] [5, 0, 6, 1, 2, 7, 3, 4, 8] (by decide) rfl rfl (by decide) (by decide) (by decide) (fun _ => rfl) 0 rfl rfl hl.1 rfl (Nat.le_of_ble_eq_true rfl) d_Desk_goInto_3 ⟨Nat.zero_le _, Nat.zero_le _⟩ (fun r u H locs hp Z => ?_)
  obtain ⟨hp1, hp2⟩ := hp; have hp1 := hp1.symm; have hp2 := hp2.symm; subst hp1; subst hp2
  have Z : Wd D A s.heap [(dA, .inr (0, [.ref hA, .int (nI n), .ref eA, .ref rA, .int (nI fa), .int fp, .int (nI op), .ref oA, .int (nI ol), .ref pA, .int (nI ml), .int (nI me), .int pu, .int (nI de)])), (hA, .inl (cI, 400, .inl (aN hand))), (eA, .inr (1, [.ref wA, .ref sA, .ref lA, .int dl, .int (nI kept), .int (nI dr)])), (wA, .inl (cI, 2000, .inl (aN tx))), (sA, .inl (cI, 26, .inl (aN sf))), (lA, .inl (cI, 26, .inl (aM ln))), (rA, .inr (2, [.int (nI st), .int (nI nm), .int (nI nu)])), (oA, .inl (cI, 3000, .inl (aN out))), (pA, .inl (cZ, 26, .inl (aN opn)))] H locs := Z
  refine lv_istore_n (lv' := [(3, .int (nI (fltE (ln k) (opn k) y me ml))), (0, .ref dA), (1, .int (nI k)), (2, .int (nI y))]) C.1 C.2.1 d_Desk_goInto_6 rfl hl (by decide) rfl (fun ls hl => ?_)
  refine lv_iload_n C.1 C.2.1 d_Desk_goInto_7 rfl (lv_at hl 0 rfl) ?_
  refine r_zeq (tgt := 21) C d_Desk_goInto_8 (by decide) (by omega) (fun h8 => ?_) (fun h8 => ?_)
  · skip
    obtain ⟨q1, q2, q3, q4⟩ := fltE_0 h8
    have q5 := hsf k hk q1
    refine lv_aload_n C.1 C.2.1 d_Desk_goInto_21 rfl (lv_at hl 1 rfl) ?_
    refine lv_dup C.1 C.2.1 d_Desk_goInto_22 rfl ?_
    refine r_get C Z 0 f_Desk_53 rfl rfl d_Desk_goInto_23 ?_
    refine lv_aload_n C.1 C.2.1 d_Desk_goInto_26 rfl (lv_at hl 1 rfl) ?_
    refine r_get C Z 0 f_Desk_20 rfl rfl d_Desk_goInto_27 ?_
    refine lv_iload_n C.1 C.2.1 d_Desk_goInto_30 rfl (lv_at hl 2 rfl) ?_
    refine r_callNi (rest := [.int (nI me), .ref dA]) (wr := [(dA, .inr (0, [.ref hA, .int (nI n), .ref eA, .ref rA, .int (nI fa), .int fp, .int (nI op), .ref oA, .int (nI ol), .ref pA, .int (nI ml), .int (nI me), .int pu, .int (nI de)])), (hA, .inl (cI, 400, .inl (aN hand))), (wA, .inl (cI, 2000, .inl (aN tx))), (sA, .inl (cI, 26, .inl (aN sf))), (rA, .inr (2, [.int (nI st), .int (nI nm), .int (nI nu)])), (oA, .inl (cI, 3000, .inl (aN out))), (pA, .inl (cZ, 26, .inl (aN opn)))]) (wn := fun u => [(dA, .inr (0, [.ref hA, .int (nI n), .ref eA, .ref rA, .int (nI fa), .int fp, .int (nI op), .ref oA, .int (nI ol), .ref pA, .int (nI ml), .int (nI me), .int pu, .int (nI de)])), (hA, .inl (cI, 400, .inl (aN hand))), (eA, .inr (1, [.ref wA, .ref sA, .ref lA, .int dl, .int (nI kept), .int (nI dr)])), (wA, .inl (cI, 2000, .inl (aN tx))), (sA, .inl (cI, 26, .inl (aN sf))), (lA, .inl (cI, 26, .inl (aM ln))), (rA, .inr (2, [.int (nI st), .int (nI nm), .int (nI nu)])), (oA, .inl (cI, 3000, .inl (aN out))), (pA, .inl (cZ, 26, .inl (aN opn)))]) C Z (c_Ents_lengthOf l D cI cZ eA wA sA lA dl kept dr ln k (by first | assumption | omega) (by first | assumption | omega)) k_Desk_83 rfl ⟨by rw [hR]; dsimp only; omega, by rw [hR]; dsimp only; omega⟩ ⟨rfl, rfl⟩ [2, 5] [0, 1, 3, 4, 6, 7, 8] [0, 1, 7, 2, 3, 8, 4, 5, 6] (by decide) rfl rfl (by decide) (by decide) (by decide) (fun _ => rfl) 2 rfl rfl hl.1 rfl (Nat.le_of_ble_eq_true rfl) d_Desk_goInto_31 ⟨Nat.zero_le _, Nat.zero_le _⟩ (fun r u H locs hp Z => ?_)
    obtain ⟨hp1, hp2⟩ := hp; have hp1 := hp1.symm; have hp2 := hp2.symm; subst hp1; subst hp2
    have Z : Wd D A s.heap [(dA, .inr (0, [.ref hA, .int (nI n), .ref eA, .ref rA, .int (nI fa), .int fp, .int (nI op), .ref oA, .int (nI ol), .ref pA, .int (nI ml), .int (nI me), .int pu, .int (nI de)])), (hA, .inl (cI, 400, .inl (aN hand))), (eA, .inr (1, [.ref wA, .ref sA, .ref lA, .int dl, .int (nI kept), .int (nI dr)])), (wA, .inl (cI, 2000, .inl (aN tx))), (sA, .inl (cI, 26, .inl (aN sf))), (lA, .inl (cI, 26, .inl (aM ln))), (rA, .inr (2, [.int (nI st), .int (nI nm), .int (nI nu)])), (oA, .inl (cI, 3000, .inl (aN out))), (pA, .inl (cZ, 26, .inl (aN opn)))] H locs := Z
    refine r_add C d_Desk_goInto_34 ?_
    refine r_put (ws' := [(dA, .inr (0, [.ref hA, .int (nI n), .ref eA, .ref rA, .int (nI fa), .int fp, .int (nI op), .ref oA, .int (nI ol), .ref pA, .int (nI ml), .int (nI (me + (ln k - 1))), .int pu, .int (nI de)])), (hA, .inl (cI, 400, .inl (aN hand))), (eA, .inr (1, [.ref wA, .ref sA, .ref lA, .int dl, .int (nI kept), .int (nI dr)])), (wA, .inl (cI, 2000, .inl (aN tx))), (sA, .inl (cI, 26, .inl (aN sf))), (lA, .inl (cI, 26, .inl (aM ln))), (rA, .inr (2, [.int (nI st), .int (nI nm), .int (nI nu)])), (oA, .inl (cI, 3000, .inl (aN out))), (pA, .inl (cZ, 26, .inl (aN opn)))]) C Z 0 f_Desk_53 rfl rfl rfl (Nat.le_of_ble_eq_true rfl) rfl d_Desk_goInto_35 (fun H locs Z => ?_)
    refine lv_aload_n C.1 C.2.1 d_Desk_goInto_38 rfl (lv_at hl 1 rfl) ?_
    refine lv_dup C.1 C.2.1 d_Desk_goInto_39 rfl ?_
    refine r_get C Z 0 f_Desk_56 rfl rfl d_Desk_goInto_40 ?_
    refine lv_iconst (v := nI 1) C.1 C.2.1 d_Desk_goInto_43 (by decide) ?_
    refine lv_iadd C.1 C.2.1 d_Desk_goInto_44 ?_
    refine r_put (ws' := [(dA, .inr (0, [.ref hA, .int (nI n), .ref eA, .ref rA, .int (nI fa), .int fp, .int (nI op), .ref oA, .int (nI ol), .ref pA, .int (nI ml), .int (nI (me + (ln k - 1))), .int (pu + nI 1), .int (nI de)])), (hA, .inl (cI, 400, .inl (aN hand))), (eA, .inr (1, [.ref wA, .ref sA, .ref lA, .int dl, .int (nI kept), .int (nI dr)])), (wA, .inl (cI, 2000, .inl (aN tx))), (sA, .inl (cI, 26, .inl (aN sf))), (lA, .inl (cI, 26, .inl (aM ln))), (rA, .inr (2, [.int (nI st), .int (nI nm), .int (nI nu)])), (oA, .inl (cI, 3000, .inl (aN out))), (pA, .inl (cZ, 26, .inl (aN opn)))]) C Z 0 f_Desk_56 rfl rfl rfl (Nat.le_of_ble_eq_true rfl) rfl d_Desk_goInto_45 (fun H locs Z => ?_)
    refine lv_aload_n C.1 C.2.1 d_Desk_goInto_48 rfl (lv_at hl 1 rfl) ?_
    refine lv_aload_n C.1 C.2.1 d_Desk_goInto_49 rfl (lv_at hl 1 rfl) ?_
    refine r_get C Z 0 f_Desk_59 rfl rfl d_Desk_goInto_50 ?_
    refine lv_iload_n C.1 C.2.1 d_Desk_goInto_53 rfl (lv_at hl 3 rfl) ?_
    refine r_mmax C k_Desk_146 hl.1 (by rw [hR]; dsimp only; omega) (by rw [hR]; dsimp only [List.map, List.sum, Value.category]; simp [Value.category]; omega) (Nat.zero_le _) (Nat.zero_le _) (by omega) (by omega) d_Desk_goInto_54 ?_
    refine r_put (ws' := [(dA, .inr (0, [.ref hA, .int (nI n), .ref eA, .ref rA, .int (nI fa), .int fp, .int (nI op), .ref oA, .int (nI ol), .ref pA, .int (nI ml), .int (nI (me + (ln k - 1))), .int (pu + nI 1), .int (nI (max de y))])), (hA, .inl (cI, 400, .inl (aN hand))), (eA, .inr (1, [.ref wA, .ref sA, .ref lA, .int dl, .int (nI kept), .int (nI dr)])), (wA, .inl (cI, 2000, .inl (aN tx))), (sA, .inl (cI, 26, .inl (aN sf))), (lA, .inl (cI, 26, .inl (aM ln))), (rA, .inr (2, [.int (nI st), .int (nI nm), .int (nI nu)])), (oA, .inl (cI, 3000, .inl (aN out))), (pA, .inl (cZ, 26, .inl (aN opn)))]) C Z 0 f_Desk_59 rfl rfl rfl (Nat.le_of_ble_eq_true rfl) rfl d_Desk_goInto_57 (fun H locs Z => ?_)
    refine lv_aload_n C.1 C.2.1 d_Desk_goInto_60 rfl (lv_at hl 1 rfl) ?_
    refine r_get C Z 0 f_Desk_46 rfl rfl d_Desk_goInto_61 ?_
    refine lv_iload_n C.1 C.2.1 d_Desk_goInto_64 rfl (lv_at hl 2 rfl) ?_
    refine lv_iconst (v := nI 1) C.1 C.2.1 d_Desk_goInto_65 (by decide) ?_
    refine r_zstN (ws' := [(dA, .inr (0, [.ref hA, .int (nI n), .ref eA, .ref rA, .int (nI fa), .int fp, .int (nI op), .ref oA, .int (nI ol), .ref pA, .int (nI ml), .int (nI (me + (ln k - 1))), .int (pu + nI 1), .int (nI (max de y))])), (hA, .inl (cI, 400, .inl (aN hand))), (eA, .inr (1, [.ref wA, .ref sA, .ref lA, .int dl, .int (nI kept), .int (nI dr)])), (wA, .inl (cI, 2000, .inl (aN tx))), (sA, .inl (cI, 26, .inl (aN sf))), (lA, .inl (cI, 26, .inl (aM ln))), (rA, .inr (2, [.int (nI st), .int (nI nm), .int (nI nu)])), (oA, .inl (cI, 3000, .inl (aN out))), (pA, .inl (cZ, 26, .inl (aN (updN opn k 1))))]) C Z 8 rfl (by omega) (by decide) (by omega) rfl d_Desk_goInto_66 (fun H locs Z => ?_)
    refine lv_aload_n C.1 C.2.1 d_Desk_goInto_67 rfl (lv_at hl 1 rfl) ?_
    refine r_get C Z 0 f_Desk_20 rfl rfl d_Desk_goInto_68 ?_
    refine lv_iload_n C.1 C.2.1 d_Desk_goInto_71 rfl (lv_at hl 2 rfl) ?_
    refine r_callNi (rest := []) (wr := [(dA, .inr (0, [.ref hA, .int (nI n), .ref eA, .ref rA, .int (nI fa), .int fp, .int (nI op), .ref oA, .int (nI ol), .ref pA, .int (nI ml), .int (nI (me + (ln k - 1))), .int (pu + nI 1), .int (nI (max de y))])), (hA, .inl (cI, 400, .inl (aN hand))), (wA, .inl (cI, 2000, .inl (aN tx))), (lA, .inl (cI, 26, .inl (aM ln))), (rA, .inr (2, [.int (nI st), .int (nI nm), .int (nI nu)])), (oA, .inl (cI, 3000, .inl (aN out))), (pA, .inl (cZ, 26, .inl (aN (updN opn k 1))))]) (wn := fun u => [(dA, .inr (0, [.ref hA, .int (nI n), .ref eA, .ref rA, .int (nI fa), .int fp, .int (nI op), .ref oA, .int (nI ol), .ref pA, .int (nI ml), .int (nI (me + (ln k - 1))), .int (pu + nI 1), .int (nI (max de y))])), (hA, .inl (cI, 400, .inl (aN hand))), (eA, .inr (1, [.ref wA, .ref sA, .ref lA, .int dl, .int (nI kept), .int (nI dr)])), (wA, .inl (cI, 2000, .inl (aN tx))), (sA, .inl (cI, 26, .inl (aN sf))), (lA, .inl (cI, 26, .inl (aM ln))), (rA, .inr (2, [.int (nI st), .int (nI nm), .int (nI nu)])), (oA, .inl (cI, 3000, .inl (aN out))), (pA, .inl (cZ, 26, .inl (aN (updN opn k 1))))]) C Z (c_Ents_startOf l D cI cZ eA wA sA lA dl kept dr sf k (by first | assumption | omega)) k_Desk_151 rfl ⟨by rw [hR]; dsimp only; omega, by rw [hR]; dsimp only; omega⟩ ⟨rfl, rfl⟩ [2, 4] [0, 1, 3, 5, 6, 7, 8] [0, 1, 7, 2, 8, 3, 4, 5, 6] (by decide) rfl rfl (by decide) (by decide) (by decide) (fun _ => rfl) 2 rfl rfl hl.1 rfl (Nat.le_of_ble_eq_true rfl) d_Desk_goInto_72 ⟨Nat.zero_le _, Nat.zero_le _⟩ (fun r u H locs hp Z => ?_)
    obtain ⟨hp1, hp2⟩ := hp; have hp1 := hp1.symm; have hp2 := hp2.symm; subst hp1; subst hp2
    have Z : Wd D A s.heap [(dA, .inr (0, [.ref hA, .int (nI n), .ref eA, .ref rA, .int (nI fa), .int fp, .int (nI op), .ref oA, .int (nI ol), .ref pA, .int (nI ml), .int (nI (me + (ln k - 1))), .int (pu + nI 1), .int (nI (max de y))])), (hA, .inl (cI, 400, .inl (aN hand))), (eA, .inr (1, [.ref wA, .ref sA, .ref lA, .int dl, .int (nI kept), .int (nI dr)])), (wA, .inl (cI, 2000, .inl (aN tx))), (sA, .inl (cI, 26, .inl (aN sf))), (lA, .inl (cI, 26, .inl (aM ln))), (rA, .inr (2, [.int (nI st), .int (nI nm), .int (nI nu)])), (oA, .inl (cI, 3000, .inl (aN out))), (pA, .inl (cZ, 26, .inl (aN (updN opn k 1))))] H locs := Z
    refine lv_istore (lv' := [(4, .int (nI (sf k))), (3, .int (nI (fltE (ln k) (opn k) y me ml))), (0, .ref dA), (1, .int (nI k)), (2, .int (nI y))]) C.1 C.2.1 d_Desk_goInto_75 hl (by decide) rfl (fun ls hl => ?_)
    refine lv_aload_n C.1 C.2.1 d_Desk_goInto_77 rfl (lv_at hl 2 rfl) ?_
    refine lv_aload_n C.1 C.2.1 d_Desk_goInto_78 rfl (lv_at hl 2 rfl) ?_
    refine r_get C Z 0 f_Desk_20 rfl rfl d_Desk_goInto_79 ?_
    refine r_getN C Z 2 f_Desk_154 rfl rfl d_Desk_goInto_82 ?_
    refine lv_iload C.1 C.2.1 d_Desk_goInto_85 (lv_at hl 0 rfl) ?_
    refine lv_iload C.1 C.2.1 d_Desk_goInto_87 (lv_at hl 0 rfl) ?_
    refine lv_aload_n C.1 C.2.1 d_Desk_goInto_89 rfl (lv_at hl 2 rfl) ?_
    refine r_get C Z 0 f_Desk_20 rfl rfl d_Desk_goInto_90 ?_
    refine lv_iload_n C.1 C.2.1 d_Desk_goInto_93 rfl (lv_at hl 3 rfl) ?_
    refine r_callNi (rest := [.int (nI (sf k)), .int (nI (sf k)), .ref wA, .ref dA]) (wr := [(dA, .inr (0, [.ref hA, .int (nI n), .ref eA, .ref rA, .int (nI fa), .int fp, .int (nI op), .ref oA, .int (nI ol), .ref pA, .int (nI ml), .int (nI (me + (ln k - 1))), .int (pu + nI 1), .int (nI (max de y))])), (hA, .inl (cI, 400, .inl (aN hand))), (wA, .inl (cI, 2000, .inl (aN tx))), (sA, .inl (cI, 26, .inl (aN sf))), (rA, .inr (2, [.int (nI st), .int (nI nm), .int (nI nu)])), (oA, .inl (cI, 3000, .inl (aN out))), (pA, .inl (cZ, 26, .inl (aN (updN opn k 1))))]) (wn := fun u => [(dA, .inr (0, [.ref hA, .int (nI n), .ref eA, .ref rA, .int (nI fa), .int fp, .int (nI op), .ref oA, .int (nI ol), .ref pA, .int (nI ml), .int (nI (me + (ln k - 1))), .int (pu + nI 1), .int (nI (max de y))])), (hA, .inl (cI, 400, .inl (aN hand))), (eA, .inr (1, [.ref wA, .ref sA, .ref lA, .int dl, .int (nI kept), .int (nI dr)])), (wA, .inl (cI, 2000, .inl (aN tx))), (sA, .inl (cI, 26, .inl (aN sf))), (lA, .inl (cI, 26, .inl (aM ln))), (rA, .inr (2, [.int (nI st), .int (nI nm), .int (nI nu)])), (oA, .inl (cI, 3000, .inl (aN out))), (pA, .inl (cZ, 26, .inl (aN (updN opn k 1))))]) C Z (c_Ents_lengthOf l D cI cZ eA wA sA lA dl kept dr ln k (by first | assumption | omega) (by first | assumption | omega)) k_Desk_83 rfl ⟨by rw [hR]; dsimp only; omega, by rw [hR]; dsimp only; omega⟩ ⟨rfl, rfl⟩ [2, 5] [0, 1, 3, 4, 6, 7, 8] [0, 1, 7, 2, 3, 8, 4, 5, 6] (by decide) rfl rfl (by decide) (by decide) (by decide) (fun _ => rfl) 2 rfl rfl hl.1 rfl (Nat.le_of_ble_eq_true rfl) d_Desk_goInto_94 ⟨Nat.zero_le _, Nat.zero_le _⟩ (fun r u H locs hp Z => ?_)
    obtain ⟨hp1, hp2⟩ := hp; have hp1 := hp1.symm; have hp2 := hp2.symm; subst hp1; subst hp2
    have Z : Wd D A s.heap [(dA, .inr (0, [.ref hA, .int (nI n), .ref eA, .ref rA, .int (nI fa), .int fp, .int (nI op), .ref oA, .int (nI ol), .ref pA, .int (nI ml), .int (nI (me + (ln k - 1))), .int (pu + nI 1), .int (nI (max de y))])), (hA, .inl (cI, 400, .inl (aN hand))), (eA, .inr (1, [.ref wA, .ref sA, .ref lA, .int dl, .int (nI kept), .int (nI dr)])), (wA, .inl (cI, 2000, .inl (aN tx))), (sA, .inl (cI, 26, .inl (aN sf))), (lA, .inl (cI, 26, .inl (aM ln))), (rA, .inr (2, [.int (nI st), .int (nI nm), .int (nI nu)])), (oA, .inl (cI, 3000, .inl (aN out))), (pA, .inl (cZ, 26, .inl (aN (updN opn k 1))))] H locs := Z
    refine r_add C d_Desk_goInto_97 ?_
    refine lv_iload_n C.1 C.2.1 d_Desk_goInto_98 rfl (lv_at hl 4 rfl) ?_
    refine r_callVv (rest := []) (wr := []) (wn := fun u => [(dA, .inr (0, [.ref hA, .int (nI n), .ref eA, .ref rA, .int (nI u.1), .int u.2.1, .int (nI u.2.2.1), .ref oA, .int (nI u.2.2.2.2.1), .ref pA, .int (nI ml), .int (nI u.2.2.2.2.2.1), .int u.2.2.2.2.2.2.1, .int (nI u.2.2.2.2.2.2.2.1)])), (hA, .inl (cI, 400, .inl (aN hand))), (eA, .inr (1, [.ref wA, .ref sA, .ref lA, .int dl, .int (nI kept), .int (nI dr)])), (wA, .inl (cI, 2000, .inl (aN tx))), (sA, .inl (cI, 26, .inl (aN sf))), (lA, .inl (cI, 26, .inl (aM ln))), (rA, .inr (2, [.int (nI u.2.2.2.2.2.2.2.2.2.1), .int (nI u.2.2.2.2.2.2.2.2.2.2.1), .int (nI u.2.2.2.2.2.2.2.2.2.2.2)])), (oA, .inl (cI, 3000, .inl (aN u.2.2.2.1))), (pA, .inl (cZ, 26, .inl (aN u.2.2.2.2.2.2.2.2.1)))]) C Z (hO dA hA eA rA oA pA wA sA lA n fa fp op ol ml (me + (ln k - 1)) (pu + nI 1) (max de y) st nm nu dl kept dr tx sf ln hand out (updN opn k 1) (sf k) ((sf k) + (ln k - 1)) y hE (gOk_enter (ln := ln) (ml := ml) hml hS h8) (by first | assumption | omega) (by first | assumption | omega) (by first | assumption | omega) (by first | assumption | omega)) k_Desk_88 rfl ⟨by rw [hR]; dsimp only; omega, by rw [hR]; dsimp only; omega⟩ ⟨rfl, rfl⟩ [0, 1, 2, 3, 4, 5, 6, 7, 8] [] [0, 1, 2, 3, 4, 5, 6, 7, 8] (by decide) rfl rfl (by decide) (by decide) (by decide) (fun _ => rfl) 0 rfl rfl hl.1 rfl (Nat.le_of_ble_eq_true rfl) d_Desk_goInto_99 ⟨Nat.zero_le _, Nat.zero_le _⟩ (fun u H locs hp Z => ?_)
    obtain ⟨fa1, fp1, op1, out1, ol1, me1, pu1, de1, opn1, st1, nm1, nu1⟩ := u
    have e1 : (fa1, fp1, op1, out1, ol1, me1, pu1, de1, opn1, st1, nm1, nu1) = gOver (gInto tx sf ln ml d) y tx (sf k) ((sf k) + (ln k - 1)) (fa, fp, op, out, ol, (me + (ln k - 1)), (pu + nI 1), (max de y), (updN opn k 1), st, nm, nu) := hp
    have Z : Wd D A s.heap [(dA, .inr (0, [.ref hA, .int (nI n), .ref eA, .ref rA, .int (nI fa1), .int fp1, .int (nI op1), .ref oA, .int (nI ol1), .ref pA, .int (nI ml), .int (nI me1), .int pu1, .int (nI de1)])), (hA, .inl (cI, 400, .inl (aN hand))), (eA, .inr (1, [.ref wA, .ref sA, .ref lA, .int dl, .int (nI kept), .int (nI dr)])), (wA, .inl (cI, 2000, .inl (aN tx))), (sA, .inl (cI, 26, .inl (aN sf))), (lA, .inl (cI, 26, .inl (aM ln))), (rA, .inr (2, [.int (nI st1), .int (nI nm1), .int (nI nu1)])), (oA, .inl (cI, 3000, .inl (aN out1))), (pA, .inl (cZ, 26, .inl (aN opn1)))] H locs := Z
    refine lv_aload_n C.1 C.2.1 d_Desk_goInto_102 rfl (lv_at hl 2 rfl) ?_
    refine r_get C Z 0 f_Desk_46 rfl rfl d_Desk_goInto_103 ?_
    refine lv_iload_n C.1 C.2.1 d_Desk_goInto_106 rfl (lv_at hl 3 rfl) ?_
    refine lv_iconst (v := nI 0) C.1 C.2.1 d_Desk_goInto_107 (by decide) ?_
    refine r_zstN (ws' := [(dA, .inr (0, [.ref hA, .int (nI n), .ref eA, .ref rA, .int (nI fa1), .int fp1, .int (nI op1), .ref oA, .int (nI ol1), .ref pA, .int (nI ml), .int (nI me1), .int pu1, .int (nI de1)])), (hA, .inl (cI, 400, .inl (aN hand))), (eA, .inr (1, [.ref wA, .ref sA, .ref lA, .int dl, .int (nI kept), .int (nI dr)])), (wA, .inl (cI, 2000, .inl (aN tx))), (sA, .inl (cI, 26, .inl (aN sf))), (lA, .inl (cI, 26, .inl (aM ln))), (rA, .inr (2, [.int (nI st1), .int (nI nm1), .int (nI nu1)])), (oA, .inl (cI, 3000, .inl (aN out1))), (pA, .inl (cZ, 26, .inl (aN (updN opn1 k 0))))]) C Z 8 rfl (by omega) (by decide) (by omega) rfl d_Desk_goInto_108 (fun H locs Z => ?_)
    exact r_vret C Z (fa1, fp1, op1, out1, ol1, me1, pu1, de1, updN opn1 k 0, st1, nm1, nu1) (by clear C Z hl; rw [gInto, show 12 - d = y by omega, if_pos (show gFlt ln ml k y (fa, fp, op, out, ol, me, pu, de, opn, st, nm, nu) = 0 from h8), ← (show _ = gOver _ _ _ _ _ (gEnter (ln k - 1) k y (fa, fp, op, out, ol, me, pu, de, opn, st, nm, nu)) from e1)]; rfl) rfl hQ d_Desk_goInto_109
  · skip
    refine lv_aload_n C.1 C.2.1 d_Desk_goInto_11 rfl (lv_at hl 1 rfl) ?_
    refine lv_iload_n C.1 C.2.1 d_Desk_goInto_12 rfl (lv_at hl 0 rfl) ?_
    refine lv_aload_n C.1 C.2.1 d_Desk_goInto_13 rfl (lv_at hl 1 rfl) ?_
    refine r_get C Z 0 f_Desk_37 rfl rfl d_Desk_goInto_14 ?_
    refine r_callVv (rest := []) (wr := [(hA, .inl (cI, 400, .inl (aN hand))), (eA, .inr (1, [.ref wA, .ref sA, .ref lA, .int dl, .int (nI kept), .int (nI dr)])), (wA, .inl (cI, 2000, .inl (aN tx))), (sA, .inl (cI, 26, .inl (aN sf))), (lA, .inl (cI, 26, .inl (aM ln))), (rA, .inr (2, [.int (nI st), .int (nI nm), .int (nI nu)])), (oA, .inl (cI, 3000, .inl (aN out))), (pA, .inl (cZ, 26, .inl (aN opn)))]) (wn := fun u => [(dA, .inr (0, [.ref hA, .int (nI n), .ref eA, .ref rA, .int (nI u.1), .int u.2, .int (nI op), .ref oA, .int (nI ol), .ref pA, .int (nI ml), .int (nI me), .int pu, .int (nI de)])), (hA, .inl (cI, 400, .inl (aN hand))), (eA, .inr (1, [.ref wA, .ref sA, .ref lA, .int dl, .int (nI kept), .int (nI dr)])), (wA, .inl (cI, 2000, .inl (aN tx))), (sA, .inl (cI, 26, .inl (aN sf))), (lA, .inl (cI, 26, .inl (aM ln))), (rA, .inr (2, [.int (nI st), .int (nI nm), .int (nI nu)])), (oA, .inl (cI, 3000, .inl (aN out))), (pA, .inl (cZ, 26, .inl (aN opn)))]) C Z (c_Desk_fail l D cI cZ dA hA eA rA oA pA n fa fp op ol ml me pu de (fltE (ln k) (opn k) y me ml) (nI op)) k_Desk_108 rfl ⟨by rw [hR]; dsimp only; omega, by rw [hR]; dsimp only; omega⟩ ⟨rfl, rfl⟩ [0] [1, 2, 3, 4, 5, 6, 7, 8] [8, 0, 1, 2, 3, 4, 5, 6, 7] (by decide) rfl rfl (by decide) (by decide) (by decide) (fun _ => rfl) 0 rfl rfl hl.1 rfl (Nat.le_of_ble_eq_true rfl) d_Desk_goInto_17 ⟨Nat.zero_le _, Nat.zero_le _⟩ (fun u H locs hp Z => ?_)
    have hp := hp.symm; subst hp
    have Z : Wd D A s.heap [(dA, .inr (0, [.ref hA, .int (nI n), .ref eA, .ref rA, .int (nI (fltE (ln k) (opn k) y me ml)), .int (nI op), .int (nI op), .ref oA, .int (nI ol), .ref pA, .int (nI ml), .int (nI me), .int pu, .int (nI de)])), (hA, .inl (cI, 400, .inl (aN hand))), (eA, .inr (1, [.ref wA, .ref sA, .ref lA, .int dl, .int (nI kept), .int (nI dr)])), (wA, .inl (cI, 2000, .inl (aN tx))), (sA, .inl (cI, 26, .inl (aN sf))), (lA, .inl (cI, 26, .inl (aM ln))), (rA, .inr (2, [.int (nI st), .int (nI nm), .int (nI nu)])), (oA, .inl (cI, 3000, .inl (aN out))), (pA, .inl (cZ, 26, .inl (aN opn)))] H locs := Z
    exact r_vret C Z (fltE (ln k) (opn k) y me ml, nI op, op, out, ol, me, pu, de, opn, st, nm, nu) (by clear C Z hl; rw [gInto, show 12 - d = y by omega, if_neg (show ¬ gFlt ln ml k y (fa, fp, op, out, ol, me, pu, de, opn, st, nm, nu) = 0 from h8)]; rfl) rfl hQ d_Desk_goInto_20
theorem GI_all (l : Launch) (D : va_G) (cI cZ : ClassId) : ∀ d, GI l D cI cZ d := by
  intro d
  induction d with
  | zero => exact GI_0 l D cI cZ
  | succ d ih => exact GI_succ l D cI cZ d (GO_of l D cI cZ d (GC_of l D cI cZ d ih))
theorem GZ_all (l : Launch) (D : va_G) (cI cZ : ClassId) (d : Nat) : GZ l D cI cZ d := GZ_of l D cI cZ d (GC_of l D cI cZ d (GI_all l D cI cZ d))
end
section
set_option maxHeartbeats 4000000 in
set_option maxRecDepth 100000 in
theorem c_Desk_putBad (l : Launch) (D : va_G) (cI cZ : ClassId) (dA hA eA rA oA pA : Nat) (n : Nat) (fa : Nat) (fp : Int32) (op : Nat) (ol : Nat) (ml : Nat) (me : Nat) (pu : Int32) (de : Nat) (v : Int64) (x : Int32) (hx : x < nI 1 ∨ nI 8 < x) : Mi l y_Desk_put b_Desk_put 5 (some .boolean) ({ frames := 0, cells := 0, slots := 0, locals := 0 } : Room) D cI cZ [.ref dA, .long v, .int x] [(dA, .inr (0, [.ref hA, .int (nI n), .ref eA, .ref rA, .int (nI fa), .int fp, .int (nI op), .ref oA, .int (nI ol), .ref pA, .int (nI ml), .int (nI me), .int pu, .int (nI de)]))] (fun (r : Int32) (u : Unit) => r = nI 0 ∧ u = ()) (fun u : Unit => [(dA, .inr (0, [.ref hA, .int (nI n), .ref eA, .ref rA, .int (nI fa), .int fp, .int (nI op), .ref oA, .int (nI ol), .ref pA, .int (nI ml), .int (nI me), .int pu, .int (nI de)]))]) := by
  refine Mi.intro (by decide) (Nat.le_of_ble_eq_true rfl) ?_
  intro p e s m args below meth cd A ls R Q hR hQ C Z hl
  have hl : lv_has ls 5 [(0, .ref dA), (1, .long v), (3, .int x)] := hl
  refine lv_iload_n C.1 C.2.1 d_Desk_put_0 rfl (lv_at hl 2 rfl) ?_
  refine lv_iconst (v := nI 1) C.1 C.2.1 d_Desk_put_1 (by decide) ?_
  refine lv_icmp_lt (tgt := 23) C.1 C.2.1 d_Desk_put_2 (by decide) (fun h2 => ?_) (fun h2 => ?_)
  · skip
    refine lv_iconst (v := nI 0) C.1 C.2.1 d_Desk_put_23 (by decide) ?_
    exact r_zret C Z (by omega) () (by first | exact ⟨rfl, rfl⟩ | (clear C Z hl; simp [h2]; done) | (clear C Z hl; grind)) rfl hQ d_Desk_put_24
  · skip
    refine lv_iload_n C.1 C.2.1 d_Desk_put_5 rfl (lv_at hl 2 rfl) ?_
    refine lv_bipush (v := nI 8) C.1 C.2.1 d_Desk_put_6 (by decide) ?_
    refine lv_icmp_gt (tgt := 23) C.1 C.2.1 d_Desk_put_8 (by decide) (fun h8 => ?_) (fun h8 => ?_)
    · skip
      refine lv_iconst (v := nI 0) C.1 C.2.1 d_Desk_put_23 (by decide) ?_
      exact r_zret C Z (by omega) () (by first | exact ⟨rfl, rfl⟩ | (clear C Z hl; simp [h2, h8]; done) | (clear C Z hl; grind)) rfl hQ d_Desk_put_24
    · skip
      exact (hx.elim (fun q => h2 q) (fun q => h8 q)).elim

set_option maxHeartbeats 4000000 in
set_option maxRecDepth 100000 in
theorem c_Desk_putFull (l : Launch) (D : va_G) (cI cZ : ClassId) (dA hA eA rA oA pA : Nat) (n : Nat) (fa : Nat) (fp : Int32) (op : Nat) (ol : Nat) (ml : Nat) (me : Nat) (pu : Int32) (de : Nat) (v : Int64) (q : Nat) (hq : 1 ≤ q ∧ q ≤ 8) (hn : n ≤ 400) (hf : 400 < n + q) : Mi l y_Desk_put b_Desk_put 5 (some .boolean) ({ frames := 0, cells := 0, slots := 0, locals := 0 } : Room) D cI cZ [.ref dA, .long v, .int (nI q)] [(dA, .inr (0, [.ref hA, .int (nI n), .ref eA, .ref rA, .int (nI fa), .int fp, .int (nI op), .ref oA, .int (nI ol), .ref pA, .int (nI ml), .int (nI me), .int pu, .int (nI de)]))] (fun (r : Int32) (u : Unit) => r = nI 0 ∧ u = ()) (fun u : Unit => [(dA, .inr (0, [.ref hA, .int (nI n), .ref eA, .ref rA, .int (nI fa), .int fp, .int (nI op), .ref oA, .int (nI ol), .ref pA, .int (nI ml), .int (nI me), .int pu, .int (nI de)]))]) := by
  refine Mi.intro (by decide) (Nat.le_of_ble_eq_true rfl) ?_
  intro p e s m args below meth cd A ls R Q hR hQ C Z hl
  have hl : lv_has ls 5 [(0, .ref dA), (1, .long v), (3, .int (nI q))] := hl
  refine lv_iload_n C.1 C.2.1 d_Desk_put_0 rfl (lv_at hl 2 rfl) ?_
  refine lv_iconst (v := nI 1) C.1 C.2.1 d_Desk_put_1 (by decide) ?_
  refine r_lt (tgt := 23) C d_Desk_put_2 (by decide) (by omega) (by omega) (fun h2 => (by omega : False).elim) (fun h2 => ?_)
  refine lv_iload_n C.1 C.2.1 d_Desk_put_5 rfl (lv_at hl 2 rfl) ?_
  refine lv_bipush (v := nI 8) C.1 C.2.1 d_Desk_put_6 (by decide) ?_
  refine r_gt (tgt := 23) C d_Desk_put_8 (by decide) (by omega) (by omega) (fun h8 => (by omega : False).elim) (fun h8 => ?_)
  refine lv_aload_n C.1 C.2.1 d_Desk_put_11 rfl (lv_at hl 0 rfl) ?_
  refine r_get C Z 0 f_Desk_13 rfl rfl d_Desk_put_12 ?_
  refine lv_iload_n C.1 C.2.1 d_Desk_put_15 rfl (lv_at hl 2 rfl) ?_
  refine r_add C d_Desk_put_16 ?_
  refine lv_sipush (v := nI 400) C.1 C.2.1 d_Desk_put_17 (by decide) ?_
  refine r_le (tgt := 25) C d_Desk_put_20 (by decide) (by omega) (by omega) (fun h20 => (by omega : False).elim) (fun h20 => ?_)
  refine lv_iconst (v := nI 0) C.1 C.2.1 d_Desk_put_23 (by decide) ?_
  exact r_zret C Z (by omega) () (by first | exact ⟨rfl, rfl⟩ | (clear C Z hl; simp [h2, h8, h20]; done) | (clear C Z hl; grind)) rfl hQ d_Desk_put_24

set_option maxHeartbeats 4000000 in
set_option maxRecDepth 100000 in
theorem c_Desk_put (l : Launch) (D : va_G) (cI cZ : ClassId) (dA hA eA rA oA pA : Nat) (n : Nat) (fa : Nat) (fp : Int32) (op : Nat) (ol : Nat) (ml : Nat) (me : Nat) (pu : Int32) (de : Nat) (hand : Nat → Nat) (v : Int64) (q : Nat) (hq : 1 ≤ q ∧ q ≤ 8) (hf : n + q ≤ 400) : Mi l y_Desk_put b_Desk_put 5 (some .boolean) ({ frames := 0, cells := 0, slots := 0, locals := 0 } : Room) D cI cZ [.ref dA, .long v, .int (nI q)] [(dA, .inr (0, [.ref hA, .int (nI n), .ref eA, .ref rA, .int (nI fa), .int fp, .int (nI op), .ref oA, .int (nI ol), .ref pA, .int (nI ml), .int (nI me), .int pu, .int (nI de)])), (hA, .inl (cI, 400, .inl (aN hand)))] (fun (r : Int32) (u : Nat × (Nat → Nat)) => r = nI 1 ∧ u = (n + q, putL v q n hand)) (fun u : Nat × (Nat → Nat) => [(dA, .inr (0, [.ref hA, .int (nI u.1), .ref eA, .ref rA, .int (nI fa), .int fp, .int (nI op), .ref oA, .int (nI ol), .ref pA, .int (nI ml), .int (nI me), .int pu, .int (nI de)])), (hA, .inl (cI, 400, .inl (aN u.2)))]) := by
  refine Mi.intro (by decide) (Nat.le_of_ble_eq_true rfl) ?_
  intro p e s m args below meth cd A ls R Q hR hQ C Z hl
  have hl : lv_has ls 5 [(0, .ref dA), (1, .long v), (3, .int (nI q))] := hl
  refine lv_iload_n C.1 C.2.1 d_Desk_put_0 rfl (lv_at hl 2 rfl) ?_
  refine lv_iconst (v := nI 1) C.1 C.2.1 d_Desk_put_1 (by decide) ?_
  refine r_lt (tgt := 23) C d_Desk_put_2 (by decide) (by omega) (by omega) (fun h2 => (by omega : False).elim) (fun h2 => ?_)
  refine lv_iload_n C.1 C.2.1 d_Desk_put_5 rfl (lv_at hl 2 rfl) ?_
  refine lv_bipush (v := nI 8) C.1 C.2.1 d_Desk_put_6 (by decide) ?_
  refine r_gt (tgt := 23) C d_Desk_put_8 (by decide) (by omega) (by omega) (fun h8 => (by omega : False).elim) (fun h8 => ?_)
  refine lv_aload_n C.1 C.2.1 d_Desk_put_11 rfl (lv_at hl 0 rfl) ?_
  refine r_get C Z 0 f_Desk_13 rfl rfl d_Desk_put_12 ?_
  refine lv_iload_n C.1 C.2.1 d_Desk_put_15 rfl (lv_at hl 2 rfl) ?_
  refine r_add C d_Desk_put_16 ?_
  refine lv_sipush (v := nI 400) C.1 C.2.1 d_Desk_put_17 (by decide) ?_
  refine r_le (tgt := 25) C d_Desk_put_20 (by decide) (by omega) (by omega) (fun h20 => ?_) (fun h20 => (by omega : False).elim)
  refine lv_iload_n C.1 C.2.1 d_Desk_put_25 rfl (lv_at hl 2 rfl) ?_
  refine lv_iconst (v := nI 1) C.1 C.2.1 d_Desk_put_26 (by decide) ?_
  refine r_sub C (by omega) d_Desk_put_27 ?_
  refine lv_istore (lv' := [(4, .int (nI (q - 1))), (0, .ref dA), (1, .long v), (3, .int (nI q))]) C.1 C.2.1 d_Desk_put_28 hl (by decide) rfl (fun ls hl => ?_)
  obtain ⟨X, hX⟩ : ∃ X, X = putL v q n hand := ⟨_, rfl⟩
  have loop : ∀ (r i : Nat) (hand : Nat → Nat), i + r = n + q → r ≤ q → putL v r i hand = X → ∀ (H : Heap) (locs : List Loc) (ls : Array Slot), Wd D A s.heap [(dA, .inr (0, [.ref hA, .int (nI i), .ref eA, .ref rA, .int (nI fa), .int fp, .int (nI op), .ref oA, .int (nI ol), .ref pA, .int (nI ml), .int (nI me), .int pu, .int (nI de)])), (hA, .inl (cI, 400, .inl (aN hand)))] H locs → lv_has ls 5 [(4, .int (nI r - 1)), (0, .ref dA), (1, .long v), (3, .int (nI q))] → W p l e R s m args below meth cd H locs 0 0 Q (F0 m 30 ls []) := by
    clear hl Z
    intro r
    induction r with
    | zero =>
      intro i hand hir hrq hF H locs ls Z hl
      rw [show nI 0 - 1 = (-1 : Int32) from by decide] at hl
      refine lv_iload C.1 C.2.1 d_Desk_put_30 (lv_at hl 0 rfl) ?_
      refine lv_if_lt (tgt := 72) C.1 C.2.1 d_Desk_put_32 (by decide) (fun h32 => ?_) (fun h32 => absurd h32 (by decide))
      refine lv_iconst (v := nI 1) C.1 C.2.1 d_Desk_put_72 (by decide) ?_
      exact r_zret C Z (by omega) (i, hand) (by clear C Z hl; have hi2 : i = n + q := (by omega); have hF2 : hand = X := hF; exact ⟨rfl, by rw [hi2, hF2, hX]⟩) rfl hQ d_Desk_put_73
    | succ r ih =>
      intro i hand hir hrq hF H locs ls Z hl
      rw [nI_pred] at hl
      refine lv_iload C.1 C.2.1 d_Desk_put_30 (lv_at hl 0 rfl) ?_
      refine r_zlt (tgt := 72) C d_Desk_put_32 (by decide) (by omega) ?_
      refine lv_aload_n C.1 C.2.1 d_Desk_put_35 rfl (lv_at hl 1 rfl) ?_
      refine r_get C Z 0 f_Desk_9 rfl rfl d_Desk_put_36 ?_
      refine lv_aload_n C.1 C.2.1 d_Desk_put_39 rfl (lv_at hl 1 rfl) ?_
      refine r_get C Z 0 f_Desk_13 rfl rfl d_Desk_put_40 ?_
      refine lv_lload_n C.1 C.2.1 d_Desk_put_43 rfl (lv_at hl 2 rfl) ?_
      refine lv_bipush (v := nI 8) C.1 C.2.1 d_Desk_put_44 (by decide) ?_
      refine lv_iload C.1 C.2.1 d_Desk_put_46 (lv_at hl 0 rfl) ?_
      refine r_mul C d_Desk_put_48 ?_
      refine lv_lushr C.1 C.2.1 d_Desk_put_49 rfl ?_
      refine lv_l2i C.1 C.2.1 d_Desk_put_50 rfl ?_
      refine lv_sipush (v := nI 255) C.1 C.2.1 d_Desk_put_51 (by decide) ?_
      refine lv_iand C.1 C.2.1 d_Desk_put_54 ?_
      rw [byt_u v (show r < 8 by omega)]
      refine r_istN (ws' := [(dA, .inr (0, [.ref hA, .int (nI i), .ref eA, .ref rA, .int (nI fa), .int fp, .int (nI op), .ref oA, .int (nI ol), .ref pA, .int (nI ml), .int (nI me), .int pu, .int (nI de)])), (hA, .inl (cI, 400, .inl (aN (updN hand i (byt v r)))))]) C Z 1 rfl (by omega) (by decide) rfl d_Desk_put_55 (fun H locs Z => ?_)
      refine lv_aload_n C.1 C.2.1 d_Desk_put_56 rfl (lv_at hl 1 rfl) ?_
      refine lv_dup C.1 C.2.1 d_Desk_put_57 rfl ?_
      refine r_get C Z 0 f_Desk_13 rfl rfl d_Desk_put_58 ?_
      refine lv_iconst (v := nI 1) C.1 C.2.1 d_Desk_put_61 (by decide) ?_
      refine r_add C d_Desk_put_62 ?_
      refine r_put (ws' := [(dA, .inr (0, [.ref hA, .int (nI (i + 1)), .ref eA, .ref rA, .int (nI fa), .int fp, .int (nI op), .ref oA, .int (nI ol), .ref pA, .int (nI ml), .int (nI me), .int pu, .int (nI de)])), (hA, .inl (cI, 400, .inl (aN (updN hand i (byt v r)))))]) C Z 0 f_Desk_13 rfl rfl rfl (Nat.le_of_ble_eq_true rfl) rfl d_Desk_put_63 (fun H locs Z => ?_)
      refine lv_iinc (v := nI r - 1) (lv' := [(4, .int (nI r - 1)), (0, .ref dA), (1, .long v), (3, .int (nI q))]) C.1 C.2.1 d_Desk_put_66 hl (k := 0) rfl (r_dec1 _) (by decide) rfl (fun ls hl => ?_)
      refine lv_goto (tgt := 30) C.1 C.2.1 d_Desk_put_69 (by decide) ?_
      exact ih (i + 1) (updN hand i (byt v r)) (by omega) (by omega) hF _ _ _ Z hl
  exact loop q n hand rfl (Nat.le_refl _) hX.symm _ _ _ Z (by rw [show nI q - 1 = nI (q - 1) from m1_sub (by omega)]; exact hl)

set_option maxHeartbeats 4000000 in
set_option maxRecDepth 100000 in
theorem c_Desk_declareBad (l : Launch) (D : va_G) (cI cZ : ClassId) (dA hA eA rA oA pA : Nat) (n : Nat) (fa : Nat) (fp : Int32) (op : Nat) (ol : Nat) (ml : Nat) (me : Nat) (pu : Int32) (de : Nat) (x : Int32) (hx : x < 0 ∨ nI 26 ≤ x) : Mi l y_Desk_declare b_Desk_declare 3 (some .int) ({ frames := 1, cells := 0, slots := 0, locals := 20 } : Room) D cI cZ [.ref dA, .int x] [(dA, .inr (0, [.ref hA, .int (nI n), .ref eA, .ref rA, .int (nI fa), .int fp, .int (nI op), .ref oA, .int (nI ol), .ref pA, .int (nI ml), .int (nI me), .int pu, .int (nI de)]))] (fun (r : Int32) (u : Unit) => r = (-102) ∧ u = ()) (fun u : Unit => [(dA, .inr (0, [.ref hA, .int (nI n), .ref eA, .ref rA, .int (nI fa), .int fp, .int (nI op), .ref oA, .int (nI ol), .ref pA, .int (nI ml), .int (nI me), .int pu, .int (nI de)]))]) := by
  refine Mi.intro (by decide) (Nat.le_of_ble_eq_true rfl) ?_
  intro p e s m args below meth cd A ls R Q hR hQ C Z hl
  have hl : lv_has ls 3 [(0, .ref dA), (1, .int x)] := hl
  refine lv_iload_n C.1 C.2.1 d_Desk_declare_0 rfl (lv_at hl 1 rfl) ?_
  refine r_callSi (rest := []) (wr := [(dA, .inr (0, [.ref hA, .int (nI n), .ref eA, .ref rA, .int (nI fa), .int fp, .int (nI op), .ref oA, .int (nI ol), .ref pA, .int (nI ml), .int (nI me), .int pu, .int (nI de)]))]) (wn := fun u => [(dA, .inr (0, [.ref hA, .int (nI n), .ref eA, .ref rA, .int (nI fa), .int fp, .int (nI op), .ref oA, .int (nI ol), .ref pA, .int (nI ml), .int (nI me), .int pu, .int (nI de)]))]) C Z (c_Desk_isNameBad l D cI cZ x (by first | assumption | omega)) k_Desk_62 rfl ⟨by rw [hR]; decide, by rw [hR]; decide⟩ ⟨rfl, rfl⟩ [] [0] [0] (by decide) rfl rfl (by decide) (by decide) (by decide) (fun _ => rfl) hl.1 rfl (Nat.le_of_ble_eq_true rfl) d_Desk_declare_1 ⟨Nat.zero_le _, Nat.zero_le _⟩ (fun r u H locs hp Z => ?_)
  obtain ⟨hp1, hp2⟩ := hp; have hp1 := hp1.symm; have hp2 := hp2.symm; subst hp1; subst hp2
  have Z : Wd D A s.heap [(dA, .inr (0, [.ref hA, .int (nI n), .ref eA, .ref rA, .int (nI fa), .int fp, .int (nI op), .ref oA, .int (nI ol), .ref pA, .int (nI ml), .int (nI me), .int pu, .int (nI de)]))] H locs := Z
  refine r_zne (tgt := 10) C d_Desk_declare_4 (by decide) (by omega) (fun h4 => (by omega : False).elim) (fun h4 => ?_)
  refine lv_bipush (v := (-102)) C.1 C.2.1 d_Desk_declare_7 (by decide) ?_
  exact r_iret C Z () (by first | exact ⟨rfl, rfl⟩ | (clear C Z hl; simp [h4]; done) | (clear C Z hl; grind)) rfl hQ d_Desk_declare_9

set_option maxHeartbeats 4000000 in
set_option maxRecDepth 100000 in
theorem c_Desk_declareHas (l : Launch) (D : va_G) (cI cZ : ClassId) (dA hA eA rA oA pA wA sA lA : Nat) (n : Nat) (fa : Nat) (fp : Int32) (op : Nat) (ol : Nat) (ml : Nat) (me : Nat) (pu : Int32) (de : Nat) (st : Nat) (nm : Nat) (nu : Nat) (dl : Int32) (kept : Nat) (dr : Nat) (ln : Nat → Nat) (k : Nat) (hk : k < 26) (hln : ln k ≠ 0) (hln2 : ln k ≤ 2001) : Mi l y_Desk_declare b_Desk_declare 3 (some .int) ({ frames := 2, cells := 0, slots := 0, locals := 40 } : Room) D cI cZ [.ref dA, .int (nI k)] [(dA, .inr (0, [.ref hA, .int (nI n), .ref eA, .ref rA, .int (nI fa), .int fp, .int (nI op), .ref oA, .int (nI ol), .ref pA, .int (nI ml), .int (nI me), .int pu, .int (nI de)])), (eA, .inr (1, [.ref wA, .ref sA, .ref lA, .int dl, .int (nI kept), .int (nI dr)])), (lA, .inl (cI, 26, .inl (aM ln))), (rA, .inr (2, [.int (nI st), .int (nI nm), .int (nI nu)]))] (fun (r : Int32) (u : Nat × Nat × Int32 × Nat × Nat) => r = (-100) ∧ u = (0, 0, (-1), 0, 0)) (fun u : Nat × Nat × Int32 × Nat × Nat => [(dA, .inr (0, [.ref hA, .int (nI u.1), .ref eA, .ref rA, .int (nI u.2.1), .int u.2.2.1, .int (nI u.2.2.2.1), .ref oA, .int (nI ol), .ref pA, .int (nI ml), .int (nI me), .int pu, .int (nI de)])), (eA, .inr (1, [.ref wA, .ref sA, .ref lA, .int dl, .int (nI kept), .int (nI dr)])), (lA, .inl (cI, 26, .inl (aM ln))), (rA, .inr (2, [.int (nI u.2.2.2.2), .int (nI nm), .int (nI nu)]))]) := by
  refine Mi.intro (by decide) (Nat.le_of_ble_eq_true rfl) ?_
  intro p e s m args below meth cd A ls R Q hR hQ C Z hl
  have hl : lv_has ls 3 [(0, .ref dA), (1, .int (nI k))] := hl
  refine lv_iload_n C.1 C.2.1 d_Desk_declare_0 rfl (lv_at hl 1 rfl) ?_
  refine r_callSi (rest := []) (wr := [(dA, .inr (0, [.ref hA, .int (nI n), .ref eA, .ref rA, .int (nI fa), .int fp, .int (nI op), .ref oA, .int (nI ol), .ref pA, .int (nI ml), .int (nI me), .int pu, .int (nI de)])), (eA, .inr (1, [.ref wA, .ref sA, .ref lA, .int dl, .int (nI kept), .int (nI dr)])), (lA, .inl (cI, 26, .inl (aM ln))), (rA, .inr (2, [.int (nI st), .int (nI nm), .int (nI nu)]))]) (wn := fun u => [(dA, .inr (0, [.ref hA, .int (nI n), .ref eA, .ref rA, .int (nI fa), .int fp, .int (nI op), .ref oA, .int (nI ol), .ref pA, .int (nI ml), .int (nI me), .int pu, .int (nI de)])), (eA, .inr (1, [.ref wA, .ref sA, .ref lA, .int dl, .int (nI kept), .int (nI dr)])), (lA, .inl (cI, 26, .inl (aM ln))), (rA, .inr (2, [.int (nI st), .int (nI nm), .int (nI nu)]))]) C Z (c_Desk_isName l D cI cZ k (by first | assumption | omega)) k_Desk_62 rfl ⟨by rw [hR]; decide, by rw [hR]; decide⟩ ⟨rfl, rfl⟩ [] [0, 1, 2, 3] [0, 1, 2, 3] (by decide) rfl rfl (by decide) (by decide) (by decide) (fun _ => rfl) hl.1 rfl (Nat.le_of_ble_eq_true rfl) d_Desk_declare_1 ⟨Nat.zero_le _, Nat.zero_le _⟩ (fun r u H locs hp Z => ?_)
  obtain ⟨hp1, hp2⟩ := hp; have hp1 := hp1.symm; have hp2 := hp2.symm; subst hp1; subst hp2
  have Z : Wd D A s.heap [(dA, .inr (0, [.ref hA, .int (nI n), .ref eA, .ref rA, .int (nI fa), .int fp, .int (nI op), .ref oA, .int (nI ol), .ref pA, .int (nI ml), .int (nI me), .int pu, .int (nI de)])), (eA, .inr (1, [.ref wA, .ref sA, .ref lA, .int dl, .int (nI kept), .int (nI dr)])), (lA, .inl (cI, 26, .inl (aM ln))), (rA, .inr (2, [.int (nI st), .int (nI nm), .int (nI nu)]))] H locs := Z
  refine r_zne (tgt := 10) C d_Desk_declare_4 (by decide) (by omega) (fun h4 => ?_) (fun h4 => (by omega : False).elim)
  refine lv_aload_n C.1 C.2.1 d_Desk_declare_10 rfl (lv_at hl 0 rfl) ?_
  refine r_get C Z 0 f_Desk_13 rfl rfl d_Desk_declare_11 ?_
  refine lv_istore_n (lv' := [(2, .int (nI n)), (0, .ref dA), (1, .int (nI k))]) C.1 C.2.1 d_Desk_declare_14 rfl hl (by decide) rfl (fun ls hl => ?_)
  refine lv_aload_n C.1 C.2.1 d_Desk_declare_15 rfl (lv_at hl 1 rfl) ?_
  refine lv_iconst (v := nI 0) C.1 C.2.1 d_Desk_declare_16 (by decide) ?_
  refine r_put (ws' := [(dA, .inr (0, [.ref hA, .int (nI 0), .ref eA, .ref rA, .int (nI fa), .int fp, .int (nI op), .ref oA, .int (nI ol), .ref pA, .int (nI ml), .int (nI me), .int pu, .int (nI de)])), (eA, .inr (1, [.ref wA, .ref sA, .ref lA, .int dl, .int (nI kept), .int (nI dr)])), (lA, .inl (cI, 26, .inl (aM ln))), (rA, .inr (2, [.int (nI st), .int (nI nm), .int (nI nu)]))]) C Z 0 f_Desk_13 rfl rfl rfl (Nat.le_of_ble_eq_true rfl) rfl d_Desk_declare_17 (fun H locs Z => ?_)
  refine lv_aload_n C.1 C.2.1 d_Desk_declare_20 rfl (lv_at hl 1 rfl) ?_
  refine r_callVv (rest := []) (wr := [(eA, .inr (1, [.ref wA, .ref sA, .ref lA, .int dl, .int (nI kept), .int (nI dr)])), (lA, .inl (cI, 26, .inl (aM ln)))]) (wn := fun u => [(dA, .inr (0, [.ref hA, .int (nI 0), .ref eA, .ref rA, .int (nI u.1), .int u.2.1, .int (nI u.2.2.1), .ref oA, .int (nI ol), .ref pA, .int (nI ml), .int (nI me), .int pu, .int (nI de)])), (eA, .inr (1, [.ref wA, .ref sA, .ref lA, .int dl, .int (nI kept), .int (nI dr)])), (lA, .inl (cI, 26, .inl (aM ln))), (rA, .inr (2, [.int (nI u.2.2.2), .int (nI nm), .int (nI nu)]))]) C Z (c_Desk_beginReading l D cI cZ dA hA eA rA oA pA 0 fa fp op ol ml me pu de st nm nu) k_Desk_66 rfl ⟨by rw [hR]; decide, by rw [hR]; decide⟩ ⟨rfl, rfl⟩ [0, 3] [1, 2] [2, 0, 1, 3] (by decide) rfl rfl (by decide) (by decide) (by decide) (fun _ => rfl) 0 rfl rfl hl.1 rfl (Nat.le_of_ble_eq_true rfl) d_Desk_declare_21 ⟨Nat.zero_le _, Nat.zero_le _⟩ (fun u H locs hp Z => ?_)
  have hp := hp.symm; subst hp
  have Z : Wd D A s.heap [(dA, .inr (0, [.ref hA, .int (nI 0), .ref eA, .ref rA, .int (nI 0), .int (-1), .int (nI 0), .ref oA, .int (nI ol), .ref pA, .int (nI ml), .int (nI me), .int pu, .int (nI de)])), (eA, .inr (1, [.ref wA, .ref sA, .ref lA, .int dl, .int (nI kept), .int (nI dr)])), (lA, .inl (cI, 26, .inl (aM ln))), (rA, .inr (2, [.int (nI 0), .int (nI nm), .int (nI nu)]))] H locs := Z
  refine lv_aload_n C.1 C.2.1 d_Desk_declare_24 rfl (lv_at hl 1 rfl) ?_
  refine r_get C Z 0 f_Desk_20 rfl rfl d_Desk_declare_25 ?_
  refine lv_iload_n C.1 C.2.1 d_Desk_declare_28 rfl (lv_at hl 2 rfl) ?_
  refine r_callNi (rest := []) (wr := [(dA, .inr (0, [.ref hA, .int (nI 0), .ref eA, .ref rA, .int (nI 0), .int (-1), .int (nI 0), .ref oA, .int (nI ol), .ref pA, .int (nI ml), .int (nI me), .int pu, .int (nI de)])), (rA, .inr (2, [.int (nI 0), .int (nI nm), .int (nI nu)]))]) (wn := fun u => [(dA, .inr (0, [.ref hA, .int (nI 0), .ref eA, .ref rA, .int (nI 0), .int (-1), .int (nI 0), .ref oA, .int (nI ol), .ref pA, .int (nI ml), .int (nI me), .int pu, .int (nI de)])), (eA, .inr (1, [.ref wA, .ref sA, .ref lA, .int dl, .int (nI kept), .int (nI dr)])), (lA, .inl (cI, 26, .inl (aM ln))), (rA, .inr (2, [.int (nI 0), .int (nI nm), .int (nI nu)]))]) C Z (c_Ents_has l D cI cZ eA wA sA lA dl kept dr ln k (by first | assumption | omega) (by omega)) k_Desk_69 rfl ⟨by rw [hR]; decide, by rw [hR]; decide⟩ ⟨rfl, rfl⟩ [1, 2] [0, 3] [0, 2, 3, 1] (by decide) rfl rfl (by decide) (by decide) (by decide) (fun _ => rfl) 1 rfl rfl hl.1 rfl (Nat.le_of_ble_eq_true rfl) d_Desk_declare_29 ⟨Nat.zero_le _, Nat.zero_le _⟩ (fun r u H locs hp Z => ?_)
  obtain ⟨hp1, hp2⟩ := hp; have hp1 := hp1.symm; have hp2 := hp2.symm; subst hp1; subst hp2
  have Z : Wd D A s.heap [(dA, .inr (0, [.ref hA, .int (nI 0), .ref eA, .ref rA, .int (nI 0), .int (-1), .int (nI 0), .ref oA, .int (nI ol), .ref pA, .int (nI ml), .int (nI me), .int pu, .int (nI de)])), (eA, .inr (1, [.ref wA, .ref sA, .ref lA, .int dl, .int (nI kept), .int (nI dr)])), (lA, .inl (cI, 26, .inl (aM ln))), (rA, .inr (2, [.int (nI 0), .int (nI nm), .int (nI nu)]))] H locs := Z
  refine r_zeq (tgt := 38) C d_Desk_declare_32 (by decide) (by omega) (fun h32 => (by omega : False).elim) (fun h32 => ?_)
  refine lv_bipush (v := (-100)) C.1 C.2.1 d_Desk_declare_35 (by decide) ?_
  exact r_iret C Z (0, 0, (-1), 0, 0) (by first | exact ⟨rfl, rfl⟩ | (clear C Z hl; simp [h4, h32]; done) | (clear C Z hl; grind)) rfl hQ d_Desk_declare_37

set_option maxHeartbeats 4000000 in
set_option maxRecDepth 100000 in
theorem c_Desk_declare (l : Launch) (D : va_G) (cI cZ : ClassId) (dA hA eA rA oA pA wA sA lA : Nat) (n : Nat) (fa : Nat) (fp : Int32) (op : Nat) (ol : Nat) (ml : Nat) (me : Nat) (pu : Int32) (de : Nat) (st : Nat) (nm : Nat) (nu : Nat) (dl : Int32) (kept : Nat) (dr : Nat) (tx : Nat → Nat) (sf : Nat → Nat) (ln : Nat → Nat) (hand : Nat → Nat) (k : Nat) (hk : k < 26) (hln : ln k = 0) (hnm : nm < 26) (hnu : nu ≤ 256) (hkept : kept ≤ 2000) (hn : n ≤ 400) (hh : ∀ j, hand j < 256) : Mi l y_Desk_declare b_Desk_declare 3 (some .int) ({ frames := 6, cells := 0, slots := 0, locals := 134 } : Room) D cI cZ [.ref dA, .int (nI k)] [(dA, .inr (0, [.ref hA, .int (nI n), .ref eA, .ref rA, .int (nI fa), .int fp, .int (nI op), .ref oA, .int (nI ol), .ref pA, .int (nI ml), .int (nI me), .int pu, .int (nI de)])), (hA, .inl (cI, 400, .inl (aN hand))), (eA, .inr (1, [.ref wA, .ref sA, .ref lA, .int dl, .int (nI kept), .int (nI dr)])), (wA, .inl (cI, 2000, .inl (aN tx))), (sA, .inl (cI, 26, .inl (aN sf))), (lA, .inl (cI, 26, .inl (aM ln))), (rA, .inr (2, [.int (nI st), .int (nI nm), .int (nI nu)]))] (fun (r : Int32) (u : DS × ((Nat → Nat) × (Nat → Nat) × Nat × Int32)) => r = declR kept (dText kept n hand (0, -1, 0, tx, 0, 0, nm, nu)) ∧ u = ((dText kept n hand (0, -1, 0, tx, 0, 0, nm, nu)), declS k kept sf ln dl (dText kept n hand (0, -1, 0, tx, 0, 0, nm, nu)))) (fun u : DS × ((Nat → Nat) × (Nat → Nat) × Nat × Int32) => [(dA, .inr (0, [.ref hA, .int (nI 0), .ref eA, .ref rA, .int (nI u.1.1), .int u.1.2.1, .int (nI u.1.2.2.1), .ref oA, .int (nI ol), .ref pA, .int (nI ml), .int (nI me), .int pu, .int (nI de)])), (hA, .inl (cI, 400, .inl (aN hand))), (eA, .inr (1, [.ref wA, .ref sA, .ref lA, .int u.2.2.2.2, .int (nI u.2.2.2.1), .int (nI u.1.2.2.2.2.1)])), (wA, .inl (cI, 2000, .inl (aN u.1.2.2.2.1))), (sA, .inl (cI, 26, .inl (aN u.2.1))), (lA, .inl (cI, 26, .inl (aM u.2.2.1))), (rA, .inr (2, [.int (nI u.1.2.2.2.2.2.1), .int (nI u.1.2.2.2.2.2.2.1), .int (nI u.1.2.2.2.2.2.2.2)]))]) := by
  refine Mi.intro (by decide) (Nat.le_of_ble_eq_true rfl) ?_
  intro p e s m args below meth cd A ls R Q hR hQ C Z hl
  have hl : lv_has ls 3 [(0, .ref dA), (1, .int (nI k))] := hl
  refine lv_iload_n C.1 C.2.1 d_Desk_declare_0 rfl (lv_at hl 1 rfl) ?_
  refine r_callSi (rest := []) (wr := [(dA, .inr (0, [.ref hA, .int (nI n), .ref eA, .ref rA, .int (nI fa), .int fp, .int (nI op), .ref oA, .int (nI ol), .ref pA, .int (nI ml), .int (nI me), .int pu, .int (nI de)])), (hA, .inl (cI, 400, .inl (aN hand))), (eA, .inr (1, [.ref wA, .ref sA, .ref lA, .int dl, .int (nI kept), .int (nI dr)])), (wA, .inl (cI, 2000, .inl (aN tx))), (sA, .inl (cI, 26, .inl (aN sf))), (lA, .inl (cI, 26, .inl (aM ln))), (rA, .inr (2, [.int (nI st), .int (nI nm), .int (nI nu)]))]) (wn := fun u => [(dA, .inr (0, [.ref hA, .int (nI n), .ref eA, .ref rA, .int (nI fa), .int fp, .int (nI op), .ref oA, .int (nI ol), .ref pA, .int (nI ml), .int (nI me), .int pu, .int (nI de)])), (hA, .inl (cI, 400, .inl (aN hand))), (eA, .inr (1, [.ref wA, .ref sA, .ref lA, .int dl, .int (nI kept), .int (nI dr)])), (wA, .inl (cI, 2000, .inl (aN tx))), (sA, .inl (cI, 26, .inl (aN sf))), (lA, .inl (cI, 26, .inl (aM ln))), (rA, .inr (2, [.int (nI st), .int (nI nm), .int (nI nu)]))]) C Z (c_Desk_isName l D cI cZ k (by first | assumption | omega)) k_Desk_62 rfl ⟨by rw [hR]; decide, by rw [hR]; decide⟩ ⟨rfl, rfl⟩ [] [0, 1, 2, 3, 4, 5, 6] [0, 1, 2, 3, 4, 5, 6] (by decide) rfl rfl (by decide) (by decide) (by decide) (fun _ => rfl) hl.1 rfl (Nat.le_of_ble_eq_true rfl) d_Desk_declare_1 ⟨Nat.zero_le _, Nat.zero_le _⟩ (fun r u H locs hp Z => ?_)
  obtain ⟨hp1, hp2⟩ := hp; have hp1 := hp1.symm; have hp2 := hp2.symm; subst hp1; subst hp2
  have Z : Wd D A s.heap [(dA, .inr (0, [.ref hA, .int (nI n), .ref eA, .ref rA, .int (nI fa), .int fp, .int (nI op), .ref oA, .int (nI ol), .ref pA, .int (nI ml), .int (nI me), .int pu, .int (nI de)])), (hA, .inl (cI, 400, .inl (aN hand))), (eA, .inr (1, [.ref wA, .ref sA, .ref lA, .int dl, .int (nI kept), .int (nI dr)])), (wA, .inl (cI, 2000, .inl (aN tx))), (sA, .inl (cI, 26, .inl (aN sf))), (lA, .inl (cI, 26, .inl (aM ln))), (rA, .inr (2, [.int (nI st), .int (nI nm), .int (nI nu)]))] H locs := Z
  refine r_zne (tgt := 10) C d_Desk_declare_4 (by decide) (by omega) (fun h4 => ?_) (fun h4 => (by omega : False).elim)
  refine lv_aload_n C.1 C.2.1 d_Desk_declare_10 rfl (lv_at hl 0 rfl) ?_
  refine r_get C Z 0 f_Desk_13 rfl rfl d_Desk_declare_11 ?_
  refine lv_istore_n (lv' := [(2, .int (nI n)), (0, .ref dA), (1, .int (nI k))]) C.1 C.2.1 d_Desk_declare_14 rfl hl (by decide) rfl (fun ls hl => ?_)
  refine lv_aload_n C.1 C.2.1 d_Desk_declare_15 rfl (lv_at hl 1 rfl) ?_
  refine lv_iconst (v := nI 0) C.1 C.2.1 d_Desk_declare_16 (by decide) ?_
  refine r_put (ws' := [(dA, .inr (0, [.ref hA, .int (nI 0), .ref eA, .ref rA, .int (nI fa), .int fp, .int (nI op), .ref oA, .int (nI ol), .ref pA, .int (nI ml), .int (nI me), .int pu, .int (nI de)])), (hA, .inl (cI, 400, .inl (aN hand))), (eA, .inr (1, [.ref wA, .ref sA, .ref lA, .int dl, .int (nI kept), .int (nI dr)])), (wA, .inl (cI, 2000, .inl (aN tx))), (sA, .inl (cI, 26, .inl (aN sf))), (lA, .inl (cI, 26, .inl (aM ln))), (rA, .inr (2, [.int (nI st), .int (nI nm), .int (nI nu)]))]) C Z 0 f_Desk_13 rfl rfl rfl (Nat.le_of_ble_eq_true rfl) rfl d_Desk_declare_17 (fun H locs Z => ?_)
  refine lv_aload_n C.1 C.2.1 d_Desk_declare_20 rfl (lv_at hl 1 rfl) ?_
  refine r_callVv (rest := []) (wr := [(hA, .inl (cI, 400, .inl (aN hand))), (eA, .inr (1, [.ref wA, .ref sA, .ref lA, .int dl, .int (nI kept), .int (nI dr)])), (wA, .inl (cI, 2000, .inl (aN tx))), (sA, .inl (cI, 26, .inl (aN sf))), (lA, .inl (cI, 26, .inl (aM ln)))]) (wn := fun u => [(dA, .inr (0, [.ref hA, .int (nI 0), .ref eA, .ref rA, .int (nI u.1), .int u.2.1, .int (nI u.2.2.1), .ref oA, .int (nI ol), .ref pA, .int (nI ml), .int (nI me), .int pu, .int (nI de)])), (hA, .inl (cI, 400, .inl (aN hand))), (eA, .inr (1, [.ref wA, .ref sA, .ref lA, .int dl, .int (nI kept), .int (nI dr)])), (wA, .inl (cI, 2000, .inl (aN tx))), (sA, .inl (cI, 26, .inl (aN sf))), (lA, .inl (cI, 26, .inl (aM ln))), (rA, .inr (2, [.int (nI u.2.2.2), .int (nI nm), .int (nI nu)]))]) C Z (c_Desk_beginReading l D cI cZ dA hA eA rA oA pA 0 fa fp op ol ml me pu de st nm nu) k_Desk_66 rfl ⟨by rw [hR]; decide, by rw [hR]; decide⟩ ⟨rfl, rfl⟩ [0, 6] [1, 2, 3, 4, 5] [5, 0, 1, 2, 3, 4, 6] (by decide) rfl rfl (by decide) (by decide) (by decide) (fun _ => rfl) 0 rfl rfl hl.1 rfl (Nat.le_of_ble_eq_true rfl) d_Desk_declare_21 ⟨Nat.zero_le _, Nat.zero_le _⟩ (fun u H locs hp Z => ?_)
  have hp := hp.symm; subst hp
  have Z : Wd D A s.heap [(dA, .inr (0, [.ref hA, .int (nI 0), .ref eA, .ref rA, .int (nI 0), .int (-1), .int (nI 0), .ref oA, .int (nI ol), .ref pA, .int (nI ml), .int (nI me), .int pu, .int (nI de)])), (hA, .inl (cI, 400, .inl (aN hand))), (eA, .inr (1, [.ref wA, .ref sA, .ref lA, .int dl, .int (nI kept), .int (nI dr)])), (wA, .inl (cI, 2000, .inl (aN tx))), (sA, .inl (cI, 26, .inl (aN sf))), (lA, .inl (cI, 26, .inl (aM ln))), (rA, .inr (2, [.int (nI 0), .int (nI nm), .int (nI nu)]))] H locs := Z
  refine lv_aload_n C.1 C.2.1 d_Desk_declare_24 rfl (lv_at hl 1 rfl) ?_
  refine r_get C Z 0 f_Desk_20 rfl rfl d_Desk_declare_25 ?_
  refine lv_iload_n C.1 C.2.1 d_Desk_declare_28 rfl (lv_at hl 2 rfl) ?_
  refine r_callNi (rest := []) (wr := [(dA, .inr (0, [.ref hA, .int (nI 0), .ref eA, .ref rA, .int (nI 0), .int (-1), .int (nI 0), .ref oA, .int (nI ol), .ref pA, .int (nI ml), .int (nI me), .int pu, .int (nI de)])), (hA, .inl (cI, 400, .inl (aN hand))), (wA, .inl (cI, 2000, .inl (aN tx))), (sA, .inl (cI, 26, .inl (aN sf))), (rA, .inr (2, [.int (nI 0), .int (nI nm), .int (nI nu)]))]) (wn := fun u => [(dA, .inr (0, [.ref hA, .int (nI 0), .ref eA, .ref rA, .int (nI 0), .int (-1), .int (nI 0), .ref oA, .int (nI ol), .ref pA, .int (nI ml), .int (nI me), .int pu, .int (nI de)])), (hA, .inl (cI, 400, .inl (aN hand))), (eA, .inr (1, [.ref wA, .ref sA, .ref lA, .int dl, .int (nI kept), .int (nI dr)])), (wA, .inl (cI, 2000, .inl (aN tx))), (sA, .inl (cI, 26, .inl (aN sf))), (lA, .inl (cI, 26, .inl (aM ln))), (rA, .inr (2, [.int (nI 0), .int (nI nm), .int (nI nu)]))]) C Z (c_Ents_has l D cI cZ eA wA sA lA dl kept dr ln k (by first | assumption | omega) (by omega)) k_Desk_69 rfl ⟨by rw [hR]; decide, by rw [hR]; decide⟩ ⟨rfl, rfl⟩ [2, 5] [0, 1, 3, 4, 6] [0, 1, 5, 2, 3, 6, 4] (by decide) rfl rfl (by decide) (by decide) (by decide) (fun _ => rfl) 2 rfl rfl hl.1 rfl (Nat.le_of_ble_eq_true rfl) d_Desk_declare_29 ⟨Nat.zero_le _, Nat.zero_le _⟩ (fun r u H locs hp Z => ?_)
  obtain ⟨hp1, hp2⟩ := hp; have hp1 := hp1.symm; have hp2 := hp2.symm; subst hp1; subst hp2
  have Z : Wd D A s.heap [(dA, .inr (0, [.ref hA, .int (nI 0), .ref eA, .ref rA, .int (nI 0), .int (-1), .int (nI 0), .ref oA, .int (nI ol), .ref pA, .int (nI ml), .int (nI me), .int pu, .int (nI de)])), (hA, .inl (cI, 400, .inl (aN hand))), (eA, .inr (1, [.ref wA, .ref sA, .ref lA, .int dl, .int (nI kept), .int (nI dr)])), (wA, .inl (cI, 2000, .inl (aN tx))), (sA, .inl (cI, 26, .inl (aN sf))), (lA, .inl (cI, 26, .inl (aM ln))), (rA, .inr (2, [.int (nI 0), .int (nI nm), .int (nI nu)]))] H locs := Z
  refine r_zeq (tgt := 38) C d_Desk_declare_32 (by decide) (by omega) (fun h32 => ?_) (fun h32 => (by omega : False).elim)
  refine lv_aload_n C.1 C.2.1 d_Desk_declare_38 rfl (lv_at hl 1 rfl) ?_
  refine lv_iload_n C.1 C.2.1 d_Desk_declare_39 rfl (lv_at hl 0 rfl) ?_
  refine r_callVv (rest := []) (wr := [(sA, .inl (cI, 26, .inl (aN sf))), (lA, .inl (cI, 26, .inl (aM ln)))]) (wn := fun u => [(dA, .inr (0, [.ref hA, .int (nI 0), .ref eA, .ref rA, .int (nI u.1), .int u.2.1, .int (nI u.2.2.1), .ref oA, .int (nI ol), .ref pA, .int (nI ml), .int (nI me), .int pu, .int (nI de)])), (hA, .inl (cI, 400, .inl (aN hand))), (eA, .inr (1, [.ref wA, .ref sA, .ref lA, .int dl, .int (nI kept), .int (nI u.2.2.2.2.1)])), (wA, .inl (cI, 2000, .inl (aN u.2.2.2.1))), (sA, .inl (cI, 26, .inl (aN sf))), (lA, .inl (cI, 26, .inl (aM ln))), (rA, .inr (2, [.int (nI u.2.2.2.2.2.1), .int (nI u.2.2.2.2.2.2.1), .int (nI u.2.2.2.2.2.2.2)]))]) C Z (c_Desk_draftText l D cI cZ dA hA eA rA oA pA wA sA lA 0 0 (-1) 0 ol ml me pu de 0 nm nu dl kept dr tx hand n (by first | assumption | omega) (by first | assumption | omega) (by first | assumption | omega) (by first | assumption | omega) (by first | assumption | omega) (by first | assumption | omega) (by first | assumption | omega)) k_Desk_72 rfl ⟨by rw [hR]; decide, by rw [hR]; decide⟩ ⟨rfl, rfl⟩ [0, 1, 2, 3, 6] [4, 5] [2, 3, 4, 5, 0, 1, 6] (by decide) rfl rfl (by decide) (by decide) (by decide) (fun _ => rfl) 0 rfl rfl hl.1 rfl (Nat.le_of_ble_eq_true rfl) d_Desk_declare_40 ⟨Nat.zero_le _, Nat.zero_le _⟩ (fun u H locs hp Z => ?_)
  obtain ⟨fa1, fp1, op1, tx1, dr1, st1, nm1, nu1⟩ := u
  have e1 : (fa1, fp1, op1, tx1, dr1, st1, nm1, nu1) = dText kept n hand (0, (-1), 0, tx, 0, 0, nm, nu) := hp
  have Z : Wd D A s.heap [(dA, .inr (0, [.ref hA, .int (nI 0), .ref eA, .ref rA, .int (nI fa1), .int fp1, .int (nI op1), .ref oA, .int (nI ol), .ref pA, .int (nI ml), .int (nI me), .int pu, .int (nI de)])), (hA, .inl (cI, 400, .inl (aN hand))), (eA, .inr (1, [.ref wA, .ref sA, .ref lA, .int dl, .int (nI kept), .int (nI dr1)])), (wA, .inl (cI, 2000, .inl (aN tx1))), (sA, .inl (cI, 26, .inl (aN sf))), (lA, .inl (cI, 26, .inl (aM ln))), (rA, .inr (2, [.int (nI st1), .int (nI nm1), .int (nI nu1)]))] H locs := Z
  have hT := dText_ok (kept := kept) (told := n) (hand := hand) (S := (0, -1, 0, tx, 0, 0, nm, nu)) (by show (0:Nat) ≤ 15; omega) (by show (0:Nat) ≤ 6; omega) hnm hnu
  rw [← e1] at hT
  have hT1 : fa1 ≤ 15 ∧ dr1 ≤ 0 + 3 * n := hT
  refine lv_aload_n C.1 C.2.1 d_Desk_declare_43 rfl (lv_at hl 1 rfl) ?_
  refine r_get C Z 0 f_Desk_31 rfl rfl d_Desk_declare_44 ?_
  refine r_zeq (tgt := 57) C d_Desk_declare_47 (by decide) (by omega) (fun h47 => ?_) (fun h47 => ?_)
  · skip
    refine lv_aload_n C.1 C.2.1 d_Desk_declare_57 rfl (lv_at hl 1 rfl) ?_
    refine r_get C Z 0 f_Desk_20 rfl rfl d_Desk_declare_58 ?_
    refine r_callNi (rest := []) (wr := [(dA, .inr (0, [.ref hA, .int (nI 0), .ref eA, .ref rA, .int (nI fa1), .int fp1, .int (nI op1), .ref oA, .int (nI ol), .ref pA, .int (nI ml), .int (nI me), .int pu, .int (nI de)])), (hA, .inl (cI, 400, .inl (aN hand))), (wA, .inl (cI, 2000, .inl (aN tx1))), (sA, .inl (cI, 26, .inl (aN sf))), (lA, .inl (cI, 26, .inl (aM ln))), (rA, .inr (2, [.int (nI st1), .int (nI nm1), .int (nI nu1)]))]) (wn := fun u => [(dA, .inr (0, [.ref hA, .int (nI 0), .ref eA, .ref rA, .int (nI fa1), .int fp1, .int (nI op1), .ref oA, .int (nI ol), .ref pA, .int (nI ml), .int (nI me), .int pu, .int (nI de)])), (hA, .inl (cI, 400, .inl (aN hand))), (eA, .inr (1, [.ref wA, .ref sA, .ref lA, .int dl, .int (nI kept), .int (nI dr1)])), (wA, .inl (cI, 2000, .inl (aN tx1))), (sA, .inl (cI, 26, .inl (aN sf))), (lA, .inl (cI, 26, .inl (aM ln))), (rA, .inr (2, [.int (nI st1), .int (nI nm1), .int (nI nu1)]))]) C Z (c_Ents_draftFits l D cI cZ eA wA sA lA dl kept dr1 (by first | assumption | omega) (by first | assumption | omega)) k_Desk_76 rfl ⟨by rw [hR]; decide, by rw [hR]; decide⟩ ⟨rfl, rfl⟩ [2] [0, 1, 3, 4, 5, 6] [0, 1, 6, 2, 3, 4, 5] (by decide) rfl rfl (by decide) (by decide) (by decide) (fun _ => rfl) 2 rfl rfl hl.1 rfl (Nat.le_of_ble_eq_true rfl) d_Desk_declare_61 ⟨Nat.zero_le _, Nat.zero_le _⟩ (fun r u H locs hp Z => ?_)
    obtain ⟨hp1, hp2⟩ := hp; have hp1 := hp1.symm; have hp2 := hp2.symm; subst hp1; subst hp2
    have Z : Wd D A s.heap [(dA, .inr (0, [.ref hA, .int (nI 0), .ref eA, .ref rA, .int (nI fa1), .int fp1, .int (nI op1), .ref oA, .int (nI ol), .ref pA, .int (nI ml), .int (nI me), .int pu, .int (nI de)])), (hA, .inl (cI, 400, .inl (aN hand))), (eA, .inr (1, [.ref wA, .ref sA, .ref lA, .int dl, .int (nI kept), .int (nI dr1)])), (wA, .inl (cI, 2000, .inl (aN tx1))), (sA, .inl (cI, 26, .inl (aN sf))), (lA, .inl (cI, 26, .inl (aM ln))), (rA, .inr (2, [.int (nI st1), .int (nI nm1), .int (nI nu1)]))] H locs := Z
    refine r_zne (tgt := 70) C d_Desk_declare_64 (by decide) (by omega) (fun h64 => ?_) (fun h64 => ?_)
    · skip
      refine lv_aload_n C.1 C.2.1 d_Desk_declare_70 rfl (lv_at hl 1 rfl) ?_
      refine r_get C Z 0 f_Desk_20 rfl rfl d_Desk_declare_71 ?_
      refine lv_iload_n C.1 C.2.1 d_Desk_declare_74 rfl (lv_at hl 2 rfl) ?_
      refine r_callNv (rest := []) (wr := [(dA, .inr (0, [.ref hA, .int (nI 0), .ref eA, .ref rA, .int (nI fa1), .int fp1, .int (nI op1), .ref oA, .int (nI ol), .ref pA, .int (nI ml), .int (nI me), .int pu, .int (nI de)])), (hA, .inl (cI, 400, .inl (aN hand))), (wA, .inl (cI, 2000, .inl (aN tx1))), (rA, .inr (2, [.int (nI st1), .int (nI nm1), .int (nI nu1)]))]) (wn := fun u => [(dA, .inr (0, [.ref hA, .int (nI 0), .ref eA, .ref rA, .int (nI fa1), .int fp1, .int (nI op1), .ref oA, .int (nI ol), .ref pA, .int (nI ml), .int (nI me), .int pu, .int (nI de)])), (hA, .inl (cI, 400, .inl (aN hand))), (eA, .inr (1, [.ref wA, .ref sA, .ref lA, .int u.2.2.2, .int (nI u.2.2.1), .int (nI dr1)])), (wA, .inl (cI, 2000, .inl (aN tx1))), (sA, .inl (cI, 26, .inl (aN u.1))), (lA, .inl (cI, 26, .inl (aM u.2.1))), (rA, .inr (2, [.int (nI st1), .int (nI nm1), .int (nI nu1)]))]) C Z (c_Ents_keepDraft l D cI cZ eA wA sA lA dl kept dr1 sf ln k (by first | assumption | omega)) k_Desk_80 rfl ⟨by rw [hR]; decide, by rw [hR]; decide⟩ ⟨rfl, rfl⟩ [2, 4, 5] [0, 1, 3, 6] [0, 1, 4, 2, 5, 6, 3] (by decide) rfl rfl (by decide) (by decide) (by decide) (fun _ => rfl) 2 rfl rfl hl.1 rfl (Nat.le_of_ble_eq_true rfl) d_Desk_declare_75 ⟨Nat.zero_le _, Nat.zero_le _⟩ (fun u H locs hp Z => ?_)
      have hp := hp.symm; subst hp
      have Z : Wd D A s.heap [(dA, .inr (0, [.ref hA, .int (nI 0), .ref eA, .ref rA, .int (nI fa1), .int fp1, .int (nI op1), .ref oA, .int (nI ol), .ref pA, .int (nI ml), .int (nI me), .int pu, .int (nI de)])), (hA, .inl (cI, 400, .inl (aN hand))), (eA, .inr (1, [.ref wA, .ref sA, .ref lA, .int (dl + nI 1), .int (nI (kept + dr1)), .int (nI dr1)])), (wA, .inl (cI, 2000, .inl (aN tx1))), (sA, .inl (cI, 26, .inl (aN (updN sf k kept)))), (lA, .inl (cI, 26, .inl (aM (updN ln k (dr1 + 1))))), (rA, .inr (2, [.int (nI st1), .int (nI nm1), .int (nI nu1)]))] H locs := Z
      refine lv_aload_n C.1 C.2.1 d_Desk_declare_78 rfl (lv_at hl 1 rfl) ?_
      refine r_get C Z 0 f_Desk_20 rfl rfl d_Desk_declare_79 ?_
      refine lv_iload_n C.1 C.2.1 d_Desk_declare_82 rfl (lv_at hl 2 rfl) ?_
      refine r_callNi (rest := []) (wr := [(dA, .inr (0, [.ref hA, .int (nI 0), .ref eA, .ref rA, .int (nI fa1), .int fp1, .int (nI op1), .ref oA, .int (nI ol), .ref pA, .int (nI ml), .int (nI me), .int pu, .int (nI de)])), (hA, .inl (cI, 400, .inl (aN hand))), (wA, .inl (cI, 2000, .inl (aN tx1))), (sA, .inl (cI, 26, .inl (aN (updN sf k kept)))), (rA, .inr (2, [.int (nI st1), .int (nI nm1), .int (nI nu1)]))]) (wn := fun u => [(dA, .inr (0, [.ref hA, .int (nI 0), .ref eA, .ref rA, .int (nI fa1), .int fp1, .int (nI op1), .ref oA, .int (nI ol), .ref pA, .int (nI ml), .int (nI me), .int pu, .int (nI de)])), (hA, .inl (cI, 400, .inl (aN hand))), (eA, .inr (1, [.ref wA, .ref sA, .ref lA, .int (dl + nI 1), .int (nI (kept + dr1)), .int (nI dr1)])), (wA, .inl (cI, 2000, .inl (aN tx1))), (sA, .inl (cI, 26, .inl (aN (updN sf k kept)))), (lA, .inl (cI, 26, .inl (aM (updN ln k (dr1 + 1))))), (rA, .inr (2, [.int (nI st1), .int (nI nm1), .int (nI nu1)]))]) C Z (c_Ents_lengthOf l D cI cZ eA wA sA lA (dl + nI 1) (kept + dr1) dr1 (updN ln k (dr1 + 1)) k (by first | assumption | omega) (by unfold updN; rw [if_pos rfl]; omega)) k_Desk_83 rfl ⟨by rw [hR]; decide, by rw [hR]; decide⟩ ⟨rfl, rfl⟩ [2, 5] [0, 1, 3, 4, 6] [0, 1, 5, 2, 3, 6, 4] (by decide) rfl rfl (by decide) (by decide) (by decide) (fun _ => rfl) 2 rfl rfl hl.1 rfl (Nat.le_of_ble_eq_true rfl) d_Desk_declare_83 ⟨Nat.zero_le _, Nat.zero_le _⟩ (fun r u H locs hp Z => ?_)
      obtain ⟨hp1, hp2⟩ := hp; have hp1 := hp1.symm; have hp2 := hp2.symm; subst hp1; subst hp2
      have Z : Wd D A s.heap [(dA, .inr (0, [.ref hA, .int (nI 0), .ref eA, .ref rA, .int (nI fa1), .int fp1, .int (nI op1), .ref oA, .int (nI ol), .ref pA, .int (nI ml), .int (nI me), .int pu, .int (nI de)])), (hA, .inl (cI, 400, .inl (aN hand))), (eA, .inr (1, [.ref wA, .ref sA, .ref lA, .int (dl + nI 1), .int (nI (kept + dr1)), .int (nI dr1)])), (wA, .inl (cI, 2000, .inl (aN tx1))), (sA, .inl (cI, 26, .inl (aN (updN sf k kept)))), (lA, .inl (cI, 26, .inl (aM (updN ln k (dr1 + 1))))), (rA, .inr (2, [.int (nI st1), .int (nI nm1), .int (nI nu1)]))] H locs := Z
      exact r_iret C Z ((fa1, fp1, op1, tx1, dr1, st1, nm1, nu1), (updN sf k kept, updN ln k (dr1 + 1), kept + dr1, dl + nI 1)) (by clear C Z hl; rw [← e1]; unfold declR declS; dsimp only; first | (rw [if_pos (by omega), if_neg (by omega)]; exact ⟨rfl, rfl⟩) | (rw [if_neg (by omega), if_pos (by omega), if_neg (by omega)]; exact ⟨rfl, rfl⟩) | (rw [if_neg (by omega), if_neg (by omega), if_pos (by omega)]; refine ⟨?_, rfl⟩; congr 1; unfold updN; rw [if_pos rfl]; omega)) rfl hQ d_Desk_declare_86
    · skip
      refine lv_bipush (v := (-101)) C.1 C.2.1 d_Desk_declare_67 (by decide) ?_
      exact r_iret C Z ((fa1, fp1, op1, tx1, dr1, st1, nm1, nu1), (sf, ln, kept, dl)) (by clear C Z hl; rw [← e1]; unfold declR declS; dsimp only; first | (rw [if_pos (by omega), if_neg (by omega)]; exact ⟨rfl, rfl⟩) | (rw [if_neg (by omega), if_pos (by omega), if_neg (by omega)]; exact ⟨rfl, rfl⟩) | (rw [if_neg (by omega), if_neg (by omega), if_pos (by omega)]; refine ⟨?_, rfl⟩; congr 1; unfold updN; rw [if_pos rfl]; omega)) rfl hQ d_Desk_declare_69
  · skip
    refine lv_iconst (v := (-1)) C.1 C.2.1 d_Desk_declare_50 (by decide) ?_
    refine lv_aload_n C.1 C.2.1 d_Desk_declare_51 rfl (lv_at hl 1 rfl) ?_
    refine r_get C Z 0 f_Desk_31 rfl rfl d_Desk_declare_52 ?_
    refine lv_isub C.1 C.2.1 d_Desk_declare_55 ?_
    exact r_iret C Z ((fa1, fp1, op1, tx1, dr1, st1, nm1, nu1), (sf, ln, kept, dl)) (by clear C Z hl; rw [← e1]; unfold declR declS; dsimp only; first | (rw [if_pos (by omega), if_neg (by omega)]; exact ⟨rfl, rfl⟩) | (rw [if_neg (by omega), if_pos (by omega), if_neg (by omega)]; exact ⟨rfl, rfl⟩) | (rw [if_neg (by omega), if_neg (by omega), if_pos (by omega)]; refine ⟨?_, rfl⟩; congr 1; unfold updN; rw [if_pos rfl]; omega)) rfl hQ d_Desk_declare_56

set_option maxHeartbeats 4000000 in
set_option maxRecDepth 100000 in
theorem c_Desk_expandBad (l : Launch) (D : va_G) (cI cZ : ClassId) (dA hA eA rA oA pA : Nat) (n : Nat) (fa : Nat) (fp : Int32) (op : Nat) (ol : Nat) (ml : Nat) (me : Nat) (pu : Int32) (de : Nat) (x : Int32) (hx : x < 0 ∨ nI 100000 < x) : Mi l y_Desk_expand b_Desk_expand 3 (some .int) ({ frames := 0, cells := 0, slots := 0, locals := 0 } : Room) D cI cZ [.ref dA, .int x] [(dA, .inr (0, [.ref hA, .int (nI n), .ref eA, .ref rA, .int (nI fa), .int fp, .int (nI op), .ref oA, .int (nI ol), .ref pA, .int (nI ml), .int (nI me), .int pu, .int (nI de)]))] (fun (r : Int32) (u : Unit) => r = (-102) ∧ u = ()) (fun u : Unit => [(dA, .inr (0, [.ref hA, .int (nI n), .ref eA, .ref rA, .int (nI fa), .int fp, .int (nI op), .ref oA, .int (nI ol), .ref pA, .int (nI ml), .int (nI me), .int pu, .int (nI de)]))]) := by
  refine Mi.intro (by decide) (Nat.le_of_ble_eq_true rfl) ?_
  intro p e s m args below meth cd A ls R Q hR hQ C Z hl
  have hl : lv_has ls 3 [(0, .ref dA), (1, .int x)] := hl
  refine lv_iload_n C.1 C.2.1 d_Desk_expand_0 rfl (lv_at hl 1 rfl) ?_
  refine lv_if_lt (tgt := 10) C.1 C.2.1 d_Desk_expand_1 (by decide) (fun h1 => ?_) (fun h1 => ?_)
  · skip
    refine lv_bipush (v := (-102)) C.1 C.2.1 d_Desk_expand_10 (by decide) ?_
    exact r_iret C Z () (by first | exact ⟨rfl, rfl⟩ | (clear C Z hl; simp [h1]; done) | (clear C Z hl; grind)) rfl hQ d_Desk_expand_12
  · skip
    refine lv_iload_n C.1 C.2.1 d_Desk_expand_4 rfl (lv_at hl 1 rfl) ?_
    refine lv_ldc (v := nI 100000) C.1 C.2.1 C.2.2.2.2.2.1 (C.2.2.2.2.2.2.1 _ c_Desk_87) d_Desk_expand_5 ?_
    refine lv_icmp_le (tgt := 13) C.1 C.2.1 d_Desk_expand_7 (by decide) (fun h7 => ?_) (fun h7 => ?_)
    · skip
      exact (hx.elim (fun q => h1 q) (fun q => Int32.not_le.mpr q h7)).elim
    · skip
      refine lv_bipush (v := (-102)) C.1 C.2.1 d_Desk_expand_10 (by decide) ?_
      exact r_iret C Z () (by first | exact ⟨rfl, rfl⟩ | (clear C Z hl; simp [h1, h7]; done) | (clear C Z hl; grind)) rfl hQ d_Desk_expand_12

set_option maxHeartbeats 4000000 in
set_option maxRecDepth 100000 in
theorem c_Desk_expand (l : Launch) (D : va_G) (cI cZ : ClassId) (dA hA eA rA oA pA wA sA lA : Nat) (n : Nat) (fa : Nat) (fp : Int32) (op : Nat) (ol : Nat) (ml : Nat) (me : Nat) (pu : Int32) (de : Nat) (st : Nat) (nm : Nat) (nu : Nat) (dl : Int32) (kept : Nat) (dr : Nat) (tx : Nat → Nat) (sf : Nat → Nat) (ln : Nat → Nat) (hand : Nat → Nat) (out : Nat → Nat) (opn : Nat → Nat) (q : Nat) (hq : q ≤ 100000) (hE : gEnv tx sf ln q) (hnm : nm < 26) (hnu : nu ≤ 256) (hop : ∀ j, opn j ≤ 1) (hn : n ≤ 400) (hh : ∀ j, hand j < 256) : Mi l y_Desk_expand b_Desk_expand 3 (some .int) ({ frames := 42, cells := 0, slots := 0, locals := 1014 } : Room) D cI cZ [.ref dA, .int (nI q)] [(dA, .inr (0, [.ref hA, .int (nI n), .ref eA, .ref rA, .int (nI fa), .int fp, .int (nI op), .ref oA, .int (nI ol), .ref pA, .int (nI ml), .int (nI me), .int pu, .int (nI de)])), (hA, .inl (cI, 400, .inl (aN hand))), (eA, .inr (1, [.ref wA, .ref sA, .ref lA, .int dl, .int (nI kept), .int (nI dr)])), (wA, .inl (cI, 2000, .inl (aN tx))), (sA, .inl (cI, 26, .inl (aN sf))), (lA, .inl (cI, 26, .inl (aM ln))), (rA, .inr (2, [.int (nI st), .int (nI nm), .int (nI nu)])), (oA, .inl (cI, 3000, .inl (aN out))), (pA, .inl (cZ, 26, .inl (aN opn)))] (fun (r : Int32) (u : RS × Nat) => r = expR (expG tx sf ln hand q n out opn nm nu) ∧ u = ((expG tx sf ln hand q n out opn nm nu), expN (expG tx sf ln hand q n out opn nm nu))) (fun u : RS × Nat => [(dA, .inr (0, [.ref hA, .int (nI 0), .ref eA, .ref rA, .int (nI u.1.1), .int u.1.2.1, .int (nI u.1.2.2.1), .ref oA, .int (nI u.2), .ref pA, .int (nI q), .int (nI u.1.2.2.2.2.2.1), .int u.1.2.2.2.2.2.2.1, .int (nI u.1.2.2.2.2.2.2.2.1)])), (hA, .inl (cI, 400, .inl (aN hand))), (eA, .inr (1, [.ref wA, .ref sA, .ref lA, .int dl, .int (nI kept), .int (nI dr)])), (wA, .inl (cI, 2000, .inl (aN tx))), (sA, .inl (cI, 26, .inl (aN sf))), (lA, .inl (cI, 26, .inl (aM ln))), (rA, .inr (2, [.int (nI u.1.2.2.2.2.2.2.2.2.2.1), .int (nI u.1.2.2.2.2.2.2.2.2.2.2.1), .int (nI u.1.2.2.2.2.2.2.2.2.2.2.2)])), (oA, .inl (cI, 3000, .inl (aN u.1.2.2.2.1))), (pA, .inl (cZ, 26, .inl (aN u.1.2.2.2.2.2.2.2.2.1)))]) := by
  refine Mi.intro (by decide) (Nat.le_of_ble_eq_true rfl) ?_
  intro p e s m args below meth cd A ls R Q hR hQ C Z hl
  have hl : lv_has ls 3 [(0, .ref dA), (1, .int (nI q))] := hl
  refine lv_iload_n C.1 C.2.1 d_Desk_expand_0 rfl (lv_at hl 1 rfl) ?_
  refine r_zlt (tgt := 10) C d_Desk_expand_1 (by decide) (by omega) ?_
  refine lv_iload_n C.1 C.2.1 d_Desk_expand_4 rfl (lv_at hl 1 rfl) ?_
  refine lv_ldc (v := nI 100000) C.1 C.2.1 C.2.2.2.2.2.1 (C.2.2.2.2.2.2.1 _ c_Desk_87) d_Desk_expand_5 ?_
  refine r_le (tgt := 13) C d_Desk_expand_7 (by decide) (by omega) (by omega) (fun h7 => ?_) (fun h7 => (by omega : False).elim)
  refine lv_aload_n C.1 C.2.1 d_Desk_expand_13 rfl (lv_at hl 0 rfl) ?_
  refine r_get C Z 0 f_Desk_13 rfl rfl d_Desk_expand_14 ?_
  refine lv_istore_n (lv' := [(2, .int (nI n)), (0, .ref dA), (1, .int (nI q))]) C.1 C.2.1 d_Desk_expand_17 rfl hl (by decide) rfl (fun ls hl => ?_)
  refine lv_aload_n C.1 C.2.1 d_Desk_expand_18 rfl (lv_at hl 1 rfl) ?_
  refine lv_iconst (v := nI 0) C.1 C.2.1 d_Desk_expand_19 (by decide) ?_
  refine r_put (ws' := [(dA, .inr (0, [.ref hA, .int (nI 0), .ref eA, .ref rA, .int (nI fa), .int fp, .int (nI op), .ref oA, .int (nI ol), .ref pA, .int (nI ml), .int (nI me), .int pu, .int (nI de)])), (hA, .inl (cI, 400, .inl (aN hand))), (eA, .inr (1, [.ref wA, .ref sA, .ref lA, .int dl, .int (nI kept), .int (nI dr)])), (wA, .inl (cI, 2000, .inl (aN tx))), (sA, .inl (cI, 26, .inl (aN sf))), (lA, .inl (cI, 26, .inl (aM ln))), (rA, .inr (2, [.int (nI st), .int (nI nm), .int (nI nu)])), (oA, .inl (cI, 3000, .inl (aN out))), (pA, .inl (cZ, 26, .inl (aN opn)))]) C Z 0 f_Desk_13 rfl rfl rfl (Nat.le_of_ble_eq_true rfl) rfl d_Desk_expand_20 (fun H locs Z => ?_)
  refine lv_aload_n C.1 C.2.1 d_Desk_expand_23 rfl (lv_at hl 1 rfl) ?_
  refine r_callVv (rest := []) (wr := [(hA, .inl (cI, 400, .inl (aN hand))), (eA, .inr (1, [.ref wA, .ref sA, .ref lA, .int dl, .int (nI kept), .int (nI dr)])), (wA, .inl (cI, 2000, .inl (aN tx))), (sA, .inl (cI, 26, .inl (aN sf))), (lA, .inl (cI, 26, .inl (aM ln))), (oA, .inl (cI, 3000, .inl (aN out))), (pA, .inl (cZ, 26, .inl (aN opn)))]) (wn := fun u => [(dA, .inr (0, [.ref hA, .int (nI 0), .ref eA, .ref rA, .int (nI u.1), .int u.2.1, .int (nI u.2.2.1), .ref oA, .int (nI ol), .ref pA, .int (nI ml), .int (nI me), .int pu, .int (nI de)])), (hA, .inl (cI, 400, .inl (aN hand))), (eA, .inr (1, [.ref wA, .ref sA, .ref lA, .int dl, .int (nI kept), .int (nI dr)])), (wA, .inl (cI, 2000, .inl (aN tx))), (sA, .inl (cI, 26, .inl (aN sf))), (lA, .inl (cI, 26, .inl (aM ln))), (rA, .inr (2, [.int (nI u.2.2.2), .int (nI nm), .int (nI nu)])), (oA, .inl (cI, 3000, .inl (aN out))), (pA, .inl (cZ, 26, .inl (aN opn)))]) C Z (c_Desk_beginReading l D cI cZ dA hA eA rA oA pA 0 fa fp op ol ml me pu de st nm nu) k_Desk_66 rfl ⟨by rw [hR]; decide, by rw [hR]; decide⟩ ⟨rfl, rfl⟩ [0, 6] [1, 2, 3, 4, 5, 7, 8] [7, 0, 1, 2, 3, 4, 8, 5, 6] (by decide) rfl rfl (by decide) (by decide) (by decide) (fun _ => rfl) 0 rfl rfl hl.1 rfl (Nat.le_of_ble_eq_true rfl) d_Desk_expand_24 ⟨Nat.zero_le _, Nat.zero_le _⟩ (fun u H locs hp Z => ?_)
  have hp := hp.symm; subst hp
  have Z : Wd D A s.heap [(dA, .inr (0, [.ref hA, .int (nI 0), .ref eA, .ref rA, .int (nI 0), .int (-1), .int (nI 0), .ref oA, .int (nI ol), .ref pA, .int (nI ml), .int (nI me), .int pu, .int (nI de)])), (hA, .inl (cI, 400, .inl (aN hand))), (eA, .inr (1, [.ref wA, .ref sA, .ref lA, .int dl, .int (nI kept), .int (nI dr)])), (wA, .inl (cI, 2000, .inl (aN tx))), (sA, .inl (cI, 26, .inl (aN sf))), (lA, .inl (cI, 26, .inl (aM ln))), (rA, .inr (2, [.int (nI 0), .int (nI nm), .int (nI nu)])), (oA, .inl (cI, 3000, .inl (aN out))), (pA, .inl (cZ, 26, .inl (aN opn)))] H locs := Z
  refine lv_aload_n C.1 C.2.1 d_Desk_expand_27 rfl (lv_at hl 1 rfl) ?_
  refine lv_iconst (v := nI 0) C.1 C.2.1 d_Desk_expand_28 (by decide) ?_
  refine r_put (ws' := [(dA, .inr (0, [.ref hA, .int (nI 0), .ref eA, .ref rA, .int (nI 0), .int (-1), .int (nI 0), .ref oA, .int (nI 0), .ref pA, .int (nI ml), .int (nI me), .int pu, .int (nI de)])), (hA, .inl (cI, 400, .inl (aN hand))), (eA, .inr (1, [.ref wA, .ref sA, .ref lA, .int dl, .int (nI kept), .int (nI dr)])), (wA, .inl (cI, 2000, .inl (aN tx))), (sA, .inl (cI, 26, .inl (aN sf))), (lA, .inl (cI, 26, .inl (aM ln))), (rA, .inr (2, [.int (nI 0), .int (nI nm), .int (nI nu)])), (oA, .inl (cI, 3000, .inl (aN out))), (pA, .inl (cZ, 26, .inl (aN opn)))]) C Z 0 f_Desk_43 rfl rfl rfl (Nat.le_of_ble_eq_true rfl) rfl d_Desk_expand_29 (fun H locs Z => ?_)
  refine lv_aload_n C.1 C.2.1 d_Desk_expand_32 rfl (lv_at hl 1 rfl) ?_
  refine lv_iload_n C.1 C.2.1 d_Desk_expand_33 rfl (lv_at hl 2 rfl) ?_
  refine r_put (ws' := [(dA, .inr (0, [.ref hA, .int (nI 0), .ref eA, .ref rA, .int (nI 0), .int (-1), .int (nI 0), .ref oA, .int (nI 0), .ref pA, .int (nI q), .int (nI me), .int pu, .int (nI de)])), (hA, .inl (cI, 400, .inl (aN hand))), (eA, .inr (1, [.ref wA, .ref sA, .ref lA, .int dl, .int (nI kept), .int (nI dr)])), (wA, .inl (cI, 2000, .inl (aN tx))), (sA, .inl (cI, 26, .inl (aN sf))), (lA, .inl (cI, 26, .inl (aM ln))), (rA, .inr (2, [.int (nI 0), .int (nI nm), .int (nI nu)])), (oA, .inl (cI, 3000, .inl (aN out))), (pA, .inl (cZ, 26, .inl (aN opn)))]) C Z 0 f_Desk_50 rfl rfl rfl (Nat.le_of_ble_eq_true rfl) rfl d_Desk_expand_34 (fun H locs Z => ?_)
  refine lv_aload_n C.1 C.2.1 d_Desk_expand_37 rfl (lv_at hl 1 rfl) ?_
  refine lv_iconst (v := nI 0) C.1 C.2.1 d_Desk_expand_38 (by decide) ?_
  refine r_put (ws' := [(dA, .inr (0, [.ref hA, .int (nI 0), .ref eA, .ref rA, .int (nI 0), .int (-1), .int (nI 0), .ref oA, .int (nI 0), .ref pA, .int (nI q), .int (nI 0), .int pu, .int (nI de)])), (hA, .inl (cI, 400, .inl (aN hand))), (eA, .inr (1, [.ref wA, .ref sA, .ref lA, .int dl, .int (nI kept), .int (nI dr)])), (wA, .inl (cI, 2000, .inl (aN tx))), (sA, .inl (cI, 26, .inl (aN sf))), (lA, .inl (cI, 26, .inl (aM ln))), (rA, .inr (2, [.int (nI 0), .int (nI nm), .int (nI nu)])), (oA, .inl (cI, 3000, .inl (aN out))), (pA, .inl (cZ, 26, .inl (aN opn)))]) C Z 0 f_Desk_53 rfl rfl rfl (Nat.le_of_ble_eq_true rfl) rfl d_Desk_expand_39 (fun H locs Z => ?_)
  refine lv_aload_n C.1 C.2.1 d_Desk_expand_42 rfl (lv_at hl 1 rfl) ?_
  refine lv_iconst (v := nI 0) C.1 C.2.1 d_Desk_expand_43 (by decide) ?_
  refine r_put (ws' := [(dA, .inr (0, [.ref hA, .int (nI 0), .ref eA, .ref rA, .int (nI 0), .int (-1), .int (nI 0), .ref oA, .int (nI 0), .ref pA, .int (nI q), .int (nI 0), .int (nI 0), .int (nI de)])), (hA, .inl (cI, 400, .inl (aN hand))), (eA, .inr (1, [.ref wA, .ref sA, .ref lA, .int dl, .int (nI kept), .int (nI dr)])), (wA, .inl (cI, 2000, .inl (aN tx))), (sA, .inl (cI, 26, .inl (aN sf))), (lA, .inl (cI, 26, .inl (aM ln))), (rA, .inr (2, [.int (nI 0), .int (nI nm), .int (nI nu)])), (oA, .inl (cI, 3000, .inl (aN out))), (pA, .inl (cZ, 26, .inl (aN opn)))]) C Z 0 f_Desk_56 rfl rfl rfl (Nat.le_of_ble_eq_true rfl) rfl d_Desk_expand_44 (fun H locs Z => ?_)
  refine lv_aload_n C.1 C.2.1 d_Desk_expand_47 rfl (lv_at hl 1 rfl) ?_
  refine lv_iconst (v := nI 0) C.1 C.2.1 d_Desk_expand_48 (by decide) ?_
  refine r_put (ws' := [(dA, .inr (0, [.ref hA, .int (nI 0), .ref eA, .ref rA, .int (nI 0), .int (-1), .int (nI 0), .ref oA, .int (nI 0), .ref pA, .int (nI q), .int (nI 0), .int (nI 0), .int (nI 0)])), (hA, .inl (cI, 400, .inl (aN hand))), (eA, .inr (1, [.ref wA, .ref sA, .ref lA, .int dl, .int (nI kept), .int (nI dr)])), (wA, .inl (cI, 2000, .inl (aN tx))), (sA, .inl (cI, 26, .inl (aN sf))), (lA, .inl (cI, 26, .inl (aM ln))), (rA, .inr (2, [.int (nI 0), .int (nI nm), .int (nI nu)])), (oA, .inl (cI, 3000, .inl (aN out))), (pA, .inl (cZ, 26, .inl (aN opn)))]) C Z 0 f_Desk_59 rfl rfl rfl (Nat.le_of_ble_eq_true rfl) rfl d_Desk_expand_49 (fun H locs Z => ?_)
  refine lv_aload_n C.1 C.2.1 d_Desk_expand_52 rfl (lv_at hl 1 rfl) ?_
  refine lv_aload_n C.1 C.2.1 d_Desk_expand_53 rfl (lv_at hl 1 rfl) ?_
  refine r_get C Z 0 f_Desk_9 rfl rfl d_Desk_expand_54 ?_
  refine lv_iconst (v := nI 0) C.1 C.2.1 d_Desk_expand_57 (by decide) ?_
  refine lv_iload_n C.1 C.2.1 d_Desk_expand_58 rfl (lv_at hl 0 rfl) ?_
  refine lv_iconst (v := nI 0) C.1 C.2.1 d_Desk_expand_59 (by decide) ?_
  refine r_callVv (rest := []) (wr := []) (wn := fun u => [(dA, .inr (0, [.ref hA, .int (nI 0), .ref eA, .ref rA, .int (nI u.1), .int u.2.1, .int (nI u.2.2.1), .ref oA, .int (nI u.2.2.2.2.1), .ref pA, .int (nI q), .int (nI u.2.2.2.2.2.1), .int u.2.2.2.2.2.2.1, .int (nI u.2.2.2.2.2.2.2.1)])), (hA, .inl (cI, 400, .inl (aN hand))), (eA, .inr (1, [.ref wA, .ref sA, .ref lA, .int dl, .int (nI kept), .int (nI dr)])), (wA, .inl (cI, 2000, .inl (aN tx))), (sA, .inl (cI, 26, .inl (aN sf))), (lA, .inl (cI, 26, .inl (aM ln))), (rA, .inr (2, [.int (nI u.2.2.2.2.2.2.2.2.2.1), .int (nI u.2.2.2.2.2.2.2.2.2.2.1), .int (nI u.2.2.2.2.2.2.2.2.2.2.2)])), (oA, .inl (cI, 3000, .inl (aN u.2.2.2.1))), (pA, .inl (cZ, 26, .inl (aN u.2.2.2.2.2.2.2.2.1)))]) C Z (GZ_all l D cI cZ 12 dA hA eA rA oA pA wA sA lA 0 0 (-1) 0 0 q 0 (nI 0) 0 0 nm nu dl kept dr tx sf ln hand out opn 0 n hE ⟨by omega, by omega, by omega, by omega, by omega, hnm, hnu, hop⟩ rfl (by omega) (by omega) hh) k_Desk_88 rfl ⟨by rw [hR]; decide, by rw [hR]; decide⟩ ⟨rfl, rfl⟩ [0, 1, 2, 3, 4, 5, 6, 7, 8] [] [0, 1, 2, 3, 4, 5, 6, 7, 8] (by decide) rfl rfl (by decide) (by decide) (by decide) (fun _ => rfl) 0 rfl rfl hl.1 rfl (Nat.le_of_ble_eq_true rfl) d_Desk_expand_60 ⟨Nat.zero_le _, Nat.zero_le _⟩ (fun u H locs hp Z => ?_)
  obtain ⟨fa1, fp1, op1, out1, ol1, me1, pu1, de1, opn1, st1, nm1, nu1⟩ := u
  have e1 : (fa1, fp1, op1, out1, ol1, me1, pu1, de1, opn1, st1, nm1, nu1) = gOver (gInto tx sf ln q 12) 0 hand 0 n (0, (-1), 0, out, 0, 0, (nI 0), 0, opn, 0, nm, nu) := hp
  have Z : Wd D A s.heap [(dA, .inr (0, [.ref hA, .int (nI 0), .ref eA, .ref rA, .int (nI fa1), .int fp1, .int (nI op1), .ref oA, .int (nI ol1), .ref pA, .int (nI q), .int (nI me1), .int pu1, .int (nI de1)])), (hA, .inl (cI, 400, .inl (aN hand))), (eA, .inr (1, [.ref wA, .ref sA, .ref lA, .int dl, .int (nI kept), .int (nI dr)])), (wA, .inl (cI, 2000, .inl (aN tx))), (sA, .inl (cI, 26, .inl (aN sf))), (lA, .inl (cI, 26, .inl (aM ln))), (rA, .inr (2, [.int (nI st1), .int (nI nm1), .int (nI nu1)])), (oA, .inl (cI, 3000, .inl (aN out1))), (pA, .inl (cZ, 26, .inl (aN opn1)))] H locs := Z
  have hT : gOk (fa1, fp1, op1, out1, ol1, me1, pu1, de1, opn1, st1, nm1, nu1) := by rw [e1]; exact gOk_end (gOk_loop (gOk_into hE.2.2.2 12) _ _ _ ⟨by omega, by omega, by omega, by omega, by omega, hnm, hnu, hop⟩)
  obtain ⟨hfa1, hol1, -⟩ := hT
  refine lv_aload_n C.1 C.2.1 d_Desk_expand_63 rfl (lv_at hl 1 rfl) ?_
  refine r_get C Z 0 f_Desk_31 rfl rfl d_Desk_expand_64 ?_
  refine r_zeq (tgt := 82) C d_Desk_expand_67 (by decide) (by omega) (fun h67 => ?_) (fun h67 => ?_)
  · skip
    refine lv_aload_n C.1 C.2.1 d_Desk_expand_82 rfl (lv_at hl 1 rfl) ?_
    refine r_get C Z 0 f_Desk_43 rfl rfl d_Desk_expand_83 ?_
    exact r_iret C Z ((fa1, fp1, op1, out1, ol1, me1, pu1, de1, opn1, st1, nm1, nu1), ol1) (by clear C Z hl; have e2 : _ = expG tx sf ln hand q n out opn nm nu := e1; rw [← e2]; unfold expR expN; dsimp only; first | (rw [if_pos (by omega), if_pos (by omega)]; exact ⟨rfl, rfl⟩) | (rw [if_neg (by omega), if_neg (by omega)]; exact ⟨rfl, rfl⟩)) rfl hQ d_Desk_expand_86
  · skip
    refine lv_aload_n C.1 C.2.1 d_Desk_expand_70 rfl (lv_at hl 1 rfl) ?_
    refine lv_iconst (v := nI 0) C.1 C.2.1 d_Desk_expand_71 (by decide) ?_
    refine r_put (ws' := [(dA, .inr (0, [.ref hA, .int (nI 0), .ref eA, .ref rA, .int (nI fa1), .int fp1, .int (nI op1), .ref oA, .int (nI 0), .ref pA, .int (nI q), .int (nI me1), .int pu1, .int (nI de1)])), (hA, .inl (cI, 400, .inl (aN hand))), (eA, .inr (1, [.ref wA, .ref sA, .ref lA, .int dl, .int (nI kept), .int (nI dr)])), (wA, .inl (cI, 2000, .inl (aN tx))), (sA, .inl (cI, 26, .inl (aN sf))), (lA, .inl (cI, 26, .inl (aM ln))), (rA, .inr (2, [.int (nI st1), .int (nI nm1), .int (nI nu1)])), (oA, .inl (cI, 3000, .inl (aN out1))), (pA, .inl (cZ, 26, .inl (aN opn1)))]) C Z 0 f_Desk_43 rfl rfl rfl (Nat.le_of_ble_eq_true rfl) rfl d_Desk_expand_72 (fun H locs Z => ?_)
    refine lv_iconst (v := (-1)) C.1 C.2.1 d_Desk_expand_75 (by decide) ?_
    refine lv_aload_n C.1 C.2.1 d_Desk_expand_76 rfl (lv_at hl 1 rfl) ?_
    refine r_get C Z 0 f_Desk_31 rfl rfl d_Desk_expand_77 ?_
    refine lv_isub C.1 C.2.1 d_Desk_expand_80 ?_
    exact r_iret C Z ((fa1, fp1, op1, out1, ol1, me1, pu1, de1, opn1, st1, nm1, nu1), 0) (by clear C Z hl; have e2 : _ = expG tx sf ln hand q n out opn nm nu := e1; rw [← e2]; unfold expR expN; dsimp only; first | (rw [if_pos (by omega), if_pos (by omega)]; exact ⟨rfl, rfl⟩) | (rw [if_neg (by omega), if_neg (by omega)]; exact ⟨rfl, rfl⟩)) rfl hQ d_Desk_expand_81

set_option maxHeartbeats 4000000 in
set_option maxRecDepth 100000 in
theorem c_Desk_place (l : Launch) (D : va_G) (cI cZ : ClassId) (dA hA eA rA oA pA : Nat) (n : Nat) (fa : Nat) (fp : Int32) (op : Nat) (ol : Nat) (ml : Nat) (me : Nat) (pu : Int32) (de : Nat) : Mi l y_Desk_place b_Desk_place 1 (some .int) ({ frames := 0, cells := 0, slots := 0, locals := 0 } : Room) D cI cZ [.ref dA] [(dA, .inr (0, [.ref hA, .int (nI n), .ref eA, .ref rA, .int (nI fa), .int fp, .int (nI op), .ref oA, .int (nI ol), .ref pA, .int (nI ml), .int (nI me), .int pu, .int (nI de)]))] (fun (r : Int32) (u : Unit) => r = fp ∧ u = ()) (fun u : Unit => [(dA, .inr (0, [.ref hA, .int (nI n), .ref eA, .ref rA, .int (nI fa), .int fp, .int (nI op), .ref oA, .int (nI ol), .ref pA, .int (nI ml), .int (nI me), .int pu, .int (nI de)]))]) := by
  refine Mi.intro (by decide) (Nat.le_of_ble_eq_true rfl) ?_
  intro p e s m args below meth cd A ls R Q hR hQ C Z hl
  have hl : lv_has ls 1 [(0, .ref dA)] := hl
  refine lv_aload_n C.1 C.2.1 d_Desk_place_0 rfl (lv_at hl 0 rfl) ?_
  refine r_get C Z 0 f_Desk_34 rfl rfl d_Desk_place_1 ?_
  exact r_iret C Z () (by first | exact ⟨rfl, rfl⟩ | (clear C Z hl; grind)) rfl hQ d_Desk_place_4

set_option maxHeartbeats 4000000 in
set_option maxRecDepth 100000 in
theorem c_Desk_given (l : Launch) (D : va_G) (cI cZ : ClassId) (dA hA eA rA oA pA : Nat) (n : Nat) (fa : Nat) (fp : Int32) (op : Nat) (ol : Nat) (ml : Nat) (me : Nat) (pu : Int32) (de : Nat) (out : Nat → Nat) (i : Nat) (hi : i < ol) (hol : ol ≤ 3000) : Mi l y_Desk_given b_Desk_given 2 (some .int) ({ frames := 0, cells := 0, slots := 0, locals := 0 } : Room) D cI cZ [.ref dA, .int (nI i)] [(dA, .inr (0, [.ref hA, .int (nI n), .ref eA, .ref rA, .int (nI fa), .int fp, .int (nI op), .ref oA, .int (nI ol), .ref pA, .int (nI ml), .int (nI me), .int pu, .int (nI de)])), (oA, .inl (cI, 3000, .inl (aN out)))] (fun (r : Int32) (u : Unit) => r = nI (out i) ∧ u = ()) (fun u : Unit => [(dA, .inr (0, [.ref hA, .int (nI n), .ref eA, .ref rA, .int (nI fa), .int fp, .int (nI op), .ref oA, .int (nI ol), .ref pA, .int (nI ml), .int (nI me), .int pu, .int (nI de)])), (oA, .inl (cI, 3000, .inl (aN out)))]) := by
  refine Mi.intro (by decide) (Nat.le_of_ble_eq_true rfl) ?_
  intro p e s m args below meth cd A ls R Q hR hQ C Z hl
  have hl : lv_has ls 2 [(0, .ref dA), (1, .int (nI i))] := hl
  refine lv_iload_n C.1 C.2.1 d_Desk_given_0 rfl (lv_at hl 1 rfl) ?_
  refine r_zlt (tgt := 21) C d_Desk_given_1 (by decide) (by omega) ?_
  refine lv_iload_n C.1 C.2.1 d_Desk_given_4 rfl (lv_at hl 1 rfl) ?_
  refine lv_aload_n C.1 C.2.1 d_Desk_given_5 rfl (lv_at hl 0 rfl) ?_
  refine r_get C Z 0 f_Desk_43 rfl rfl d_Desk_given_6 ?_
  refine r_ge (tgt := 21) C d_Desk_given_9 (by decide) (by omega) (by omega) (fun h9 => (by omega : False).elim) (fun h9 => ?_)
  refine lv_aload_n C.1 C.2.1 d_Desk_given_12 rfl (lv_at hl 0 rfl) ?_
  refine r_get C Z 0 f_Desk_40 rfl rfl d_Desk_given_13 ?_
  refine lv_iload_n C.1 C.2.1 d_Desk_given_16 rfl (lv_at hl 1 rfl) ?_
  refine r_ildN C Z 1 rfl (by omega) (by decide) d_Desk_given_17 ?_
  refine lv_goto (tgt := 22) C.1 C.2.1 d_Desk_given_18 (by decide) ?_
  exact r_iret C Z () (by first | exact ⟨rfl, rfl⟩ | (clear C Z hl; simp [h9]; done) | (clear C Z hl; grind)) rfl hQ d_Desk_given_22

set_option maxHeartbeats 4000000 in
set_option maxRecDepth 100000 in
theorem c_Desk_givenBad (l : Launch) (D : va_G) (cI cZ : ClassId) (dA hA eA rA oA pA : Nat) (n : Nat) (fa : Nat) (fp : Int32) (op : Nat) (ol : Nat) (ml : Nat) (me : Nat) (pu : Int32) (de : Nat) (x : Int32) (hx : x < 0 ∨ nI ol ≤ x) : Mi l y_Desk_given b_Desk_given 2 (some .int) ({ frames := 0, cells := 0, slots := 0, locals := 0 } : Room) D cI cZ [.ref dA, .int x] [(dA, .inr (0, [.ref hA, .int (nI n), .ref eA, .ref rA, .int (nI fa), .int fp, .int (nI op), .ref oA, .int (nI ol), .ref pA, .int (nI ml), .int (nI me), .int pu, .int (nI de)]))] (fun (r : Int32) (u : Unit) => r = (-1) ∧ u = ()) (fun u : Unit => [(dA, .inr (0, [.ref hA, .int (nI n), .ref eA, .ref rA, .int (nI fa), .int fp, .int (nI op), .ref oA, .int (nI ol), .ref pA, .int (nI ml), .int (nI me), .int pu, .int (nI de)]))]) := by
  refine Mi.intro (by decide) (Nat.le_of_ble_eq_true rfl) ?_
  intro p e s m args below meth cd A ls R Q hR hQ C Z hl
  have hl : lv_has ls 2 [(0, .ref dA), (1, .int x)] := hl
  refine lv_iload_n C.1 C.2.1 d_Desk_given_0 rfl (lv_at hl 1 rfl) ?_
  refine lv_if_lt (tgt := 21) C.1 C.2.1 d_Desk_given_1 (by decide) (fun h1 => ?_) (fun h1 => ?_)
  · skip
    refine lv_iconst (v := (-1)) C.1 C.2.1 d_Desk_given_21 (by decide) ?_
    exact r_iret C Z () (by first | exact ⟨rfl, rfl⟩ | (clear C Z hl; simp [h1]; done) | (clear C Z hl; grind)) rfl hQ d_Desk_given_22
  · skip
    refine lv_iload_n C.1 C.2.1 d_Desk_given_4 rfl (lv_at hl 1 rfl) ?_
    refine lv_aload_n C.1 C.2.1 d_Desk_given_5 rfl (lv_at hl 0 rfl) ?_
    refine r_get C Z 0 f_Desk_43 rfl rfl d_Desk_given_6 ?_
    refine lv_icmp_ge (tgt := 21) C.1 C.2.1 d_Desk_given_9 (by decide) (fun h9 => ?_) (fun h9 => ?_)
    · skip
      refine lv_iconst (v := (-1)) C.1 C.2.1 d_Desk_given_21 (by decide) ?_
      exact r_iret C Z () (by first | exact ⟨rfl, rfl⟩ | (clear C Z hl; simp [h1, h9]; done) | (clear C Z hl; grind)) rfl hQ d_Desk_given_22
    · skip
      exact (hx.elim (fun q => h1 q) (fun q => h9 q)).elim

set_option maxHeartbeats 4000000 in
set_option maxRecDepth 100000 in
theorem c_Desk_textBad (l : Launch) (D : va_G) (cI cZ : ClassId) (dA hA eA rA oA pA : Nat) (n : Nat) (fa : Nat) (fp : Int32) (op : Nat) (ol : Nat) (ml : Nat) (me : Nat) (pu : Int32) (de : Nat) (x : Int32) (y : Int32) (hx : x < 0 ∨ nI 26 ≤ x) : Mi l y_Desk_text b_Desk_text 3 (some .int) ({ frames := 1, cells := 0, slots := 0, locals := 20 } : Room) D cI cZ [.ref dA, .int x, .int y] [(dA, .inr (0, [.ref hA, .int (nI n), .ref eA, .ref rA, .int (nI fa), .int fp, .int (nI op), .ref oA, .int (nI ol), .ref pA, .int (nI ml), .int (nI me), .int pu, .int (nI de)]))] (fun (r : Int32) (u : Unit) => r = (-1) ∧ u = ()) (fun u : Unit => [(dA, .inr (0, [.ref hA, .int (nI n), .ref eA, .ref rA, .int (nI fa), .int fp, .int (nI op), .ref oA, .int (nI ol), .ref pA, .int (nI ml), .int (nI me), .int pu, .int (nI de)]))]) := by
  refine Mi.intro (by decide) (Nat.le_of_ble_eq_true rfl) ?_
  intro p e s m args below meth cd A ls R Q hR hQ C Z hl
  have hl : lv_has ls 3 [(0, .ref dA), (1, .int x), (2, .int y)] := hl
  refine lv_iload_n C.1 C.2.1 d_Desk_text_0 rfl (lv_at hl 1 rfl) ?_
  refine r_callSi (rest := []) (wr := [(dA, .inr (0, [.ref hA, .int (nI n), .ref eA, .ref rA, .int (nI fa), .int fp, .int (nI op), .ref oA, .int (nI ol), .ref pA, .int (nI ml), .int (nI me), .int pu, .int (nI de)]))]) (wn := fun u => [(dA, .inr (0, [.ref hA, .int (nI n), .ref eA, .ref rA, .int (nI fa), .int fp, .int (nI op), .ref oA, .int (nI ol), .ref pA, .int (nI ml), .int (nI me), .int pu, .int (nI de)]))]) C Z (c_Desk_isNameBad l D cI cZ x (by first | assumption | omega)) k_Desk_62 rfl ⟨by rw [hR]; decide, by rw [hR]; decide⟩ ⟨rfl, rfl⟩ [] [0] [0] (by decide) rfl rfl (by decide) (by decide) (by decide) (fun _ => rfl) hl.1 rfl (Nat.le_of_ble_eq_true rfl) d_Desk_text_1 ⟨Nat.zero_le _, Nat.zero_le _⟩ (fun r u H locs hp Z => ?_)
  obtain ⟨hp1, hp2⟩ := hp; have hp1 := hp1.symm; have hp2 := hp2.symm; subst hp1; subst hp2
  have Z : Wd D A s.heap [(dA, .inr (0, [.ref hA, .int (nI n), .ref eA, .ref rA, .int (nI fa), .int fp, .int (nI op), .ref oA, .int (nI ol), .ref pA, .int (nI ml), .int (nI me), .int pu, .int (nI de)]))] H locs := Z
  refine r_zeq (tgt := 18) C d_Desk_text_4 (by decide) (by omega) (fun h4 => ?_) (fun h4 => (by omega : False).elim)
  refine lv_iconst (v := (-1)) C.1 C.2.1 d_Desk_text_18 (by decide) ?_
  exact r_iret C Z () (by first | exact ⟨rfl, rfl⟩ | (clear C Z hl; simp [h4]; done) | (clear C Z hl; grind)) rfl hQ d_Desk_text_19

set_option maxHeartbeats 4000000 in
set_option maxRecDepth 100000 in
theorem c_Desk_textNone (l : Launch) (D : va_G) (cI cZ : ClassId) (dA hA eA rA oA pA wA sA lA : Nat) (n : Nat) (fa : Nat) (fp : Int32) (op : Nat) (ol : Nat) (ml : Nat) (me : Nat) (pu : Int32) (de : Nat) (dl : Int32) (kept : Nat) (dr : Nat) (ln : Nat → Nat) (k : Nat) (y : Int32) (hk : k < 26) (hln : ln k = 0) : Mi l y_Desk_text b_Desk_text 3 (some .int) ({ frames := 1, cells := 0, slots := 0, locals := 21 } : Room) D cI cZ [.ref dA, .int (nI k), .int y] [(dA, .inr (0, [.ref hA, .int (nI n), .ref eA, .ref rA, .int (nI fa), .int fp, .int (nI op), .ref oA, .int (nI ol), .ref pA, .int (nI ml), .int (nI me), .int pu, .int (nI de)])), (eA, .inr (1, [.ref wA, .ref sA, .ref lA, .int dl, .int (nI kept), .int (nI dr)])), (lA, .inl (cI, 26, .inl (aM ln)))] (fun (r : Int32) (u : Unit) => r = (-1) ∧ u = ()) (fun u : Unit => [(dA, .inr (0, [.ref hA, .int (nI n), .ref eA, .ref rA, .int (nI fa), .int fp, .int (nI op), .ref oA, .int (nI ol), .ref pA, .int (nI ml), .int (nI me), .int pu, .int (nI de)])), (eA, .inr (1, [.ref wA, .ref sA, .ref lA, .int dl, .int (nI kept), .int (nI dr)])), (lA, .inl (cI, 26, .inl (aM ln)))]) := by
  refine Mi.intro (by decide) (Nat.le_of_ble_eq_true rfl) ?_
  intro p e s m args below meth cd A ls R Q hR hQ C Z hl
  have hl : lv_has ls 3 [(0, .ref dA), (1, .int (nI k)), (2, .int y)] := hl
  refine lv_iload_n C.1 C.2.1 d_Desk_text_0 rfl (lv_at hl 1 rfl) ?_
  refine r_callSi (rest := []) (wr := [(dA, .inr (0, [.ref hA, .int (nI n), .ref eA, .ref rA, .int (nI fa), .int fp, .int (nI op), .ref oA, .int (nI ol), .ref pA, .int (nI ml), .int (nI me), .int pu, .int (nI de)])), (eA, .inr (1, [.ref wA, .ref sA, .ref lA, .int dl, .int (nI kept), .int (nI dr)])), (lA, .inl (cI, 26, .inl (aM ln)))]) (wn := fun u => [(dA, .inr (0, [.ref hA, .int (nI n), .ref eA, .ref rA, .int (nI fa), .int fp, .int (nI op), .ref oA, .int (nI ol), .ref pA, .int (nI ml), .int (nI me), .int pu, .int (nI de)])), (eA, .inr (1, [.ref wA, .ref sA, .ref lA, .int dl, .int (nI kept), .int (nI dr)])), (lA, .inl (cI, 26, .inl (aM ln)))]) C Z (c_Desk_isName l D cI cZ k (by first | assumption | omega)) k_Desk_62 rfl ⟨by rw [hR]; decide, by rw [hR]; decide⟩ ⟨rfl, rfl⟩ [] [0, 1, 2] [0, 1, 2] (by decide) rfl rfl (by decide) (by decide) (by decide) (fun _ => rfl) hl.1 rfl (Nat.le_of_ble_eq_true rfl) d_Desk_text_1 ⟨Nat.zero_le _, Nat.zero_le _⟩ (fun r u H locs hp Z => ?_)
  obtain ⟨hp1, hp2⟩ := hp; have hp1 := hp1.symm; have hp2 := hp2.symm; subst hp1; subst hp2
  have Z : Wd D A s.heap [(dA, .inr (0, [.ref hA, .int (nI n), .ref eA, .ref rA, .int (nI fa), .int fp, .int (nI op), .ref oA, .int (nI ol), .ref pA, .int (nI ml), .int (nI me), .int pu, .int (nI de)])), (eA, .inr (1, [.ref wA, .ref sA, .ref lA, .int dl, .int (nI kept), .int (nI dr)])), (lA, .inl (cI, 26, .inl (aM ln)))] H locs := Z
  refine r_zeq (tgt := 18) C d_Desk_text_4 (by decide) (by omega) (fun h4 => (by omega : False).elim) (fun h4 => ?_)
  refine lv_aload_n C.1 C.2.1 d_Desk_text_7 rfl (lv_at hl 0 rfl) ?_
  refine r_get C Z 0 f_Desk_20 rfl rfl d_Desk_text_8 ?_
  refine lv_iload_n C.1 C.2.1 d_Desk_text_11 rfl (lv_at hl 1 rfl) ?_
  refine r_callNi (rest := []) (wr := [(dA, .inr (0, [.ref hA, .int (nI n), .ref eA, .ref rA, .int (nI fa), .int fp, .int (nI op), .ref oA, .int (nI ol), .ref pA, .int (nI ml), .int (nI me), .int pu, .int (nI de)]))]) (wn := fun u => [(dA, .inr (0, [.ref hA, .int (nI n), .ref eA, .ref rA, .int (nI fa), .int fp, .int (nI op), .ref oA, .int (nI ol), .ref pA, .int (nI ml), .int (nI me), .int pu, .int (nI de)])), (eA, .inr (1, [.ref wA, .ref sA, .ref lA, .int dl, .int (nI kept), .int (nI dr)])), (lA, .inl (cI, 26, .inl (aM ln)))]) C Z (c_Ents_has l D cI cZ eA wA sA lA dl kept dr ln k (by first | assumption | omega) (by omega)) k_Desk_69 rfl ⟨by rw [hR]; decide, by rw [hR]; decide⟩ ⟨rfl, rfl⟩ [1, 2] [0] [0, 1, 2] (by decide) rfl rfl (by decide) (by decide) (by decide) (fun _ => rfl) 1 rfl rfl hl.1 rfl (Nat.le_of_ble_eq_true rfl) d_Desk_text_12 ⟨Nat.zero_le _, Nat.zero_le _⟩ (fun r u H locs hp Z => ?_)
  obtain ⟨hp1, hp2⟩ := hp; have hp1 := hp1.symm; have hp2 := hp2.symm; subst hp1; subst hp2
  have Z : Wd D A s.heap [(dA, .inr (0, [.ref hA, .int (nI n), .ref eA, .ref rA, .int (nI fa), .int fp, .int (nI op), .ref oA, .int (nI ol), .ref pA, .int (nI ml), .int (nI me), .int pu, .int (nI de)])), (eA, .inr (1, [.ref wA, .ref sA, .ref lA, .int dl, .int (nI kept), .int (nI dr)])), (lA, .inl (cI, 26, .inl (aM ln)))] H locs := Z
  refine r_zne (tgt := 20) C d_Desk_text_15 (by decide) (by omega) (fun h15 => (by omega : False).elim) (fun h15 => ?_)
  refine lv_iconst (v := (-1)) C.1 C.2.1 d_Desk_text_18 (by decide) ?_
  exact r_iret C Z () (by first | exact ⟨rfl, rfl⟩ | (clear C Z hl; simp [h4, h15]; done) | (clear C Z hl; grind)) rfl hQ d_Desk_text_19

set_option maxHeartbeats 4000000 in
set_option maxRecDepth 100000 in
theorem c_Desk_textOut (l : Launch) (D : va_G) (cI cZ : ClassId) (dA hA eA rA oA pA wA sA lA : Nat) (n : Nat) (fa : Nat) (fp : Int32) (op : Nat) (ol : Nat) (ml : Nat) (me : Nat) (pu : Int32) (de : Nat) (dl : Int32) (kept : Nat) (dr : Nat) (ln : Nat → Nat) (k : Nat) (y : Int32) (hk : k < 26) (hln : ln k ≠ 0) (hln2 : ln k ≤ 2001) (hy : y < 0 ∨ nI (ln k - 1) ≤ y) : Mi l y_Desk_text b_Desk_text 3 (some .int) ({ frames := 1, cells := 0, slots := 0, locals := 21 } : Room) D cI cZ [.ref dA, .int (nI k), .int y] [(dA, .inr (0, [.ref hA, .int (nI n), .ref eA, .ref rA, .int (nI fa), .int fp, .int (nI op), .ref oA, .int (nI ol), .ref pA, .int (nI ml), .int (nI me), .int pu, .int (nI de)])), (eA, .inr (1, [.ref wA, .ref sA, .ref lA, .int dl, .int (nI kept), .int (nI dr)])), (lA, .inl (cI, 26, .inl (aM ln)))] (fun (r : Int32) (u : Unit) => r = (-1) ∧ u = ()) (fun u : Unit => [(dA, .inr (0, [.ref hA, .int (nI n), .ref eA, .ref rA, .int (nI fa), .int fp, .int (nI op), .ref oA, .int (nI ol), .ref pA, .int (nI ml), .int (nI me), .int pu, .int (nI de)])), (eA, .inr (1, [.ref wA, .ref sA, .ref lA, .int dl, .int (nI kept), .int (nI dr)])), (lA, .inl (cI, 26, .inl (aM ln)))]) := by
  refine Mi.intro (by decide) (Nat.le_of_ble_eq_true rfl) ?_
  intro p e s m args below meth cd A ls R Q hR hQ C Z hl
  have hl : lv_has ls 3 [(0, .ref dA), (1, .int (nI k)), (2, .int y)] := hl
  refine lv_iload_n C.1 C.2.1 d_Desk_text_0 rfl (lv_at hl 1 rfl) ?_
  refine r_callSi (rest := []) (wr := [(dA, .inr (0, [.ref hA, .int (nI n), .ref eA, .ref rA, .int (nI fa), .int fp, .int (nI op), .ref oA, .int (nI ol), .ref pA, .int (nI ml), .int (nI me), .int pu, .int (nI de)])), (eA, .inr (1, [.ref wA, .ref sA, .ref lA, .int dl, .int (nI kept), .int (nI dr)])), (lA, .inl (cI, 26, .inl (aM ln)))]) (wn := fun u => [(dA, .inr (0, [.ref hA, .int (nI n), .ref eA, .ref rA, .int (nI fa), .int fp, .int (nI op), .ref oA, .int (nI ol), .ref pA, .int (nI ml), .int (nI me), .int pu, .int (nI de)])), (eA, .inr (1, [.ref wA, .ref sA, .ref lA, .int dl, .int (nI kept), .int (nI dr)])), (lA, .inl (cI, 26, .inl (aM ln)))]) C Z (c_Desk_isName l D cI cZ k (by first | assumption | omega)) k_Desk_62 rfl ⟨by rw [hR]; decide, by rw [hR]; decide⟩ ⟨rfl, rfl⟩ [] [0, 1, 2] [0, 1, 2] (by decide) rfl rfl (by decide) (by decide) (by decide) (fun _ => rfl) hl.1 rfl (Nat.le_of_ble_eq_true rfl) d_Desk_text_1 ⟨Nat.zero_le _, Nat.zero_le _⟩ (fun r u H locs hp Z => ?_)
  obtain ⟨hp1, hp2⟩ := hp; have hp1 := hp1.symm; have hp2 := hp2.symm; subst hp1; subst hp2
  have Z : Wd D A s.heap [(dA, .inr (0, [.ref hA, .int (nI n), .ref eA, .ref rA, .int (nI fa), .int fp, .int (nI op), .ref oA, .int (nI ol), .ref pA, .int (nI ml), .int (nI me), .int pu, .int (nI de)])), (eA, .inr (1, [.ref wA, .ref sA, .ref lA, .int dl, .int (nI kept), .int (nI dr)])), (lA, .inl (cI, 26, .inl (aM ln)))] H locs := Z
  refine r_zeq (tgt := 18) C d_Desk_text_4 (by decide) (by omega) (fun h4 => (by omega : False).elim) (fun h4 => ?_)
  refine lv_aload_n C.1 C.2.1 d_Desk_text_7 rfl (lv_at hl 0 rfl) ?_
  refine r_get C Z 0 f_Desk_20 rfl rfl d_Desk_text_8 ?_
  refine lv_iload_n C.1 C.2.1 d_Desk_text_11 rfl (lv_at hl 1 rfl) ?_
  refine r_callNi (rest := []) (wr := [(dA, .inr (0, [.ref hA, .int (nI n), .ref eA, .ref rA, .int (nI fa), .int fp, .int (nI op), .ref oA, .int (nI ol), .ref pA, .int (nI ml), .int (nI me), .int pu, .int (nI de)]))]) (wn := fun u => [(dA, .inr (0, [.ref hA, .int (nI n), .ref eA, .ref rA, .int (nI fa), .int fp, .int (nI op), .ref oA, .int (nI ol), .ref pA, .int (nI ml), .int (nI me), .int pu, .int (nI de)])), (eA, .inr (1, [.ref wA, .ref sA, .ref lA, .int dl, .int (nI kept), .int (nI dr)])), (lA, .inl (cI, 26, .inl (aM ln)))]) C Z (c_Ents_has l D cI cZ eA wA sA lA dl kept dr ln k (by first | assumption | omega) (by omega)) k_Desk_69 rfl ⟨by rw [hR]; decide, by rw [hR]; decide⟩ ⟨rfl, rfl⟩ [1, 2] [0] [0, 1, 2] (by decide) rfl rfl (by decide) (by decide) (by decide) (fun _ => rfl) 1 rfl rfl hl.1 rfl (Nat.le_of_ble_eq_true rfl) d_Desk_text_12 ⟨Nat.zero_le _, Nat.zero_le _⟩ (fun r u H locs hp Z => ?_)
  obtain ⟨hp1, hp2⟩ := hp; have hp1 := hp1.symm; have hp2 := hp2.symm; subst hp1; subst hp2
  have Z : Wd D A s.heap [(dA, .inr (0, [.ref hA, .int (nI n), .ref eA, .ref rA, .int (nI fa), .int fp, .int (nI op), .ref oA, .int (nI ol), .ref pA, .int (nI ml), .int (nI me), .int pu, .int (nI de)])), (eA, .inr (1, [.ref wA, .ref sA, .ref lA, .int dl, .int (nI kept), .int (nI dr)])), (lA, .inl (cI, 26, .inl (aM ln)))] H locs := Z
  refine r_zne (tgt := 20) C d_Desk_text_15 (by decide) (by omega) (fun h15 => ?_) (fun h15 => (by omega : False).elim)
  refine lv_iload_n C.1 C.2.1 d_Desk_text_20 rfl (lv_at hl 2 rfl) ?_
  refine lv_if_lt (tgt := 48) C.1 C.2.1 d_Desk_text_21 (by decide) (fun h21 => ?_) (fun h21 => ?_)
  · skip
    refine lv_iconst (v := (-1)) C.1 C.2.1 d_Desk_text_48 (by decide) ?_
    exact r_iret C Z () (by first | exact ⟨rfl, rfl⟩ | (clear C Z hl; simp [h4, h15, h21]; done) | (clear C Z hl; grind)) rfl hQ d_Desk_text_49
  · skip
    refine lv_iload_n C.1 C.2.1 d_Desk_text_24 rfl (lv_at hl 2 rfl) ?_
    refine lv_aload_n C.1 C.2.1 d_Desk_text_25 rfl (lv_at hl 0 rfl) ?_
    refine r_get C Z 0 f_Desk_20 rfl rfl d_Desk_text_26 ?_
    refine lv_iload_n C.1 C.2.1 d_Desk_text_29 rfl (lv_at hl 1 rfl) ?_
    refine r_callNi (rest := [.int y]) (wr := [(dA, .inr (0, [.ref hA, .int (nI n), .ref eA, .ref rA, .int (nI fa), .int fp, .int (nI op), .ref oA, .int (nI ol), .ref pA, .int (nI ml), .int (nI me), .int pu, .int (nI de)]))]) (wn := fun u => [(dA, .inr (0, [.ref hA, .int (nI n), .ref eA, .ref rA, .int (nI fa), .int fp, .int (nI op), .ref oA, .int (nI ol), .ref pA, .int (nI ml), .int (nI me), .int pu, .int (nI de)])), (eA, .inr (1, [.ref wA, .ref sA, .ref lA, .int dl, .int (nI kept), .int (nI dr)])), (lA, .inl (cI, 26, .inl (aM ln)))]) C Z (c_Ents_lengthOf l D cI cZ eA wA sA lA dl kept dr ln k (by first | assumption | omega) (by first | assumption | omega)) k_Desk_83 rfl ⟨by rw [hR]; decide, by rw [hR]; decide⟩ ⟨rfl, rfl⟩ [1, 2] [0] [0, 1, 2] (by decide) rfl rfl (by decide) (by decide) (by decide) (fun _ => rfl) 1 rfl rfl hl.1 rfl (Nat.le_of_ble_eq_true rfl) d_Desk_text_30 ⟨Nat.zero_le _, Nat.zero_le _⟩ (fun r u H locs hp Z => ?_)
    obtain ⟨hp1, hp2⟩ := hp; have hp1 := hp1.symm; have hp2 := hp2.symm; subst hp1; subst hp2
    have Z : Wd D A s.heap [(dA, .inr (0, [.ref hA, .int (nI n), .ref eA, .ref rA, .int (nI fa), .int fp, .int (nI op), .ref oA, .int (nI ol), .ref pA, .int (nI ml), .int (nI me), .int pu, .int (nI de)])), (eA, .inr (1, [.ref wA, .ref sA, .ref lA, .int dl, .int (nI kept), .int (nI dr)])), (lA, .inl (cI, 26, .inl (aM ln)))] H locs := Z
    refine lv_icmp_ge (tgt := 48) C.1 C.2.1 d_Desk_text_33 (by decide) (fun h33 => ?_) (fun h33 => ?_)
    · skip
      refine lv_iconst (v := (-1)) C.1 C.2.1 d_Desk_text_48 (by decide) ?_
      exact r_iret C Z () (by first | exact ⟨rfl, rfl⟩ | (clear C Z hl; simp [h4, h15, h21, h33]; done) | (clear C Z hl; grind)) rfl hQ d_Desk_text_49
    · skip
      exact (hy.elim (fun q => h21 q) (fun q => h33 q)).elim

set_option maxHeartbeats 4000000 in
set_option maxRecDepth 100000 in
theorem c_Desk_text (l : Launch) (D : va_G) (cI cZ : ClassId) (dA hA eA rA oA pA wA sA lA : Nat) (n : Nat) (fa : Nat) (fp : Int32) (op : Nat) (ol : Nat) (ml : Nat) (me : Nat) (pu : Int32) (de : Nat) (dl : Int32) (kept : Nat) (dr : Nat) (tx : Nat → Nat) (sf : Nat → Nat) (ln : Nat → Nat) (k : Nat) (i : Nat) (hk : k < 26) (hln : ln k ≠ 0) (hln2 : ln k ≤ 2001) (hi : i < ln k - 1) (hsf : sf k + (ln k - 1) ≤ 2000) : Mi l y_Desk_text b_Desk_text 3 (some .int) ({ frames := 1, cells := 0, slots := 0, locals := 22 } : Room) D cI cZ [.ref dA, .int (nI k), .int (nI i)] [(dA, .inr (0, [.ref hA, .int (nI n), .ref eA, .ref rA, .int (nI fa), .int fp, .int (nI op), .ref oA, .int (nI ol), .ref pA, .int (nI ml), .int (nI me), .int pu, .int (nI de)])), (eA, .inr (1, [.ref wA, .ref sA, .ref lA, .int dl, .int (nI kept), .int (nI dr)])), (wA, .inl (cI, 2000, .inl (aN tx))), (sA, .inl (cI, 26, .inl (aN sf))), (lA, .inl (cI, 26, .inl (aM ln)))] (fun (r : Int32) (u : Unit) => r = nI (tx (sf k + i)) ∧ u = ()) (fun u : Unit => [(dA, .inr (0, [.ref hA, .int (nI n), .ref eA, .ref rA, .int (nI fa), .int fp, .int (nI op), .ref oA, .int (nI ol), .ref pA, .int (nI ml), .int (nI me), .int pu, .int (nI de)])), (eA, .inr (1, [.ref wA, .ref sA, .ref lA, .int dl, .int (nI kept), .int (nI dr)])), (wA, .inl (cI, 2000, .inl (aN tx))), (sA, .inl (cI, 26, .inl (aN sf))), (lA, .inl (cI, 26, .inl (aM ln)))]) := by
  refine Mi.intro (by decide) (Nat.le_of_ble_eq_true rfl) ?_
  intro p e s m args below meth cd A ls R Q hR hQ C Z hl
  have hl : lv_has ls 3 [(0, .ref dA), (1, .int (nI k)), (2, .int (nI i))] := hl
  refine lv_iload_n C.1 C.2.1 d_Desk_text_0 rfl (lv_at hl 1 rfl) ?_
  refine r_callSi (rest := []) (wr := [(dA, .inr (0, [.ref hA, .int (nI n), .ref eA, .ref rA, .int (nI fa), .int fp, .int (nI op), .ref oA, .int (nI ol), .ref pA, .int (nI ml), .int (nI me), .int pu, .int (nI de)])), (eA, .inr (1, [.ref wA, .ref sA, .ref lA, .int dl, .int (nI kept), .int (nI dr)])), (wA, .inl (cI, 2000, .inl (aN tx))), (sA, .inl (cI, 26, .inl (aN sf))), (lA, .inl (cI, 26, .inl (aM ln)))]) (wn := fun u => [(dA, .inr (0, [.ref hA, .int (nI n), .ref eA, .ref rA, .int (nI fa), .int fp, .int (nI op), .ref oA, .int (nI ol), .ref pA, .int (nI ml), .int (nI me), .int pu, .int (nI de)])), (eA, .inr (1, [.ref wA, .ref sA, .ref lA, .int dl, .int (nI kept), .int (nI dr)])), (wA, .inl (cI, 2000, .inl (aN tx))), (sA, .inl (cI, 26, .inl (aN sf))), (lA, .inl (cI, 26, .inl (aM ln)))]) C Z (c_Desk_isName l D cI cZ k (by first | assumption | omega)) k_Desk_62 rfl ⟨by rw [hR]; decide, by rw [hR]; decide⟩ ⟨rfl, rfl⟩ [] [0, 1, 2, 3, 4] [0, 1, 2, 3, 4] (by decide) rfl rfl (by decide) (by decide) (by decide) (fun _ => rfl) hl.1 rfl (Nat.le_of_ble_eq_true rfl) d_Desk_text_1 ⟨Nat.zero_le _, Nat.zero_le _⟩ (fun r u H locs hp Z => ?_)
  obtain ⟨hp1, hp2⟩ := hp; have hp1 := hp1.symm; have hp2 := hp2.symm; subst hp1; subst hp2
  have Z : Wd D A s.heap [(dA, .inr (0, [.ref hA, .int (nI n), .ref eA, .ref rA, .int (nI fa), .int fp, .int (nI op), .ref oA, .int (nI ol), .ref pA, .int (nI ml), .int (nI me), .int pu, .int (nI de)])), (eA, .inr (1, [.ref wA, .ref sA, .ref lA, .int dl, .int (nI kept), .int (nI dr)])), (wA, .inl (cI, 2000, .inl (aN tx))), (sA, .inl (cI, 26, .inl (aN sf))), (lA, .inl (cI, 26, .inl (aM ln)))] H locs := Z
  refine r_zeq (tgt := 18) C d_Desk_text_4 (by decide) (by omega) (fun h4 => (by omega : False).elim) (fun h4 => ?_)
  refine lv_aload_n C.1 C.2.1 d_Desk_text_7 rfl (lv_at hl 0 rfl) ?_
  refine r_get C Z 0 f_Desk_20 rfl rfl d_Desk_text_8 ?_
  refine lv_iload_n C.1 C.2.1 d_Desk_text_11 rfl (lv_at hl 1 rfl) ?_
  refine r_callNi (rest := []) (wr := [(dA, .inr (0, [.ref hA, .int (nI n), .ref eA, .ref rA, .int (nI fa), .int fp, .int (nI op), .ref oA, .int (nI ol), .ref pA, .int (nI ml), .int (nI me), .int pu, .int (nI de)])), (wA, .inl (cI, 2000, .inl (aN tx))), (sA, .inl (cI, 26, .inl (aN sf)))]) (wn := fun u => [(dA, .inr (0, [.ref hA, .int (nI n), .ref eA, .ref rA, .int (nI fa), .int fp, .int (nI op), .ref oA, .int (nI ol), .ref pA, .int (nI ml), .int (nI me), .int pu, .int (nI de)])), (eA, .inr (1, [.ref wA, .ref sA, .ref lA, .int dl, .int (nI kept), .int (nI dr)])), (wA, .inl (cI, 2000, .inl (aN tx))), (sA, .inl (cI, 26, .inl (aN sf))), (lA, .inl (cI, 26, .inl (aM ln)))]) C Z (c_Ents_has l D cI cZ eA wA sA lA dl kept dr ln k (by first | assumption | omega) (by omega)) k_Desk_69 rfl ⟨by rw [hR]; decide, by rw [hR]; decide⟩ ⟨rfl, rfl⟩ [1, 4] [0, 2, 3] [0, 3, 1, 2, 4] (by decide) rfl rfl (by decide) (by decide) (by decide) (fun _ => rfl) 1 rfl rfl hl.1 rfl (Nat.le_of_ble_eq_true rfl) d_Desk_text_12 ⟨Nat.zero_le _, Nat.zero_le _⟩ (fun r u H locs hp Z => ?_)
  obtain ⟨hp1, hp2⟩ := hp; have hp1 := hp1.symm; have hp2 := hp2.symm; subst hp1; subst hp2
  have Z : Wd D A s.heap [(dA, .inr (0, [.ref hA, .int (nI n), .ref eA, .ref rA, .int (nI fa), .int fp, .int (nI op), .ref oA, .int (nI ol), .ref pA, .int (nI ml), .int (nI me), .int pu, .int (nI de)])), (eA, .inr (1, [.ref wA, .ref sA, .ref lA, .int dl, .int (nI kept), .int (nI dr)])), (wA, .inl (cI, 2000, .inl (aN tx))), (sA, .inl (cI, 26, .inl (aN sf))), (lA, .inl (cI, 26, .inl (aM ln)))] H locs := Z
  refine r_zne (tgt := 20) C d_Desk_text_15 (by decide) (by omega) (fun h15 => ?_) (fun h15 => (by omega : False).elim)
  refine lv_iload_n C.1 C.2.1 d_Desk_text_20 rfl (lv_at hl 2 rfl) ?_
  refine r_zlt (tgt := 48) C d_Desk_text_21 (by decide) (by omega) ?_
  refine lv_iload_n C.1 C.2.1 d_Desk_text_24 rfl (lv_at hl 2 rfl) ?_
  refine lv_aload_n C.1 C.2.1 d_Desk_text_25 rfl (lv_at hl 0 rfl) ?_
  refine r_get C Z 0 f_Desk_20 rfl rfl d_Desk_text_26 ?_
  refine lv_iload_n C.1 C.2.1 d_Desk_text_29 rfl (lv_at hl 1 rfl) ?_
  refine r_callNi (rest := [.int (nI i)]) (wr := [(dA, .inr (0, [.ref hA, .int (nI n), .ref eA, .ref rA, .int (nI fa), .int fp, .int (nI op), .ref oA, .int (nI ol), .ref pA, .int (nI ml), .int (nI me), .int pu, .int (nI de)])), (wA, .inl (cI, 2000, .inl (aN tx))), (sA, .inl (cI, 26, .inl (aN sf)))]) (wn := fun u => [(dA, .inr (0, [.ref hA, .int (nI n), .ref eA, .ref rA, .int (nI fa), .int fp, .int (nI op), .ref oA, .int (nI ol), .ref pA, .int (nI ml), .int (nI me), .int pu, .int (nI de)])), (eA, .inr (1, [.ref wA, .ref sA, .ref lA, .int dl, .int (nI kept), .int (nI dr)])), (wA, .inl (cI, 2000, .inl (aN tx))), (sA, .inl (cI, 26, .inl (aN sf))), (lA, .inl (cI, 26, .inl (aM ln)))]) C Z (c_Ents_lengthOf l D cI cZ eA wA sA lA dl kept dr ln k (by first | assumption | omega) (by first | assumption | omega)) k_Desk_83 rfl ⟨by rw [hR]; decide, by rw [hR]; decide⟩ ⟨rfl, rfl⟩ [1, 4] [0, 2, 3] [0, 3, 1, 2, 4] (by decide) rfl rfl (by decide) (by decide) (by decide) (fun _ => rfl) 1 rfl rfl hl.1 rfl (Nat.le_of_ble_eq_true rfl) d_Desk_text_30 ⟨Nat.zero_le _, Nat.zero_le _⟩ (fun r u H locs hp Z => ?_)
  obtain ⟨hp1, hp2⟩ := hp; have hp1 := hp1.symm; have hp2 := hp2.symm; subst hp1; subst hp2
  have Z : Wd D A s.heap [(dA, .inr (0, [.ref hA, .int (nI n), .ref eA, .ref rA, .int (nI fa), .int fp, .int (nI op), .ref oA, .int (nI ol), .ref pA, .int (nI ml), .int (nI me), .int pu, .int (nI de)])), (eA, .inr (1, [.ref wA, .ref sA, .ref lA, .int dl, .int (nI kept), .int (nI dr)])), (wA, .inl (cI, 2000, .inl (aN tx))), (sA, .inl (cI, 26, .inl (aN sf))), (lA, .inl (cI, 26, .inl (aM ln)))] H locs := Z
  refine r_ge (tgt := 48) C d_Desk_text_33 (by decide) (by omega) (by omega) (fun h33 => (by omega : False).elim) (fun h33 => ?_)
  refine lv_aload_n C.1 C.2.1 d_Desk_text_36 rfl (lv_at hl 0 rfl) ?_
  refine r_get C Z 0 f_Desk_20 rfl rfl d_Desk_text_37 ?_
  refine lv_iload_n C.1 C.2.1 d_Desk_text_40 rfl (lv_at hl 1 rfl) ?_
  refine lv_iload_n C.1 C.2.1 d_Desk_text_41 rfl (lv_at hl 2 rfl) ?_
  refine r_callNi (rest := []) (wr := [(dA, .inr (0, [.ref hA, .int (nI n), .ref eA, .ref rA, .int (nI fa), .int fp, .int (nI op), .ref oA, .int (nI ol), .ref pA, .int (nI ml), .int (nI me), .int pu, .int (nI de)])), (lA, .inl (cI, 26, .inl (aM ln)))]) (wn := fun u => [(dA, .inr (0, [.ref hA, .int (nI n), .ref eA, .ref rA, .int (nI fa), .int fp, .int (nI op), .ref oA, .int (nI ol), .ref pA, .int (nI ml), .int (nI me), .int pu, .int (nI de)])), (eA, .inr (1, [.ref wA, .ref sA, .ref lA, .int dl, .int (nI kept), .int (nI dr)])), (wA, .inl (cI, 2000, .inl (aN tx))), (sA, .inl (cI, 26, .inl (aN sf))), (lA, .inl (cI, 26, .inl (aM ln)))]) C Z (c_Ents_characterOf l D cI cZ eA wA sA lA dl kept dr tx sf k i (by first | assumption | omega) (by first | assumption | omega)) k_Desk_92 rfl ⟨by rw [hR]; decide, by rw [hR]; decide⟩ ⟨rfl, rfl⟩ [1, 2, 3] [0, 4] [0, 2, 3, 4, 1] (by decide) rfl rfl (by decide) (by decide) (by decide) (fun _ => rfl) 1 rfl rfl hl.1 rfl (Nat.le_of_ble_eq_true rfl) d_Desk_text_42 ⟨Nat.zero_le _, Nat.zero_le _⟩ (fun r u H locs hp Z => ?_)
  obtain ⟨hp1, hp2⟩ := hp; have hp1 := hp1.symm; have hp2 := hp2.symm; subst hp1; subst hp2
  have Z : Wd D A s.heap [(dA, .inr (0, [.ref hA, .int (nI n), .ref eA, .ref rA, .int (nI fa), .int fp, .int (nI op), .ref oA, .int (nI ol), .ref pA, .int (nI ml), .int (nI me), .int pu, .int (nI de)])), (eA, .inr (1, [.ref wA, .ref sA, .ref lA, .int dl, .int (nI kept), .int (nI dr)])), (wA, .inl (cI, 2000, .inl (aN tx))), (sA, .inl (cI, 26, .inl (aN sf))), (lA, .inl (cI, 26, .inl (aM ln)))] H locs := Z
  refine lv_goto (tgt := 49) C.1 C.2.1 d_Desk_text_45 (by decide) ?_
  exact r_iret C Z () (by first | exact ⟨rfl, rfl⟩ | (clear C Z hl; simp [h4, h15, h33]; done) | (clear C Z hl; grind)) rfl hQ d_Desk_text_49

set_option maxHeartbeats 4000000 in
set_option maxRecDepth 100000 in
theorem c_Desk_count0 (l : Launch) (D : va_G) (cI cZ : ClassId) (dA hA eA rA oA pA wA sA lA : Nat) (n : Nat) (fa : Nat) (fp : Int32) (op : Nat) (ol : Nat) (ml : Nat) (me : Nat) (pu : Int32) (de : Nat) (dl : Int32) (kept : Nat) (dr : Nat) : Mi l y_Desk_count b_Desk_count 2 (some .int) ({ frames := 0, cells := 0, slots := 0, locals := 0 } : Room) D cI cZ [.ref dA, .int (nI 0)] [(dA, .inr (0, [.ref hA, .int (nI n), .ref eA, .ref rA, .int (nI fa), .int fp, .int (nI op), .ref oA, .int (nI ol), .ref pA, .int (nI ml), .int (nI me), .int pu, .int (nI de)])), (eA, .inr (1, [.ref wA, .ref sA, .ref lA, .int dl, .int (nI kept), .int (nI dr)]))] (fun (r : Int32) (u : Unit) => r = dl ∧ u = ()) (fun u : Unit => [(dA, .inr (0, [.ref hA, .int (nI n), .ref eA, .ref rA, .int (nI fa), .int fp, .int (nI op), .ref oA, .int (nI ol), .ref pA, .int (nI ml), .int (nI me), .int pu, .int (nI de)])), (eA, .inr (1, [.ref wA, .ref sA, .ref lA, .int dl, .int (nI kept), .int (nI dr)]))]) := by
  refine Mi.intro (by decide) (Nat.le_of_ble_eq_true rfl) ?_
  intro p e s m args below meth cd A ls R Q hR hQ C Z hl
  have hl : lv_has ls 2 [(0, .ref dA), (1, .int (nI 0))] := hl
  refine lv_iload_n C.1 C.2.1 d_Desk_count_0 rfl (lv_at hl 1 rfl) ?_
  refine lv_tableIn (tgt := 40) (off := 39) C.1 C.2.1 d_Desk_count_1 (by decide) (by decide) (by decide) (by decide) ?_
  refine lv_aload_n C.1 C.2.1 d_Desk_count_40 rfl (lv_at hl 0 rfl) ?_
  refine r_get C Z 0 f_Desk_20 rfl rfl d_Desk_count_41 ?_
  refine r_getN C Z 1 f_Desk_96 rfl rfl d_Desk_count_44 ?_
  exact r_iret C Z () (by first | exact ⟨rfl, rfl⟩ | (clear C Z hl; grind)) rfl hQ d_Desk_count_47

set_option maxHeartbeats 4000000 in
set_option maxRecDepth 100000 in
theorem c_Desk_count1 (l : Launch) (D : va_G) (cI cZ : ClassId) (dA hA eA rA oA pA wA sA lA : Nat) (n : Nat) (fa : Nat) (fp : Int32) (op : Nat) (ol : Nat) (ml : Nat) (me : Nat) (pu : Int32) (de : Nat) (dl : Int32) (kept : Nat) (dr : Nat) : Mi l y_Desk_count b_Desk_count 2 (some .int) ({ frames := 0, cells := 0, slots := 0, locals := 0 } : Room) D cI cZ [.ref dA, .int (nI 1)] [(dA, .inr (0, [.ref hA, .int (nI n), .ref eA, .ref rA, .int (nI fa), .int fp, .int (nI op), .ref oA, .int (nI ol), .ref pA, .int (nI ml), .int (nI me), .int pu, .int (nI de)])), (eA, .inr (1, [.ref wA, .ref sA, .ref lA, .int dl, .int (nI kept), .int (nI dr)]))] (fun (r : Int32) (u : Unit) => r = nI kept ∧ u = ()) (fun u : Unit => [(dA, .inr (0, [.ref hA, .int (nI n), .ref eA, .ref rA, .int (nI fa), .int fp, .int (nI op), .ref oA, .int (nI ol), .ref pA, .int (nI ml), .int (nI me), .int pu, .int (nI de)])), (eA, .inr (1, [.ref wA, .ref sA, .ref lA, .int dl, .int (nI kept), .int (nI dr)]))]) := by
  refine Mi.intro (by decide) (Nat.le_of_ble_eq_true rfl) ?_
  intro p e s m args below meth cd A ls R Q hR hQ C Z hl
  have hl : lv_has ls 2 [(0, .ref dA), (1, .int (nI 1))] := hl
  refine lv_iload_n C.1 C.2.1 d_Desk_count_0 rfl (lv_at hl 1 rfl) ?_
  refine lv_tableIn (tgt := 48) (off := 47) C.1 C.2.1 d_Desk_count_1 (by decide) (by decide) (by decide) (by decide) ?_
  refine lv_aload_n C.1 C.2.1 d_Desk_count_48 rfl (lv_at hl 0 rfl) ?_
  refine r_get C Z 0 f_Desk_20 rfl rfl d_Desk_count_49 ?_
  refine r_getN C Z 1 f_Desk_99 rfl rfl d_Desk_count_52 ?_
  exact r_iret C Z () (by first | exact ⟨rfl, rfl⟩ | (clear C Z hl; grind)) rfl hQ d_Desk_count_55

set_option maxHeartbeats 4000000 in
set_option maxRecDepth 100000 in
theorem c_Desk_count2 (l : Launch) (D : va_G) (cI cZ : ClassId) (dA hA eA rA oA pA wA sA lA : Nat) (n : Nat) (fa : Nat) (fp : Int32) (op : Nat) (ol : Nat) (ml : Nat) (me : Nat) (pu : Int32) (de : Nat) (dl : Int32) (kept : Nat) (dr : Nat) : Mi l y_Desk_count b_Desk_count 2 (some .int) ({ frames := 0, cells := 0, slots := 0, locals := 0 } : Room) D cI cZ [.ref dA, .int (nI 2)] [(dA, .inr (0, [.ref hA, .int (nI n), .ref eA, .ref rA, .int (nI fa), .int fp, .int (nI op), .ref oA, .int (nI ol), .ref pA, .int (nI ml), .int (nI me), .int pu, .int (nI de)])), (eA, .inr (1, [.ref wA, .ref sA, .ref lA, .int dl, .int (nI kept), .int (nI dr)]))] (fun (r : Int32) (u : Unit) => r = nI me ∧ u = ()) (fun u : Unit => [(dA, .inr (0, [.ref hA, .int (nI n), .ref eA, .ref rA, .int (nI fa), .int fp, .int (nI op), .ref oA, .int (nI ol), .ref pA, .int (nI ml), .int (nI me), .int pu, .int (nI de)])), (eA, .inr (1, [.ref wA, .ref sA, .ref lA, .int dl, .int (nI kept), .int (nI dr)]))]) := by
  refine Mi.intro (by decide) (Nat.le_of_ble_eq_true rfl) ?_
  intro p e s m args below meth cd A ls R Q hR hQ C Z hl
  have hl : lv_has ls 2 [(0, .ref dA), (1, .int (nI 2))] := hl
  refine lv_iload_n C.1 C.2.1 d_Desk_count_0 rfl (lv_at hl 1 rfl) ?_
  refine lv_tableIn (tgt := 56) (off := 55) C.1 C.2.1 d_Desk_count_1 (by decide) (by decide) (by decide) (by decide) ?_
  refine lv_aload_n C.1 C.2.1 d_Desk_count_56 rfl (lv_at hl 0 rfl) ?_
  refine r_get C Z 0 f_Desk_53 rfl rfl d_Desk_count_57 ?_
  exact r_iret C Z () (by first | exact ⟨rfl, rfl⟩ | (clear C Z hl; grind)) rfl hQ d_Desk_count_60

set_option maxHeartbeats 4000000 in
set_option maxRecDepth 100000 in
theorem c_Desk_count3 (l : Launch) (D : va_G) (cI cZ : ClassId) (dA hA eA rA oA pA wA sA lA : Nat) (n : Nat) (fa : Nat) (fp : Int32) (op : Nat) (ol : Nat) (ml : Nat) (me : Nat) (pu : Int32) (de : Nat) (dl : Int32) (kept : Nat) (dr : Nat) : Mi l y_Desk_count b_Desk_count 2 (some .int) ({ frames := 0, cells := 0, slots := 0, locals := 0 } : Room) D cI cZ [.ref dA, .int (nI 3)] [(dA, .inr (0, [.ref hA, .int (nI n), .ref eA, .ref rA, .int (nI fa), .int fp, .int (nI op), .ref oA, .int (nI ol), .ref pA, .int (nI ml), .int (nI me), .int pu, .int (nI de)])), (eA, .inr (1, [.ref wA, .ref sA, .ref lA, .int dl, .int (nI kept), .int (nI dr)]))] (fun (r : Int32) (u : Unit) => r = nI n ∧ u = ()) (fun u : Unit => [(dA, .inr (0, [.ref hA, .int (nI n), .ref eA, .ref rA, .int (nI fa), .int fp, .int (nI op), .ref oA, .int (nI ol), .ref pA, .int (nI ml), .int (nI me), .int pu, .int (nI de)])), (eA, .inr (1, [.ref wA, .ref sA, .ref lA, .int dl, .int (nI kept), .int (nI dr)]))]) := by
  refine Mi.intro (by decide) (Nat.le_of_ble_eq_true rfl) ?_
  intro p e s m args below meth cd A ls R Q hR hQ C Z hl
  have hl : lv_has ls 2 [(0, .ref dA), (1, .int (nI 3))] := hl
  refine lv_iload_n C.1 C.2.1 d_Desk_count_0 rfl (lv_at hl 1 rfl) ?_
  refine lv_tableIn (tgt := 61) (off := 60) C.1 C.2.1 d_Desk_count_1 (by decide) (by decide) (by decide) (by decide) ?_
  refine lv_aload_n C.1 C.2.1 d_Desk_count_61 rfl (lv_at hl 0 rfl) ?_
  refine r_get C Z 0 f_Desk_13 rfl rfl d_Desk_count_62 ?_
  exact r_iret C Z () (by first | exact ⟨rfl, rfl⟩ | (clear C Z hl; grind)) rfl hQ d_Desk_count_65

set_option maxHeartbeats 4000000 in
set_option maxRecDepth 100000 in
theorem c_Desk_count4 (l : Launch) (D : va_G) (cI cZ : ClassId) (dA hA eA rA oA pA wA sA lA : Nat) (n : Nat) (fa : Nat) (fp : Int32) (op : Nat) (ol : Nat) (ml : Nat) (me : Nat) (pu : Int32) (de : Nat) (dl : Int32) (kept : Nat) (dr : Nat) : Mi l y_Desk_count b_Desk_count 2 (some .int) ({ frames := 0, cells := 0, slots := 0, locals := 0 } : Room) D cI cZ [.ref dA, .int (nI 4)] [(dA, .inr (0, [.ref hA, .int (nI n), .ref eA, .ref rA, .int (nI fa), .int fp, .int (nI op), .ref oA, .int (nI ol), .ref pA, .int (nI ml), .int (nI me), .int pu, .int (nI de)])), (eA, .inr (1, [.ref wA, .ref sA, .ref lA, .int dl, .int (nI kept), .int (nI dr)]))] (fun (r : Int32) (u : Unit) => r = pu ∧ u = ()) (fun u : Unit => [(dA, .inr (0, [.ref hA, .int (nI n), .ref eA, .ref rA, .int (nI fa), .int fp, .int (nI op), .ref oA, .int (nI ol), .ref pA, .int (nI ml), .int (nI me), .int pu, .int (nI de)])), (eA, .inr (1, [.ref wA, .ref sA, .ref lA, .int dl, .int (nI kept), .int (nI dr)]))]) := by
  refine Mi.intro (by decide) (Nat.le_of_ble_eq_true rfl) ?_
  intro p e s m args below meth cd A ls R Q hR hQ C Z hl
  have hl : lv_has ls 2 [(0, .ref dA), (1, .int (nI 4))] := hl
  refine lv_iload_n C.1 C.2.1 d_Desk_count_0 rfl (lv_at hl 1 rfl) ?_
  refine lv_tableIn (tgt := 66) (off := 65) C.1 C.2.1 d_Desk_count_1 (by decide) (by decide) (by decide) (by decide) ?_
  refine lv_aload_n C.1 C.2.1 d_Desk_count_66 rfl (lv_at hl 0 rfl) ?_
  refine r_get C Z 0 f_Desk_56 rfl rfl d_Desk_count_67 ?_
  exact r_iret C Z () (by first | exact ⟨rfl, rfl⟩ | (clear C Z hl; grind)) rfl hQ d_Desk_count_70

set_option maxHeartbeats 4000000 in
set_option maxRecDepth 100000 in
theorem c_Desk_count5 (l : Launch) (D : va_G) (cI cZ : ClassId) (dA hA eA rA oA pA wA sA lA : Nat) (n : Nat) (fa : Nat) (fp : Int32) (op : Nat) (ol : Nat) (ml : Nat) (me : Nat) (pu : Int32) (de : Nat) (dl : Int32) (kept : Nat) (dr : Nat) : Mi l y_Desk_count b_Desk_count 2 (some .int) ({ frames := 0, cells := 0, slots := 0, locals := 0 } : Room) D cI cZ [.ref dA, .int (nI 5)] [(dA, .inr (0, [.ref hA, .int (nI n), .ref eA, .ref rA, .int (nI fa), .int fp, .int (nI op), .ref oA, .int (nI ol), .ref pA, .int (nI ml), .int (nI me), .int pu, .int (nI de)])), (eA, .inr (1, [.ref wA, .ref sA, .ref lA, .int dl, .int (nI kept), .int (nI dr)]))] (fun (r : Int32) (u : Unit) => r = nI de ∧ u = ()) (fun u : Unit => [(dA, .inr (0, [.ref hA, .int (nI n), .ref eA, .ref rA, .int (nI fa), .int fp, .int (nI op), .ref oA, .int (nI ol), .ref pA, .int (nI ml), .int (nI me), .int pu, .int (nI de)])), (eA, .inr (1, [.ref wA, .ref sA, .ref lA, .int dl, .int (nI kept), .int (nI dr)]))]) := by
  refine Mi.intro (by decide) (Nat.le_of_ble_eq_true rfl) ?_
  intro p e s m args below meth cd A ls R Q hR hQ C Z hl
  have hl : lv_has ls 2 [(0, .ref dA), (1, .int (nI 5))] := hl
  refine lv_iload_n C.1 C.2.1 d_Desk_count_0 rfl (lv_at hl 1 rfl) ?_
  refine lv_tableIn (tgt := 71) (off := 70) C.1 C.2.1 d_Desk_count_1 (by decide) (by decide) (by decide) (by decide) ?_
  refine lv_aload_n C.1 C.2.1 d_Desk_count_71 rfl (lv_at hl 0 rfl) ?_
  refine r_get C Z 0 f_Desk_59 rfl rfl d_Desk_count_72 ?_
  exact r_iret C Z () (by first | exact ⟨rfl, rfl⟩ | (clear C Z hl; grind)) rfl hQ d_Desk_count_75

set_option maxHeartbeats 4000000 in
set_option maxRecDepth 100000 in
theorem c_Desk_countBad (l : Launch) (D : va_G) (cI cZ : ClassId) (dA hA eA rA oA pA : Nat) (n : Nat) (fa : Nat) (fp : Int32) (op : Nat) (ol : Nat) (ml : Nat) (me : Nat) (pu : Int32) (de : Nat) (x : Int32) (hx : x.toInt < 0 ∨ 5 < x.toInt) : Mi l y_Desk_count b_Desk_count 2 (some .int) ({ frames := 0, cells := 0, slots := 0, locals := 0 } : Room) D cI cZ [.ref dA, .int x] [(dA, .inr (0, [.ref hA, .int (nI n), .ref eA, .ref rA, .int (nI fa), .int fp, .int (nI op), .ref oA, .int (nI ol), .ref pA, .int (nI ml), .int (nI me), .int pu, .int (nI de)]))] (fun (r : Int32) (u : Unit) => r = (-1) ∧ u = ()) (fun u : Unit => [(dA, .inr (0, [.ref hA, .int (nI n), .ref eA, .ref rA, .int (nI fa), .int fp, .int (nI op), .ref oA, .int (nI ol), .ref pA, .int (nI ml), .int (nI me), .int pu, .int (nI de)]))]) := by
  refine Mi.intro (by decide) (Nat.le_of_ble_eq_true rfl) ?_
  intro p e s m args below meth cd A ls R Q hR hQ C Z hl
  have hl : lv_has ls 2 [(0, .ref dA), (1, .int x)] := hl
  refine lv_iload_n C.1 C.2.1 d_Desk_count_0 rfl (lv_at hl 1 rfl) ?_
  refine lv_tableOut (tgt := 76) C.1 C.2.1 d_Desk_count_1 hx (by decide) ?_
  refine lv_iconst (v := (-1)) C.1 C.2.1 d_Desk_count_76 (by decide) ?_
  exact r_iret C Z () (by first | exact ⟨rfl, rfl⟩ | (clear C Z hl; grind)) rfl hQ d_Desk_count_77
end
section
/-! THE MODEL'S pure words: its row is a list, the top first; a number from 256 on is a marker -/
def enc (x : Nat) : Int32 := if x < 256 then nI x else -1 - nI (x - 256)
def Row (f : Nat → Int32) : List Nat → Prop
  | [] => True
  | x :: l => f l.length = enc x ∧ Row f l
def pkN : List Nat → Nat
  | [] => 0
  | x :: _ => if x < 256 then x + 1 else 0
def nxP (dp nx : Nat) : Nat := if dp = 0 then nx + 1 else nx
def plP (dp ou : Nat) (x : Int32) : Int32 := if 0 < dp then nI ou else x
def dgN (base c : Nat) : Nat := if 48 ≤ c ∧ c ≤ 57 then c - 47 else if base = 16 ∧ 97 ≤ c ∧ c ≤ 102 then c - 86 else if base = 16 ∧ 65 ≤ c ∧ c ≤ 70 then c - 54 else 0
def seg (f : Nat → Nat) : Nat → Nat → List Nat
  | _, 0 => []
  | a, k + 1 => f a :: seg f (a + 1) k
theorem seg_len (f : Nat → Nat) : ∀ (k a : Nat), (seg f a k).length = k := by
  intro k
  induction k with
  | zero => intro a; rfl
  | succ k ih => intro a; simp [seg, ih]
theorem Row_upd {f : Nat → Int32} {x : Int32} : ∀ {l : List Nat} {k : Nat}, l.length ≤ k → Row f l → Row (upd f k x) l := by
  intro l
  induction l with
  | nil => intro k h r; trivial
  | cons y l ih =>
    intro k h r
    have h1 : l.length + 1 ≤ k := h
    refine ⟨?_, ih (by omega) r.2⟩
    have : ¬ l.length = k := by omega
    show (if l.length = k then x else f l.length) = enc y
    rw [if_neg this]
    exact r.1
theorem Row_push {f : Nat → Int32} {x : Int32} {l : List Nat} {y : Nat} (h : x = enc y) (r : Row f l) : Row (upd f l.length x) (y :: l) := by
  refine ⟨?_, Row_upd (Nat.le_refl _) r⟩
  show (if l.length = l.length then x else f l.length) = enc y
  rw [if_pos rfl]
  exact h
theorem enc_c {x : Nat} (h : x < 256) : enc x = nI x := by unfold enc; rw [if_pos h]
theorem enc_m {x : Nat} (h : 256 ≤ x) : enc x = -1 - nI (x - 256) := by unfold enc; rw [if_neg (by omega)]
theorem pkN_s {l : List Nat} {c : Nat} (h : pkN l = c + 1) : ∃ t, l = c :: t ∧ c < 256 := by
  cases l with
  | nil => cases h
  | cons x t =>
    unfold pkN at h
    dsimp only at h
    split at h
    · exact ⟨t, by congr 1; omega, by omega⟩
    · cases h
theorem pkN_0 {l : List Nat} (h : pkN l = 0) : l = [] ∨ ∃ x t, l = x :: t ∧ 256 ≤ x := by
  cases l with
  | nil => exact Or.inl rfl
  | cons x t =>
    unfold pkN at h
    dsimp only at h
    split at h
    · cases h
    · exact Or.inr ⟨x, t, rfl, by omega⟩
theorem neg_mark {k : Nat} (h : k < 1000) : ¬ (0 : Int32) ≤ -1 - nI k := by
  sorry
theorem Row_top {f : Nat → Int32} {l : List Nat} {c : Nat} (r : Row f l) (h : pkN l = c + 1) : f (l.length - 1) = nI c ∧ 0 < l.length ∧ c < 256 := by
  obtain ⟨t, rfl, hc⟩ := pkN_s h
  exact ⟨by have := r.1; rw [enc_c hc] at this; simpa using this, by simp, hc⟩
theorem dgN_le (base c : Nat) : dgN base c ≤ 16 := by unfold dgN; (repeat' split) <;> omega
theorem pk_cases (l : List Nat) : pkN l = 0 ∨ ∃ c, pkN l = c + 1 := by
  cases h : pkN l with
  | zero => exact Or.inl rfl
  | succ c => exact Or.inr ⟨c, rfl⟩
theorem dg_cases (base c : Nat) : dgN base c = 0 ∨ ∃ v, dgN base c = v + 1 := by
  cases h : dgN base c with
  | zero => exact Or.inl rfl
  | succ v => exact Or.inr ⟨v, rfl⟩
theorem Row_seg {f : Nat → Int32} {hand : Nat → Nat} {n k : Nat} (hk : k < n) (r : Row f (seg hand (n - k) k)) (hc : hand (n - 1 - k) < 256) : Row (upd f k (nI (hand (n - 1 - k)))) (seg hand (n - (k + 1)) (k + 1)) := by
  have h1 := Row_push (y := hand (n - 1 - k)) (enc_c hc).symm r
  rw [seg_len] at h1
  have h2 : seg hand (n - (k + 1)) (k + 1) = hand (n - 1 - k) :: seg hand (n - k) k := by
    show hand (n - (k + 1)) :: seg hand (n - (k + 1) + 1) k = _
    rw [show n - (k + 1) = n - 1 - k by omega, show n - 1 - k + 1 = n - k by omega]
  rw [h2]
  exact h1
theorem enc_k {k : Nat} (hk : k < 26) : -1 - nI k = enc (256 + k) := by
  unfold enc
  rw [if_neg (by omega), show 256 + k - 256 = k by omega]
theorem lt_pred {b : Nat} (h : b < 2 ^ 31) : nI (b + 0) - 1 < nI b := by
  sorry
theorem Row_down {f : Nat → Int32} {tx : Nat → Nat} {b n r lf : Nat} {rest : List Nat} (hr : r + 1 ≤ n) (hc : tx (b + r) < 256) (h : Row f (seg tx (b + (r + 1)) (n - (r + 1)) ++ rest)) (hl : lf = n - (r + 1) + rest.length) : Row (upd f lf (nI (tx (b + r)))) (seg tx (b + r) (n - r) ++ rest) := by
  have h1 := Row_push (y := tx (b + r)) (enc_c hc).symm h
  rw [List.length_append, seg_len, ← hl] at h1
  rw [show n - r = n - (r + 1) + 1 by omega]
  exact h1

/-! the model's reading of a reference: the reader's own steps, run over the row -/
def mRun : Nat → Nat → Nat → List Nat → Nat × Nat × Nat × List Nat
  | _, nm, nu, [] => (9, nm, nu, [])
  | st, nm, nu, x :: l => if 256 ≤ x then (9, nm, nu, x :: l) else if (rdP st nm nu x).1 = 1 then mRun (rdP st nm nu x).2.1 (rdP st nm nu x).2.2.1 (rdP st nm nu x).2.2.2 l else if (rdP st nm nu x).1 = 5 then (5, nm, nu, x :: l) else ((rdP st nm nu x).1, (rdP st nm nu x).2.2.1, (rdP st nm nu x).2.2.2, l)
theorem mRun_go {st nm nu x st' nm' nu' : Nat} {l : List Nat} (hx : x < 256) (h : rdP st nm nu x = (1, st', nm', nu')) : mRun st nm nu (x :: l) = mRun st' nm' nu' l := by
  rw [mRun, if_neg (by omega), h, if_pos rfl]
theorem mRun_bad {st nm nu x a b c : Nat} {l : List Nat} (hx : x < 256) (h : rdP st nm nu x = (5, a, b, c)) : mRun st nm nu (x :: l) = (5, nm, nu, x :: l) := by
  rw [mRun, if_neg (by omega), h, if_neg (by decide), if_pos rfl]
theorem mRun_end {st nm nu : Nat} {l : List Nat} (h : pkN l = 0) : mRun st nm nu l = (9, nm, nu, l) := by
  rcases pkN_0 h with rfl | ⟨x, t, rfl, hx⟩
  · rfl
  · rw [mRun, if_pos hx]
theorem mRun_out {st nm nu x w st' nm' nu' : Nat} {l : List Nat} (hx : x < 256) (h : rdP st nm nu x = (w, st', nm', nu')) (h1 : w ≠ 1) (h5 : w ≠ 5) : mRun st nm nu (x :: l) = (w, nm', nu', l) := by
  rw [mRun, if_neg (by omega), h, if_neg h1, if_neg h5]
def sB (base : Nat) : Nat := if base = 16 then 6 else 4
def sA (base : Nat) : Nat := if base = 16 then 5 else 3
theorem dgN_vN {base c : Nat} (hb : base = 10 ∨ base = 16) : dgN base c = if base < vN c then 0 else vN c := by
  rcases hb with rfl | rfl
  · unfold dgN vN
    (repeat' split) <;> omega
  · unfold dgN vN
    (repeat' split) <;> omega
theorem dgN_59 {base c : Nat} (h : dgN base c ≠ 0) : c ≠ 59 ∧ c ≠ 120 ∧ c < 256 := by
  unfold dgN at h
  (repeat' split at h) <;> first | omega | exact absurd rfl h
/-- a digit -/
theorem rd_dig {base c v st nm nu : Nat} (hb : base = 10 ∨ base = 16) (hv : dgN base c = v + 1) (next : Nat) : rdDig st nm nu c base next = (1, next, nm, min (nu * base + v) 256) := by
  rw [dgN_vN hb] at hv
  unfold rdDig
  split at hv
  · cases hv
  · rw [if_neg (by omega), hv]; rfl
theorem rd_nodig {base c st nm nu : Nat} (hb : base = 10 ∨ base = 16) (hv : dgN base c = 0) (next : Nat) : rdDig st nm nu c base next = (5, st, nm, nu) := by
  rw [dgN_vN hb] at hv
  unfold rdDig
  split at hv
  · rw [if_pos (by omega)]
  · rw [if_pos (by omega)]
theorem rdP_B {base : Nat} (hb : base = 10 ∨ base = 16) {c nm nu : Nat} (hc : c ≠ 59) : rdP (sB base) nm nu c = rdDig (sB base) nm nu c base (sB base) := by
  rcases hb with rfl | rfl
  · show (if c = 59 then _ else _) = _
    rw [if_neg hc]; rfl
  · show (if c = 59 then _ else _) = _
    rw [if_neg hc]; rfl
theorem rdP_B59 {base : Nat} (hb : base = 10 ∨ base = 16) {nm nu : Nat} : rdP (sB base) nm nu 59 = (if mayN nu = 1 then 2 else 4, 0, nm, nu) := by
  rcases hb with rfl | rfl
  · rfl
  · rfl
theorem rdP_A {base : Nat} (hb : base = 10 ∨ base = 16) {c nm nu : Nat} (hc : base = 10 → c ≠ 120) : rdP (sA base) nm nu c = rdDig (sA base) nm nu c base (sB base) := by
  rcases hb with rfl | rfl
  · show (if c = 120 then _ else _) = _
    rw [if_neg (hc rfl)]; rfl
  · rfl
/-- the first digit: behind '#' or 'x' as within the number -/
theorem mRun_A {base c v nm nu : Nat} {l : List Nat} (hb : base = 10 ∨ base = 16) (hv : dgN base c = v + 1) : mRun (sA base) nm nu (c :: l) = mRun (sB base) nm nu (c :: l) := by
  have h := dgN_59 (base := base) (c := c) (by omega)
  rw [mRun_go h.2.2 ((rdP_A hb (fun _ => h.2.1)).trans (rd_dig hb hv _)), mRun_go h.2.2 ((rdP_B hb h.1).trans (rd_dig hb hv _))]
theorem mRun_B {base c v nm nu : Nat} {l : List Nat} (hb : base = 10 ∨ base = 16) (hv : dgN base c = v + 1) : mRun (sB base) nm nu (c :: l) = mRun (sB base) nm (min (nu * base + v) 256) l := by
  have h := dgN_59 (base := base) (c := c) (by omega)
  exact mRun_go h.2.2 ((rdP_B hb h.1).trans (rd_dig hb hv _))
theorem mRun_Abad {base c nm nu : Nat} {l : List Nat} (hc : c < 256) (hb : base = 10 ∨ base = 16) (hx : base = 10 → c ≠ 120) (hv : dgN base c = 0) : mRun (sA base) nm nu (c :: l) = (5, nm, nu, c :: l) := mRun_bad hc ((rdP_A hb hx).trans (rd_nodig hb hv _))
theorem mRun_Bbad {base c nm nu : Nat} {l : List Nat} (hc : c < 256) (hb : base = 10 ∨ base = 16) (hx : c ≠ 59) (hv : dgN base c = 0) : mRun (sB base) nm nu (c :: l) = (5, nm, nu, c :: l) := mRun_bad hc ((rdP_B hb hx).trans (rd_nodig hb hv _))
theorem mRun_B59 {base nm nu : Nat} {l : List Nat} (hb : base = 10 ∨ base = 16) : mRun (sB base) nm nu (59 :: l) = (if mayN nu = 1 then 2 else 4, nm, nu, l) := mRun_out (by decide) (rdP_B59 hb) (by split <;> decide) (by split <;> decide)
theorem mRun_name {c nm nu : Nat} {l : List Nat} (h1 : 97 ≤ c) (h2 : c ≤ 122) : mRun 1 nm nu (c :: l) = mRun 2 (c - 97) nu l := mRun_go (by omega) (show rdAmp 1 nm nu c = _ by unfold rdAmp; rw [if_neg (by omega), if_pos ⟨h1, h2⟩])
theorem mRun_hash {nm nu : Nat} {l : List Nat} : mRun 1 nm nu (35 :: l) = mRun 3 nm 0 l := mRun_go (by decide) rfl
theorem mRun_amp {c nm nu : Nat} {l : List Nat} (hc : c < 256) (h1 : ¬ (97 ≤ c ∧ c ≤ 122)) (h2 : c ≠ 35) : mRun 1 nm nu (c :: l) = (5, nm, nu, c :: l) := mRun_bad hc (show rdAmp 1 nm nu c = (5, 1, nm, nu) by unfold rdAmp; rw [if_neg h2, if_neg h1])
theorem mRun_n59 {nm nu : Nat} {l : List Nat} : mRun 2 nm nu (59 :: l) = (3, nm, nu, l) := mRun_out (by decide) (show rdP 2 nm nu 59 = (3, 0, nm, nu) from rfl) (by decide) (by decide)
theorem mRun_nbad {c nm nu : Nat} {l : List Nat} (hc : c < 256) (h : c ≠ 59) : mRun 2 nm nu (c :: l) = (5, nm, nu, c :: l) := mRun_bad hc (show (if c = 59 then _ else _) = (5, 2, nm, nu) by rw [if_neg h])
theorem mRun_x {nm nu : Nat} {l : List Nat} : mRun 3 nm nu (120 :: l) = mRun 5 nm nu l := mRun_go (by decide) rfl
/-- how the next place moves -/
def nxK (dp nx k : Nat) : Nat := if dp = 0 then nx + k else nx
theorem nxP_K (dp nx k : Nat) : nxP dp (nxK dp nx k) = nxK dp nx (k + 1) := by
  unfold nxP nxK
  split
  · omega
  · rfl
theorem nxK_0 (dp nx : Nat) : nxK dp nx 0 = nx := by unfold nxK; split <;> omega
/-- what the model's reading of a reference comes to -/
def refPost (dp nx ou x fa : Nat) (pl : Int32) (len : Nat) (T : Nat × Nat × Nat × List Nat) (r : Int32) (u : Nat × Nat × Nat × Int32 × Int32 × Int64) : Prop :=
  u.1 = T.2.2.2.length ∧ u.2.1 = nxK dp nx (len - T.2.2.2.length) ∧
  ((T.1 = 3 ∧ r = nI 0 ∧ u.2.2.2.2.1 = nI T.2.1 ∧ u.2.2.1 = fa ∧ u.2.2.2.1 = pl) ∨ (T.1 = 2 ∧ r = nI 0 ∧ u.2.2.2.2.1 = -1 ∧ u.2.2.2.2.2 = lN T.2.2.1 ∧ T.2.2.1 < 256 ∧ u.2.2.1 = fa ∧ u.2.2.2.1 = pl) ∨ (T.1 = 4 ∧ r = -1 ∧ u.2.2.1 = 8 ∧ u.2.2.2.1 = plP dp ou (nI x)) ∨ (T.1 = 5 ∧ r = -1 ∧ u.2.2.1 = 2 ∧ u.2.2.2.1 = plP dp ou (nI u.2.1)) ∨ (T.1 = 9 ∧ r = -1 ∧ u.2.2.1 = (if 0 < dp then 13 else 2) ∧ u.2.2.2.1 = plP dp ou (nI u.2.1)))

/-! THE MODEL'S STEP. What it carries: the row (a list), depth, next, outer, fault, place, what is given, how many, the meter, put in, deepest, open -/
abbrev MS : Type := List Nat × Nat × Nat × Nat × Nat × Int32 × (Nat → Nat) × Nat × Nat × Int32 × Nat × (Nat → Nat)
/-- giving one character: the answer and the state -/
def mGive (c x : Nat) : MS → Int32 × MS := fun (stk, dp, nx, ou, fa, pl, out, os, me, pu, de, opn) =>
  if 3000 ≤ os then (-1, (stk, dp, nx, ou, 15, plP dp ou (nI x), out, os, me, pu, de, opn)) else (nI 0, (stk, dp, nx, ou, fa, pl, updN out os c, os + 1, me, pu, de, opn))
def mEnter (tx sf ln : Nat → Nat) (q k x : Nat) : MS → Int32 × MS := fun (stk, dp, nx, ou, fa, pl, out, os, me, pu, de, opn) =>
  if fltE (ln k) (opn k) (dp + 1) me q = 0 then (nI 0, (seg tx (sf k) (ln k - 1) ++ (256 + k) :: stk, dp + 1, nx, if dp = 0 then x else ou, fa, pl, out, os, me + (ln k - 1), pu + nI 1, max de (dp + 1), updN opn k 1))
  else (-1, (stk, dp, nx, ou, fltE (ln k) (opn k) (dp + 1) me q, plP dp ou (nI x), out, os, me, pu, de, opn))
def mFail (w : Nat) (x : Nat) : MS → Int32 × MS := fun (stk, dp, nx, ou, _, _, out, os, me, pu, de, opn) => (-1, (stk, dp, nx, ou, w, plP dp ou (nI x), out, os, me, pu, de, opn))
def mPop (k : Nat) : MS → Int32 × MS := fun (stk, dp, nx, ou, fa, pl, out, os, me, pu, de, opn) => (nI 0, (stk, dp - 1, nx, ou, fa, pl, out, os, me, pu, de, updN opn k 0))
def mTo (stk : List Nat) (nx : Nat) : MS → MS := fun (_, dp, _, ou, fa, pl, out, os, me, pu, de, opn) => (stk, dp, nx, ou, fa, pl, out, os, me, pu, de, opn)
/-- behind an ampersand, when the run over the row has come to T -/
def mRef (tx sf ln : Nat → Nat) (q x len : Nat) (T : Nat × Nat × Nat × List Nat) (M : MS) : Int32 × MS :=
  if T.1 = 3 then mEnter tx sf ln q T.2.1 x (mTo T.2.2.2 (nxK M.2.1 M.2.2.1 (len - T.2.2.2.length)) M)
  else if T.1 = 2 then mGive T.2.2.1 x (mTo T.2.2.2 (nxK M.2.1 M.2.2.1 (len - T.2.2.2.length)) M)
  else if T.1 = 4 then mFail 8 x (mTo T.2.2.2 (nxK M.2.1 M.2.2.1 (len - T.2.2.2.length)) M)
  else if T.1 = 5 then mFail 2 (nxK M.2.1 M.2.2.1 (len - T.2.2.2.length)) (mTo T.2.2.2 (nxK M.2.1 M.2.2.1 (len - T.2.2.2.length)) M)
  else mFail (if 0 < M.2.1 then 13 else 2) (nxK M.2.1 M.2.2.1 (len - T.2.2.2.length)) (mTo T.2.2.2 (nxK M.2.1 M.2.2.1 (len - T.2.2.2.length)) M)
def mStep (tx sf ln : Nat → Nat) (q nm nu : Nat) : MS → Int32 × MS := fun (stk, dp, nx, ou, fa, pl, out, os, me, pu, de, opn) =>
  match stk with
  | [] => (nI 0, ([], dp, nx, ou, fa, pl, out, os, me, pu, de, opn))
  | c :: t => if 256 ≤ c then mPop (c - 256) (t, dp, nx, ou, fa, pl, out, os, me, pu, de, opn)
    else if c = 38 then mRef tx sf ln q nx t.length (mRun 1 nm nu t) (t, dp, nxP dp nx, ou, fa, pl, out, os, me, pu, de, opn)
    else mGive c nx (t, dp, nxP dp nx, ou, fa, pl, out, os, me, pu, de, opn)
/-- a state in which a step may be done: the row is short, what is entered fits -/
def mSafe (ln : Nat → Nat) (q : Nat) : MS → Prop := fun (stk, dp, _, _, _, _, _, os, me, _, de, opn) =>
  stk.length ≤ 2500 ∧ (∀ x ∈ stk, x < 282) ∧ dp ≤ 12 ∧ os ≤ 3000 ∧ me ≤ 100000 ∧ de ≤ 12 ∧ (∀ j, opn j ≤ 1) ∧ (∀ k, k < 26 → fltE (ln k) (opn k) (dp + 1) me q = 0 → stk.length + (ln k - 1) + 1 ≤ 2600) ∧ (∀ x t, stk = x :: t → 256 ≤ x → 0 < dp)
/-- n steps at most: the answer and the state, once the row is empty or a step has failed -/
def mGo (tx sf ln : Nat → Nat) (q nm nu : Nat) : Nat → MS → Int32 × MS → Prop
  | 0, _, _ => False
  | n + 1, M, Z => if M.1 = [] then Z = (nI 0, M) else mSafe ln q M ∧ (if (mStep tx sf ln q nm nu M).1 = nI 0 then mGo tx sf ln q nm nu n (mStep tx sf ln q nm nu M).2 Z else Z = mStep tx sf ln q nm nu M)
/-- the model's tables, beside the desk's lengths -/
def mTab (tx bg ed hs ln : Nat → Nat) (q : Nat) : Prop := q ≤ 100000 ∧ (∀ k, k < 26 → hs k = min (ln k) 1 ∧ (ln k ≠ 0 → ed k = bg k + (ln k - 1) ∧ ed k ≤ 2000) ∧ ln k ≤ 2001) ∧ ∀ j, tx j < 256
theorem mRun_row {f : Nat → Int32} : ∀ {l : List Nat} {st nm nu : Nat}, Row f l → Row f (mRun st nm nu l).2.2.2 := by
  intro l
  induction l with
  | nil => intro st nm nu h; exact h
  | cons x l ih =>
    intro st nm nu h
    unfold mRun
    split
    · exact h
    · split
      · exact ih h.2
      · split
        · exact h
        · exact h.2
theorem mRun_len : ∀ {l : List Nat} {st nm nu : Nat}, (mRun st nm nu l).2.2.2.length ≤ l.length := by
  intro l
  induction l with
  | nil => intro st nm nu; exact Nat.le_refl _
  | cons x l ih =>
    intro st nm nu
    have hc : (x :: l).length = l.length + 1 := rfl
    unfold mRun
    split
    · exact Nat.le_refl _
    · split
      · have := ih (st := (rdP st nm nu x).2.1) (nm := (rdP st nm nu x).2.2.1) (nu := (rdP st nm nu x).2.2.2); omega
      · split
        · exact Nat.le_refl _
        · show l.length ≤ _; omega
theorem mm_k (k : Nat) : (-1 : Int32) - (-1 - nI k) = nI k := by
  sorry
theorem mRun_nm2 : ∀ {l : List Nat} {st nm nu : Nat}, nm < 26 → (mRun st nm nu l).2.1 < 26 := by
  sorry
theorem mRun_nm {l : List Nat} {nm nu : Nat} : (mRun 1 nm nu l).1 = 3 → (mRun 1 nm nu l).2.1 < 26 := by
  sorry

/-! THE MODEL'S declare -/
abbrev DY : Type := Nat × Int32 × Nat × Nat × Nat × (Nat → Nat)
def mDl (nm nu : Nat) : Nat → List Nat → Nat → Nat → (Nat → Nat) → DY → Prop
  | 0, _, _, _, _, _ => False
  | _ + 1, [], nx, at', tx, Y => Y = (0, -1, 0, nx, at', tx)
  | N + 1, c :: t, nx, at', tx, Y =>
    if c = 38 then
      if (mRun 1 nm nu t).1 = 3 then mDl nm nu N (mRun 1 nm nu t).2.2.2 (nx + 1 + (t.length - (mRun 1 nm nu t).2.2.2.length)) (at' + 1 + 1 + 1) (drX 0 (at' + 1 + 1) 59 (drX 0 (at' + 1) (97 + (mRun 1 nm nu t).2.1) (drX 0 at' 38 tx))) Y
      else if (mRun 1 nm nu t).1 = 2 then mDl nm nu N (mRun 1 nm nu t).2.2.2 (nx + 1 + (t.length - (mRun 1 nm nu t).2.2.2.length)) (at' + 1) (drX 0 at' (mRun 1 nm nu t).2.2.1 tx) Y
      else Y = (if (mRun 1 nm nu t).1 = 4 then 8 else 2, if (mRun 1 nm nu t).1 = 4 then nI nx else nI (nx + 1 + (t.length - (mRun 1 nm nu t).2.2.2.length)), (mRun 1 nm nu t).2.2.2.length, nx + 1 + (t.length - (mRun 1 nm nu t).2.2.2.length), at', tx)
    else mDl nm nu N t (nx + 1) (at' + 1) (drX 0 at' c tx) Y
theorem drX_hi {at' c : Nat} {tx : Nat → Nat} (h : 2000 ≤ at') : updN tx 1999 (tx 1999) = drX 0 at' c tx := by
  unfold drX
  rw [if_neg (by omega), updN_self]
theorem drX_lo {at' c : Nat} {tx : Nat → Nat} (h : at' < 2000) : updN tx at' c = drX 0 at' c tx := by
  unfold drX
  rw [if_pos (by omega), Nat.zero_add]
theorem mRun_2len {l : List Nat} {nm nu : Nat} : (mRun 1 nm nu l).1 = 3 → (mRun 1 nm nu l).2.2.2.length + 2 = l.length := by
  sorry
end
