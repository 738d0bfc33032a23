theorem gwT {w : Cond} {i : Nat} (h : tables_1[i]? = some w) (g : goodWord w = true) : w ∈ gw := gw_in (List.mem_append_right _ (List.mem_of_getElem? h)) g
theorem gwS {w : Cond} {i : Nat} (h : (k2_sels lw_privs)[i]? = some w) (g : goodWord w = true) : w ∈ gw := gw_in (List.mem_append_left _ (List.mem_of_getElem? h)) g
theorem nwT {w : Cond} {i : Nat} (h : tables_1[i]? = some w) (g : isNest w = true) : w ∈ nw := nw_in (List.mem_append_right _ (List.mem_of_getElem? h)) g
theorem u_Desk_in : ∀ w ∈ u_ws R_Desk F_Desk 14, w ∈ gw := by decide +kernel
theorem gi_Desk : Cond.initialized "EntityDesk" ∈ gw := gwT (i := 1) (by decide +kernel) rfl
theorem u_Ents_in : ∀ w ∈ u_ws R_Ents F_Ents 6, w ∈ gw := by decide +kernel
theorem gi_Ents : Cond.initialized "EntityDesk$Entities" ∈ gw := gwT (i := 2) (by decide +kernel) rfl
theorem u_Reader_in : ∀ w ∈ u_ws R_Reader F_Reader 3, w ∈ gw := by decide +kernel
theorem gi_Reader : Cond.initialized "EntityDesk$Reader" ∈ gw := gwT (i := 3) (by decide +kernel) rfl
theorem u_Model_in : ∀ w ∈ u_ws R_Model F_Model 24, w ∈ gw := by decide +kernel
theorem gi_Model : Cond.initialized "EntityDeskModel" ∈ gw := gwT (i := 4) (by decide +kernel) rfl
theorem gi_Math : Cond.initialized "java/lang/Math" ∈ gw := gwT (i := 5) (by decide +kernel) rfl
theorem ga_I : Cond.arrayClass .int ∈ gw := gwT (i := 42) (by decide +kernel) rfl
theorem ga_Z : Cond.arrayClass .boolean ∈ gw := gwT (i := 104) (by decide +kernel) rfl
theorem gc_Desk_init : Cond.code y_Desk_init b_Desk_init 1 none ∈ gw := gwT (i := 10) rfl rfl
theorem gm_Desk_init : Cond.instanceMethod y_Desk_init ∈ gw := gwT (i := 9) (by decide +kernel) rfl
theorem gp_Desk_init : plainY y_Desk_init 0 := ⟨by decide, by decide, by decide +kernel⟩
theorem gc_Ents_init : Cond.code y_Ents_init b_Ents_init 2 none ∈ gw := gwT (i := 18) rfl rfl
theorem gm_Ents_init : Cond.instanceMethod y_Ents_init ∈ gw := gwT (i := 17) (by decide +kernel) rfl
theorem gp_Ents_init : plainY y_Ents_init 0 := ⟨by decide, by decide, by decide +kernel⟩
theorem gc_Reader_init : Cond.code y_Reader_init b_Reader_init 1 none ∈ gw := gwT (i := 47) rfl rfl
theorem gm_Reader_init : Cond.instanceMethod y_Reader_init ∈ gw := gwT (i := 46) (by decide +kernel) rfl
theorem gp_Reader_init : plainY y_Reader_init 0 := ⟨by decide, by decide, by decide +kernel⟩
theorem gc_Desk_put : Cond.code y_Desk_put b_Desk_put 5 (some .boolean) ∈ gw := gwT (i := 108) rfl rfl
theorem gm_Desk_put : Cond.instanceMethod y_Desk_put ∈ gw := gwT (i := 106) (by decide +kernel) rfl
theorem gl_Desk_put : Cond.selects "EntityDesk" y_Desk_put y_Desk_put ∈ gw := gwT (i := 107) (by decide +kernel) rfl
theorem gp_Desk_put : plainY y_Desk_put 2 := ⟨by decide, by decide, by decide +kernel⟩
theorem gc_Desk_declare : Cond.code y_Desk_declare b_Desk_declare 3 (some .int) ∈ gw := gwT (i := 112) rfl rfl
theorem gm_Desk_declare : Cond.instanceMethod y_Desk_declare ∈ gw := gwT (i := 110) (by decide +kernel) rfl
theorem gl_Desk_declare : Cond.selects "EntityDesk" y_Desk_declare y_Desk_declare ∈ gw := gwT (i := 111) (by decide +kernel) rfl
theorem gp_Desk_declare : plainY y_Desk_declare 1 := ⟨by decide, by decide, by decide +kernel⟩
theorem gc_Desk_isName : Cond.code y_Desk_isName b_Desk_isName 1 (some .boolean) ∈ gw := gwT (i := 115) rfl rfl
theorem gs_Desk_isName : Cond.static y_Desk_isName ∈ gw := gwT (i := 114) (by decide +kernel) rfl
theorem gp_Desk_isName : plainY y_Desk_isName 1 := ⟨by decide, by decide, by decide +kernel⟩
theorem gc_Desk_beginReading : Cond.code y_Desk_beginReading b_Desk_beginReading 1 none ∈ gw := gwT (i := 119) rfl rfl
theorem gm_Desk_beginReading : Cond.instanceMethod y_Desk_beginReading ∈ gw := gwT (i := 118) (by decide +kernel) rfl
theorem gl_Desk_beginReading : Cond.selects "EntityDesk" y_Desk_beginReading y_Desk_beginReading ∈ gw := gwS (i := 0) (by decide +kernel) rfl
theorem gp_Desk_beginReading : plainY y_Desk_beginReading 0 := ⟨by decide, by decide, by decide +kernel⟩
theorem gc_Reader_begin : Cond.code y_Reader_begin b_Reader_begin 1 none ∈ gw := gwT (i := 123) rfl rfl
theorem gm_Reader_begin : Cond.instanceMethod y_Reader_begin ∈ gw := gwT (i := 122) (by decide +kernel) rfl
theorem gl_Reader_begin : Cond.selects "EntityDesk$Reader" y_Reader_begin y_Reader_begin ∈ gw := gwS (i := 1) (by decide +kernel) rfl
theorem gp_Reader_begin : plainY y_Reader_begin 0 := ⟨by decide, by decide, by decide +kernel⟩
theorem gc_Ents_has : Cond.code y_Ents_has b_Ents_has 2 (some .boolean) ∈ gw := gwT (i := 127) rfl rfl
theorem gm_Ents_has : Cond.instanceMethod y_Ents_has ∈ gw := gwT (i := 126) (by decide +kernel) rfl
theorem gl_Ents_has : Cond.selects "EntityDesk$Entities" y_Ents_has y_Ents_has ∈ gw := gwS (i := 2) (by decide +kernel) rfl
theorem gp_Ents_has : plainY y_Ents_has 1 := ⟨by decide, by decide, by decide +kernel⟩
theorem gc_Desk_draftText : Cond.code y_Desk_draftText b_Desk_draftText 3 none ∈ gw := gwT (i := 131) rfl rfl
theorem gm_Desk_draftText : Cond.instanceMethod y_Desk_draftText ∈ gw := gwT (i := 130) (by decide +kernel) rfl
theorem gl_Desk_draftText : Cond.selects "EntityDesk" y_Desk_draftText y_Desk_draftText ∈ gw := gwS (i := 3) (by decide +kernel) rfl
theorem gp_Desk_draftText : plainY y_Desk_draftText 1 := ⟨by decide, by decide, by decide +kernel⟩
theorem gc_Ents_beginDraft : Cond.code y_Ents_beginDraft b_Ents_beginDraft 1 none ∈ gw := gwT (i := 135) rfl rfl
theorem gm_Ents_beginDraft : Cond.instanceMethod y_Ents_beginDraft ∈ gw := gwT (i := 134) (by decide +kernel) rfl
theorem gl_Ents_beginDraft : Cond.selects "EntityDesk$Entities" y_Ents_beginDraft y_Ents_beginDraft ∈ gw := gwS (i := 4) (by decide +kernel) rfl
theorem gp_Ents_beginDraft : plainY y_Ents_beginDraft 0 := ⟨by decide, by decide, by decide +kernel⟩
theorem gc_Reader_isWithin : Cond.code y_Reader_isWithin b_Reader_isWithin 1 (some .boolean) ∈ gw := gwT (i := 139) rfl rfl
theorem gm_Reader_isWithin : Cond.instanceMethod y_Reader_isWithin ∈ gw := gwT (i := 138) (by decide +kernel) rfl
theorem gl_Reader_isWithin : Cond.selects "EntityDesk$Reader" y_Reader_isWithin y_Reader_isWithin ∈ gw := gwS (i := 5) (by decide +kernel) rfl
theorem gp_Reader_isWithin : plainY y_Reader_isWithin 0 := ⟨by decide, by decide, by decide +kernel⟩
theorem gc_Desk_draftCharacter : Cond.code y_Desk_draftCharacter b_Desk_draftCharacter 4 none ∈ gw := gwT (i := 143) rfl rfl
theorem gm_Desk_draftCharacter : Cond.instanceMethod y_Desk_draftCharacter ∈ gw := gwT (i := 142) (by decide +kernel) rfl
theorem gl_Desk_draftCharacter : Cond.selects "EntityDesk" y_Desk_draftCharacter y_Desk_draftCharacter ∈ gw := gwS (i := 6) (by decide +kernel) rfl
theorem gp_Desk_draftCharacter : plainY y_Desk_draftCharacter 2 := ⟨by decide, by decide, by decide +kernel⟩
theorem gc_Desk_readOn : Cond.code y_Desk_readOn b_Desk_readOn 4 (some .int) ∈ gw := gwT (i := 147) rfl rfl
theorem gm_Desk_readOn : Cond.instanceMethod y_Desk_readOn ∈ gw := gwT (i := 146) (by decide +kernel) rfl
theorem gl_Desk_readOn : Cond.selects "EntityDesk" y_Desk_readOn y_Desk_readOn ∈ gw := gwS (i := 7) (by decide +kernel) rfl
theorem gp_Desk_readOn : plainY y_Desk_readOn 2 := ⟨by decide, by decide, by decide +kernel⟩
theorem gc_Reader_read : Cond.code y_Reader_read b_Reader_read 2 (some .int) ∈ gw := gwT (i := 151) rfl rfl
theorem gm_Reader_read : Cond.instanceMethod y_Reader_read ∈ gw := gwT (i := 150) (by decide +kernel) rfl
theorem gl_Reader_read : Cond.selects "EntityDesk$Reader" y_Reader_read y_Reader_read ∈ gw := gwS (i := 8) (by decide +kernel) rfl
theorem gp_Reader_read : plainY y_Reader_read 1 := ⟨by decide, by decide, by decide +kernel⟩
theorem gc_Reader_readBehindAmpersand : Cond.code y_Reader_readBehindAmpersand b_Reader_readBehindAmpersand 2 (some .int) ∈ gw := gwT (i := 155) rfl rfl
theorem gm_Reader_readBehindAmpersand : Cond.instanceMethod y_Reader_readBehindAmpersand ∈ gw := gwT (i := 154) (by decide +kernel) rfl
theorem gl_Reader_readBehindAmpersand : Cond.selects "EntityDesk$Reader" y_Reader_readBehindAmpersand y_Reader_readBehindAmpersand ∈ gw := gwS (i := 9) (by decide +kernel) rfl
theorem gp_Reader_readBehindAmpersand : plainY y_Reader_readBehindAmpersand 1 := ⟨by decide, by decide, by decide +kernel⟩
theorem gc_Reader_goOn : Cond.code y_Reader_goOn b_Reader_goOn 2 (some .int) ∈ gw := gwT (i := 159) rfl rfl
theorem gm_Reader_goOn : Cond.instanceMethod y_Reader_goOn ∈ gw := gwT (i := 158) (by decide +kernel) rfl
theorem gl_Reader_goOn : Cond.selects "EntityDesk$Reader" y_Reader_goOn y_Reader_goOn ∈ gw := gwS (i := 10) (by decide +kernel) rfl
theorem gp_Reader_goOn : plainY y_Reader_goOn 1 := ⟨by decide, by decide, by decide +kernel⟩
theorem gc_Reader_finish : Cond.code y_Reader_finish b_Reader_finish 2 (some .int) ∈ gw := gwT (i := 163) rfl rfl
theorem gm_Reader_finish : Cond.instanceMethod y_Reader_finish ∈ gw := gwT (i := 162) (by decide +kernel) rfl
theorem gl_Reader_finish : Cond.selects "EntityDesk$Reader" y_Reader_finish y_Reader_finish ∈ gw := gwS (i := 11) (by decide +kernel) rfl
theorem gp_Reader_finish : plainY y_Reader_finish 1 := ⟨by decide, by decide, by decide +kernel⟩
theorem gc_Reader_readDigit : Cond.code y_Reader_readDigit b_Reader_readDigit 5 (some .int) ∈ gw := gwT (i := 167) rfl rfl
theorem gm_Reader_readDigit : Cond.instanceMethod y_Reader_readDigit ∈ gw := gwT (i := 166) (by decide +kernel) rfl
theorem gl_Reader_readDigit : Cond.selects "EntityDesk$Reader" y_Reader_readDigit y_Reader_readDigit ∈ gw := gwS (i := 12) (by decide +kernel) rfl
theorem gp_Reader_readDigit : plainY y_Reader_readDigit 3 := ⟨by decide, by decide, by decide +kernel⟩
theorem gc_Reader_valueOf : Cond.code y_Reader_valueOf b_Reader_valueOf 1 (some .int) ∈ gw := gwT (i := 170) rfl rfl
theorem gs_Reader_valueOf : Cond.static y_Reader_valueOf ∈ gw := gwT (i := 169) (by decide +kernel) rfl
theorem gp_Reader_valueOf : plainY y_Reader_valueOf 1 := ⟨by decide, by decide, by decide +kernel⟩
theorem gc_Reader_finishNumber : Cond.code y_Reader_finishNumber b_Reader_finishNumber 1 (some .int) ∈ gw := gwT (i := 177) rfl rfl
theorem gm_Reader_finishNumber : Cond.instanceMethod y_Reader_finishNumber ∈ gw := gwT (i := 176) (by decide +kernel) rfl
theorem gl_Reader_finishNumber : Cond.selects "EntityDesk$Reader" y_Reader_finishNumber y_Reader_finishNumber ∈ gw := gwS (i := 13) (by decide +kernel) rfl
theorem gp_Reader_finishNumber : plainY y_Reader_finishNumber 0 := ⟨by decide, by decide, by decide +kernel⟩
theorem gc_Reader_mayBe : Cond.code y_Reader_mayBe b_Reader_mayBe 1 (some .boolean) ∈ gw := gwT (i := 180) rfl rfl
theorem gs_Reader_mayBe : Cond.static y_Reader_mayBe ∈ gw := gwT (i := 179) (by decide +kernel) rfl
theorem gp_Reader_mayBe : plainY y_Reader_mayBe 1 := ⟨by decide, by decide, by decide +kernel⟩
theorem gc_Desk_fail : Cond.code y_Desk_fail b_Desk_fail 3 none ∈ gw := gwT (i := 184) rfl rfl
theorem gm_Desk_fail : Cond.instanceMethod y_Desk_fail ∈ gw := gwT (i := 183) (by decide +kernel) rfl
theorem gl_Desk_fail : Cond.selects "EntityDesk" y_Desk_fail y_Desk_fail ∈ gw := gwS (i := 14) (by decide +kernel) rfl
theorem gp_Desk_fail : plainY y_Desk_fail 2 := ⟨by decide, by decide, by decide +kernel⟩
theorem gc_Ents_draft : Cond.code y_Ents_draft b_Ents_draft 2 none ∈ gw := gwT (i := 188) rfl rfl
theorem gm_Ents_draft : Cond.instanceMethod y_Ents_draft ∈ gw := gwT (i := 187) (by decide +kernel) rfl
theorem gl_Ents_draft : Cond.selects "EntityDesk$Entities" y_Ents_draft y_Ents_draft ∈ gw := gwS (i := 15) (by decide +kernel) rfl
theorem gp_Ents_draft : plainY y_Ents_draft 1 := ⟨by decide, by decide, by decide +kernel⟩
theorem gc_Ents_draftFits : Cond.code y_Ents_draftFits b_Ents_draftFits 1 (some .boolean) ∈ gw := gwT (i := 192) rfl rfl
theorem gm_Ents_draftFits : Cond.instanceMethod y_Ents_draftFits ∈ gw := gwT (i := 191) (by decide +kernel) rfl
theorem gl_Ents_draftFits : Cond.selects "EntityDesk$Entities" y_Ents_draftFits y_Ents_draftFits ∈ gw := gwS (i := 16) (by decide +kernel) rfl
theorem gp_Ents_draftFits : plainY y_Ents_draftFits 0 := ⟨by decide, by decide, by decide +kernel⟩
theorem gc_Ents_keepDraft : Cond.code y_Ents_keepDraft b_Ents_keepDraft 2 none ∈ gw := gwT (i := 196) rfl rfl
theorem gm_Ents_keepDraft : Cond.instanceMethod y_Ents_keepDraft ∈ gw := gwT (i := 195) (by decide +kernel) rfl
theorem gl_Ents_keepDraft : Cond.selects "EntityDesk$Entities" y_Ents_keepDraft y_Ents_keepDraft ∈ gw := gwS (i := 17) (by decide +kernel) rfl
theorem gp_Ents_keepDraft : plainY y_Ents_keepDraft 1 := ⟨by decide, by decide, by decide +kernel⟩
theorem gc_Ents_lengthOf : Cond.code y_Ents_lengthOf b_Ents_lengthOf 2 (some .int) ∈ gw := gwT (i := 200) rfl rfl
theorem gm_Ents_lengthOf : Cond.instanceMethod y_Ents_lengthOf ∈ gw := gwT (i := 199) (by decide +kernel) rfl
theorem gl_Ents_lengthOf : Cond.selects "EntityDesk$Entities" y_Ents_lengthOf y_Ents_lengthOf ∈ gw := gwS (i := 18) (by decide +kernel) rfl
theorem gp_Ents_lengthOf : plainY y_Ents_lengthOf 1 := ⟨by decide, by decide, by decide +kernel⟩
theorem gc_Desk_expand : Cond.code y_Desk_expand b_Desk_expand 3 (some .int) ∈ gw := gwT (i := 204) rfl rfl
theorem gm_Desk_expand : Cond.instanceMethod y_Desk_expand ∈ gw := gwT (i := 202) (by decide +kernel) rfl
theorem gl_Desk_expand : Cond.selects "EntityDesk" y_Desk_expand y_Desk_expand ∈ gw := gwT (i := 203) (by decide +kernel) rfl
theorem gp_Desk_expand : plainY y_Desk_expand 1 := ⟨by decide, by decide, by decide +kernel⟩
theorem gc_Desk_goOver : Cond.code y_Desk_goOver b_Desk_goOver 6 none ∈ gw := gwT (i := 209) rfl rfl
theorem gm_Desk_goOver : Cond.instanceMethod y_Desk_goOver ∈ gw := gwT (i := 208) (by decide +kernel) rfl
theorem gl_Desk_goOver : Cond.selects "EntityDesk" y_Desk_goOver y_Desk_goOver ∈ gw := gwS (i := 19) (by decide +kernel) rfl
theorem gp_Desk_goOver : plainY y_Desk_goOver 4 := ⟨by decide, by decide, by decide +kernel⟩
theorem gc_Desk_goOverCharacter : Cond.code y_Desk_goOverCharacter b_Desk_goOverCharacter 5 none ∈ gw := gwT (i := 213) rfl rfl
theorem gm_Desk_goOverCharacter : Cond.instanceMethod y_Desk_goOverCharacter ∈ gw := gwT (i := 212) (by decide +kernel) rfl
theorem gl_Desk_goOverCharacter : Cond.selects "EntityDesk" y_Desk_goOverCharacter y_Desk_goOverCharacter ∈ gw := gwS (i := 20) (by decide +kernel) rfl
theorem gp_Desk_goOverCharacter : plainY y_Desk_goOverCharacter 3 := ⟨by decide, by decide, by decide +kernel⟩
theorem gc_Desk_give : Cond.code y_Desk_give b_Desk_give 2 none ∈ gw := gwT (i := 217) rfl rfl
theorem gm_Desk_give : Cond.instanceMethod y_Desk_give ∈ gw := gwT (i := 216) (by decide +kernel) rfl
theorem gl_Desk_give : Cond.selects "EntityDesk" y_Desk_give y_Desk_give ∈ gw := gwS (i := 21) (by decide +kernel) rfl
theorem gp_Desk_give : plainY y_Desk_give 1 := ⟨by decide, by decide, by decide +kernel⟩
theorem gc_Desk_goInto : Cond.code y_Desk_goInto b_Desk_goInto 5 none ∈ gw := gwT (i := 221) rfl rfl
theorem gm_Desk_goInto : Cond.instanceMethod y_Desk_goInto ∈ gw := gwT (i := 220) (by decide +kernel) rfl
theorem gl_Desk_goInto : Cond.selects "EntityDesk" y_Desk_goInto y_Desk_goInto ∈ gw := gwS (i := 22) (by decide +kernel) rfl
theorem gp_Desk_goInto : plainY y_Desk_goInto 2 := ⟨by decide, by decide, by decide +kernel⟩
theorem gc_Desk_faultOfEntity : Cond.code y_Desk_faultOfEntity b_Desk_faultOfEntity 3 (some .int) ∈ gw := gwT (i := 225) rfl rfl
theorem gm_Desk_faultOfEntity : Cond.instanceMethod y_Desk_faultOfEntity ∈ gw := gwT (i := 224) (by decide +kernel) rfl
theorem gl_Desk_faultOfEntity : Cond.selects "EntityDesk" y_Desk_faultOfEntity y_Desk_faultOfEntity ∈ gw := gwS (i := 23) (by decide +kernel) rfl
theorem gp_Desk_faultOfEntity : plainY y_Desk_faultOfEntity 2 := ⟨by decide, by decide, by decide +kernel⟩
theorem gc_Ents_startOf : Cond.code y_Ents_startOf b_Ents_startOf 2 (some .int) ∈ gw := gwT (i := 232) rfl rfl
theorem gm_Ents_startOf : Cond.instanceMethod y_Ents_startOf ∈ gw := gwT (i := 231) (by decide +kernel) rfl
theorem gl_Ents_startOf : Cond.selects "EntityDesk$Entities" y_Ents_startOf y_Ents_startOf ∈ gw := gwS (i := 24) (by decide +kernel) rfl
theorem gp_Ents_startOf : plainY y_Ents_startOf 1 := ⟨by decide, by decide, by decide +kernel⟩
theorem gc_Desk_place : Cond.code y_Desk_place b_Desk_place 1 (some .int) ∈ gw := gwT (i := 236) rfl rfl
theorem gm_Desk_place : Cond.instanceMethod y_Desk_place ∈ gw := gwT (i := 234) (by decide +kernel) rfl
theorem gl_Desk_place : Cond.selects "EntityDesk" y_Desk_place y_Desk_place ∈ gw := gwT (i := 235) (by decide +kernel) rfl
theorem gp_Desk_place : plainY y_Desk_place 0 := ⟨by decide, by decide, by decide +kernel⟩
theorem gc_Desk_given : Cond.code y_Desk_given b_Desk_given 2 (some .int) ∈ gw := gwT (i := 240) rfl rfl
theorem gm_Desk_given : Cond.instanceMethod y_Desk_given ∈ gw := gwT (i := 238) (by decide +kernel) rfl
theorem gl_Desk_given : Cond.selects "EntityDesk" y_Desk_given y_Desk_given ∈ gw := gwT (i := 239) (by decide +kernel) rfl
theorem gp_Desk_given : plainY y_Desk_given 1 := ⟨by decide, by decide, by decide +kernel⟩
theorem gc_Desk_text : Cond.code y_Desk_text b_Desk_text 3 (some .int) ∈ gw := gwT (i := 244) rfl rfl
theorem gm_Desk_text : Cond.instanceMethod y_Desk_text ∈ gw := gwT (i := 242) (by decide +kernel) rfl
theorem gl_Desk_text : Cond.selects "EntityDesk" y_Desk_text y_Desk_text ∈ gw := gwT (i := 243) (by decide +kernel) rfl
theorem gp_Desk_text : plainY y_Desk_text 2 := ⟨by decide, by decide, by decide +kernel⟩
theorem gc_Ents_characterOf : Cond.code y_Ents_characterOf b_Ents_characterOf 3 (some .int) ∈ gw := gwT (i := 248) rfl rfl
theorem gm_Ents_characterOf : Cond.instanceMethod y_Ents_characterOf ∈ gw := gwT (i := 247) (by decide +kernel) rfl
theorem gl_Ents_characterOf : Cond.selects "EntityDesk$Entities" y_Ents_characterOf y_Ents_characterOf ∈ gw := gwS (i := 25) (by decide +kernel) rfl
theorem gp_Ents_characterOf : plainY y_Ents_characterOf 2 := ⟨by decide, by decide, by decide +kernel⟩
theorem gc_Desk_count : Cond.code y_Desk_count b_Desk_count 2 (some .int) ∈ gw := gwT (i := 252) rfl rfl
theorem gm_Desk_count : Cond.instanceMethod y_Desk_count ∈ gw := gwT (i := 250) (by decide +kernel) rfl
theorem gl_Desk_count : Cond.selects "EntityDesk" y_Desk_count y_Desk_count ∈ gw := gwT (i := 251) (by decide +kernel) rfl
theorem gp_Desk_count : plainY y_Desk_count 1 := ⟨by decide, by decide, by decide +kernel⟩
theorem gc_Model_init : Cond.code y_Model_init b_Model_init 1 none ∈ gw := gwT (i := 257) rfl rfl
theorem gm_Model_init : Cond.instanceMethod y_Model_init ∈ gw := gwT (i := 256) (by decide +kernel) rfl
theorem gp_Model_init : plainY y_Model_init 0 := ⟨by decide, by decide, by decide +kernel⟩
theorem gc_Model_put : Cond.code y_Model_put b_Model_put 5 (some .boolean) ∈ gw := gwT (i := 335) rfl rfl
theorem gm_Model_put : Cond.instanceMethod y_Model_put ∈ gw := gwT (i := 333) (by decide +kernel) rfl
theorem gl_Model_put : Cond.selects "EntityDeskModel" y_Model_put y_Model_put ∈ gw := gwT (i := 334) (by decide +kernel) rfl
theorem gp_Model_put : plainY y_Model_put 2 := ⟨by decide, by decide, by decide +kernel⟩
theorem gc_Model_declare : Cond.code y_Model_declare b_Model_declare 9 (some .int) ∈ gw := gwT (i := 340) rfl rfl
theorem gm_Model_declare : Cond.instanceMethod y_Model_declare ∈ gw := gwT (i := 338) (by decide +kernel) rfl
theorem gl_Model_declare : Cond.selects "EntityDeskModel" y_Model_declare y_Model_declare ∈ gw := gwT (i := 339) (by decide +kernel) rfl
theorem gp_Model_declare : plainY y_Model_declare 1 := ⟨by decide, by decide, by decide +kernel⟩
theorem gc_Model_begin : Cond.code y_Model_begin b_Model_begin 2 none ∈ gw := gwT (i := 344) rfl rfl
theorem gm_Model_begin : Cond.instanceMethod y_Model_begin ∈ gw := gwT (i := 343) (by decide +kernel) rfl
theorem gl_Model_begin : Cond.selects "EntityDeskModel" y_Model_begin y_Model_begin ∈ gw := gwS (i := 26) (by decide +kernel) rfl
theorem gp_Model_begin : plainY y_Model_begin 0 := ⟨by decide, by decide, by decide +kernel⟩
theorem gc_Model_peek : Cond.code y_Model_peek b_Model_peek 1 (some .int) ∈ gw := gwT (i := 348) rfl rfl
theorem gm_Model_peek : Cond.instanceMethod y_Model_peek ∈ gw := gwT (i := 347) (by decide +kernel) rfl
theorem gl_Model_peek : Cond.selects "EntityDeskModel" y_Model_peek y_Model_peek ∈ gw := gwS (i := 27) (by decide +kernel) rfl
theorem gp_Model_peek : plainY y_Model_peek 0 := ⟨by decide, by decide, by decide +kernel⟩
theorem gc_Model_pass : Cond.code y_Model_pass b_Model_pass 1 none ∈ gw := gwT (i := 352) rfl rfl
theorem gm_Model_pass : Cond.instanceMethod y_Model_pass ∈ gw := gwT (i := 351) (by decide +kernel) rfl
theorem gl_Model_pass : Cond.selects "EntityDeskModel" y_Model_pass y_Model_pass ∈ gw := gwS (i := 28) (by decide +kernel) rfl
theorem gp_Model_pass : plainY y_Model_pass 0 := ⟨by decide, by decide, by decide +kernel⟩
theorem gc_Model_reference : Cond.code y_Model_reference b_Model_reference 4 (some .int) ∈ gw := gwT (i := 356) rfl rfl
theorem gm_Model_reference : Cond.instanceMethod y_Model_reference ∈ gw := gwT (i := 355) (by decide +kernel) rfl
theorem gl_Model_reference : Cond.selects "EntityDeskModel" y_Model_reference y_Model_reference ∈ gw := gwS (i := 29) (by decide +kernel) rfl
theorem gp_Model_reference : plainY y_Model_reference 1 := ⟨by decide, by decide, by decide +kernel⟩
theorem gc_Model_digit : Cond.code y_Model_digit b_Model_digit 2 (some .int) ∈ gw := gwT (i := 359) rfl rfl
theorem gs_Model_digit : Cond.static y_Model_digit ∈ gw := gwT (i := 358) (by decide +kernel) rfl
theorem gp_Model_digit : plainY y_Model_digit 2 := ⟨by decide, by decide, by decide +kernel⟩
theorem gc_Model_broken : Cond.code y_Model_broken b_Model_broken 1 (some .int) ∈ gw := gwT (i := 363) rfl rfl
theorem gm_Model_broken : Cond.instanceMethod y_Model_broken ∈ gw := gwT (i := 362) (by decide +kernel) rfl
theorem gl_Model_broken : Cond.selects "EntityDeskModel" y_Model_broken y_Model_broken ∈ gw := gwS (i := 30) (by decide +kernel) rfl
theorem gp_Model_broken : plainY y_Model_broken 0 := ⟨by decide, by decide, by decide +kernel⟩
theorem gc_Model_fail : Cond.code y_Model_fail b_Model_fail 3 (some .int) ∈ gw := gwT (i := 367) rfl rfl
theorem gm_Model_fail : Cond.instanceMethod y_Model_fail ∈ gw := gwT (i := 366) (by decide +kernel) rfl
theorem gl_Model_fail : Cond.selects "EntityDeskModel" y_Model_fail y_Model_fail ∈ gw := gwS (i := 31) (by decide +kernel) rfl
theorem gp_Model_fail : plainY y_Model_fail 2 := ⟨by decide, by decide, by decide +kernel⟩
theorem gc_Model_expand : Cond.code y_Model_expand b_Model_expand 3 (some .int) ∈ gw := gwT (i := 377) rfl rfl
theorem gm_Model_expand : Cond.instanceMethod y_Model_expand ∈ gw := gwT (i := 375) (by decide +kernel) rfl
theorem gl_Model_expand : Cond.selects "EntityDeskModel" y_Model_expand y_Model_expand ∈ gw := gwT (i := 376) (by decide +kernel) rfl
theorem gp_Model_expand : plainY y_Model_expand 1 := ⟨by decide, by decide, by decide +kernel⟩
theorem gc_Model_step : Cond.code y_Model_step b_Model_step 4 (some .int) ∈ gw := gwT (i := 382) rfl rfl
theorem gm_Model_step : Cond.instanceMethod y_Model_step ∈ gw := gwT (i := 381) (by decide +kernel) rfl
theorem gl_Model_step : Cond.selects "EntityDeskModel" y_Model_step y_Model_step ∈ gw := gwS (i := 32) (by decide +kernel) rfl
theorem gp_Model_step : plainY y_Model_step 1 := ⟨by decide, by decide, by decide +kernel⟩
theorem gc_Model_give : Cond.code y_Model_give b_Model_give 3 (some .int) ∈ gw := gwT (i := 386) rfl rfl
theorem gm_Model_give : Cond.instanceMethod y_Model_give ∈ gw := gwT (i := 385) (by decide +kernel) rfl
theorem gl_Model_give : Cond.selects "EntityDeskModel" y_Model_give y_Model_give ∈ gw := gwS (i := 33) (by decide +kernel) rfl
theorem gp_Model_give : plainY y_Model_give 2 := ⟨by decide, by decide, by decide +kernel⟩
theorem gc_Model_enter : Cond.code y_Model_enter b_Model_enter 5 (some .int) ∈ gw := gwT (i := 390) rfl rfl
theorem gm_Model_enter : Cond.instanceMethod y_Model_enter ∈ gw := gwT (i := 389) (by decide +kernel) rfl
theorem gl_Model_enter : Cond.selects "EntityDeskModel" y_Model_enter y_Model_enter ∈ gw := gwS (i := 34) (by decide +kernel) rfl
theorem gp_Model_enter : plainY y_Model_enter 2 := ⟨by decide, by decide, by decide +kernel⟩
theorem gc_Model_place : Cond.code y_Model_place b_Model_place 1 (some .int) ∈ gw := gwT (i := 394) rfl rfl
theorem gm_Model_place : Cond.instanceMethod y_Model_place ∈ gw := gwT (i := 392) (by decide +kernel) rfl
theorem gl_Model_place : Cond.selects "EntityDeskModel" y_Model_place y_Model_place ∈ gw := gwT (i := 393) (by decide +kernel) rfl
theorem gp_Model_place : plainY y_Model_place 0 := ⟨by decide, by decide, by decide +kernel⟩
theorem gc_Model_given : Cond.code y_Model_given b_Model_given 2 (some .int) ∈ gw := gwT (i := 398) rfl rfl
theorem gm_Model_given : Cond.instanceMethod y_Model_given ∈ gw := gwT (i := 396) (by decide +kernel) rfl
theorem gl_Model_given : Cond.selects "EntityDeskModel" y_Model_given y_Model_given ∈ gw := gwT (i := 397) (by decide +kernel) rfl
theorem gp_Model_given : plainY y_Model_given 1 := ⟨by decide, by decide, by decide +kernel⟩
theorem gc_Model_text : Cond.code y_Model_text b_Model_text 3 (some .int) ∈ gw := gwT (i := 402) rfl rfl
theorem gm_Model_text : Cond.instanceMethod y_Model_text ∈ gw := gwT (i := 400) (by decide +kernel) rfl
theorem gl_Model_text : Cond.selects "EntityDeskModel" y_Model_text y_Model_text ∈ gw := gwT (i := 401) (by decide +kernel) rfl
theorem gp_Model_text : plainY y_Model_text 2 := ⟨by decide, by decide, by decide +kernel⟩
theorem gc_Model_count : Cond.code y_Model_count b_Model_count 2 (some .int) ∈ gw := gwT (i := 406) rfl rfl
theorem gm_Model_count : Cond.instanceMethod y_Model_count ∈ gw := gwT (i := 404) (by decide +kernel) rfl
theorem gl_Model_count : Cond.selects "EntityDeskModel" y_Model_count y_Model_count ∈ gw := gwT (i := 405) (by decide +kernel) rfl
theorem gp_Model_count : plainY y_Model_count 1 := ⟨by decide, by decide, by decide +kernel⟩
theorem k_Desk_1 : Cond.methodLink "EntityDesk" 1 objectInit ∈ gw := gwT (i := 11) (by decide +kernel) rfl
theorem k_Desk_17 : Cond.classLink "EntityDesk" 17 "EntityDesk$Entities" ∈ gw ∧ Cond.instantiable "EntityDesk$Entities" 6 ∈ gw := ⟨gwT (i := 14) (by decide +kernel) rfl, gwT (i := 15) (by decide +kernel) rfl⟩
theorem k_Desk_19 : Kj "EntityDesk" 19 y_Ents_init b_Ents_init 2 0 := ⟨⟨"EntityDesk", nwT (i := 16) (by decide +kernel) rfl⟩, gm_Ents_init, gi_Ents, gc_Ents_init, gp_Ents_init, rfl⟩
theorem f_Desk_154 : fdN "EntityDesk" 154 1 0 := ⟨_, _, _, "EntityDesk", rfl, by decide, u_Ents_in, nwT (i := 21) (by decide +kernel) rfl⟩
theorem f_Desk_96 : fdN "EntityDesk" 96 1 3 := ⟨_, _, _, "EntityDesk", rfl, by decide, u_Ents_in, nwT (i := 25) (by decide +kernel) rfl⟩
theorem f_Desk_99 : fdN "EntityDesk" 99 1 4 := ⟨_, _, _, "EntityDesk", rfl, by decide, u_Ents_in, nwT (i := 27) (by decide +kernel) rfl⟩
theorem k_Desk_24 : Cond.classLink "EntityDesk" 24 "EntityDesk$Reader" ∈ gw ∧ Cond.instantiable "EntityDesk$Reader" 3 ∈ gw := ⟨gwT (i := 43) (by decide +kernel) rfl, gwT (i := 44) (by decide +kernel) rfl⟩
theorem k_Desk_26 : Kj "EntityDesk" 26 y_Reader_init b_Reader_init 1 0 := ⟨⟨"EntityDesk", nwT (i := 45) (by decide +kernel) rfl⟩, gm_Reader_init, gi_Reader, gc_Reader_init, gp_Reader_init, rfl⟩
theorem f_Desk_130 : fdN "EntityDesk" 130 2 1 := ⟨_, _, _, "EntityDesk", rfl, by decide, u_Reader_in, nwT (i := 51) (by decide +kernel) rfl⟩
theorem f_Desk_127 : fdN "EntityDesk" 127 2 2 := ⟨_, _, _, "EntityDesk", rfl, by decide, u_Reader_in, nwT (i := 53) (by decide +kernel) rfl⟩
theorem f_Desk_9 : fdK "EntityDesk" 9 0 0 true (.array .int) := ⟨_, _, _, t_Desk, rfl, by decide, u_Desk_in, t_Desk_ok, n_Desk, rfl, rfl, rfl, gwT (i := 61) (by decide +kernel) rfl⟩
theorem f_Desk_13 : fdK "EntityDesk" 13 0 1 false .int := ⟨_, _, _, t_Desk, rfl, by decide, u_Desk_in, t_Desk_ok, n_Desk, rfl, rfl, rfl, gwT (i := 62) (by decide +kernel) rfl⟩
theorem f_Desk_20 : fdK "EntityDesk" 20 0 2 true (.object "EntityDesk$Entities") := ⟨_, _, _, t_Desk, rfl, by decide, u_Desk_in, t_Desk_ok, n_Desk, rfl, rfl, rfl, gwT (i := 63) (by decide +kernel) rfl⟩
theorem f_Desk_27 : fdK "EntityDesk" 27 0 3 true (.object "EntityDesk$Reader") := ⟨_, _, _, t_Desk, rfl, by decide, u_Desk_in, t_Desk_ok, n_Desk, rfl, rfl, rfl, gwT (i := 64) (by decide +kernel) rfl⟩
theorem f_Desk_31 : fdK "EntityDesk" 31 0 4 false .int := ⟨_, _, _, t_Desk, rfl, by decide, u_Desk_in, t_Desk_ok, n_Desk, rfl, rfl, rfl, gwT (i := 65) (by decide +kernel) rfl⟩
theorem f_Desk_34 : fdK "EntityDesk" 34 0 5 false .int := ⟨_, _, _, t_Desk, rfl, by decide, u_Desk_in, t_Desk_ok, n_Desk, rfl, rfl, rfl, gwT (i := 66) (by decide +kernel) rfl⟩
theorem f_Desk_37 : fdK "EntityDesk" 37 0 6 false .int := ⟨_, _, _, t_Desk, rfl, by decide, u_Desk_in, t_Desk_ok, n_Desk, rfl, rfl, rfl, gwT (i := 67) (by decide +kernel) rfl⟩
theorem f_Desk_40 : fdK "EntityDesk" 40 0 7 true (.array .int) := ⟨_, _, _, t_Desk, rfl, by decide, u_Desk_in, t_Desk_ok, n_Desk, rfl, rfl, rfl, gwT (i := 68) (by decide +kernel) rfl⟩
theorem f_Desk_43 : fdK "EntityDesk" 43 0 8 false .int := ⟨_, _, _, t_Desk, rfl, by decide, u_Desk_in, t_Desk_ok, n_Desk, rfl, rfl, rfl, gwT (i := 69) (by decide +kernel) rfl⟩
theorem f_Desk_46 : fdK "EntityDesk" 46 0 9 true (.array .boolean) := ⟨_, _, _, t_Desk, rfl, by decide, u_Desk_in, t_Desk_ok, n_Desk, rfl, rfl, rfl, gwT (i := 70) (by decide +kernel) rfl⟩
theorem f_Desk_50 : fdK "EntityDesk" 50 0 10 false .int := ⟨_, _, _, t_Desk, rfl, by decide, u_Desk_in, t_Desk_ok, n_Desk, rfl, rfl, rfl, gwT (i := 71) (by decide +kernel) rfl⟩
theorem f_Desk_53 : fdK "EntityDesk" 53 0 11 false .int := ⟨_, _, _, t_Desk, rfl, by decide, u_Desk_in, t_Desk_ok, n_Desk, rfl, rfl, rfl, gwT (i := 72) (by decide +kernel) rfl⟩
theorem f_Desk_56 : fdK "EntityDesk" 56 0 12 false .int := ⟨_, _, _, t_Desk, rfl, by decide, u_Desk_in, t_Desk_ok, n_Desk, rfl, rfl, rfl, gwT (i := 73) (by decide +kernel) rfl⟩
theorem f_Desk_59 : fdK "EntityDesk" 59 0 13 false .int := ⟨_, _, _, t_Desk, rfl, by decide, u_Desk_in, t_Desk_ok, n_Desk, rfl, rfl, rfl, gwT (i := 74) (by decide +kernel) rfl⟩
theorem k_Desk_62 : Ks "EntityDesk" 62 y_Desk_isName b_Desk_isName 1 (some .boolean) 1 := ⟨gwT (i := 113) (by decide +kernel) rfl, gs_Desk_isName, gi_Desk, gc_Desk_isName, gp_Desk_isName⟩
theorem k_Desk_66 : Kv "EntityDesk" 66 y_Desk_beginReading b_Desk_beginReading 1 none 0 := ⟨gwT (i := 116) (by decide +kernel) rfl, gm_Desk_beginReading, gl_Desk_beginReading, gi_Desk, gc_Desk_beginReading, gp_Desk_beginReading⟩
theorem k_Desk_102 : Kn "EntityDesk" 102 y_Reader_begin b_Reader_begin 1 none 0 := ⟨⟨"EntityDesk", nwT (i := 120) (by decide +kernel) rfl⟩, gm_Reader_begin, gl_Reader_begin, gi_Reader, gc_Reader_begin, gp_Reader_begin⟩
theorem k_Desk_69 : Kn "EntityDesk" 69 y_Ents_has b_Ents_has 2 (some .boolean) 1 := ⟨⟨"EntityDesk", nwT (i := 124) (by decide +kernel) rfl⟩, gm_Ents_has, gl_Ents_has, gi_Ents, gc_Ents_has, gp_Ents_has⟩
theorem k_Desk_72 : Kv "EntityDesk" 72 y_Desk_draftText b_Desk_draftText 3 none 1 := ⟨gwT (i := 128) (by decide +kernel) rfl, gm_Desk_draftText, gl_Desk_draftText, gi_Desk, gc_Desk_draftText, gp_Desk_draftText⟩
theorem k_Desk_112 : Kn "EntityDesk" 112 y_Ents_beginDraft b_Ents_beginDraft 1 none 0 := ⟨⟨"EntityDesk", nwT (i := 132) (by decide +kernel) rfl⟩, gm_Ents_beginDraft, gl_Ents_beginDraft, gi_Ents, gc_Ents_beginDraft, gp_Ents_beginDraft⟩
theorem k_Desk_115 : Kn "EntityDesk" 115 y_Reader_isWithin b_Reader_isWithin 1 (some .boolean) 0 := ⟨⟨"EntityDesk", nwT (i := 136) (by decide +kernel) rfl⟩, gm_Reader_isWithin, gl_Reader_isWithin, gi_Reader, gc_Reader_isWithin, gp_Reader_isWithin⟩
theorem k_Desk_118 : Kv "EntityDesk" 118 y_Desk_draftCharacter b_Desk_draftCharacter 4 none 2 := ⟨gwT (i := 140) (by decide +kernel) rfl, gm_Desk_draftCharacter, gl_Desk_draftCharacter, gi_Desk, gc_Desk_draftCharacter, gp_Desk_draftCharacter⟩
theorem k_Desk_121 : Kv "EntityDesk" 121 y_Desk_readOn b_Desk_readOn 4 (some .int) 2 := ⟨gwT (i := 144) (by decide +kernel) rfl, gm_Desk_readOn, gl_Desk_readOn, gi_Desk, gc_Desk_readOn, gp_Desk_readOn⟩
theorem k_Desk_105 : Kn "EntityDesk" 105 y_Reader_read b_Reader_read 2 (some .int) 1 := ⟨⟨"EntityDesk", nwT (i := 148) (by decide +kernel) rfl⟩, gm_Reader_read, gl_Reader_read, gi_Reader, gc_Reader_read, gp_Reader_read⟩
theorem k_Desk_108 : Kv "EntityDesk" 108 y_Desk_fail b_Desk_fail 3 none 2 := ⟨gwT (i := 181) (by decide +kernel) rfl, gm_Desk_fail, gl_Desk_fail, gi_Desk, gc_Desk_fail, gp_Desk_fail⟩
theorem k_Desk_124 : Kn "EntityDesk" 124 y_Ents_draft b_Ents_draft 2 none 1 := ⟨⟨"EntityDesk", nwT (i := 185) (by decide +kernel) rfl⟩, gm_Ents_draft, gl_Ents_draft, gi_Ents, gc_Ents_draft, gp_Ents_draft⟩
theorem k_Desk_76 : Kn "EntityDesk" 76 y_Ents_draftFits b_Ents_draftFits 1 (some .boolean) 0 := ⟨⟨"EntityDesk", nwT (i := 189) (by decide +kernel) rfl⟩, gm_Ents_draftFits, gl_Ents_draftFits, gi_Ents, gc_Ents_draftFits, gp_Ents_draftFits⟩
theorem k_Desk_80 : Kn "EntityDesk" 80 y_Ents_keepDraft b_Ents_keepDraft 2 none 1 := ⟨⟨"EntityDesk", nwT (i := 193) (by decide +kernel) rfl⟩, gm_Ents_keepDraft, gl_Ents_keepDraft, gi_Ents, gc_Ents_keepDraft, gp_Ents_keepDraft⟩
theorem k_Desk_83 : Kn "EntityDesk" 83 y_Ents_lengthOf b_Ents_lengthOf 2 (some .int) 1 := ⟨⟨"EntityDesk", nwT (i := 197) (by decide +kernel) rfl⟩, gm_Ents_lengthOf, gl_Ents_lengthOf, gi_Ents, gc_Ents_lengthOf, gp_Ents_lengthOf⟩
theorem c_Desk_87 : Cond.constant "EntityDesk" 87 (nI 100000) ∈ gw := gwT (i := 205) (by decide +kernel) rfl
theorem k_Desk_88 : Kv "EntityDesk" 88 y_Desk_goOver b_Desk_goOver 6 none 4 := ⟨gwT (i := 206) (by decide +kernel) rfl, gm_Desk_goOver, gl_Desk_goOver, gi_Desk, gc_Desk_goOver, gp_Desk_goOver⟩
theorem k_Desk_133 : Kv "EntityDesk" 133 y_Desk_goOverCharacter b_Desk_goOverCharacter 5 none 3 := ⟨gwT (i := 210) (by decide +kernel) rfl, gm_Desk_goOverCharacter, gl_Desk_goOverCharacter, gi_Desk, gc_Desk_goOverCharacter, gp_Desk_goOverCharacter⟩
theorem k_Desk_137 : Kv "EntityDesk" 137 y_Desk_give b_Desk_give 2 none 1 := ⟨gwT (i := 214) (by decide +kernel) rfl, gm_Desk_give, gl_Desk_give, gi_Desk, gc_Desk_give, gp_Desk_give⟩
theorem k_Desk_140 : Kv "EntityDesk" 140 y_Desk_goInto b_Desk_goInto 5 none 2 := ⟨gwT (i := 218) (by decide +kernel) rfl, gm_Desk_goInto, gl_Desk_goInto, gi_Desk, gc_Desk_goInto, gp_Desk_goInto⟩
theorem k_Desk_143 : Kv "EntityDesk" 143 y_Desk_faultOfEntity b_Desk_faultOfEntity 3 (some .int) 2 := ⟨gwT (i := 222) (by decide +kernel) rfl, gm_Desk_faultOfEntity, gl_Desk_faultOfEntity, gi_Desk, gc_Desk_faultOfEntity, gp_Desk_faultOfEntity⟩
theorem k_Desk_146 : Cond.methodLink "EntityDesk" 146 Lib.Math.max.name ∈ gw ∧ Cond.static Lib.Math.max.name ∈ gw ∧ Cond.initialized "java/lang/Math" ∈ gw ∧ Cond.code Lib.Math.max.name Lib.Math.max.code 2 (some .int) ∈ gw := ⟨gwT (i := 226) (by decide +kernel) rfl, gwT (i := 227) (by decide +kernel) rfl, gi_Math, gwT (i := 228) (by decide +kernel) rfl⟩
theorem k_Desk_151 : Kn "EntityDesk" 151 y_Ents_startOf b_Ents_startOf 2 (some .int) 1 := ⟨⟨"EntityDesk", nwT (i := 229) (by decide +kernel) rfl⟩, gm_Ents_startOf, gl_Ents_startOf, gi_Ents, gc_Ents_startOf, gp_Ents_startOf⟩
theorem k_Desk_92 : Kn "EntityDesk" 92 y_Ents_characterOf b_Ents_characterOf 3 (some .int) 2 := ⟨⟨"EntityDesk", nwT (i := 245) (by decide +kernel) rfl⟩, gm_Ents_characterOf, gl_Ents_characterOf, gi_Ents, gc_Ents_characterOf, gp_Ents_characterOf⟩
theorem k_Ents_3 : Cond.methodLink "EntityDesk$Entities" 3 objectInit ∈ gw := gwT (i := 19) (by decide +kernel) rfl
theorem f_Ents_9 : fdK "EntityDesk$Entities" 9 1 0 true (.array .int) := ⟨_, _, _, t_Ents, rfl, by decide, u_Ents_in, t_Ents_ok, n_Ents, rfl, rfl, rfl, gwT (i := 20) (by decide +kernel) rfl⟩
theorem f_Ents_15 : fdK "EntityDesk$Entities" 15 1 1 true (.array .int) := ⟨_, _, _, t_Ents, rfl, by decide, u_Ents_in, t_Ents_ok, n_Ents, rfl, rfl, rfl, gwT (i := 22) (by decide +kernel) rfl⟩
theorem f_Ents_18 : fdK "EntityDesk$Entities" 18 1 2 true (.array .int) := ⟨_, _, _, t_Ents, rfl, by decide, u_Ents_in, t_Ents_ok, n_Ents, rfl, rfl, rfl, gwT (i := 23) (by decide +kernel) rfl⟩
theorem f_Ents_21 : fdK "EntityDesk$Entities" 21 1 3 false .int := ⟨_, _, _, t_Ents, rfl, by decide, u_Ents_in, t_Ents_ok, n_Ents, rfl, rfl, rfl, gwT (i := 24) (by decide +kernel) rfl⟩
theorem f_Ents_25 : fdK "EntityDesk$Entities" 25 1 4 false .int := ⟨_, _, _, t_Ents, rfl, by decide, u_Ents_in, t_Ents_ok, n_Ents, rfl, rfl, rfl, gwT (i := 26) (by decide +kernel) rfl⟩
theorem f_Ents_28 : fdK "EntityDesk$Entities" 28 1 5 false .int := ⟨_, _, _, t_Ents, rfl, by decide, u_Ents_in, t_Ents_ok, n_Ents, rfl, rfl, rfl, gwT (i := 28) (by decide +kernel) rfl⟩
theorem k_Reader_3 : Cond.methodLink "EntityDesk$Reader" 3 objectInit ∈ gw := gwT (i := 48) (by decide +kernel) rfl
theorem f_Reader_11 : fdK "EntityDesk$Reader" 11 2 0 false .int := ⟨_, _, _, t_Reader, rfl, by decide, u_Reader_in, t_Reader_ok, n_Reader, rfl, rfl, rfl, gwT (i := 49) (by decide +kernel) rfl⟩
theorem f_Reader_15 : fdK "EntityDesk$Reader" 15 2 1 false .int := ⟨_, _, _, t_Reader, rfl, by decide, u_Reader_in, t_Reader_ok, n_Reader, rfl, rfl, rfl, gwT (i := 50) (by decide +kernel) rfl⟩
theorem f_Reader_18 : fdK "EntityDesk$Reader" 18 2 2 false .int := ⟨_, _, _, t_Reader, rfl, by decide, u_Reader_in, t_Reader_ok, n_Reader, rfl, rfl, rfl, gwT (i := 52) (by decide +kernel) rfl⟩
theorem k_Reader_21 : Kv "EntityDesk$Reader" 21 y_Reader_readBehindAmpersand b_Reader_readBehindAmpersand 2 (some .int) 1 := ⟨gwT (i := 152) (by decide +kernel) rfl, gm_Reader_readBehindAmpersand, gl_Reader_readBehindAmpersand, gi_Reader, gc_Reader_readBehindAmpersand, gp_Reader_readBehindAmpersand⟩
theorem k_Reader_28 : Kv "EntityDesk$Reader" 28 y_Reader_goOn b_Reader_goOn 2 (some .int) 1 := ⟨gwT (i := 156) (by decide +kernel) rfl, gm_Reader_goOn, gl_Reader_goOn, gi_Reader, gc_Reader_goOn, gp_Reader_goOn⟩
theorem k_Reader_25 : Kv "EntityDesk$Reader" 25 y_Reader_finish b_Reader_finish 2 (some .int) 1 := ⟨gwT (i := 160) (by decide +kernel) rfl, gm_Reader_finish, gl_Reader_finish, gi_Reader, gc_Reader_finish, gp_Reader_finish⟩
theorem k_Reader_31 : Kv "EntityDesk$Reader" 31 y_Reader_readDigit b_Reader_readDigit 5 (some .int) 3 := ⟨gwT (i := 164) (by decide +kernel) rfl, gm_Reader_readDigit, gl_Reader_readDigit, gi_Reader, gc_Reader_readDigit, gp_Reader_readDigit⟩
theorem k_Reader_39 : Ks "EntityDesk$Reader" 39 y_Reader_valueOf b_Reader_valueOf 1 (some .int) 1 := ⟨gwT (i := 168) (by decide +kernel) rfl, gs_Reader_valueOf, gi_Reader, gc_Reader_valueOf, gp_Reader_valueOf⟩
theorem k_Reader_42 : Cond.methodLink "EntityDesk$Reader" 42 Lib.Math.min.name ∈ gw ∧ Cond.static Lib.Math.min.name ∈ gw ∧ Cond.initialized "java/lang/Math" ∈ gw ∧ Cond.code Lib.Math.min.name Lib.Math.min.code 2 (some .int) ∈ gw := ⟨gwT (i := 171) (by decide +kernel) rfl, gwT (i := 172) (by decide +kernel) rfl, gi_Math, gwT (i := 173) (by decide +kernel) rfl⟩
theorem k_Reader_35 : Kv "EntityDesk$Reader" 35 y_Reader_finishNumber b_Reader_finishNumber 1 (some .int) 0 := ⟨gwT (i := 174) (by decide +kernel) rfl, gm_Reader_finishNumber, gl_Reader_finishNumber, gi_Reader, gc_Reader_finishNumber, gp_Reader_finishNumber⟩
theorem k_Reader_48 : Ks "EntityDesk$Reader" 48 y_Reader_mayBe b_Reader_mayBe 1 (some .boolean) 1 := ⟨gwT (i := 178) (by decide +kernel) rfl, gs_Reader_mayBe, gi_Reader, gc_Reader_mayBe, gp_Reader_mayBe⟩
theorem k_Model_1 : Cond.methodLink "EntityDeskModel" 1 objectInit ∈ gw := gwT (i := 258) (by decide +kernel) rfl
theorem f_Model_7 : fdK "EntityDeskModel" 7 3 0 true (.array .int) := ⟨_, _, _, t_Model, rfl, by decide, u_Model_in, t_Model_ok, n_Model, rfl, rfl, rfl, gwT (i := 259) (by decide +kernel) rfl⟩
theorem f_Model_39 : fdK "EntityDeskModel" 39 3 1 false .int := ⟨_, _, _, t_Model, rfl, by decide, u_Model_in, t_Model_ok, n_Model, rfl, rfl, rfl, gwT (i := 260) (by decide +kernel) rfl⟩
theorem f_Model_13 : fdK "EntityDeskModel" 13 3 2 true (.array .int) := ⟨_, _, _, t_Model, rfl, by decide, u_Model_in, t_Model_ok, n_Model, rfl, rfl, rfl, gwT (i := 261) (by decide +kernel) rfl⟩
theorem f_Model_98 : fdK "EntityDeskModel" 98 3 3 false .int := ⟨_, _, _, t_Model, rfl, by decide, u_Model_in, t_Model_ok, n_Model, rfl, rfl, rfl, gwT (i := 262) (by decide +kernel) rfl⟩
theorem f_Model_16 : fdK "EntityDeskModel" 16 3 4 true (.array .int) := ⟨_, _, _, t_Model, rfl, by decide, u_Model_in, t_Model_ok, n_Model, rfl, rfl, rfl, gwT (i := 263) (by decide +kernel) rfl⟩
theorem f_Model_19 : fdK "EntityDeskModel" 19 3 5 true (.array .int) := ⟨_, _, _, t_Model, rfl, by decide, u_Model_in, t_Model_ok, n_Model, rfl, rfl, rfl, gwT (i := 264) (by decide +kernel) rfl⟩
theorem f_Model_22 : fdK "EntityDeskModel" 22 3 6 true (.array .boolean) := ⟨_, _, _, t_Model, rfl, by decide, u_Model_in, t_Model_ok, n_Model, rfl, rfl, rfl, gwT (i := 265) (by decide +kernel) rfl⟩
theorem f_Model_105 : fdK "EntityDeskModel" 105 3 7 false .int := ⟨_, _, _, t_Model, rfl, by decide, u_Model_in, t_Model_ok, n_Model, rfl, rfl, rfl, gwT (i := 266) (by decide +kernel) rfl⟩
theorem f_Model_26 : fdK "EntityDeskModel" 26 3 8 true (.array .int) := ⟨_, _, _, t_Model, rfl, by decide, u_Model_in, t_Model_ok, n_Model, rfl, rfl, rfl, gwT (i := 267) (by decide +kernel) rfl⟩
theorem f_Model_53 : fdK "EntityDeskModel" 53 3 9 false .int := ⟨_, _, _, t_Model, rfl, by decide, u_Model_in, t_Model_ok, n_Model, rfl, rfl, rfl, gwT (i := 268) (by decide +kernel) rfl⟩
theorem f_Model_29 : fdK "EntityDeskModel" 29 3 10 true (.array .boolean) := ⟨_, _, _, t_Model, rfl, by decide, u_Model_in, t_Model_ok, n_Model, rfl, rfl, rfl, gwT (i := 269) (by decide +kernel) rfl⟩
theorem f_Model_47 : fdK "EntityDeskModel" 47 3 11 false .int := ⟨_, _, _, t_Model, rfl, by decide, u_Model_in, t_Model_ok, n_Model, rfl, rfl, rfl, gwT (i := 270) (by decide +kernel) rfl⟩
theorem f_Model_56 : fdK "EntityDeskModel" 56 3 12 false .int := ⟨_, _, _, t_Model, rfl, by decide, u_Model_in, t_Model_ok, n_Model, rfl, rfl, rfl, gwT (i := 271) (by decide +kernel) rfl⟩
theorem f_Model_50 : fdK "EntityDeskModel" 50 3 13 false .int := ⟨_, _, _, t_Model, rfl, by decide, u_Model_in, t_Model_ok, n_Model, rfl, rfl, rfl, gwT (i := 272) (by decide +kernel) rfl⟩
theorem f_Model_32 : fdK "EntityDeskModel" 32 3 14 true (.array .int) := ⟨_, _, _, t_Model, rfl, by decide, u_Model_in, t_Model_ok, n_Model, rfl, rfl, rfl, gwT (i := 273) (by decide +kernel) rfl⟩
theorem f_Model_117 : fdK "EntityDeskModel" 117 3 15 false .int := ⟨_, _, _, t_Model, rfl, by decide, u_Model_in, t_Model_ok, n_Model, rfl, rfl, rfl, gwT (i := 274) (by decide +kernel) rfl⟩
theorem f_Model_130 : fdK "EntityDeskModel" 130 3 16 false .boolean := ⟨_, _, _, t_Model, rfl, by decide, u_Model_in, t_Model_ok, n_Model, rfl, rfl, rfl, gwT (i := 275) (by decide +kernel) rfl⟩
theorem f_Model_108 : fdK "EntityDeskModel" 108 3 17 false .int := ⟨_, _, _, t_Model, rfl, by decide, u_Model_in, t_Model_ok, n_Model, rfl, rfl, rfl, gwT (i := 276) (by decide +kernel) rfl⟩
theorem f_Model_111 : fdK "EntityDeskModel" 111 3 18 false .int := ⟨_, _, _, t_Model, rfl, by decide, u_Model_in, t_Model_ok, n_Model, rfl, rfl, rfl, gwT (i := 277) (by decide +kernel) rfl⟩
theorem f_Model_114 : fdK "EntityDeskModel" 114 3 19 false .int := ⟨_, _, _, t_Model, rfl, by decide, u_Model_in, t_Model_ok, n_Model, rfl, rfl, rfl, gwT (i := 278) (by decide +kernel) rfl⟩
theorem f_Model_44 : fdK "EntityDeskModel" 44 3 20 false .int := ⟨_, _, _, t_Model, rfl, by decide, u_Model_in, t_Model_ok, n_Model, rfl, rfl, rfl, gwT (i := 279) (by decide +kernel) rfl⟩
theorem f_Model_35 : fdK "EntityDeskModel" 35 3 21 false .int := ⟨_, _, _, t_Model, rfl, by decide, u_Model_in, t_Model_ok, n_Model, rfl, rfl, rfl, gwT (i := 280) (by decide +kernel) rfl⟩
theorem f_Model_67 : fdK "EntityDeskModel" 67 3 22 false .int := ⟨_, _, _, t_Model, rfl, by decide, u_Model_in, t_Model_ok, n_Model, rfl, rfl, rfl, gwT (i := 281) (by decide +kernel) rfl⟩
theorem f_Model_70 : fdK "EntityDeskModel" 70 3 23 false .long := ⟨_, _, _, t_Model, rfl, by decide, u_Model_in, t_Model_ok, n_Model, rfl, rfl, rfl, gwT (i := 282) (by decide +kernel) rfl⟩
theorem c_Model_42 : Cond.constantLong "EntityDeskModel" 42 (lN 255) ∈ gw := gwT (i := 336) (by decide +kernel) rfl
theorem k_Model_95 : Kv "EntityDeskModel" 95 y_Model_begin b_Model_begin 2 none 0 := ⟨gwT (i := 341) (by decide +kernel) rfl, gm_Model_begin, gl_Model_begin, gi_Model, gc_Model_begin, gp_Model_begin⟩
theorem k_Model_59 : Kv "EntityDeskModel" 59 y_Model_peek b_Model_peek 1 (some .int) 0 := ⟨gwT (i := 345) (by decide +kernel) rfl, gm_Model_peek, gl_Model_peek, gi_Model, gc_Model_peek, gp_Model_peek⟩
theorem k_Model_74 : Kv "EntityDeskModel" 74 y_Model_pass b_Model_pass 1 none 0 := ⟨gwT (i := 349) (by decide +kernel) rfl, gm_Model_pass, gl_Model_pass, gi_Model, gc_Model_pass, gp_Model_pass⟩
theorem k_Model_101 : Kv "EntityDeskModel" 101 y_Model_reference b_Model_reference 4 (some .int) 1 := ⟨gwT (i := 353) (by decide +kernel) rfl, gm_Model_reference, gl_Model_reference, gi_Model, gc_Model_reference, gp_Model_reference⟩
theorem k_Model_77 : Ks "EntityDeskModel" 77 y_Model_digit b_Model_digit 2 (some .int) 2 := ⟨gwT (i := 357) (by decide +kernel) rfl, gs_Model_digit, gi_Model, gc_Model_digit, gp_Model_digit⟩
theorem k_Model_80 : Kv "EntityDeskModel" 80 y_Model_broken b_Model_broken 1 (some .int) 0 := ⟨gwT (i := 360) (by decide +kernel) rfl, gm_Model_broken, gl_Model_broken, gi_Model, gc_Model_broken, gp_Model_broken⟩
theorem k_Model_63 : Kv "EntityDeskModel" 63 y_Model_fail b_Model_fail 3 (some .int) 2 := ⟨gwT (i := 364) (by decide +kernel) rfl, gm_Model_fail, gl_Model_fail, gi_Model, gc_Model_fail, gp_Model_fail⟩
theorem c_Model_83 : Cond.constantLong "EntityDeskModel" 83 (lN 1000000) ∈ gw := gwT (i := 368) (by decide +kernel) rfl
theorem c_Model_85 : Cond.constantLong "EntityDeskModel" 85 (lN 9) ∈ gw := gwT (i := 369) (by decide +kernel) rfl
theorem c_Model_87 : Cond.constantLong "EntityDeskModel" 87 (lN 10) ∈ gw := gwT (i := 370) (by decide +kernel) rfl
theorem c_Model_89 : Cond.constantLong "EntityDeskModel" 89 (lN 13) ∈ gw := gwT (i := 371) (by decide +kernel) rfl
theorem c_Model_91 : Cond.constantLong "EntityDeskModel" 91 (lN 32) ∈ gw := gwT (i := 372) (by decide +kernel) rfl
theorem c_Model_93 : Cond.constantLong "EntityDeskModel" 93 (lN 256) ∈ gw := gwT (i := 373) (by decide +kernel) rfl
theorem c_Model_126 : Cond.constant "EntityDeskModel" 126 (nI 100000) ∈ gw := gwT (i := 378) (by decide +kernel) rfl
theorem k_Model_127 : Kv "EntityDeskModel" 127 y_Model_step b_Model_step 4 (some .int) 1 := ⟨gwT (i := 379) (by decide +kernel) rfl, gm_Model_step, gl_Model_step, gi_Model, gc_Model_step, gp_Model_step⟩
theorem k_Model_120 : Kv "EntityDeskModel" 120 y_Model_give b_Model_give 3 (some .int) 2 := ⟨gwT (i := 383) (by decide +kernel) rfl, gm_Model_give, gl_Model_give, gi_Model, gc_Model_give, gp_Model_give⟩
theorem k_Model_123 : Kv "EntityDeskModel" 123 y_Model_enter b_Model_enter 5 (some .int) 2 := ⟨gwT (i := 387) (by decide +kernel) rfl, gm_Model_enter, gl_Model_enter, gi_Model, gc_Model_enter, gp_Model_enter⟩
theorem k_Law_7 : Cond.classLink "EntityDeskLaw" 7 "EntityDesk" ∈ gw ∧ Cond.instantiable "EntityDesk" 14 ∈ gw := ⟨gwT (i := 6) (by decide +kernel) rfl, gwT (i := 7) (by decide +kernel) rfl⟩
theorem k_Law_9 : Ki "EntityDeskLaw" 9 y_Desk_init b_Desk_init 1 0 := ⟨gwT (i := 8) (by decide +kernel) rfl, gm_Desk_init, gi_Desk, gc_Desk_init, gp_Desk_init, rfl⟩
theorem k_Law_15 : Kv "EntityDeskLaw" 15 y_Desk_put b_Desk_put 5 (some .boolean) 2 := ⟨gwT (i := 105) (by decide +kernel) rfl, gm_Desk_put, gl_Desk_put, gi_Desk, gc_Desk_put, gp_Desk_put⟩
theorem k_Law_20 : Kv "EntityDeskLaw" 20 y_Desk_declare b_Desk_declare 3 (some .int) 1 := ⟨gwT (i := 109) (by decide +kernel) rfl, gm_Desk_declare, gl_Desk_declare, gi_Desk, gc_Desk_declare, gp_Desk_declare⟩
theorem k_Law_25 : Kv "EntityDeskLaw" 25 y_Desk_expand b_Desk_expand 3 (some .int) 1 := ⟨gwT (i := 201) (by decide +kernel) rfl, gm_Desk_expand, gl_Desk_expand, gi_Desk, gc_Desk_expand, gp_Desk_expand⟩
theorem k_Law_29 : Kv "EntityDeskLaw" 29 y_Desk_place b_Desk_place 1 (some .int) 0 := ⟨gwT (i := 233) (by decide +kernel) rfl, gm_Desk_place, gl_Desk_place, gi_Desk, gc_Desk_place, gp_Desk_place⟩
theorem k_Law_34 : Kv "EntityDeskLaw" 34 y_Desk_given b_Desk_given 2 (some .int) 1 := ⟨gwT (i := 237) (by decide +kernel) rfl, gm_Desk_given, gl_Desk_given, gi_Desk, gc_Desk_given, gp_Desk_given⟩
theorem k_Law_38 : Kv "EntityDeskLaw" 38 y_Desk_text b_Desk_text 3 (some .int) 2 := ⟨gwT (i := 241) (by decide +kernel) rfl, gm_Desk_text, gl_Desk_text, gi_Desk, gc_Desk_text, gp_Desk_text⟩
theorem k_Law_43 : Kv "EntityDeskLaw" 43 y_Desk_count b_Desk_count 2 (some .int) 1 := ⟨gwT (i := 249) (by decide +kernel) rfl, gm_Desk_count, gl_Desk_count, gi_Desk, gc_Desk_count, gp_Desk_count⟩
theorem k_Law_10 : Cond.classLink "EntityDeskLaw" 10 "EntityDeskModel" ∈ gw ∧ Cond.instantiable "EntityDeskModel" 24 ∈ gw := ⟨gwT (i := 253) (by decide +kernel) rfl, gwT (i := 254) (by decide +kernel) rfl⟩
theorem k_Law_12 : Ki "EntityDeskLaw" 12 y_Model_init b_Model_init 1 0 := ⟨gwT (i := 255) (by decide +kernel) rfl, gm_Model_init, gi_Model, gc_Model_init, gp_Model_init, rfl⟩
theorem k_Law_19 : Kv "EntityDeskLaw" 19 y_Model_put b_Model_put 5 (some .boolean) 2 := ⟨gwT (i := 332) (by decide +kernel) rfl, gm_Model_put, gl_Model_put, gi_Model, gc_Model_put, gp_Model_put⟩
theorem k_Law_24 : Kv "EntityDeskLaw" 24 y_Model_declare b_Model_declare 9 (some .int) 1 := ⟨gwT (i := 337) (by decide +kernel) rfl, gm_Model_declare, gl_Model_declare, gi_Model, gc_Model_declare, gp_Model_declare⟩
theorem k_Law_28 : Kv "EntityDeskLaw" 28 y_Model_expand b_Model_expand 3 (some .int) 1 := ⟨gwT (i := 374) (by decide +kernel) rfl, gm_Model_expand, gl_Model_expand, gi_Model, gc_Model_expand, gp_Model_expand⟩
theorem k_Law_33 : Kv "EntityDeskLaw" 33 y_Model_place b_Model_place 1 (some .int) 0 := ⟨gwT (i := 391) (by decide +kernel) rfl, gm_Model_place, gl_Model_place, gi_Model, gc_Model_place, gp_Model_place⟩
theorem k_Law_37 : Kv "EntityDeskLaw" 37 y_Model_given b_Model_given 2 (some .int) 1 := ⟨gwT (i := 395) (by decide +kernel) rfl, gm_Model_given, gl_Model_given, gi_Model, gc_Model_given, gp_Model_given⟩
theorem k_Law_42 : Kv "EntityDeskLaw" 42 y_Model_text b_Model_text 3 (some .int) 2 := ⟨gwT (i := 399) (by decide +kernel) rfl, gm_Model_text, gl_Model_text, gi_Model, gc_Model_text, gp_Model_text⟩
theorem k_Law_46 : Kv "EntityDeskLaw" 46 y_Model_count b_Model_count 2 (some .int) 1 := ⟨gwT (i := 403) (by decide +kernel) rfl, gm_Model_count, gl_Model_count, gi_Model, gc_Model_count, gp_Model_count⟩
theorem c_Law_13 : Cond.constantLong "EntityDeskLaw" 13 (lN 4294967295) ∈ gw := gwT (i := 407) (by decide +kernel) rfl
theorem g_obj : Cond.instanceMethod objectInit ∈ gw ∧ Cond.code objectInit ⟨#[0xb1]⟩ 1 none ∈ gw := ⟨gwT (i := 12) (by decide +kernel) rfl, gwT (i := 13) (by decide +kernel) rfl⟩
