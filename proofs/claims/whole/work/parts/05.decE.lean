theorem d_Ents_init_0 : decode b_Ents_init 0 = .ok (.aload_n 0, 1) := by decide +kernel
theorem d_Ents_init_1 : decode b_Ents_init 1 = .ok (.invokespecial 3, 3) := by decide +kernel
theorem d_Ents_init_4 : decode b_Ents_init 4 = .ok (.aload_n 0, 1) := by decide +kernel
theorem d_Ents_init_5 : decode b_Ents_init 5 = .ok (.sipush 2000, 3) := by decide +kernel
theorem d_Ents_init_8 : decode b_Ents_init 8 = .ok (.newarray .int, 2) := by decide +kernel
theorem d_Ents_init_10 : decode b_Ents_init 10 = .ok (.putfield 9, 3) := by decide +kernel
theorem d_Ents_init_13 : decode b_Ents_init 13 = .ok (.aload_n 0, 1) := by decide +kernel
theorem d_Ents_init_14 : decode b_Ents_init 14 = .ok (.bipush 26, 2) := by decide +kernel
theorem d_Ents_init_16 : decode b_Ents_init 16 = .ok (.newarray .int, 2) := by decide +kernel
theorem d_Ents_init_18 : decode b_Ents_init 18 = .ok (.putfield 15, 3) := by decide +kernel
theorem d_Ents_init_21 : decode b_Ents_init 21 = .ok (.aload_n 0, 1) := by decide +kernel
theorem d_Ents_init_22 : decode b_Ents_init 22 = .ok (.bipush 26, 2) := by decide +kernel
theorem d_Ents_init_24 : decode b_Ents_init 24 = .ok (.newarray .int, 2) := by decide +kernel
theorem d_Ents_init_26 : decode b_Ents_init 26 = .ok (.putfield 18, 3) := by decide +kernel
theorem d_Ents_init_29 : decode b_Ents_init 29 = .ok (.iconst 0, 1) := by decide +kernel
theorem d_Ents_init_30 : decode b_Ents_init 30 = .ok (.istore_n 1, 1) := by decide +kernel
theorem d_Ents_init_31 : decode b_Ents_init 31 = .ok (.iload_n 1, 1) := by decide +kernel
theorem d_Ents_init_32 : decode b_Ents_init 32 = .ok (.bipush 26, 2) := by decide +kernel
theorem d_Ents_init_34 : decode b_Ents_init 34 = .ok (.if_icmp .ge 16, 3) := by decide +kernel
theorem d_Ents_init_37 : decode b_Ents_init 37 = .ok (.aload_n 0, 1) := by decide +kernel
theorem d_Ents_init_38 : decode b_Ents_init 38 = .ok (.getfield 18, 3) := by decide +kernel
theorem d_Ents_init_41 : decode b_Ents_init 41 = .ok (.iload_n 1, 1) := by decide +kernel
theorem d_Ents_init_42 : decode b_Ents_init 42 = .ok (.iconst (-1), 1) := by decide +kernel
theorem d_Ents_init_43 : decode b_Ents_init 43 = .ok (.iastore, 1) := by decide +kernel
theorem d_Ents_init_44 : decode b_Ents_init 44 = .ok (.iinc 1 1, 3) := by decide +kernel
theorem d_Ents_init_47 : decode b_Ents_init 47 = .ok (.goto (-16), 3) := by decide +kernel
theorem d_Ents_init_50 : decode b_Ents_init 50 = .ok (.aload_n 0, 1) := by decide +kernel
theorem d_Ents_init_51 : decode b_Ents_init 51 = .ok (.iconst 0, 1) := by decide +kernel
theorem d_Ents_init_52 : decode b_Ents_init 52 = .ok (.putfield 21, 3) := by decide +kernel
theorem d_Ents_init_55 : decode b_Ents_init 55 = .ok (.aload_n 0, 1) := by decide +kernel
theorem d_Ents_init_56 : decode b_Ents_init 56 = .ok (.iconst 0, 1) := by decide +kernel
theorem d_Ents_init_57 : decode b_Ents_init 57 = .ok (.putfield 25, 3) := by decide +kernel
theorem d_Ents_init_60 : decode b_Ents_init 60 = .ok (.aload_n 0, 1) := by decide +kernel
theorem d_Ents_init_61 : decode b_Ents_init 61 = .ok (.iconst 0, 1) := by decide +kernel
theorem d_Ents_init_62 : decode b_Ents_init 62 = .ok (.putfield 28, 3) := by decide +kernel
theorem d_Ents_init_65 : decode b_Ents_init 65 = .ok (.return_, 1) := by decide +kernel
theorem d_Ents_has_0 : decode b_Ents_has 0 = .ok (.aload_n 0, 1) := by decide +kernel
theorem d_Ents_has_1 : decode b_Ents_has 1 = .ok (.getfield 18, 3) := by decide +kernel
theorem d_Ents_has_4 : decode b_Ents_has 4 = .ok (.iload_n 1, 1) := by decide +kernel
theorem d_Ents_has_5 : decode b_Ents_has 5 = .ok (.iaload, 1) := by decide +kernel
theorem d_Ents_has_6 : decode b_Ents_has 6 = .ok (.iconst (-1), 1) := by decide +kernel
theorem d_Ents_has_7 : decode b_Ents_has 7 = .ok (.if_icmp .eq 7, 3) := by decide +kernel
theorem d_Ents_has_10 : decode b_Ents_has 10 = .ok (.iconst 1, 1) := by decide +kernel
theorem d_Ents_has_11 : decode b_Ents_has 11 = .ok (.goto 4, 3) := by decide +kernel
theorem d_Ents_has_14 : decode b_Ents_has 14 = .ok (.iconst 0, 1) := by decide +kernel
theorem d_Ents_has_15 : decode b_Ents_has 15 = .ok (.ireturn, 1) := by decide +kernel
theorem d_Ents_startOf_0 : decode b_Ents_startOf 0 = .ok (.aload_n 0, 1) := by decide +kernel
theorem d_Ents_startOf_1 : decode b_Ents_startOf 1 = .ok (.getfield 15, 3) := by decide +kernel
theorem d_Ents_startOf_4 : decode b_Ents_startOf 4 = .ok (.iload_n 1, 1) := by decide +kernel
theorem d_Ents_startOf_5 : decode b_Ents_startOf 5 = .ok (.iaload, 1) := by decide +kernel
theorem d_Ents_startOf_6 : decode b_Ents_startOf 6 = .ok (.ireturn, 1) := by decide +kernel
theorem d_Ents_lengthOf_0 : decode b_Ents_lengthOf 0 = .ok (.aload_n 0, 1) := by decide +kernel
theorem d_Ents_lengthOf_1 : decode b_Ents_lengthOf 1 = .ok (.getfield 18, 3) := by decide +kernel
theorem d_Ents_lengthOf_4 : decode b_Ents_lengthOf 4 = .ok (.iload_n 1, 1) := by decide +kernel
theorem d_Ents_lengthOf_5 : decode b_Ents_lengthOf 5 = .ok (.iaload, 1) := by decide +kernel
theorem d_Ents_lengthOf_6 : decode b_Ents_lengthOf 6 = .ok (.ireturn, 1) := by decide +kernel
theorem d_Ents_characterOf_0 : decode b_Ents_characterOf 0 = .ok (.aload_n 0, 1) := by decide +kernel
theorem d_Ents_characterOf_1 : decode b_Ents_characterOf 1 = .ok (.getfield 9, 3) := by decide +kernel
theorem d_Ents_characterOf_4 : decode b_Ents_characterOf 4 = .ok (.aload_n 0, 1) := by decide +kernel
theorem d_Ents_characterOf_5 : decode b_Ents_characterOf 5 = .ok (.getfield 15, 3) := by decide +kernel
theorem d_Ents_characterOf_8 : decode b_Ents_characterOf 8 = .ok (.iload_n 1, 1) := by decide +kernel
theorem d_Ents_characterOf_9 : decode b_Ents_characterOf 9 = .ok (.iaload, 1) := by decide +kernel
theorem d_Ents_characterOf_10 : decode b_Ents_characterOf 10 = .ok (.iload_n 2, 1) := by decide +kernel
theorem d_Ents_characterOf_11 : decode b_Ents_characterOf 11 = .ok (.iadd, 1) := by decide +kernel
theorem d_Ents_characterOf_12 : decode b_Ents_characterOf 12 = .ok (.iaload, 1) := by decide +kernel
theorem d_Ents_characterOf_13 : decode b_Ents_characterOf 13 = .ok (.ireturn, 1) := by decide +kernel
theorem d_Ents_beginDraft_0 : decode b_Ents_beginDraft 0 = .ok (.aload_n 0, 1) := by decide +kernel
theorem d_Ents_beginDraft_1 : decode b_Ents_beginDraft 1 = .ok (.iconst 0, 1) := by decide +kernel
theorem d_Ents_beginDraft_2 : decode b_Ents_beginDraft 2 = .ok (.putfield 28, 3) := by decide +kernel
theorem d_Ents_beginDraft_5 : decode b_Ents_beginDraft 5 = .ok (.return_, 1) := by decide +kernel
theorem d_Ents_draft_0 : decode b_Ents_draft 0 = .ok (.aload_n 0, 1) := by decide +kernel
theorem d_Ents_draft_1 : decode b_Ents_draft 1 = .ok (.getfield 25, 3) := by decide +kernel
theorem d_Ents_draft_4 : decode b_Ents_draft 4 = .ok (.aload_n 0, 1) := by decide +kernel
theorem d_Ents_draft_5 : decode b_Ents_draft 5 = .ok (.getfield 28, 3) := by decide +kernel
theorem d_Ents_draft_8 : decode b_Ents_draft 8 = .ok (.iadd, 1) := by decide +kernel
theorem d_Ents_draft_9 : decode b_Ents_draft 9 = .ok (.sipush 2000, 3) := by decide +kernel
theorem d_Ents_draft_12 : decode b_Ents_draft 12 = .ok (.if_icmp .ge 18, 3) := by decide +kernel
theorem d_Ents_draft_15 : decode b_Ents_draft 15 = .ok (.aload_n 0, 1) := by decide +kernel
theorem d_Ents_draft_16 : decode b_Ents_draft 16 = .ok (.getfield 9, 3) := by decide +kernel
theorem d_Ents_draft_19 : decode b_Ents_draft 19 = .ok (.aload_n 0, 1) := by decide +kernel
theorem d_Ents_draft_20 : decode b_Ents_draft 20 = .ok (.getfield 25, 3) := by decide +kernel
theorem d_Ents_draft_23 : decode b_Ents_draft 23 = .ok (.aload_n 0, 1) := by decide +kernel
theorem d_Ents_draft_24 : decode b_Ents_draft 24 = .ok (.getfield 28, 3) := by decide +kernel
theorem d_Ents_draft_27 : decode b_Ents_draft 27 = .ok (.iadd, 1) := by decide +kernel
theorem d_Ents_draft_28 : decode b_Ents_draft 28 = .ok (.iload_n 1, 1) := by decide +kernel
theorem d_Ents_draft_29 : decode b_Ents_draft 29 = .ok (.iastore, 1) := by decide +kernel
theorem d_Ents_draft_30 : decode b_Ents_draft 30 = .ok (.aload_n 0, 1) := by decide +kernel
theorem d_Ents_draft_31 : decode b_Ents_draft 31 = .ok (.dup, 1) := by decide +kernel
theorem d_Ents_draft_32 : decode b_Ents_draft 32 = .ok (.getfield 28, 3) := by decide +kernel
theorem d_Ents_draft_35 : decode b_Ents_draft 35 = .ok (.iconst 1, 1) := by decide +kernel
theorem d_Ents_draft_36 : decode b_Ents_draft 36 = .ok (.iadd, 1) := by decide +kernel
theorem d_Ents_draft_37 : decode b_Ents_draft 37 = .ok (.putfield 28, 3) := by decide +kernel
theorem d_Ents_draft_40 : decode b_Ents_draft 40 = .ok (.return_, 1) := by decide +kernel
theorem d_Ents_draftFits_0 : decode b_Ents_draftFits 0 = .ok (.aload_n 0, 1) := by decide +kernel
theorem d_Ents_draftFits_1 : decode b_Ents_draftFits 1 = .ok (.getfield 25, 3) := by decide +kernel
theorem d_Ents_draftFits_4 : decode b_Ents_draftFits 4 = .ok (.aload_n 0, 1) := by decide +kernel
theorem d_Ents_draftFits_5 : decode b_Ents_draftFits 5 = .ok (.getfield 28, 3) := by decide +kernel
theorem d_Ents_draftFits_8 : decode b_Ents_draftFits 8 = .ok (.iadd, 1) := by decide +kernel
theorem d_Ents_draftFits_9 : decode b_Ents_draftFits 9 = .ok (.sipush 2000, 3) := by decide +kernel
theorem d_Ents_draftFits_12 : decode b_Ents_draftFits 12 = .ok (.if_icmp .gt 7, 3) := by decide +kernel
theorem d_Ents_draftFits_15 : decode b_Ents_draftFits 15 = .ok (.iconst 1, 1) := by decide +kernel
theorem d_Ents_draftFits_16 : decode b_Ents_draftFits 16 = .ok (.goto 4, 3) := by decide +kernel
theorem d_Ents_draftFits_19 : decode b_Ents_draftFits 19 = .ok (.iconst 0, 1) := by decide +kernel
theorem d_Ents_draftFits_20 : decode b_Ents_draftFits 20 = .ok (.ireturn, 1) := by decide +kernel
theorem d_Ents_keepDraft_0 : decode b_Ents_keepDraft 0 = .ok (.aload_n 0, 1) := by decide +kernel
theorem d_Ents_keepDraft_1 : decode b_Ents_keepDraft 1 = .ok (.getfield 15, 3) := by decide +kernel
theorem d_Ents_keepDraft_4 : decode b_Ents_keepDraft 4 = .ok (.iload_n 1, 1) := by decide +kernel
theorem d_Ents_keepDraft_5 : decode b_Ents_keepDraft 5 = .ok (.aload_n 0, 1) := by decide +kernel
theorem d_Ents_keepDraft_6 : decode b_Ents_keepDraft 6 = .ok (.getfield 25, 3) := by decide +kernel
theorem d_Ents_keepDraft_9 : decode b_Ents_keepDraft 9 = .ok (.iastore, 1) := by decide +kernel
theorem d_Ents_keepDraft_10 : decode b_Ents_keepDraft 10 = .ok (.aload_n 0, 1) := by decide +kernel
theorem d_Ents_keepDraft_11 : decode b_Ents_keepDraft 11 = .ok (.getfield 18, 3) := by decide +kernel
theorem d_Ents_keepDraft_14 : decode b_Ents_keepDraft 14 = .ok (.iload_n 1, 1) := by decide +kernel
theorem d_Ents_keepDraft_15 : decode b_Ents_keepDraft 15 = .ok (.aload_n 0, 1) := by decide +kernel
theorem d_Ents_keepDraft_16 : decode b_Ents_keepDraft 16 = .ok (.getfield 28, 3) := by decide +kernel
theorem d_Ents_keepDraft_19 : decode b_Ents_keepDraft 19 = .ok (.iastore, 1) := by decide +kernel
theorem d_Ents_keepDraft_20 : decode b_Ents_keepDraft 20 = .ok (.aload_n 0, 1) := by decide +kernel
theorem d_Ents_keepDraft_21 : decode b_Ents_keepDraft 21 = .ok (.dup, 1) := by decide +kernel
theorem d_Ents_keepDraft_22 : decode b_Ents_keepDraft 22 = .ok (.getfield 25, 3) := by decide +kernel
theorem d_Ents_keepDraft_25 : decode b_Ents_keepDraft 25 = .ok (.aload_n 0, 1) := by decide +kernel
theorem d_Ents_keepDraft_26 : decode b_Ents_keepDraft 26 = .ok (.getfield 28, 3) := by decide +kernel
theorem d_Ents_keepDraft_29 : decode b_Ents_keepDraft 29 = .ok (.iadd, 1) := by decide +kernel
theorem d_Ents_keepDraft_30 : decode b_Ents_keepDraft 30 = .ok (.putfield 25, 3) := by decide +kernel
theorem d_Ents_keepDraft_33 : decode b_Ents_keepDraft 33 = .ok (.aload_n 0, 1) := by decide +kernel
theorem d_Ents_keepDraft_34 : decode b_Ents_keepDraft 34 = .ok (.dup, 1) := by decide +kernel
theorem d_Ents_keepDraft_35 : decode b_Ents_keepDraft 35 = .ok (.getfield 21, 3) := by decide +kernel
theorem d_Ents_keepDraft_38 : decode b_Ents_keepDraft 38 = .ok (.iconst 1, 1) := by decide +kernel
theorem d_Ents_keepDraft_39 : decode b_Ents_keepDraft 39 = .ok (.iadd, 1) := by decide +kernel
theorem d_Ents_keepDraft_40 : decode b_Ents_keepDraft 40 = .ok (.putfield 21, 3) := by decide +kernel
theorem d_Ents_keepDraft_43 : decode b_Ents_keepDraft 43 = .ok (.return_, 1) := by decide +kernel
