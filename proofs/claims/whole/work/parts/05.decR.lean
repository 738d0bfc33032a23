theorem d_Reader_init_0 : decode b_Reader_init 0 = .ok (.aload_n 0, 1) := by decide +kernel
theorem d_Reader_init_1 : decode b_Reader_init 1 = .ok (.invokespecial 3, 3) := by decide +kernel
theorem d_Reader_init_4 : decode b_Reader_init 4 = .ok (.aload_n 0, 1) := by decide +kernel
theorem d_Reader_init_5 : decode b_Reader_init 5 = .ok (.iconst 0, 1) := by decide +kernel
theorem d_Reader_init_6 : decode b_Reader_init 6 = .ok (.putfield 11, 3) := by decide +kernel
theorem d_Reader_init_9 : decode b_Reader_init 9 = .ok (.aload_n 0, 1) := by decide +kernel
theorem d_Reader_init_10 : decode b_Reader_init 10 = .ok (.iconst 0, 1) := by decide +kernel
theorem d_Reader_init_11 : decode b_Reader_init 11 = .ok (.putfield 15, 3) := by decide +kernel
theorem d_Reader_init_14 : decode b_Reader_init 14 = .ok (.aload_n 0, 1) := by decide +kernel
theorem d_Reader_init_15 : decode b_Reader_init 15 = .ok (.iconst 0, 1) := by decide +kernel
theorem d_Reader_init_16 : decode b_Reader_init 16 = .ok (.putfield 18, 3) := by decide +kernel
theorem d_Reader_init_19 : decode b_Reader_init 19 = .ok (.return_, 1) := by decide +kernel
theorem d_Reader_begin_0 : decode b_Reader_begin 0 = .ok (.aload_n 0, 1) := by decide +kernel
theorem d_Reader_begin_1 : decode b_Reader_begin 1 = .ok (.iconst 0, 1) := by decide +kernel
theorem d_Reader_begin_2 : decode b_Reader_begin 2 = .ok (.putfield 11, 3) := by decide +kernel
theorem d_Reader_begin_5 : decode b_Reader_begin 5 = .ok (.return_, 1) := by decide +kernel
theorem d_Reader_isWithin_0 : decode b_Reader_isWithin 0 = .ok (.aload_n 0, 1) := by decide +kernel
theorem d_Reader_isWithin_1 : decode b_Reader_isWithin 1 = .ok (.getfield 11, 3) := by decide +kernel
theorem d_Reader_isWithin_4 : decode b_Reader_isWithin 4 = .ok (.ifCond .eq 7, 3) := by decide +kernel
theorem d_Reader_isWithin_7 : decode b_Reader_isWithin 7 = .ok (.iconst 1, 1) := by decide +kernel
theorem d_Reader_isWithin_8 : decode b_Reader_isWithin 8 = .ok (.goto 4, 3) := by decide +kernel
theorem d_Reader_isWithin_11 : decode b_Reader_isWithin 11 = .ok (.iconst 0, 1) := by decide +kernel
theorem d_Reader_isWithin_12 : decode b_Reader_isWithin 12 = .ok (.ireturn, 1) := by decide +kernel
theorem d_Reader_read_0 : decode b_Reader_read 0 = .ok (.aload_n 0, 1) := by decide +kernel
theorem d_Reader_read_1 : decode b_Reader_read 1 = .ok (.getfield 11, 3) := by decide +kernel
theorem d_Reader_read_4 : decode b_Reader_read 4 = .ok (.tableswitch 140 1 6 #[40, 46, 62, 85, 107, 117], 40) := by decide +kernel
theorem d_Reader_read_44 : decode b_Reader_read 44 = .ok (.aload_n 0, 1) := by decide +kernel
theorem d_Reader_read_45 : decode b_Reader_read 45 = .ok (.iload_n 1, 1) := by decide +kernel
theorem d_Reader_read_46 : decode b_Reader_read 46 = .ok (.invokevirtual 21, 3) := by decide +kernel
theorem d_Reader_read_49 : decode b_Reader_read 49 = .ok (.ireturn, 1) := by decide +kernel
theorem d_Reader_read_50 : decode b_Reader_read 50 = .ok (.iload_n 1, 1) := by decide +kernel
theorem d_Reader_read_51 : decode b_Reader_read 51 = .ok (.bipush 59, 2) := by decide +kernel
theorem d_Reader_read_53 : decode b_Reader_read 53 = .ok (.if_icmp .ne 11, 3) := by decide +kernel
theorem d_Reader_read_56 : decode b_Reader_read 56 = .ok (.aload_n 0, 1) := by decide +kernel
theorem d_Reader_read_57 : decode b_Reader_read 57 = .ok (.iconst 3, 1) := by decide +kernel
theorem d_Reader_read_58 : decode b_Reader_read 58 = .ok (.invokevirtual 25, 3) := by decide +kernel
theorem d_Reader_read_61 : decode b_Reader_read 61 = .ok (.goto 4, 3) := by decide +kernel
theorem d_Reader_read_64 : decode b_Reader_read 64 = .ok (.iconst 5, 1) := by decide +kernel
theorem d_Reader_read_65 : decode b_Reader_read 65 = .ok (.ireturn, 1) := by decide +kernel
theorem d_Reader_read_66 : decode b_Reader_read 66 = .ok (.iload_n 1, 1) := by decide +kernel
theorem d_Reader_read_67 : decode b_Reader_read 67 = .ok (.bipush 120, 2) := by decide +kernel
theorem d_Reader_read_69 : decode b_Reader_read 69 = .ok (.if_icmp .ne 11, 3) := by decide +kernel
theorem d_Reader_read_72 : decode b_Reader_read 72 = .ok (.aload_n 0, 1) := by decide +kernel
theorem d_Reader_read_73 : decode b_Reader_read 73 = .ok (.iconst 5, 1) := by decide +kernel
theorem d_Reader_read_74 : decode b_Reader_read 74 = .ok (.invokevirtual 28, 3) := by decide +kernel
theorem d_Reader_read_77 : decode b_Reader_read 77 = .ok (.goto 11, 3) := by decide +kernel
theorem d_Reader_read_80 : decode b_Reader_read 80 = .ok (.aload_n 0, 1) := by decide +kernel
theorem d_Reader_read_81 : decode b_Reader_read 81 = .ok (.iload_n 1, 1) := by decide +kernel
theorem d_Reader_read_82 : decode b_Reader_read 82 = .ok (.bipush 10, 2) := by decide +kernel
theorem d_Reader_read_84 : decode b_Reader_read 84 = .ok (.iconst 4, 1) := by decide +kernel
theorem d_Reader_read_85 : decode b_Reader_read 85 = .ok (.invokevirtual 31, 3) := by decide +kernel
theorem d_Reader_read_88 : decode b_Reader_read 88 = .ok (.ireturn, 1) := by decide +kernel
theorem d_Reader_read_89 : decode b_Reader_read 89 = .ok (.iload_n 1, 1) := by decide +kernel
theorem d_Reader_read_90 : decode b_Reader_read 90 = .ok (.bipush 59, 2) := by decide +kernel
theorem d_Reader_read_92 : decode b_Reader_read 92 = .ok (.if_icmp .ne 10, 3) := by decide +kernel
theorem d_Reader_read_95 : decode b_Reader_read 95 = .ok (.aload_n 0, 1) := by decide +kernel
theorem d_Reader_read_96 : decode b_Reader_read 96 = .ok (.invokevirtual 35, 3) := by decide +kernel
theorem d_Reader_read_99 : decode b_Reader_read 99 = .ok (.goto 11, 3) := by decide +kernel
theorem d_Reader_read_102 : decode b_Reader_read 102 = .ok (.aload_n 0, 1) := by decide +kernel
theorem d_Reader_read_103 : decode b_Reader_read 103 = .ok (.iload_n 1, 1) := by decide +kernel
theorem d_Reader_read_104 : decode b_Reader_read 104 = .ok (.bipush 10, 2) := by decide +kernel
theorem d_Reader_read_106 : decode b_Reader_read 106 = .ok (.iconst 4, 1) := by decide +kernel
theorem d_Reader_read_107 : decode b_Reader_read 107 = .ok (.invokevirtual 31, 3) := by decide +kernel
theorem d_Reader_read_110 : decode b_Reader_read 110 = .ok (.ireturn, 1) := by decide +kernel
theorem d_Reader_read_111 : decode b_Reader_read 111 = .ok (.aload_n 0, 1) := by decide +kernel
theorem d_Reader_read_112 : decode b_Reader_read 112 = .ok (.iload_n 1, 1) := by decide +kernel
theorem d_Reader_read_113 : decode b_Reader_read 113 = .ok (.bipush 16, 2) := by decide +kernel
theorem d_Reader_read_115 : decode b_Reader_read 115 = .ok (.bipush 6, 2) := by decide +kernel
theorem d_Reader_read_117 : decode b_Reader_read 117 = .ok (.invokevirtual 31, 3) := by decide +kernel
theorem d_Reader_read_120 : decode b_Reader_read 120 = .ok (.ireturn, 1) := by decide +kernel
theorem d_Reader_read_121 : decode b_Reader_read 121 = .ok (.iload_n 1, 1) := by decide +kernel
theorem d_Reader_read_122 : decode b_Reader_read 122 = .ok (.bipush 59, 2) := by decide +kernel
theorem d_Reader_read_124 : decode b_Reader_read 124 = .ok (.if_icmp .ne 10, 3) := by decide +kernel
theorem d_Reader_read_127 : decode b_Reader_read 127 = .ok (.aload_n 0, 1) := by decide +kernel
theorem d_Reader_read_128 : decode b_Reader_read 128 = .ok (.invokevirtual 35, 3) := by decide +kernel
theorem d_Reader_read_131 : decode b_Reader_read 131 = .ok (.goto 12, 3) := by decide +kernel
theorem d_Reader_read_134 : decode b_Reader_read 134 = .ok (.aload_n 0, 1) := by decide +kernel
theorem d_Reader_read_135 : decode b_Reader_read 135 = .ok (.iload_n 1, 1) := by decide +kernel
theorem d_Reader_read_136 : decode b_Reader_read 136 = .ok (.bipush 16, 2) := by decide +kernel
theorem d_Reader_read_138 : decode b_Reader_read 138 = .ok (.bipush 6, 2) := by decide +kernel
theorem d_Reader_read_140 : decode b_Reader_read 140 = .ok (.invokevirtual 31, 3) := by decide +kernel
theorem d_Reader_read_143 : decode b_Reader_read 143 = .ok (.ireturn, 1) := by decide +kernel
theorem d_Reader_read_144 : decode b_Reader_read 144 = .ok (.iload_n 1, 1) := by decide +kernel
theorem d_Reader_read_145 : decode b_Reader_read 145 = .ok (.bipush 38, 2) := by decide +kernel
theorem d_Reader_read_147 : decode b_Reader_read 147 = .ok (.if_icmp .ne 11, 3) := by decide +kernel
theorem d_Reader_read_150 : decode b_Reader_read 150 = .ok (.aload_n 0, 1) := by decide +kernel
theorem d_Reader_read_151 : decode b_Reader_read 151 = .ok (.iconst 1, 1) := by decide +kernel
theorem d_Reader_read_152 : decode b_Reader_read 152 = .ok (.invokevirtual 28, 3) := by decide +kernel
theorem d_Reader_read_155 : decode b_Reader_read 155 = .ok (.goto 4, 3) := by decide +kernel
theorem d_Reader_read_158 : decode b_Reader_read 158 = .ok (.iconst 0, 1) := by decide +kernel
theorem d_Reader_read_159 : decode b_Reader_read 159 = .ok (.ireturn, 1) := by decide +kernel
theorem d_Reader_readBehindAmpersand_0 : decode b_Reader_readBehindAmpersand 0 = .ok (.iload_n 1, 1) := by decide +kernel
theorem d_Reader_readBehindAmpersand_1 : decode b_Reader_readBehindAmpersand 1 = .ok (.bipush 35, 2) := by decide +kernel
theorem d_Reader_readBehindAmpersand_3 : decode b_Reader_readBehindAmpersand 3 = .ok (.if_icmp .ne 14, 3) := by decide +kernel
theorem d_Reader_readBehindAmpersand_6 : decode b_Reader_readBehindAmpersand 6 = .ok (.aload_n 0, 1) := by decide +kernel
theorem d_Reader_readBehindAmpersand_7 : decode b_Reader_readBehindAmpersand 7 = .ok (.iconst 0, 1) := by decide +kernel
theorem d_Reader_readBehindAmpersand_8 : decode b_Reader_readBehindAmpersand 8 = .ok (.putfield 18, 3) := by decide +kernel
theorem d_Reader_readBehindAmpersand_11 : decode b_Reader_readBehindAmpersand 11 = .ok (.aload_n 0, 1) := by decide +kernel
theorem d_Reader_readBehindAmpersand_12 : decode b_Reader_readBehindAmpersand 12 = .ok (.iconst 3, 1) := by decide +kernel
theorem d_Reader_readBehindAmpersand_13 : decode b_Reader_readBehindAmpersand 13 = .ok (.invokevirtual 28, 3) := by decide +kernel
theorem d_Reader_readBehindAmpersand_16 : decode b_Reader_readBehindAmpersand 16 = .ok (.ireturn, 1) := by decide +kernel
theorem d_Reader_readBehindAmpersand_17 : decode b_Reader_readBehindAmpersand 17 = .ok (.iload_n 1, 1) := by decide +kernel
theorem d_Reader_readBehindAmpersand_18 : decode b_Reader_readBehindAmpersand 18 = .ok (.bipush 97, 2) := by decide +kernel
theorem d_Reader_readBehindAmpersand_20 : decode b_Reader_readBehindAmpersand 20 = .ok (.if_icmp .lt 23, 3) := by decide +kernel
theorem d_Reader_readBehindAmpersand_23 : decode b_Reader_readBehindAmpersand 23 = .ok (.iload_n 1, 1) := by decide +kernel
theorem d_Reader_readBehindAmpersand_24 : decode b_Reader_readBehindAmpersand 24 = .ok (.bipush 122, 2) := by decide +kernel
theorem d_Reader_readBehindAmpersand_26 : decode b_Reader_readBehindAmpersand 26 = .ok (.if_icmp .gt 17, 3) := by decide +kernel
theorem d_Reader_readBehindAmpersand_29 : decode b_Reader_readBehindAmpersand 29 = .ok (.aload_n 0, 1) := by decide +kernel
theorem d_Reader_readBehindAmpersand_30 : decode b_Reader_readBehindAmpersand 30 = .ok (.iload_n 1, 1) := by decide +kernel
theorem d_Reader_readBehindAmpersand_31 : decode b_Reader_readBehindAmpersand 31 = .ok (.bipush 97, 2) := by decide +kernel
theorem d_Reader_readBehindAmpersand_33 : decode b_Reader_readBehindAmpersand 33 = .ok (.isub, 1) := by decide +kernel
theorem d_Reader_readBehindAmpersand_34 : decode b_Reader_readBehindAmpersand 34 = .ok (.putfield 15, 3) := by decide +kernel
theorem d_Reader_readBehindAmpersand_37 : decode b_Reader_readBehindAmpersand 37 = .ok (.aload_n 0, 1) := by decide +kernel
theorem d_Reader_readBehindAmpersand_38 : decode b_Reader_readBehindAmpersand 38 = .ok (.iconst 2, 1) := by decide +kernel
theorem d_Reader_readBehindAmpersand_39 : decode b_Reader_readBehindAmpersand 39 = .ok (.invokevirtual 28, 3) := by decide +kernel
theorem d_Reader_readBehindAmpersand_42 : decode b_Reader_readBehindAmpersand 42 = .ok (.ireturn, 1) := by decide +kernel
theorem d_Reader_readBehindAmpersand_43 : decode b_Reader_readBehindAmpersand 43 = .ok (.iconst 5, 1) := by decide +kernel
theorem d_Reader_readBehindAmpersand_44 : decode b_Reader_readBehindAmpersand 44 = .ok (.ireturn, 1) := by decide +kernel
theorem d_Reader_readDigit_0 : decode b_Reader_readDigit 0 = .ok (.iload_n 1, 1) := by decide +kernel
theorem d_Reader_readDigit_1 : decode b_Reader_readDigit 1 = .ok (.invokestatic 39, 3) := by decide +kernel
theorem d_Reader_readDigit_4 : decode b_Reader_readDigit 4 = .ok (.istore 4, 2) := by decide +kernel
theorem d_Reader_readDigit_6 : decode b_Reader_readDigit 6 = .ok (.iload 4, 2) := by decide +kernel
theorem d_Reader_readDigit_8 : decode b_Reader_readDigit 8 = .ok (.ifCond .lt 9, 3) := by decide +kernel
theorem d_Reader_readDigit_11 : decode b_Reader_readDigit 11 = .ok (.iload 4, 2) := by decide +kernel
theorem d_Reader_readDigit_13 : decode b_Reader_readDigit 13 = .ok (.iload_n 2, 1) := by decide +kernel
theorem d_Reader_readDigit_14 : decode b_Reader_readDigit 14 = .ok (.if_icmp .lt 5, 3) := by decide +kernel
theorem d_Reader_readDigit_17 : decode b_Reader_readDigit 17 = .ok (.iconst 5, 1) := by decide +kernel
theorem d_Reader_readDigit_18 : decode b_Reader_readDigit 18 = .ok (.ireturn, 1) := by decide +kernel
theorem d_Reader_readDigit_19 : decode b_Reader_readDigit 19 = .ok (.aload_n 0, 1) := by decide +kernel
theorem d_Reader_readDigit_20 : decode b_Reader_readDigit 20 = .ok (.aload_n 0, 1) := by decide +kernel
theorem d_Reader_readDigit_21 : decode b_Reader_readDigit 21 = .ok (.getfield 18, 3) := by decide +kernel
theorem d_Reader_readDigit_24 : decode b_Reader_readDigit 24 = .ok (.iload_n 2, 1) := by decide +kernel
theorem d_Reader_readDigit_25 : decode b_Reader_readDigit 25 = .ok (.imul, 1) := by decide +kernel
theorem d_Reader_readDigit_26 : decode b_Reader_readDigit 26 = .ok (.iload 4, 2) := by decide +kernel
theorem d_Reader_readDigit_28 : decode b_Reader_readDigit 28 = .ok (.iadd, 1) := by decide +kernel
theorem d_Reader_readDigit_29 : decode b_Reader_readDigit 29 = .ok (.sipush 256, 3) := by decide +kernel
theorem d_Reader_readDigit_32 : decode b_Reader_readDigit 32 = .ok (.invokestatic 42, 3) := by decide +kernel
theorem d_Reader_readDigit_35 : decode b_Reader_readDigit 35 = .ok (.putfield 18, 3) := by decide +kernel
theorem d_Reader_readDigit_38 : decode b_Reader_readDigit 38 = .ok (.aload_n 0, 1) := by decide +kernel
theorem d_Reader_readDigit_39 : decode b_Reader_readDigit 39 = .ok (.iload_n 3, 1) := by decide +kernel
theorem d_Reader_readDigit_40 : decode b_Reader_readDigit 40 = .ok (.invokevirtual 28, 3) := by decide +kernel
theorem d_Reader_readDigit_43 : decode b_Reader_readDigit 43 = .ok (.ireturn, 1) := by decide +kernel
theorem d_Reader_valueOf_0 : decode b_Reader_valueOf 0 = .ok (.iload_n 0, 1) := by decide +kernel
theorem d_Reader_valueOf_1 : decode b_Reader_valueOf 1 = .ok (.bipush 48, 2) := by decide +kernel
theorem d_Reader_valueOf_3 : decode b_Reader_valueOf 3 = .ok (.if_icmp .lt 14, 3) := by decide +kernel
theorem d_Reader_valueOf_6 : decode b_Reader_valueOf 6 = .ok (.iload_n 0, 1) := by decide +kernel
theorem d_Reader_valueOf_7 : decode b_Reader_valueOf 7 = .ok (.bipush 57, 2) := by decide +kernel
theorem d_Reader_valueOf_9 : decode b_Reader_valueOf 9 = .ok (.if_icmp .gt 8, 3) := by decide +kernel
theorem d_Reader_valueOf_12 : decode b_Reader_valueOf 12 = .ok (.iload_n 0, 1) := by decide +kernel
theorem d_Reader_valueOf_13 : decode b_Reader_valueOf 13 = .ok (.bipush 48, 2) := by decide +kernel
theorem d_Reader_valueOf_15 : decode b_Reader_valueOf 15 = .ok (.isub, 1) := by decide +kernel
theorem d_Reader_valueOf_16 : decode b_Reader_valueOf 16 = .ok (.ireturn, 1) := by decide +kernel
theorem d_Reader_valueOf_17 : decode b_Reader_valueOf 17 = .ok (.iload_n 0, 1) := by decide +kernel
theorem d_Reader_valueOf_18 : decode b_Reader_valueOf 18 = .ok (.bipush 97, 2) := by decide +kernel
theorem d_Reader_valueOf_20 : decode b_Reader_valueOf 20 = .ok (.if_icmp .lt 17, 3) := by decide +kernel
theorem d_Reader_valueOf_23 : decode b_Reader_valueOf 23 = .ok (.iload_n 0, 1) := by decide +kernel
theorem d_Reader_valueOf_24 : decode b_Reader_valueOf 24 = .ok (.bipush 102, 2) := by decide +kernel
theorem d_Reader_valueOf_26 : decode b_Reader_valueOf 26 = .ok (.if_icmp .gt 11, 3) := by decide +kernel
theorem d_Reader_valueOf_29 : decode b_Reader_valueOf 29 = .ok (.iload_n 0, 1) := by decide +kernel
theorem d_Reader_valueOf_30 : decode b_Reader_valueOf 30 = .ok (.bipush 97, 2) := by decide +kernel
theorem d_Reader_valueOf_32 : decode b_Reader_valueOf 32 = .ok (.isub, 1) := by decide +kernel
theorem d_Reader_valueOf_33 : decode b_Reader_valueOf 33 = .ok (.bipush 10, 2) := by decide +kernel
theorem d_Reader_valueOf_35 : decode b_Reader_valueOf 35 = .ok (.iadd, 1) := by decide +kernel
theorem d_Reader_valueOf_36 : decode b_Reader_valueOf 36 = .ok (.ireturn, 1) := by decide +kernel
theorem d_Reader_valueOf_37 : decode b_Reader_valueOf 37 = .ok (.iload_n 0, 1) := by decide +kernel
theorem d_Reader_valueOf_38 : decode b_Reader_valueOf 38 = .ok (.bipush 65, 2) := by decide +kernel
theorem d_Reader_valueOf_40 : decode b_Reader_valueOf 40 = .ok (.if_icmp .lt 17, 3) := by decide +kernel
theorem d_Reader_valueOf_43 : decode b_Reader_valueOf 43 = .ok (.iload_n 0, 1) := by decide +kernel
theorem d_Reader_valueOf_44 : decode b_Reader_valueOf 44 = .ok (.bipush 70, 2) := by decide +kernel
theorem d_Reader_valueOf_46 : decode b_Reader_valueOf 46 = .ok (.if_icmp .gt 11, 3) := by decide +kernel
theorem d_Reader_valueOf_49 : decode b_Reader_valueOf 49 = .ok (.iload_n 0, 1) := by decide +kernel
theorem d_Reader_valueOf_50 : decode b_Reader_valueOf 50 = .ok (.bipush 65, 2) := by decide +kernel
theorem d_Reader_valueOf_52 : decode b_Reader_valueOf 52 = .ok (.isub, 1) := by decide +kernel
theorem d_Reader_valueOf_53 : decode b_Reader_valueOf 53 = .ok (.bipush 10, 2) := by decide +kernel
theorem d_Reader_valueOf_55 : decode b_Reader_valueOf 55 = .ok (.iadd, 1) := by decide +kernel
theorem d_Reader_valueOf_56 : decode b_Reader_valueOf 56 = .ok (.ireturn, 1) := by decide +kernel
theorem d_Reader_valueOf_57 : decode b_Reader_valueOf 57 = .ok (.iconst (-1), 1) := by decide +kernel
theorem d_Reader_valueOf_58 : decode b_Reader_valueOf 58 = .ok (.ireturn, 1) := by decide +kernel
theorem d_Reader_mayBe_0 : decode b_Reader_mayBe 0 = .ok (.iload_n 0, 1) := by decide +kernel
theorem d_Reader_mayBe_1 : decode b_Reader_mayBe 1 = .ok (.bipush 9, 2) := by decide +kernel
theorem d_Reader_mayBe_3 : decode b_Reader_mayBe 3 = .ok (.if_icmp .eq 28, 3) := by decide +kernel
theorem d_Reader_mayBe_6 : decode b_Reader_mayBe 6 = .ok (.iload_n 0, 1) := by decide +kernel
theorem d_Reader_mayBe_7 : decode b_Reader_mayBe 7 = .ok (.bipush 10, 2) := by decide +kernel
theorem d_Reader_mayBe_9 : decode b_Reader_mayBe 9 = .ok (.if_icmp .eq 22, 3) := by decide +kernel
theorem d_Reader_mayBe_12 : decode b_Reader_mayBe 12 = .ok (.iload_n 0, 1) := by decide +kernel
theorem d_Reader_mayBe_13 : decode b_Reader_mayBe 13 = .ok (.bipush 13, 2) := by decide +kernel
theorem d_Reader_mayBe_15 : decode b_Reader_mayBe 15 = .ok (.if_icmp .eq 16, 3) := by decide +kernel
theorem d_Reader_mayBe_18 : decode b_Reader_mayBe 18 = .ok (.iload_n 0, 1) := by decide +kernel
theorem d_Reader_mayBe_19 : decode b_Reader_mayBe 19 = .ok (.bipush 32, 2) := by decide +kernel
theorem d_Reader_mayBe_21 : decode b_Reader_mayBe 21 = .ok (.if_icmp .lt 14, 3) := by decide +kernel
theorem d_Reader_mayBe_24 : decode b_Reader_mayBe 24 = .ok (.iload_n 0, 1) := by decide +kernel
theorem d_Reader_mayBe_25 : decode b_Reader_mayBe 25 = .ok (.sipush 255, 3) := by decide +kernel
theorem d_Reader_mayBe_28 : decode b_Reader_mayBe 28 = .ok (.if_icmp .gt 7, 3) := by decide +kernel
theorem d_Reader_mayBe_31 : decode b_Reader_mayBe 31 = .ok (.iconst 1, 1) := by decide +kernel
theorem d_Reader_mayBe_32 : decode b_Reader_mayBe 32 = .ok (.goto 4, 3) := by decide +kernel
theorem d_Reader_mayBe_35 : decode b_Reader_mayBe 35 = .ok (.iconst 0, 1) := by decide +kernel
theorem d_Reader_mayBe_36 : decode b_Reader_mayBe 36 = .ok (.ireturn, 1) := by decide +kernel
theorem d_Reader_finishNumber_0 : decode b_Reader_finishNumber 0 = .ok (.aload_n 0, 1) := by decide +kernel
theorem d_Reader_finishNumber_1 : decode b_Reader_finishNumber 1 = .ok (.aload_n 0, 1) := by decide +kernel
theorem d_Reader_finishNumber_2 : decode b_Reader_finishNumber 2 = .ok (.getfield 18, 3) := by decide +kernel
theorem d_Reader_finishNumber_5 : decode b_Reader_finishNumber 5 = .ok (.invokestatic 48, 3) := by decide +kernel
theorem d_Reader_finishNumber_8 : decode b_Reader_finishNumber 8 = .ok (.ifCond .eq 7, 3) := by decide +kernel
theorem d_Reader_finishNumber_11 : decode b_Reader_finishNumber 11 = .ok (.iconst 2, 1) := by decide +kernel
theorem d_Reader_finishNumber_12 : decode b_Reader_finishNumber 12 = .ok (.goto 4, 3) := by decide +kernel
theorem d_Reader_finishNumber_15 : decode b_Reader_finishNumber 15 = .ok (.iconst 4, 1) := by decide +kernel
theorem d_Reader_finishNumber_16 : decode b_Reader_finishNumber 16 = .ok (.invokevirtual 25, 3) := by decide +kernel
theorem d_Reader_finishNumber_19 : decode b_Reader_finishNumber 19 = .ok (.ireturn, 1) := by decide +kernel
theorem d_Reader_goOn_0 : decode b_Reader_goOn 0 = .ok (.aload_n 0, 1) := by decide +kernel
theorem d_Reader_goOn_1 : decode b_Reader_goOn 1 = .ok (.iload_n 1, 1) := by decide +kernel
theorem d_Reader_goOn_2 : decode b_Reader_goOn 2 = .ok (.putfield 11, 3) := by decide +kernel
theorem d_Reader_goOn_5 : decode b_Reader_goOn 5 = .ok (.iconst 1, 1) := by decide +kernel
theorem d_Reader_goOn_6 : decode b_Reader_goOn 6 = .ok (.ireturn, 1) := by decide +kernel
theorem d_Reader_finish_0 : decode b_Reader_finish 0 = .ok (.aload_n 0, 1) := by decide +kernel
theorem d_Reader_finish_1 : decode b_Reader_finish 1 = .ok (.iconst 0, 1) := by decide +kernel
theorem d_Reader_finish_2 : decode b_Reader_finish 2 = .ok (.putfield 11, 3) := by decide +kernel
theorem d_Reader_finish_5 : decode b_Reader_finish 5 = .ok (.iload_n 1, 1) := by decide +kernel
theorem d_Reader_finish_6 : decode b_Reader_finish 6 = .ok (.ireturn, 1) := by decide +kernel
