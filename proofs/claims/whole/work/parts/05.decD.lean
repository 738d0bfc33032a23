theorem d_Desk_init_0 : decode b_Desk_init 0 = .ok (.aload_n 0, 1) := by decide +kernel
theorem d_Desk_init_1 : decode b_Desk_init 1 = .ok (.invokespecial 1, 3) := by decide +kernel
theorem d_Desk_init_4 : decode b_Desk_init 4 = .ok (.aload_n 0, 1) := by decide +kernel
theorem d_Desk_init_5 : decode b_Desk_init 5 = .ok (.sipush 400, 3) := by decide +kernel
theorem d_Desk_init_8 : decode b_Desk_init 8 = .ok (.newarray .int, 2) := by decide +kernel
theorem d_Desk_init_10 : decode b_Desk_init 10 = .ok (.putfield 9, 3) := by decide +kernel
theorem d_Desk_init_13 : decode b_Desk_init 13 = .ok (.aload_n 0, 1) := by decide +kernel
theorem d_Desk_init_14 : decode b_Desk_init 14 = .ok (.iconst 0, 1) := by decide +kernel
theorem d_Desk_init_15 : decode b_Desk_init 15 = .ok (.putfield 13, 3) := by decide +kernel
theorem d_Desk_init_18 : decode b_Desk_init 18 = .ok (.aload_n 0, 1) := by decide +kernel
theorem d_Desk_init_19 : decode b_Desk_init 19 = .ok (.new 17, 3) := by decide +kernel
theorem d_Desk_init_22 : decode b_Desk_init 22 = .ok (.dup, 1) := by decide +kernel
theorem d_Desk_init_23 : decode b_Desk_init 23 = .ok (.invokespecial 19, 3) := by decide +kernel
theorem d_Desk_init_26 : decode b_Desk_init 26 = .ok (.putfield 20, 3) := by decide +kernel
theorem d_Desk_init_29 : decode b_Desk_init 29 = .ok (.aload_n 0, 1) := by decide +kernel
theorem d_Desk_init_30 : decode b_Desk_init 30 = .ok (.new 24, 3) := by decide +kernel
theorem d_Desk_init_33 : decode b_Desk_init 33 = .ok (.dup, 1) := by decide +kernel
theorem d_Desk_init_34 : decode b_Desk_init 34 = .ok (.invokespecial 26, 3) := by decide +kernel
theorem d_Desk_init_37 : decode b_Desk_init 37 = .ok (.putfield 27, 3) := by decide +kernel
theorem d_Desk_init_40 : decode b_Desk_init 40 = .ok (.aload_n 0, 1) := by decide +kernel
theorem d_Desk_init_41 : decode b_Desk_init 41 = .ok (.iconst 0, 1) := by decide +kernel
theorem d_Desk_init_42 : decode b_Desk_init 42 = .ok (.putfield 31, 3) := by decide +kernel
theorem d_Desk_init_45 : decode b_Desk_init 45 = .ok (.aload_n 0, 1) := by decide +kernel
theorem d_Desk_init_46 : decode b_Desk_init 46 = .ok (.iconst (-1), 1) := by decide +kernel
theorem d_Desk_init_47 : decode b_Desk_init 47 = .ok (.putfield 34, 3) := by decide +kernel
theorem d_Desk_init_50 : decode b_Desk_init 50 = .ok (.aload_n 0, 1) := by decide +kernel
theorem d_Desk_init_51 : decode b_Desk_init 51 = .ok (.iconst 0, 1) := by decide +kernel
theorem d_Desk_init_52 : decode b_Desk_init 52 = .ok (.putfield 37, 3) := by decide +kernel
theorem d_Desk_init_55 : decode b_Desk_init 55 = .ok (.aload_n 0, 1) := by decide +kernel
theorem d_Desk_init_56 : decode b_Desk_init 56 = .ok (.sipush 3000, 3) := by decide +kernel
theorem d_Desk_init_59 : decode b_Desk_init 59 = .ok (.newarray .int, 2) := by decide +kernel
theorem d_Desk_init_61 : decode b_Desk_init 61 = .ok (.putfield 40, 3) := by decide +kernel
theorem d_Desk_init_64 : decode b_Desk_init 64 = .ok (.aload_n 0, 1) := by decide +kernel
theorem d_Desk_init_65 : decode b_Desk_init 65 = .ok (.iconst 0, 1) := by decide +kernel
theorem d_Desk_init_66 : decode b_Desk_init 66 = .ok (.putfield 43, 3) := by decide +kernel
theorem d_Desk_init_69 : decode b_Desk_init 69 = .ok (.aload_n 0, 1) := by decide +kernel
theorem d_Desk_init_70 : decode b_Desk_init 70 = .ok (.bipush 26, 2) := by decide +kernel
theorem d_Desk_init_72 : decode b_Desk_init 72 = .ok (.newarray .boolean, 2) := by decide +kernel
theorem d_Desk_init_74 : decode b_Desk_init 74 = .ok (.putfield 46, 3) := by decide +kernel
theorem d_Desk_init_77 : decode b_Desk_init 77 = .ok (.aload_n 0, 1) := by decide +kernel
theorem d_Desk_init_78 : decode b_Desk_init 78 = .ok (.iconst 0, 1) := by decide +kernel
theorem d_Desk_init_79 : decode b_Desk_init 79 = .ok (.putfield 50, 3) := by decide +kernel
theorem d_Desk_init_82 : decode b_Desk_init 82 = .ok (.aload_n 0, 1) := by decide +kernel
theorem d_Desk_init_83 : decode b_Desk_init 83 = .ok (.iconst 0, 1) := by decide +kernel
theorem d_Desk_init_84 : decode b_Desk_init 84 = .ok (.putfield 53, 3) := by decide +kernel
theorem d_Desk_init_87 : decode b_Desk_init 87 = .ok (.aload_n 0, 1) := by decide +kernel
theorem d_Desk_init_88 : decode b_Desk_init 88 = .ok (.iconst 0, 1) := by decide +kernel
theorem d_Desk_init_89 : decode b_Desk_init 89 = .ok (.putfield 56, 3) := by decide +kernel
theorem d_Desk_init_92 : decode b_Desk_init 92 = .ok (.aload_n 0, 1) := by decide +kernel
theorem d_Desk_init_93 : decode b_Desk_init 93 = .ok (.iconst 0, 1) := by decide +kernel
theorem d_Desk_init_94 : decode b_Desk_init 94 = .ok (.putfield 59, 3) := by decide +kernel
theorem d_Desk_init_97 : decode b_Desk_init 97 = .ok (.return_, 1) := by decide +kernel
theorem d_Desk_put_0 : decode b_Desk_put 0 = .ok (.iload_n 3, 1) := by decide +kernel
theorem d_Desk_put_1 : decode b_Desk_put 1 = .ok (.iconst 1, 1) := by decide +kernel
theorem d_Desk_put_2 : decode b_Desk_put 2 = .ok (.if_icmp .lt 21, 3) := by decide +kernel
theorem d_Desk_put_5 : decode b_Desk_put 5 = .ok (.iload_n 3, 1) := by decide +kernel
theorem d_Desk_put_6 : decode b_Desk_put 6 = .ok (.bipush 8, 2) := by decide +kernel
theorem d_Desk_put_8 : decode b_Desk_put 8 = .ok (.if_icmp .gt 15, 3) := by decide +kernel
theorem d_Desk_put_11 : decode b_Desk_put 11 = .ok (.aload_n 0, 1) := by decide +kernel
theorem d_Desk_put_12 : decode b_Desk_put 12 = .ok (.getfield 13, 3) := by decide +kernel
theorem d_Desk_put_15 : decode b_Desk_put 15 = .ok (.iload_n 3, 1) := by decide +kernel
theorem d_Desk_put_16 : decode b_Desk_put 16 = .ok (.iadd, 1) := by decide +kernel
theorem d_Desk_put_17 : decode b_Desk_put 17 = .ok (.sipush 400, 3) := by decide +kernel
theorem d_Desk_put_20 : decode b_Desk_put 20 = .ok (.if_icmp .le 5, 3) := by decide +kernel
theorem d_Desk_put_23 : decode b_Desk_put 23 = .ok (.iconst 0, 1) := by decide +kernel
theorem d_Desk_put_24 : decode b_Desk_put 24 = .ok (.ireturn, 1) := by decide +kernel
theorem d_Desk_put_25 : decode b_Desk_put 25 = .ok (.iload_n 3, 1) := by decide +kernel
theorem d_Desk_put_26 : decode b_Desk_put 26 = .ok (.iconst 1, 1) := by decide +kernel
theorem d_Desk_put_27 : decode b_Desk_put 27 = .ok (.isub, 1) := by decide +kernel
theorem d_Desk_put_28 : decode b_Desk_put 28 = .ok (.istore 4, 2) := by decide +kernel
theorem d_Desk_put_30 : decode b_Desk_put 30 = .ok (.iload 4, 2) := by decide +kernel
theorem d_Desk_put_32 : decode b_Desk_put 32 = .ok (.ifCond .lt 40, 3) := by decide +kernel
theorem d_Desk_put_35 : decode b_Desk_put 35 = .ok (.aload_n 0, 1) := by decide +kernel
theorem d_Desk_put_36 : decode b_Desk_put 36 = .ok (.getfield 9, 3) := by decide +kernel
theorem d_Desk_put_39 : decode b_Desk_put 39 = .ok (.aload_n 0, 1) := by decide +kernel
theorem d_Desk_put_40 : decode b_Desk_put 40 = .ok (.getfield 13, 3) := by decide +kernel
theorem d_Desk_put_43 : decode b_Desk_put 43 = .ok (.lload_n 1, 1) := by decide +kernel
theorem d_Desk_put_44 : decode b_Desk_put 44 = .ok (.bipush 8, 2) := by decide +kernel
theorem d_Desk_put_46 : decode b_Desk_put 46 = .ok (.iload 4, 2) := by decide +kernel
theorem d_Desk_put_48 : decode b_Desk_put 48 = .ok (.imul, 1) := by decide +kernel
theorem d_Desk_put_49 : decode b_Desk_put 49 = .ok (.lushr, 1) := by decide +kernel
theorem d_Desk_put_50 : decode b_Desk_put 50 = .ok (.l2i, 1) := by decide +kernel
theorem d_Desk_put_51 : decode b_Desk_put 51 = .ok (.sipush 255, 3) := by decide +kernel
theorem d_Desk_put_54 : decode b_Desk_put 54 = .ok (.iand, 1) := by decide +kernel
theorem d_Desk_put_55 : decode b_Desk_put 55 = .ok (.iastore, 1) := by decide +kernel
theorem d_Desk_put_56 : decode b_Desk_put 56 = .ok (.aload_n 0, 1) := by decide +kernel
theorem d_Desk_put_57 : decode b_Desk_put 57 = .ok (.dup, 1) := by decide +kernel
theorem d_Desk_put_58 : decode b_Desk_put 58 = .ok (.getfield 13, 3) := by decide +kernel
theorem d_Desk_put_61 : decode b_Desk_put 61 = .ok (.iconst 1, 1) := by decide +kernel
theorem d_Desk_put_62 : decode b_Desk_put 62 = .ok (.iadd, 1) := by decide +kernel
theorem d_Desk_put_63 : decode b_Desk_put 63 = .ok (.putfield 13, 3) := by decide +kernel
theorem d_Desk_put_66 : decode b_Desk_put 66 = .ok (.iinc 4 (-1), 3) := by decide +kernel
theorem d_Desk_put_69 : decode b_Desk_put 69 = .ok (.goto (-39), 3) := by decide +kernel
theorem d_Desk_put_72 : decode b_Desk_put 72 = .ok (.iconst 1, 1) := by decide +kernel
theorem d_Desk_put_73 : decode b_Desk_put 73 = .ok (.ireturn, 1) := by decide +kernel
theorem d_Desk_declare_0 : decode b_Desk_declare 0 = .ok (.iload_n 1, 1) := by decide +kernel
theorem d_Desk_declare_1 : decode b_Desk_declare 1 = .ok (.invokestatic 62, 3) := by decide +kernel
theorem d_Desk_declare_4 : decode b_Desk_declare 4 = .ok (.ifCond .ne 6, 3) := by decide +kernel
theorem d_Desk_declare_7 : decode b_Desk_declare 7 = .ok (.bipush (-102), 2) := by decide +kernel
theorem d_Desk_declare_9 : decode b_Desk_declare 9 = .ok (.ireturn, 1) := by decide +kernel
theorem d_Desk_declare_10 : decode b_Desk_declare 10 = .ok (.aload_n 0, 1) := by decide +kernel
theorem d_Desk_declare_11 : decode b_Desk_declare 11 = .ok (.getfield 13, 3) := by decide +kernel
theorem d_Desk_declare_14 : decode b_Desk_declare 14 = .ok (.istore_n 2, 1) := by decide +kernel
theorem d_Desk_declare_15 : decode b_Desk_declare 15 = .ok (.aload_n 0, 1) := by decide +kernel
theorem d_Desk_declare_16 : decode b_Desk_declare 16 = .ok (.iconst 0, 1) := by decide +kernel
theorem d_Desk_declare_17 : decode b_Desk_declare 17 = .ok (.putfield 13, 3) := by decide +kernel
theorem d_Desk_declare_20 : decode b_Desk_declare 20 = .ok (.aload_n 0, 1) := by decide +kernel
theorem d_Desk_declare_21 : decode b_Desk_declare 21 = .ok (.invokevirtual 66, 3) := by decide +kernel
theorem d_Desk_declare_24 : decode b_Desk_declare 24 = .ok (.aload_n 0, 1) := by decide +kernel
theorem d_Desk_declare_25 : decode b_Desk_declare 25 = .ok (.getfield 20, 3) := by decide +kernel
theorem d_Desk_declare_28 : decode b_Desk_declare 28 = .ok (.iload_n 1, 1) := by decide +kernel
theorem d_Desk_declare_29 : decode b_Desk_declare 29 = .ok (.invokevirtual 69, 3) := by decide +kernel
theorem d_Desk_declare_32 : decode b_Desk_declare 32 = .ok (.ifCond .eq 6, 3) := by decide +kernel
theorem d_Desk_declare_35 : decode b_Desk_declare 35 = .ok (.bipush (-100), 2) := by decide +kernel
theorem d_Desk_declare_37 : decode b_Desk_declare 37 = .ok (.ireturn, 1) := by decide +kernel
theorem d_Desk_declare_38 : decode b_Desk_declare 38 = .ok (.aload_n 0, 1) := by decide +kernel
theorem d_Desk_declare_39 : decode b_Desk_declare 39 = .ok (.iload_n 2, 1) := by decide +kernel
theorem d_Desk_declare_40 : decode b_Desk_declare 40 = .ok (.invokevirtual 72, 3) := by decide +kernel
theorem d_Desk_declare_43 : decode b_Desk_declare 43 = .ok (.aload_n 0, 1) := by decide +kernel
theorem d_Desk_declare_44 : decode b_Desk_declare 44 = .ok (.getfield 31, 3) := by decide +kernel
theorem d_Desk_declare_47 : decode b_Desk_declare 47 = .ok (.ifCond .eq 10, 3) := by decide +kernel
theorem d_Desk_declare_50 : decode b_Desk_declare 50 = .ok (.iconst (-1), 1) := by decide +kernel
theorem d_Desk_declare_51 : decode b_Desk_declare 51 = .ok (.aload_n 0, 1) := by decide +kernel
theorem d_Desk_declare_52 : decode b_Desk_declare 52 = .ok (.getfield 31, 3) := by decide +kernel
theorem d_Desk_declare_55 : decode b_Desk_declare 55 = .ok (.isub, 1) := by decide +kernel
theorem d_Desk_declare_56 : decode b_Desk_declare 56 = .ok (.ireturn, 1) := by decide +kernel
theorem d_Desk_declare_57 : decode b_Desk_declare 57 = .ok (.aload_n 0, 1) := by decide +kernel
theorem d_Desk_declare_58 : decode b_Desk_declare 58 = .ok (.getfield 20, 3) := by decide +kernel
theorem d_Desk_declare_61 : decode b_Desk_declare 61 = .ok (.invokevirtual 76, 3) := by decide +kernel
theorem d_Desk_declare_64 : decode b_Desk_declare 64 = .ok (.ifCond .ne 6, 3) := by decide +kernel
theorem d_Desk_declare_67 : decode b_Desk_declare 67 = .ok (.bipush (-101), 2) := by decide +kernel
theorem d_Desk_declare_69 : decode b_Desk_declare 69 = .ok (.ireturn, 1) := by decide +kernel
theorem d_Desk_declare_70 : decode b_Desk_declare 70 = .ok (.aload_n 0, 1) := by decide +kernel
theorem d_Desk_declare_71 : decode b_Desk_declare 71 = .ok (.getfield 20, 3) := by decide +kernel
theorem d_Desk_declare_74 : decode b_Desk_declare 74 = .ok (.iload_n 1, 1) := by decide +kernel
theorem d_Desk_declare_75 : decode b_Desk_declare 75 = .ok (.invokevirtual 80, 3) := by decide +kernel
theorem d_Desk_declare_78 : decode b_Desk_declare 78 = .ok (.aload_n 0, 1) := by decide +kernel
theorem d_Desk_declare_79 : decode b_Desk_declare 79 = .ok (.getfield 20, 3) := by decide +kernel
theorem d_Desk_declare_82 : decode b_Desk_declare 82 = .ok (.iload_n 1, 1) := by decide +kernel
theorem d_Desk_declare_83 : decode b_Desk_declare 83 = .ok (.invokevirtual 83, 3) := by decide +kernel
theorem d_Desk_declare_86 : decode b_Desk_declare 86 = .ok (.ireturn, 1) := by decide +kernel
theorem d_Desk_expand_0 : decode b_Desk_expand 0 = .ok (.iload_n 1, 1) := by decide +kernel
theorem d_Desk_expand_1 : decode b_Desk_expand 1 = .ok (.ifCond .lt 9, 3) := by decide +kernel
theorem d_Desk_expand_4 : decode b_Desk_expand 4 = .ok (.iload_n 1, 1) := by decide +kernel
theorem d_Desk_expand_5 : decode b_Desk_expand 5 = .ok (.ldc 87, 2) := by decide +kernel
theorem d_Desk_expand_7 : decode b_Desk_expand 7 = .ok (.if_icmp .le 6, 3) := by decide +kernel
theorem d_Desk_expand_10 : decode b_Desk_expand 10 = .ok (.bipush (-102), 2) := by decide +kernel
theorem d_Desk_expand_12 : decode b_Desk_expand 12 = .ok (.ireturn, 1) := by decide +kernel
theorem d_Desk_expand_13 : decode b_Desk_expand 13 = .ok (.aload_n 0, 1) := by decide +kernel
theorem d_Desk_expand_14 : decode b_Desk_expand 14 = .ok (.getfield 13, 3) := by decide +kernel
theorem d_Desk_expand_17 : decode b_Desk_expand 17 = .ok (.istore_n 2, 1) := by decide +kernel
theorem d_Desk_expand_18 : decode b_Desk_expand 18 = .ok (.aload_n 0, 1) := by decide +kernel
theorem d_Desk_expand_19 : decode b_Desk_expand 19 = .ok (.iconst 0, 1) := by decide +kernel
theorem d_Desk_expand_20 : decode b_Desk_expand 20 = .ok (.putfield 13, 3) := by decide +kernel
theorem d_Desk_expand_23 : decode b_Desk_expand 23 = .ok (.aload_n 0, 1) := by decide +kernel
theorem d_Desk_expand_24 : decode b_Desk_expand 24 = .ok (.invokevirtual 66, 3) := by decide +kernel
theorem d_Desk_expand_27 : decode b_Desk_expand 27 = .ok (.aload_n 0, 1) := by decide +kernel
theorem d_Desk_expand_28 : decode b_Desk_expand 28 = .ok (.iconst 0, 1) := by decide +kernel
theorem d_Desk_expand_29 : decode b_Desk_expand 29 = .ok (.putfield 43, 3) := by decide +kernel
theorem d_Desk_expand_32 : decode b_Desk_expand 32 = .ok (.aload_n 0, 1) := by decide +kernel
theorem d_Desk_expand_33 : decode b_Desk_expand 33 = .ok (.iload_n 1, 1) := by decide +kernel
theorem d_Desk_expand_34 : decode b_Desk_expand 34 = .ok (.putfield 50, 3) := by decide +kernel
theorem d_Desk_expand_37 : decode b_Desk_expand 37 = .ok (.aload_n 0, 1) := by decide +kernel
theorem d_Desk_expand_38 : decode b_Desk_expand 38 = .ok (.iconst 0, 1) := by decide +kernel
theorem d_Desk_expand_39 : decode b_Desk_expand 39 = .ok (.putfield 53, 3) := by decide +kernel
theorem d_Desk_expand_42 : decode b_Desk_expand 42 = .ok (.aload_n 0, 1) := by decide +kernel
theorem d_Desk_expand_43 : decode b_Desk_expand 43 = .ok (.iconst 0, 1) := by decide +kernel
theorem d_Desk_expand_44 : decode b_Desk_expand 44 = .ok (.putfield 56, 3) := by decide +kernel
theorem d_Desk_expand_47 : decode b_Desk_expand 47 = .ok (.aload_n 0, 1) := by decide +kernel
theorem d_Desk_expand_48 : decode b_Desk_expand 48 = .ok (.iconst 0, 1) := by decide +kernel
theorem d_Desk_expand_49 : decode b_Desk_expand 49 = .ok (.putfield 59, 3) := by decide +kernel
theorem d_Desk_expand_52 : decode b_Desk_expand 52 = .ok (.aload_n 0, 1) := by decide +kernel
theorem d_Desk_expand_53 : decode b_Desk_expand 53 = .ok (.aload_n 0, 1) := by decide +kernel
theorem d_Desk_expand_54 : decode b_Desk_expand 54 = .ok (.getfield 9, 3) := by decide +kernel
theorem d_Desk_expand_57 : decode b_Desk_expand 57 = .ok (.iconst 0, 1) := by decide +kernel
theorem d_Desk_expand_58 : decode b_Desk_expand 58 = .ok (.iload_n 2, 1) := by decide +kernel
theorem d_Desk_expand_59 : decode b_Desk_expand 59 = .ok (.iconst 0, 1) := by decide +kernel
theorem d_Desk_expand_60 : decode b_Desk_expand 60 = .ok (.invokevirtual 88, 3) := by decide +kernel
theorem d_Desk_expand_63 : decode b_Desk_expand 63 = .ok (.aload_n 0, 1) := by decide +kernel
theorem d_Desk_expand_64 : decode b_Desk_expand 64 = .ok (.getfield 31, 3) := by decide +kernel
theorem d_Desk_expand_67 : decode b_Desk_expand 67 = .ok (.ifCond .eq 15, 3) := by decide +kernel
theorem d_Desk_expand_70 : decode b_Desk_expand 70 = .ok (.aload_n 0, 1) := by decide +kernel
theorem d_Desk_expand_71 : decode b_Desk_expand 71 = .ok (.iconst 0, 1) := by decide +kernel
theorem d_Desk_expand_72 : decode b_Desk_expand 72 = .ok (.putfield 43, 3) := by decide +kernel
theorem d_Desk_expand_75 : decode b_Desk_expand 75 = .ok (.iconst (-1), 1) := by decide +kernel
theorem d_Desk_expand_76 : decode b_Desk_expand 76 = .ok (.aload_n 0, 1) := by decide +kernel
theorem d_Desk_expand_77 : decode b_Desk_expand 77 = .ok (.getfield 31, 3) := by decide +kernel
theorem d_Desk_expand_80 : decode b_Desk_expand 80 = .ok (.isub, 1) := by decide +kernel
theorem d_Desk_expand_81 : decode b_Desk_expand 81 = .ok (.ireturn, 1) := by decide +kernel
theorem d_Desk_expand_82 : decode b_Desk_expand 82 = .ok (.aload_n 0, 1) := by decide +kernel
theorem d_Desk_expand_83 : decode b_Desk_expand 83 = .ok (.getfield 43, 3) := by decide +kernel
theorem d_Desk_expand_86 : decode b_Desk_expand 86 = .ok (.ireturn, 1) := by decide +kernel
theorem d_Desk_place_0 : decode b_Desk_place 0 = .ok (.aload_n 0, 1) := by decide +kernel
theorem d_Desk_place_1 : decode b_Desk_place 1 = .ok (.getfield 34, 3) := by decide +kernel
theorem d_Desk_place_4 : decode b_Desk_place 4 = .ok (.ireturn, 1) := by decide +kernel
theorem d_Desk_given_0 : decode b_Desk_given 0 = .ok (.iload_n 1, 1) := by decide +kernel
theorem d_Desk_given_1 : decode b_Desk_given 1 = .ok (.ifCond .lt 20, 3) := by decide +kernel
theorem d_Desk_given_4 : decode b_Desk_given 4 = .ok (.iload_n 1, 1) := by decide +kernel
theorem d_Desk_given_5 : decode b_Desk_given 5 = .ok (.aload_n 0, 1) := by decide +kernel
theorem d_Desk_given_6 : decode b_Desk_given 6 = .ok (.getfield 43, 3) := by decide +kernel
theorem d_Desk_given_9 : decode b_Desk_given 9 = .ok (.if_icmp .ge 12, 3) := by decide +kernel
theorem d_Desk_given_12 : decode b_Desk_given 12 = .ok (.aload_n 0, 1) := by decide +kernel
theorem d_Desk_given_13 : decode b_Desk_given 13 = .ok (.getfield 40, 3) := by decide +kernel
theorem d_Desk_given_16 : decode b_Desk_given 16 = .ok (.iload_n 1, 1) := by decide +kernel
theorem d_Desk_given_17 : decode b_Desk_given 17 = .ok (.iaload, 1) := by decide +kernel
theorem d_Desk_given_18 : decode b_Desk_given 18 = .ok (.goto 4, 3) := by decide +kernel
theorem d_Desk_given_21 : decode b_Desk_given 21 = .ok (.iconst (-1), 1) := by decide +kernel
theorem d_Desk_given_22 : decode b_Desk_given 22 = .ok (.ireturn, 1) := by decide +kernel
theorem d_Desk_text_0 : decode b_Desk_text 0 = .ok (.iload_n 1, 1) := by decide +kernel
theorem d_Desk_text_1 : decode b_Desk_text 1 = .ok (.invokestatic 62, 3) := by decide +kernel
theorem d_Desk_text_4 : decode b_Desk_text 4 = .ok (.ifCond .eq 14, 3) := by decide +kernel
theorem d_Desk_text_7 : decode b_Desk_text 7 = .ok (.aload_n 0, 1) := by decide +kernel
theorem d_Desk_text_8 : decode b_Desk_text 8 = .ok (.getfield 20, 3) := by decide +kernel
theorem d_Desk_text_11 : decode b_Desk_text 11 = .ok (.iload_n 1, 1) := by decide +kernel
theorem d_Desk_text_12 : decode b_Desk_text 12 = .ok (.invokevirtual 69, 3) := by decide +kernel
theorem d_Desk_text_15 : decode b_Desk_text 15 = .ok (.ifCond .ne 5, 3) := by decide +kernel
theorem d_Desk_text_18 : decode b_Desk_text 18 = .ok (.iconst (-1), 1) := by decide +kernel
theorem d_Desk_text_19 : decode b_Desk_text 19 = .ok (.ireturn, 1) := by decide +kernel
theorem d_Desk_text_20 : decode b_Desk_text 20 = .ok (.iload_n 2, 1) := by decide +kernel
theorem d_Desk_text_21 : decode b_Desk_text 21 = .ok (.ifCond .lt 27, 3) := by decide +kernel
theorem d_Desk_text_24 : decode b_Desk_text 24 = .ok (.iload_n 2, 1) := by decide +kernel
theorem d_Desk_text_25 : decode b_Desk_text 25 = .ok (.aload_n 0, 1) := by decide +kernel
theorem d_Desk_text_26 : decode b_Desk_text 26 = .ok (.getfield 20, 3) := by decide +kernel
theorem d_Desk_text_29 : decode b_Desk_text 29 = .ok (.iload_n 1, 1) := by decide +kernel
theorem d_Desk_text_30 : decode b_Desk_text 30 = .ok (.invokevirtual 83, 3) := by decide +kernel
theorem d_Desk_text_33 : decode b_Desk_text 33 = .ok (.if_icmp .ge 15, 3) := by decide +kernel
theorem d_Desk_text_36 : decode b_Desk_text 36 = .ok (.aload_n 0, 1) := by decide +kernel
theorem d_Desk_text_37 : decode b_Desk_text 37 = .ok (.getfield 20, 3) := by decide +kernel
theorem d_Desk_text_40 : decode b_Desk_text 40 = .ok (.iload_n 1, 1) := by decide +kernel
theorem d_Desk_text_41 : decode b_Desk_text 41 = .ok (.iload_n 2, 1) := by decide +kernel
theorem d_Desk_text_42 : decode b_Desk_text 42 = .ok (.invokevirtual 92, 3) := by decide +kernel
theorem d_Desk_text_45 : decode b_Desk_text 45 = .ok (.goto 4, 3) := by decide +kernel
theorem d_Desk_text_48 : decode b_Desk_text 48 = .ok (.iconst (-1), 1) := by decide +kernel
theorem d_Desk_text_49 : decode b_Desk_text 49 = .ok (.ireturn, 1) := by decide +kernel
theorem d_Desk_count_0 : decode b_Desk_count 0 = .ok (.iload_n 1, 1) := by decide +kernel
theorem d_Desk_count_1 : decode b_Desk_count 1 = .ok (.tableswitch 75 0 5 #[39, 47, 55, 60, 65, 70], 39) := by decide +kernel
theorem d_Desk_count_40 : decode b_Desk_count 40 = .ok (.aload_n 0, 1) := by decide +kernel
theorem d_Desk_count_41 : decode b_Desk_count 41 = .ok (.getfield 20, 3) := by decide +kernel
theorem d_Desk_count_44 : decode b_Desk_count 44 = .ok (.getfield 96, 3) := by decide +kernel
theorem d_Desk_count_47 : decode b_Desk_count 47 = .ok (.ireturn, 1) := by decide +kernel
theorem d_Desk_count_48 : decode b_Desk_count 48 = .ok (.aload_n 0, 1) := by decide +kernel
theorem d_Desk_count_49 : decode b_Desk_count 49 = .ok (.getfield 20, 3) := by decide +kernel
theorem d_Desk_count_52 : decode b_Desk_count 52 = .ok (.getfield 99, 3) := by decide +kernel
theorem d_Desk_count_55 : decode b_Desk_count 55 = .ok (.ireturn, 1) := by decide +kernel
theorem d_Desk_count_56 : decode b_Desk_count 56 = .ok (.aload_n 0, 1) := by decide +kernel
theorem d_Desk_count_57 : decode b_Desk_count 57 = .ok (.getfield 53, 3) := by decide +kernel
theorem d_Desk_count_60 : decode b_Desk_count 60 = .ok (.ireturn, 1) := by decide +kernel
theorem d_Desk_count_61 : decode b_Desk_count 61 = .ok (.aload_n 0, 1) := by decide +kernel
theorem d_Desk_count_62 : decode b_Desk_count 62 = .ok (.getfield 13, 3) := by decide +kernel
theorem d_Desk_count_65 : decode b_Desk_count 65 = .ok (.ireturn, 1) := by decide +kernel
theorem d_Desk_count_66 : decode b_Desk_count 66 = .ok (.aload_n 0, 1) := by decide +kernel
theorem d_Desk_count_67 : decode b_Desk_count 67 = .ok (.getfield 56, 3) := by decide +kernel
theorem d_Desk_count_70 : decode b_Desk_count 70 = .ok (.ireturn, 1) := by decide +kernel
theorem d_Desk_count_71 : decode b_Desk_count 71 = .ok (.aload_n 0, 1) := by decide +kernel
theorem d_Desk_count_72 : decode b_Desk_count 72 = .ok (.getfield 59, 3) := by decide +kernel
theorem d_Desk_count_75 : decode b_Desk_count 75 = .ok (.ireturn, 1) := by decide +kernel
theorem d_Desk_count_76 : decode b_Desk_count 76 = .ok (.iconst (-1), 1) := by decide +kernel
theorem d_Desk_count_77 : decode b_Desk_count 77 = .ok (.ireturn, 1) := by decide +kernel
theorem d_Desk_isName_0 : decode b_Desk_isName 0 = .ok (.iload_n 0, 1) := by decide +kernel
theorem d_Desk_isName_1 : decode b_Desk_isName 1 = .ok (.ifCond .lt 13, 3) := by decide +kernel
theorem d_Desk_isName_4 : decode b_Desk_isName 4 = .ok (.iload_n 0, 1) := by decide +kernel
theorem d_Desk_isName_5 : decode b_Desk_isName 5 = .ok (.bipush 26, 2) := by decide +kernel
theorem d_Desk_isName_7 : decode b_Desk_isName 7 = .ok (.if_icmp .ge 7, 3) := by decide +kernel
theorem d_Desk_isName_10 : decode b_Desk_isName 10 = .ok (.iconst 1, 1) := by decide +kernel
theorem d_Desk_isName_11 : decode b_Desk_isName 11 = .ok (.goto 4, 3) := by decide +kernel
theorem d_Desk_isName_14 : decode b_Desk_isName 14 = .ok (.iconst 0, 1) := by decide +kernel
theorem d_Desk_isName_15 : decode b_Desk_isName 15 = .ok (.ireturn, 1) := by decide +kernel
theorem d_Desk_beginReading_0 : decode b_Desk_beginReading 0 = .ok (.aload_n 0, 1) := by decide +kernel
theorem d_Desk_beginReading_1 : decode b_Desk_beginReading 1 = .ok (.iconst 0, 1) := by decide +kernel
theorem d_Desk_beginReading_2 : decode b_Desk_beginReading 2 = .ok (.putfield 31, 3) := by decide +kernel
theorem d_Desk_beginReading_5 : decode b_Desk_beginReading 5 = .ok (.aload_n 0, 1) := by decide +kernel
theorem d_Desk_beginReading_6 : decode b_Desk_beginReading 6 = .ok (.iconst (-1), 1) := by decide +kernel
theorem d_Desk_beginReading_7 : decode b_Desk_beginReading 7 = .ok (.putfield 34, 3) := by decide +kernel
theorem d_Desk_beginReading_10 : decode b_Desk_beginReading 10 = .ok (.aload_n 0, 1) := by decide +kernel
theorem d_Desk_beginReading_11 : decode b_Desk_beginReading 11 = .ok (.iconst 0, 1) := by decide +kernel
theorem d_Desk_beginReading_12 : decode b_Desk_beginReading 12 = .ok (.putfield 37, 3) := by decide +kernel
theorem d_Desk_beginReading_15 : decode b_Desk_beginReading 15 = .ok (.aload_n 0, 1) := by decide +kernel
theorem d_Desk_beginReading_16 : decode b_Desk_beginReading 16 = .ok (.getfield 27, 3) := by decide +kernel
theorem d_Desk_beginReading_19 : decode b_Desk_beginReading 19 = .ok (.invokevirtual 102, 3) := by decide +kernel
theorem d_Desk_beginReading_22 : decode b_Desk_beginReading 22 = .ok (.return_, 1) := by decide +kernel
theorem d_Desk_fail_0 : decode b_Desk_fail 0 = .ok (.aload_n 0, 1) := by decide +kernel
theorem d_Desk_fail_1 : decode b_Desk_fail 1 = .ok (.iload_n 1, 1) := by decide +kernel
theorem d_Desk_fail_2 : decode b_Desk_fail 2 = .ok (.putfield 31, 3) := by decide +kernel
theorem d_Desk_fail_5 : decode b_Desk_fail 5 = .ok (.aload_n 0, 1) := by decide +kernel
theorem d_Desk_fail_6 : decode b_Desk_fail 6 = .ok (.iload_n 2, 1) := by decide +kernel
theorem d_Desk_fail_7 : decode b_Desk_fail 7 = .ok (.putfield 34, 3) := by decide +kernel
theorem d_Desk_fail_10 : decode b_Desk_fail 10 = .ok (.return_, 1) := by decide +kernel
theorem d_Desk_readOn_0 : decode b_Desk_readOn 0 = .ok (.aload_n 0, 1) := by decide +kernel
theorem d_Desk_readOn_1 : decode b_Desk_readOn 1 = .ok (.getfield 27, 3) := by decide +kernel
theorem d_Desk_readOn_4 : decode b_Desk_readOn 4 = .ok (.iload_n 1, 1) := by decide +kernel
theorem d_Desk_readOn_5 : decode b_Desk_readOn 5 = .ok (.invokevirtual 105, 3) := by decide +kernel
theorem d_Desk_readOn_8 : decode b_Desk_readOn 8 = .ok (.istore_n 3, 1) := by decide +kernel
theorem d_Desk_readOn_9 : decode b_Desk_readOn 9 = .ok (.iload_n 3, 1) := by decide +kernel
theorem d_Desk_readOn_10 : decode b_Desk_readOn 10 = .ok (.iconst 5, 1) := by decide +kernel
theorem d_Desk_readOn_11 : decode b_Desk_readOn 11 = .ok (.if_icmp .ne 12, 3) := by decide +kernel
theorem d_Desk_readOn_14 : decode b_Desk_readOn 14 = .ok (.aload_n 0, 1) := by decide +kernel
theorem d_Desk_readOn_15 : decode b_Desk_readOn 15 = .ok (.iconst 2, 1) := by decide +kernel
theorem d_Desk_readOn_16 : decode b_Desk_readOn 16 = .ok (.iload_n 2, 1) := by decide +kernel
theorem d_Desk_readOn_17 : decode b_Desk_readOn 17 = .ok (.invokevirtual 108, 3) := by decide +kernel
theorem d_Desk_readOn_20 : decode b_Desk_readOn 20 = .ok (.goto 18, 3) := by decide +kernel
theorem d_Desk_readOn_23 : decode b_Desk_readOn 23 = .ok (.iload_n 3, 1) := by decide +kernel
theorem d_Desk_readOn_24 : decode b_Desk_readOn 24 = .ok (.iconst 4, 1) := by decide +kernel
theorem d_Desk_readOn_25 : decode b_Desk_readOn 25 = .ok (.if_icmp .ne 13, 3) := by decide +kernel
theorem d_Desk_readOn_28 : decode b_Desk_readOn 28 = .ok (.aload_n 0, 1) := by decide +kernel
theorem d_Desk_readOn_29 : decode b_Desk_readOn 29 = .ok (.bipush 8, 2) := by decide +kernel
theorem d_Desk_readOn_31 : decode b_Desk_readOn 31 = .ok (.aload_n 0, 1) := by decide +kernel
theorem d_Desk_readOn_32 : decode b_Desk_readOn 32 = .ok (.getfield 37, 3) := by decide +kernel
theorem d_Desk_readOn_35 : decode b_Desk_readOn 35 = .ok (.invokevirtual 108, 3) := by decide +kernel
theorem d_Desk_readOn_38 : decode b_Desk_readOn 38 = .ok (.iload_n 3, 1) := by decide +kernel
theorem d_Desk_readOn_39 : decode b_Desk_readOn 39 = .ok (.ireturn, 1) := by decide +kernel
theorem d_Desk_draftText_0 : decode b_Desk_draftText 0 = .ok (.aload_n 0, 1) := by decide +kernel
theorem d_Desk_draftText_1 : decode b_Desk_draftText 1 = .ok (.getfield 20, 3) := by decide +kernel
theorem d_Desk_draftText_4 : decode b_Desk_draftText 4 = .ok (.invokevirtual 112, 3) := by decide +kernel
theorem d_Desk_draftText_7 : decode b_Desk_draftText 7 = .ok (.iconst 0, 1) := by decide +kernel
theorem d_Desk_draftText_8 : decode b_Desk_draftText 8 = .ok (.istore_n 2, 1) := by decide +kernel
theorem d_Desk_draftText_9 : decode b_Desk_draftText 9 = .ok (.iload_n 2, 1) := by decide +kernel
theorem d_Desk_draftText_10 : decode b_Desk_draftText 10 = .ok (.iload_n 1, 1) := by decide +kernel
theorem d_Desk_draftText_11 : decode b_Desk_draftText 11 = .ok (.if_icmp .ge 42, 3) := by decide +kernel
theorem d_Desk_draftText_14 : decode b_Desk_draftText 14 = .ok (.aload_n 0, 1) := by decide +kernel
theorem d_Desk_draftText_15 : decode b_Desk_draftText 15 = .ok (.getfield 31, 3) := by decide +kernel
theorem d_Desk_draftText_18 : decode b_Desk_draftText 18 = .ok (.ifCond .ne 35, 3) := by decide +kernel
theorem d_Desk_draftText_21 : decode b_Desk_draftText 21 = .ok (.aload_n 0, 1) := by decide +kernel
theorem d_Desk_draftText_22 : decode b_Desk_draftText 22 = .ok (.getfield 27, 3) := by decide +kernel
theorem d_Desk_draftText_25 : decode b_Desk_draftText 25 = .ok (.invokevirtual 115, 3) := by decide +kernel
theorem d_Desk_draftText_28 : decode b_Desk_draftText 28 = .ok (.ifCond .ne 8, 3) := by decide +kernel
theorem d_Desk_draftText_31 : decode b_Desk_draftText 31 = .ok (.aload_n 0, 1) := by decide +kernel
theorem d_Desk_draftText_32 : decode b_Desk_draftText 32 = .ok (.iload_n 2, 1) := by decide +kernel
theorem d_Desk_draftText_33 : decode b_Desk_draftText 33 = .ok (.putfield 37, 3) := by decide +kernel
theorem d_Desk_draftText_36 : decode b_Desk_draftText 36 = .ok (.aload_n 0, 1) := by decide +kernel
theorem d_Desk_draftText_37 : decode b_Desk_draftText 37 = .ok (.aload_n 0, 1) := by decide +kernel
theorem d_Desk_draftText_38 : decode b_Desk_draftText 38 = .ok (.getfield 9, 3) := by decide +kernel
theorem d_Desk_draftText_41 : decode b_Desk_draftText 41 = .ok (.iload_n 2, 1) := by decide +kernel
theorem d_Desk_draftText_42 : decode b_Desk_draftText 42 = .ok (.iaload, 1) := by decide +kernel
theorem d_Desk_draftText_43 : decode b_Desk_draftText 43 = .ok (.iload_n 2, 1) := by decide +kernel
theorem d_Desk_draftText_44 : decode b_Desk_draftText 44 = .ok (.invokevirtual 118, 3) := by decide +kernel
theorem d_Desk_draftText_47 : decode b_Desk_draftText 47 = .ok (.iinc 2 1, 3) := by decide +kernel
theorem d_Desk_draftText_50 : decode b_Desk_draftText 50 = .ok (.goto (-41), 3) := by decide +kernel
theorem d_Desk_draftText_53 : decode b_Desk_draftText 53 = .ok (.aload_n 0, 1) := by decide +kernel
theorem d_Desk_draftText_54 : decode b_Desk_draftText 54 = .ok (.getfield 31, 3) := by decide +kernel
theorem d_Desk_draftText_57 : decode b_Desk_draftText 57 = .ok (.ifCond .ne 19, 3) := by decide +kernel
theorem d_Desk_draftText_60 : decode b_Desk_draftText 60 = .ok (.aload_n 0, 1) := by decide +kernel
theorem d_Desk_draftText_61 : decode b_Desk_draftText 61 = .ok (.getfield 27, 3) := by decide +kernel
theorem d_Desk_draftText_64 : decode b_Desk_draftText 64 = .ok (.invokevirtual 115, 3) := by decide +kernel
theorem d_Desk_draftText_67 : decode b_Desk_draftText 67 = .ok (.ifCond .eq 9, 3) := by decide +kernel
theorem d_Desk_draftText_70 : decode b_Desk_draftText 70 = .ok (.aload_n 0, 1) := by decide +kernel
theorem d_Desk_draftText_71 : decode b_Desk_draftText 71 = .ok (.iconst 2, 1) := by decide +kernel
theorem d_Desk_draftText_72 : decode b_Desk_draftText 72 = .ok (.iload_n 1, 1) := by decide +kernel
theorem d_Desk_draftText_73 : decode b_Desk_draftText 73 = .ok (.invokevirtual 108, 3) := by decide +kernel
theorem d_Desk_draftText_76 : decode b_Desk_draftText 76 = .ok (.return_, 1) := by decide +kernel
theorem d_Desk_draftCharacter_0 : decode b_Desk_draftCharacter 0 = .ok (.aload_n 0, 1) := by decide +kernel
theorem d_Desk_draftCharacter_1 : decode b_Desk_draftCharacter 1 = .ok (.iload_n 1, 1) := by decide +kernel
theorem d_Desk_draftCharacter_2 : decode b_Desk_draftCharacter 2 = .ok (.iload_n 2, 1) := by decide +kernel
theorem d_Desk_draftCharacter_3 : decode b_Desk_draftCharacter 3 = .ok (.invokevirtual 121, 3) := by decide +kernel
theorem d_Desk_draftCharacter_6 : decode b_Desk_draftCharacter 6 = .ok (.istore_n 3, 1) := by decide +kernel
theorem d_Desk_draftCharacter_7 : decode b_Desk_draftCharacter 7 = .ok (.iload_n 3, 1) := by decide +kernel
theorem d_Desk_draftCharacter_8 : decode b_Desk_draftCharacter 8 = .ok (.ifCond .ne 14, 3) := by decide +kernel
theorem d_Desk_draftCharacter_11 : decode b_Desk_draftCharacter 11 = .ok (.aload_n 0, 1) := by decide +kernel
theorem d_Desk_draftCharacter_12 : decode b_Desk_draftCharacter 12 = .ok (.getfield 20, 3) := by decide +kernel
theorem d_Desk_draftCharacter_15 : decode b_Desk_draftCharacter 15 = .ok (.iload_n 1, 1) := by decide +kernel
theorem d_Desk_draftCharacter_16 : decode b_Desk_draftCharacter 16 = .ok (.invokevirtual 124, 3) := by decide +kernel
theorem d_Desk_draftCharacter_19 : decode b_Desk_draftCharacter 19 = .ok (.goto 65, 3) := by decide +kernel
theorem d_Desk_draftCharacter_22 : decode b_Desk_draftCharacter 22 = .ok (.iload_n 3, 1) := by decide +kernel
theorem d_Desk_draftCharacter_23 : decode b_Desk_draftCharacter 23 = .ok (.iconst 2, 1) := by decide +kernel
theorem d_Desk_draftCharacter_24 : decode b_Desk_draftCharacter 24 = .ok (.if_icmp .ne 20, 3) := by decide +kernel
theorem d_Desk_draftCharacter_27 : decode b_Desk_draftCharacter 27 = .ok (.aload_n 0, 1) := by decide +kernel
theorem d_Desk_draftCharacter_28 : decode b_Desk_draftCharacter 28 = .ok (.getfield 20, 3) := by decide +kernel
theorem d_Desk_draftCharacter_31 : decode b_Desk_draftCharacter 31 = .ok (.aload_n 0, 1) := by decide +kernel
theorem d_Desk_draftCharacter_32 : decode b_Desk_draftCharacter 32 = .ok (.getfield 27, 3) := by decide +kernel
theorem d_Desk_draftCharacter_35 : decode b_Desk_draftCharacter 35 = .ok (.getfield 127, 3) := by decide +kernel
theorem d_Desk_draftCharacter_38 : decode b_Desk_draftCharacter 38 = .ok (.invokevirtual 124, 3) := by decide +kernel
theorem d_Desk_draftCharacter_41 : decode b_Desk_draftCharacter 41 = .ok (.goto 43, 3) := by decide +kernel
theorem d_Desk_draftCharacter_44 : decode b_Desk_draftCharacter 44 = .ok (.iload_n 3, 1) := by decide +kernel
theorem d_Desk_draftCharacter_45 : decode b_Desk_draftCharacter 45 = .ok (.iconst 3, 1) := by decide +kernel
theorem d_Desk_draftCharacter_46 : decode b_Desk_draftCharacter 46 = .ok (.if_icmp .ne 38, 3) := by decide +kernel
theorem d_Desk_draftCharacter_49 : decode b_Desk_draftCharacter 49 = .ok (.aload_n 0, 1) := by decide +kernel
theorem d_Desk_draftCharacter_50 : decode b_Desk_draftCharacter 50 = .ok (.getfield 20, 3) := by decide +kernel
theorem d_Desk_draftCharacter_53 : decode b_Desk_draftCharacter 53 = .ok (.bipush 38, 2) := by decide +kernel
theorem d_Desk_draftCharacter_55 : decode b_Desk_draftCharacter 55 = .ok (.invokevirtual 124, 3) := by decide +kernel
theorem d_Desk_draftCharacter_58 : decode b_Desk_draftCharacter 58 = .ok (.aload_n 0, 1) := by decide +kernel
theorem d_Desk_draftCharacter_59 : decode b_Desk_draftCharacter 59 = .ok (.getfield 20, 3) := by decide +kernel
theorem d_Desk_draftCharacter_62 : decode b_Desk_draftCharacter 62 = .ok (.bipush 97, 2) := by decide +kernel
theorem d_Desk_draftCharacter_64 : decode b_Desk_draftCharacter 64 = .ok (.aload_n 0, 1) := by decide +kernel
theorem d_Desk_draftCharacter_65 : decode b_Desk_draftCharacter 65 = .ok (.getfield 27, 3) := by decide +kernel
theorem d_Desk_draftCharacter_68 : decode b_Desk_draftCharacter 68 = .ok (.getfield 130, 3) := by decide +kernel
theorem d_Desk_draftCharacter_71 : decode b_Desk_draftCharacter 71 = .ok (.iadd, 1) := by decide +kernel
theorem d_Desk_draftCharacter_72 : decode b_Desk_draftCharacter 72 = .ok (.invokevirtual 124, 3) := by decide +kernel
theorem d_Desk_draftCharacter_75 : decode b_Desk_draftCharacter 75 = .ok (.aload_n 0, 1) := by decide +kernel
theorem d_Desk_draftCharacter_76 : decode b_Desk_draftCharacter 76 = .ok (.getfield 20, 3) := by decide +kernel
theorem d_Desk_draftCharacter_79 : decode b_Desk_draftCharacter 79 = .ok (.bipush 59, 2) := by decide +kernel
theorem d_Desk_draftCharacter_81 : decode b_Desk_draftCharacter 81 = .ok (.invokevirtual 124, 3) := by decide +kernel
theorem d_Desk_draftCharacter_84 : decode b_Desk_draftCharacter 84 = .ok (.return_, 1) := by decide +kernel
theorem d_Desk_goOver_0 : decode b_Desk_goOver 0 = .ok (.iload_n 2, 1) := by decide +kernel
theorem d_Desk_goOver_1 : decode b_Desk_goOver 1 = .ok (.istore 5, 2) := by decide +kernel
theorem d_Desk_goOver_3 : decode b_Desk_goOver 3 = .ok (.iload 5, 2) := by decide +kernel
theorem d_Desk_goOver_5 : decode b_Desk_goOver 5 = .ok (.iload_n 3, 1) := by decide +kernel
theorem d_Desk_goOver_6 : decode b_Desk_goOver 6 = .ok (.if_icmp .ge 61, 3) := by decide +kernel
theorem d_Desk_goOver_9 : decode b_Desk_goOver 9 = .ok (.aload_n 0, 1) := by decide +kernel
theorem d_Desk_goOver_10 : decode b_Desk_goOver 10 = .ok (.getfield 31, 3) := by decide +kernel
theorem d_Desk_goOver_13 : decode b_Desk_goOver 13 = .ok (.ifCond .ne 54, 3) := by decide +kernel
theorem d_Desk_goOver_16 : decode b_Desk_goOver 16 = .ok (.iload 4, 2) := by decide +kernel
theorem d_Desk_goOver_18 : decode b_Desk_goOver 18 = .ok (.ifCond .ne 19, 3) := by decide +kernel
theorem d_Desk_goOver_21 : decode b_Desk_goOver 21 = .ok (.aload_n 0, 1) := by decide +kernel
theorem d_Desk_goOver_22 : decode b_Desk_goOver 22 = .ok (.getfield 27, 3) := by decide +kernel
theorem d_Desk_goOver_25 : decode b_Desk_goOver 25 = .ok (.invokevirtual 115, 3) := by decide +kernel
theorem d_Desk_goOver_28 : decode b_Desk_goOver 28 = .ok (.ifCond .ne 9, 3) := by decide +kernel
theorem d_Desk_goOver_31 : decode b_Desk_goOver 31 = .ok (.aload_n 0, 1) := by decide +kernel
theorem d_Desk_goOver_32 : decode b_Desk_goOver 32 = .ok (.iload 5, 2) := by decide +kernel
theorem d_Desk_goOver_34 : decode b_Desk_goOver 34 = .ok (.putfield 37, 3) := by decide +kernel
theorem d_Desk_goOver_37 : decode b_Desk_goOver 37 = .ok (.aload_n 0, 1) := by decide +kernel
theorem d_Desk_goOver_38 : decode b_Desk_goOver 38 = .ok (.aload_n 1, 1) := by decide +kernel
theorem d_Desk_goOver_39 : decode b_Desk_goOver 39 = .ok (.iload 5, 2) := by decide +kernel
theorem d_Desk_goOver_41 : decode b_Desk_goOver 41 = .ok (.iaload, 1) := by decide +kernel
theorem d_Desk_goOver_42 : decode b_Desk_goOver 42 = .ok (.iload 4, 2) := by decide +kernel
theorem d_Desk_goOver_44 : decode b_Desk_goOver 44 = .ok (.ifCond .ne 8, 3) := by decide +kernel
theorem d_Desk_goOver_47 : decode b_Desk_goOver 47 = .ok (.iload 5, 2) := by decide +kernel
theorem d_Desk_goOver_49 : decode b_Desk_goOver 49 = .ok (.goto 7, 3) := by decide +kernel
theorem d_Desk_goOver_52 : decode b_Desk_goOver 52 = .ok (.aload_n 0, 1) := by decide +kernel
theorem d_Desk_goOver_53 : decode b_Desk_goOver 53 = .ok (.getfield 37, 3) := by decide +kernel
theorem d_Desk_goOver_56 : decode b_Desk_goOver 56 = .ok (.iload 4, 2) := by decide +kernel
theorem d_Desk_goOver_58 : decode b_Desk_goOver 58 = .ok (.invokevirtual 133, 3) := by decide +kernel
theorem d_Desk_goOver_61 : decode b_Desk_goOver 61 = .ok (.iinc 5 1, 3) := by decide +kernel
theorem d_Desk_goOver_64 : decode b_Desk_goOver 64 = .ok (.goto (-61), 3) := by decide +kernel
theorem d_Desk_goOver_67 : decode b_Desk_goOver 67 = .ok (.aload_n 0, 1) := by decide +kernel
theorem d_Desk_goOver_68 : decode b_Desk_goOver 68 = .ok (.getfield 31, 3) := by decide +kernel
theorem d_Desk_goOver_71 : decode b_Desk_goOver 71 = .ok (.ifCond .ne 37, 3) := by decide +kernel
theorem d_Desk_goOver_74 : decode b_Desk_goOver 74 = .ok (.aload_n 0, 1) := by decide +kernel
theorem d_Desk_goOver_75 : decode b_Desk_goOver 75 = .ok (.getfield 27, 3) := by decide +kernel
theorem d_Desk_goOver_78 : decode b_Desk_goOver 78 = .ok (.invokevirtual 115, 3) := by decide +kernel
theorem d_Desk_goOver_81 : decode b_Desk_goOver 81 = .ok (.ifCond .eq 27, 3) := by decide +kernel
theorem d_Desk_goOver_84 : decode b_Desk_goOver 84 = .ok (.iload 4, 2) := by decide +kernel
theorem d_Desk_goOver_86 : decode b_Desk_goOver 86 = .ok (.ifCond .ne 12, 3) := by decide +kernel
theorem d_Desk_goOver_89 : decode b_Desk_goOver 89 = .ok (.aload_n 0, 1) := by decide +kernel
theorem d_Desk_goOver_90 : decode b_Desk_goOver 90 = .ok (.iconst 2, 1) := by decide +kernel
theorem d_Desk_goOver_91 : decode b_Desk_goOver 91 = .ok (.iload_n 3, 1) := by decide +kernel
theorem d_Desk_goOver_92 : decode b_Desk_goOver 92 = .ok (.invokevirtual 108, 3) := by decide +kernel
theorem d_Desk_goOver_95 : decode b_Desk_goOver 95 = .ok (.goto 13, 3) := by decide +kernel
theorem d_Desk_goOver_98 : decode b_Desk_goOver 98 = .ok (.aload_n 0, 1) := by decide +kernel
theorem d_Desk_goOver_99 : decode b_Desk_goOver 99 = .ok (.bipush 13, 2) := by decide +kernel
theorem d_Desk_goOver_101 : decode b_Desk_goOver 101 = .ok (.aload_n 0, 1) := by decide +kernel
theorem d_Desk_goOver_102 : decode b_Desk_goOver 102 = .ok (.getfield 37, 3) := by decide +kernel
theorem d_Desk_goOver_105 : decode b_Desk_goOver 105 = .ok (.invokevirtual 108, 3) := by decide +kernel
theorem d_Desk_goOver_108 : decode b_Desk_goOver 108 = .ok (.return_, 1) := by decide +kernel
theorem d_Desk_goOverCharacter_0 : decode b_Desk_goOverCharacter 0 = .ok (.aload_n 0, 1) := by decide +kernel
theorem d_Desk_goOverCharacter_1 : decode b_Desk_goOverCharacter 1 = .ok (.iload_n 1, 1) := by decide +kernel
theorem d_Desk_goOverCharacter_2 : decode b_Desk_goOverCharacter 2 = .ok (.iload_n 2, 1) := by decide +kernel
theorem d_Desk_goOverCharacter_3 : decode b_Desk_goOverCharacter 3 = .ok (.invokevirtual 121, 3) := by decide +kernel
theorem d_Desk_goOverCharacter_6 : decode b_Desk_goOverCharacter 6 = .ok (.istore 4, 2) := by decide +kernel
theorem d_Desk_goOverCharacter_8 : decode b_Desk_goOverCharacter 8 = .ok (.iload 4, 2) := by decide +kernel
theorem d_Desk_goOverCharacter_10 : decode b_Desk_goOverCharacter 10 = .ok (.ifCond .ne 11, 3) := by decide +kernel
theorem d_Desk_goOverCharacter_13 : decode b_Desk_goOverCharacter 13 = .ok (.aload_n 0, 1) := by decide +kernel
theorem d_Desk_goOverCharacter_14 : decode b_Desk_goOverCharacter 14 = .ok (.iload_n 1, 1) := by decide +kernel
theorem d_Desk_goOverCharacter_15 : decode b_Desk_goOverCharacter 15 = .ok (.invokevirtual 137, 3) := by decide +kernel
theorem d_Desk_goOverCharacter_18 : decode b_Desk_goOverCharacter 18 = .ok (.goto 43, 3) := by decide +kernel
theorem d_Desk_goOverCharacter_21 : decode b_Desk_goOverCharacter 21 = .ok (.iload 4, 2) := by decide +kernel
theorem d_Desk_goOverCharacter_23 : decode b_Desk_goOverCharacter 23 = .ok (.iconst 2, 1) := by decide +kernel
theorem d_Desk_goOverCharacter_24 : decode b_Desk_goOverCharacter 24 = .ok (.if_icmp .ne 17, 3) := by decide +kernel
theorem d_Desk_goOverCharacter_27 : decode b_Desk_goOverCharacter 27 = .ok (.aload_n 0, 1) := by decide +kernel
theorem d_Desk_goOverCharacter_28 : decode b_Desk_goOverCharacter 28 = .ok (.aload_n 0, 1) := by decide +kernel
theorem d_Desk_goOverCharacter_29 : decode b_Desk_goOverCharacter 29 = .ok (.getfield 27, 3) := by decide +kernel
theorem d_Desk_goOverCharacter_32 : decode b_Desk_goOverCharacter 32 = .ok (.getfield 127, 3) := by decide +kernel
theorem d_Desk_goOverCharacter_35 : decode b_Desk_goOverCharacter 35 = .ok (.invokevirtual 137, 3) := by decide +kernel
theorem d_Desk_goOverCharacter_38 : decode b_Desk_goOverCharacter 38 = .ok (.goto 23, 3) := by decide +kernel
theorem d_Desk_goOverCharacter_41 : decode b_Desk_goOverCharacter 41 = .ok (.iload 4, 2) := by decide +kernel
theorem d_Desk_goOverCharacter_43 : decode b_Desk_goOverCharacter 43 = .ok (.iconst 3, 1) := by decide +kernel
theorem d_Desk_goOverCharacter_44 : decode b_Desk_goOverCharacter 44 = .ok (.if_icmp .ne 17, 3) := by decide +kernel
theorem d_Desk_goOverCharacter_47 : decode b_Desk_goOverCharacter 47 = .ok (.aload_n 0, 1) := by decide +kernel
theorem d_Desk_goOverCharacter_48 : decode b_Desk_goOverCharacter 48 = .ok (.aload_n 0, 1) := by decide +kernel
theorem d_Desk_goOverCharacter_49 : decode b_Desk_goOverCharacter 49 = .ok (.getfield 27, 3) := by decide +kernel
theorem d_Desk_goOverCharacter_52 : decode b_Desk_goOverCharacter 52 = .ok (.getfield 130, 3) := by decide +kernel
theorem d_Desk_goOverCharacter_55 : decode b_Desk_goOverCharacter 55 = .ok (.iload_n 3, 1) := by decide +kernel
theorem d_Desk_goOverCharacter_56 : decode b_Desk_goOverCharacter 56 = .ok (.iconst 1, 1) := by decide +kernel
theorem d_Desk_goOverCharacter_57 : decode b_Desk_goOverCharacter 57 = .ok (.iadd, 1) := by decide +kernel
theorem d_Desk_goOverCharacter_58 : decode b_Desk_goOverCharacter 58 = .ok (.invokevirtual 140, 3) := by decide +kernel
theorem d_Desk_goOverCharacter_61 : decode b_Desk_goOverCharacter 61 = .ok (.return_, 1) := by decide +kernel
theorem d_Desk_give_0 : decode b_Desk_give 0 = .ok (.aload_n 0, 1) := by decide +kernel
theorem d_Desk_give_1 : decode b_Desk_give 1 = .ok (.getfield 43, 3) := by decide +kernel
theorem d_Desk_give_4 : decode b_Desk_give 4 = .ok (.sipush 3000, 3) := by decide +kernel
theorem d_Desk_give_7 : decode b_Desk_give 7 = .ok (.if_icmp .lt 14, 3) := by decide +kernel
theorem d_Desk_give_10 : decode b_Desk_give 10 = .ok (.aload_n 0, 1) := by decide +kernel
theorem d_Desk_give_11 : decode b_Desk_give 11 = .ok (.bipush 15, 2) := by decide +kernel
theorem d_Desk_give_13 : decode b_Desk_give 13 = .ok (.aload_n 0, 1) := by decide +kernel
theorem d_Desk_give_14 : decode b_Desk_give 14 = .ok (.getfield 37, 3) := by decide +kernel
theorem d_Desk_give_17 : decode b_Desk_give 17 = .ok (.invokevirtual 108, 3) := by decide +kernel
theorem d_Desk_give_20 : decode b_Desk_give 20 = .ok (.return_, 1) := by decide +kernel
theorem d_Desk_give_21 : decode b_Desk_give 21 = .ok (.aload_n 0, 1) := by decide +kernel
theorem d_Desk_give_22 : decode b_Desk_give 22 = .ok (.getfield 40, 3) := by decide +kernel
theorem d_Desk_give_25 : decode b_Desk_give 25 = .ok (.aload_n 0, 1) := by decide +kernel
theorem d_Desk_give_26 : decode b_Desk_give 26 = .ok (.getfield 43, 3) := by decide +kernel
theorem d_Desk_give_29 : decode b_Desk_give 29 = .ok (.iload_n 1, 1) := by decide +kernel
theorem d_Desk_give_30 : decode b_Desk_give 30 = .ok (.iastore, 1) := by decide +kernel
theorem d_Desk_give_31 : decode b_Desk_give 31 = .ok (.aload_n 0, 1) := by decide +kernel
theorem d_Desk_give_32 : decode b_Desk_give 32 = .ok (.dup, 1) := by decide +kernel
theorem d_Desk_give_33 : decode b_Desk_give 33 = .ok (.getfield 43, 3) := by decide +kernel
theorem d_Desk_give_36 : decode b_Desk_give 36 = .ok (.iconst 1, 1) := by decide +kernel
theorem d_Desk_give_37 : decode b_Desk_give 37 = .ok (.iadd, 1) := by decide +kernel
theorem d_Desk_give_38 : decode b_Desk_give 38 = .ok (.putfield 43, 3) := by decide +kernel
theorem d_Desk_give_41 : decode b_Desk_give 41 = .ok (.return_, 1) := by decide +kernel
theorem d_Desk_goInto_0 : decode b_Desk_goInto 0 = .ok (.aload_n 0, 1) := by decide +kernel
theorem d_Desk_goInto_1 : decode b_Desk_goInto 1 = .ok (.iload_n 1, 1) := by decide +kernel
theorem d_Desk_goInto_2 : decode b_Desk_goInto 2 = .ok (.iload_n 2, 1) := by decide +kernel
theorem d_Desk_goInto_3 : decode b_Desk_goInto 3 = .ok (.invokevirtual 143, 3) := by decide +kernel
theorem d_Desk_goInto_6 : decode b_Desk_goInto 6 = .ok (.istore_n 3, 1) := by decide +kernel
theorem d_Desk_goInto_7 : decode b_Desk_goInto 7 = .ok (.iload_n 3, 1) := by decide +kernel
theorem d_Desk_goInto_8 : decode b_Desk_goInto 8 = .ok (.ifCond .eq 13, 3) := by decide +kernel
theorem d_Desk_goInto_11 : decode b_Desk_goInto 11 = .ok (.aload_n 0, 1) := by decide +kernel
theorem d_Desk_goInto_12 : decode b_Desk_goInto 12 = .ok (.iload_n 3, 1) := by decide +kernel
theorem d_Desk_goInto_13 : decode b_Desk_goInto 13 = .ok (.aload_n 0, 1) := by decide +kernel
theorem d_Desk_goInto_14 : decode b_Desk_goInto 14 = .ok (.getfield 37, 3) := by decide +kernel
theorem d_Desk_goInto_17 : decode b_Desk_goInto 17 = .ok (.invokevirtual 108, 3) := by decide +kernel
theorem d_Desk_goInto_20 : decode b_Desk_goInto 20 = .ok (.return_, 1) := by decide +kernel
theorem d_Desk_goInto_21 : decode b_Desk_goInto 21 = .ok (.aload_n 0, 1) := by decide +kernel
theorem d_Desk_goInto_22 : decode b_Desk_goInto 22 = .ok (.dup, 1) := by decide +kernel
theorem d_Desk_goInto_23 : decode b_Desk_goInto 23 = .ok (.getfield 53, 3) := by decide +kernel
theorem d_Desk_goInto_26 : decode b_Desk_goInto 26 = .ok (.aload_n 0, 1) := by decide +kernel
theorem d_Desk_goInto_27 : decode b_Desk_goInto 27 = .ok (.getfield 20, 3) := by decide +kernel
theorem d_Desk_goInto_30 : decode b_Desk_goInto 30 = .ok (.iload_n 1, 1) := by decide +kernel
theorem d_Desk_goInto_31 : decode b_Desk_goInto 31 = .ok (.invokevirtual 83, 3) := by decide +kernel
theorem d_Desk_goInto_34 : decode b_Desk_goInto 34 = .ok (.iadd, 1) := by decide +kernel
theorem d_Desk_goInto_35 : decode b_Desk_goInto 35 = .ok (.putfield 53, 3) := by decide +kernel
theorem d_Desk_goInto_38 : decode b_Desk_goInto 38 = .ok (.aload_n 0, 1) := by decide +kernel
theorem d_Desk_goInto_39 : decode b_Desk_goInto 39 = .ok (.dup, 1) := by decide +kernel
theorem d_Desk_goInto_40 : decode b_Desk_goInto 40 = .ok (.getfield 56, 3) := by decide +kernel
theorem d_Desk_goInto_43 : decode b_Desk_goInto 43 = .ok (.iconst 1, 1) := by decide +kernel
theorem d_Desk_goInto_44 : decode b_Desk_goInto 44 = .ok (.iadd, 1) := by decide +kernel
theorem d_Desk_goInto_45 : decode b_Desk_goInto 45 = .ok (.putfield 56, 3) := by decide +kernel
theorem d_Desk_goInto_48 : decode b_Desk_goInto 48 = .ok (.aload_n 0, 1) := by decide +kernel
theorem d_Desk_goInto_49 : decode b_Desk_goInto 49 = .ok (.aload_n 0, 1) := by decide +kernel
theorem d_Desk_goInto_50 : decode b_Desk_goInto 50 = .ok (.getfield 59, 3) := by decide +kernel
theorem d_Desk_goInto_53 : decode b_Desk_goInto 53 = .ok (.iload_n 2, 1) := by decide +kernel
theorem d_Desk_goInto_54 : decode b_Desk_goInto 54 = .ok (.invokestatic 146, 3) := by decide +kernel
theorem d_Desk_goInto_57 : decode b_Desk_goInto 57 = .ok (.putfield 59, 3) := by decide +kernel
theorem d_Desk_goInto_60 : decode b_Desk_goInto 60 = .ok (.aload_n 0, 1) := by decide +kernel
theorem d_Desk_goInto_61 : decode b_Desk_goInto 61 = .ok (.getfield 46, 3) := by decide +kernel
theorem d_Desk_goInto_64 : decode b_Desk_goInto 64 = .ok (.iload_n 1, 1) := by decide +kernel
theorem d_Desk_goInto_65 : decode b_Desk_goInto 65 = .ok (.iconst 1, 1) := by decide +kernel
theorem d_Desk_goInto_66 : decode b_Desk_goInto 66 = .ok (.bastore, 1) := by decide +kernel
theorem d_Desk_goInto_67 : decode b_Desk_goInto 67 = .ok (.aload_n 0, 1) := by decide +kernel
theorem d_Desk_goInto_68 : decode b_Desk_goInto 68 = .ok (.getfield 20, 3) := by decide +kernel
theorem d_Desk_goInto_71 : decode b_Desk_goInto 71 = .ok (.iload_n 1, 1) := by decide +kernel
theorem d_Desk_goInto_72 : decode b_Desk_goInto 72 = .ok (.invokevirtual 151, 3) := by decide +kernel
theorem d_Desk_goInto_75 : decode b_Desk_goInto 75 = .ok (.istore 4, 2) := by decide +kernel
theorem d_Desk_goInto_77 : decode b_Desk_goInto 77 = .ok (.aload_n 0, 1) := by decide +kernel
theorem d_Desk_goInto_78 : decode b_Desk_goInto 78 = .ok (.aload_n 0, 1) := by decide +kernel
theorem d_Desk_goInto_79 : decode b_Desk_goInto 79 = .ok (.getfield 20, 3) := by decide +kernel
theorem d_Desk_goInto_82 : decode b_Desk_goInto 82 = .ok (.getfield 154, 3) := by decide +kernel
theorem d_Desk_goInto_85 : decode b_Desk_goInto 85 = .ok (.iload 4, 2) := by decide +kernel
theorem d_Desk_goInto_87 : decode b_Desk_goInto 87 = .ok (.iload 4, 2) := by decide +kernel
theorem d_Desk_goInto_89 : decode b_Desk_goInto 89 = .ok (.aload_n 0, 1) := by decide +kernel
theorem d_Desk_goInto_90 : decode b_Desk_goInto 90 = .ok (.getfield 20, 3) := by decide +kernel
theorem d_Desk_goInto_93 : decode b_Desk_goInto 93 = .ok (.iload_n 1, 1) := by decide +kernel
theorem d_Desk_goInto_94 : decode b_Desk_goInto 94 = .ok (.invokevirtual 83, 3) := by decide +kernel
theorem d_Desk_goInto_97 : decode b_Desk_goInto 97 = .ok (.iadd, 1) := by decide +kernel
theorem d_Desk_goInto_98 : decode b_Desk_goInto 98 = .ok (.iload_n 2, 1) := by decide +kernel
theorem d_Desk_goInto_99 : decode b_Desk_goInto 99 = .ok (.invokevirtual 88, 3) := by decide +kernel
theorem d_Desk_goInto_102 : decode b_Desk_goInto 102 = .ok (.aload_n 0, 1) := by decide +kernel
theorem d_Desk_goInto_103 : decode b_Desk_goInto 103 = .ok (.getfield 46, 3) := by decide +kernel
theorem d_Desk_goInto_106 : decode b_Desk_goInto 106 = .ok (.iload_n 1, 1) := by decide +kernel
theorem d_Desk_goInto_107 : decode b_Desk_goInto 107 = .ok (.iconst 0, 1) := by decide +kernel
theorem d_Desk_goInto_108 : decode b_Desk_goInto 108 = .ok (.bastore, 1) := by decide +kernel
theorem d_Desk_goInto_109 : decode b_Desk_goInto 109 = .ok (.return_, 1) := by decide +kernel
theorem d_Desk_faultOfEntity_0 : decode b_Desk_faultOfEntity 0 = .ok (.aload_n 0, 1) := by decide +kernel
theorem d_Desk_faultOfEntity_1 : decode b_Desk_faultOfEntity 1 = .ok (.getfield 20, 3) := by decide +kernel
theorem d_Desk_faultOfEntity_4 : decode b_Desk_faultOfEntity 4 = .ok (.iload_n 1, 1) := by decide +kernel
theorem d_Desk_faultOfEntity_5 : decode b_Desk_faultOfEntity 5 = .ok (.invokevirtual 69, 3) := by decide +kernel
theorem d_Desk_faultOfEntity_8 : decode b_Desk_faultOfEntity 8 = .ok (.ifCond .ne 5, 3) := by decide +kernel
theorem d_Desk_faultOfEntity_11 : decode b_Desk_faultOfEntity 11 = .ok (.iconst 5, 1) := by decide +kernel
theorem d_Desk_faultOfEntity_12 : decode b_Desk_faultOfEntity 12 = .ok (.ireturn, 1) := by decide +kernel
theorem d_Desk_faultOfEntity_13 : decode b_Desk_faultOfEntity 13 = .ok (.aload_n 0, 1) := by decide +kernel
theorem d_Desk_faultOfEntity_14 : decode b_Desk_faultOfEntity 14 = .ok (.getfield 46, 3) := by decide +kernel
theorem d_Desk_faultOfEntity_17 : decode b_Desk_faultOfEntity 17 = .ok (.iload_n 1, 1) := by decide +kernel
theorem d_Desk_faultOfEntity_18 : decode b_Desk_faultOfEntity 18 = .ok (.baload, 1) := by decide +kernel
theorem d_Desk_faultOfEntity_19 : decode b_Desk_faultOfEntity 19 = .ok (.ifCond .eq 6, 3) := by decide +kernel
theorem d_Desk_faultOfEntity_22 : decode b_Desk_faultOfEntity 22 = .ok (.bipush 6, 2) := by decide +kernel
theorem d_Desk_faultOfEntity_24 : decode b_Desk_faultOfEntity 24 = .ok (.ireturn, 1) := by decide +kernel
theorem d_Desk_faultOfEntity_25 : decode b_Desk_faultOfEntity 25 = .ok (.iload_n 2, 1) := by decide +kernel
theorem d_Desk_faultOfEntity_26 : decode b_Desk_faultOfEntity 26 = .ok (.bipush 12, 2) := by decide +kernel
theorem d_Desk_faultOfEntity_28 : decode b_Desk_faultOfEntity 28 = .ok (.if_icmp .le 6, 3) := by decide +kernel
theorem d_Desk_faultOfEntity_31 : decode b_Desk_faultOfEntity 31 = .ok (.bipush 15, 2) := by decide +kernel
theorem d_Desk_faultOfEntity_33 : decode b_Desk_faultOfEntity 33 = .ok (.ireturn, 1) := by decide +kernel
theorem d_Desk_faultOfEntity_34 : decode b_Desk_faultOfEntity 34 = .ok (.aload_n 0, 1) := by decide +kernel
theorem d_Desk_faultOfEntity_35 : decode b_Desk_faultOfEntity 35 = .ok (.getfield 53, 3) := by decide +kernel
theorem d_Desk_faultOfEntity_38 : decode b_Desk_faultOfEntity 38 = .ok (.aload_n 0, 1) := by decide +kernel
theorem d_Desk_faultOfEntity_39 : decode b_Desk_faultOfEntity 39 = .ok (.getfield 20, 3) := by decide +kernel
theorem d_Desk_faultOfEntity_42 : decode b_Desk_faultOfEntity 42 = .ok (.iload_n 1, 1) := by decide +kernel
theorem d_Desk_faultOfEntity_43 : decode b_Desk_faultOfEntity 43 = .ok (.invokevirtual 83, 3) := by decide +kernel
theorem d_Desk_faultOfEntity_46 : decode b_Desk_faultOfEntity 46 = .ok (.iadd, 1) := by decide +kernel
theorem d_Desk_faultOfEntity_47 : decode b_Desk_faultOfEntity 47 = .ok (.aload_n 0, 1) := by decide +kernel
theorem d_Desk_faultOfEntity_48 : decode b_Desk_faultOfEntity 48 = .ok (.getfield 50, 3) := by decide +kernel
theorem d_Desk_faultOfEntity_51 : decode b_Desk_faultOfEntity 51 = .ok (.if_icmp .le 8, 3) := by decide +kernel
theorem d_Desk_faultOfEntity_54 : decode b_Desk_faultOfEntity 54 = .ok (.bipush 14, 2) := by decide +kernel
theorem d_Desk_faultOfEntity_56 : decode b_Desk_faultOfEntity 56 = .ok (.goto 4, 3) := by decide +kernel
theorem d_Desk_faultOfEntity_59 : decode b_Desk_faultOfEntity 59 = .ok (.iconst 0, 1) := by decide +kernel
theorem d_Desk_faultOfEntity_60 : decode b_Desk_faultOfEntity 60 = .ok (.ireturn, 1) := by decide +kernel
