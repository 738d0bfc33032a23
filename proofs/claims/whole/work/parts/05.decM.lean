theorem d_Model_init_0 : decode b_Model_init 0 = .ok (.aload_n 0, 1) := by decide +kernel
theorem d_Model_init_1 : decode b_Model_init 1 = .ok (.invokespecial 1, 3) := by decide +kernel
theorem d_Model_init_4 : decode b_Model_init 4 = .ok (.aload_n 0, 1) := by decide +kernel
theorem d_Model_init_5 : decode b_Model_init 5 = .ok (.sipush 400, 3) := by decide +kernel
theorem d_Model_init_8 : decode b_Model_init 8 = .ok (.newarray .int, 2) := by decide +kernel
theorem d_Model_init_10 : decode b_Model_init 10 = .ok (.putfield 7, 3) := by decide +kernel
theorem d_Model_init_13 : decode b_Model_init 13 = .ok (.aload_n 0, 1) := by decide +kernel
theorem d_Model_init_14 : decode b_Model_init 14 = .ok (.sipush 2000, 3) := by decide +kernel
theorem d_Model_init_17 : decode b_Model_init 17 = .ok (.newarray .int, 2) := by decide +kernel
theorem d_Model_init_19 : decode b_Model_init 19 = .ok (.putfield 13, 3) := by decide +kernel
theorem d_Model_init_22 : decode b_Model_init 22 = .ok (.aload_n 0, 1) := by decide +kernel
theorem d_Model_init_23 : decode b_Model_init 23 = .ok (.bipush 26, 2) := by decide +kernel
theorem d_Model_init_25 : decode b_Model_init 25 = .ok (.newarray .int, 2) := by decide +kernel
theorem d_Model_init_27 : decode b_Model_init 27 = .ok (.putfield 16, 3) := by decide +kernel
theorem d_Model_init_30 : decode b_Model_init 30 = .ok (.aload_n 0, 1) := by decide +kernel
theorem d_Model_init_31 : decode b_Model_init 31 = .ok (.bipush 26, 2) := by decide +kernel
theorem d_Model_init_33 : decode b_Model_init 33 = .ok (.newarray .int, 2) := by decide +kernel
theorem d_Model_init_35 : decode b_Model_init 35 = .ok (.putfield 19, 3) := by decide +kernel
theorem d_Model_init_38 : decode b_Model_init 38 = .ok (.aload_n 0, 1) := by decide +kernel
theorem d_Model_init_39 : decode b_Model_init 39 = .ok (.bipush 26, 2) := by decide +kernel
theorem d_Model_init_41 : decode b_Model_init 41 = .ok (.newarray .boolean, 2) := by decide +kernel
theorem d_Model_init_43 : decode b_Model_init 43 = .ok (.putfield 22, 3) := by decide +kernel
theorem d_Model_init_46 : decode b_Model_init 46 = .ok (.aload_n 0, 1) := by decide +kernel
theorem d_Model_init_47 : decode b_Model_init 47 = .ok (.sipush 2600, 3) := by decide +kernel
theorem d_Model_init_50 : decode b_Model_init 50 = .ok (.newarray .int, 2) := by decide +kernel
theorem d_Model_init_52 : decode b_Model_init 52 = .ok (.putfield 26, 3) := by decide +kernel
theorem d_Model_init_55 : decode b_Model_init 55 = .ok (.aload_n 0, 1) := by decide +kernel
theorem d_Model_init_56 : decode b_Model_init 56 = .ok (.bipush 26, 2) := by decide +kernel
theorem d_Model_init_58 : decode b_Model_init 58 = .ok (.newarray .boolean, 2) := by decide +kernel
theorem d_Model_init_60 : decode b_Model_init 60 = .ok (.putfield 29, 3) := by decide +kernel
theorem d_Model_init_63 : decode b_Model_init 63 = .ok (.aload_n 0, 1) := by decide +kernel
theorem d_Model_init_64 : decode b_Model_init 64 = .ok (.sipush 3000, 3) := by decide +kernel
theorem d_Model_init_67 : decode b_Model_init 67 = .ok (.newarray .int, 2) := by decide +kernel
theorem d_Model_init_69 : decode b_Model_init 69 = .ok (.putfield 32, 3) := by decide +kernel
theorem d_Model_init_72 : decode b_Model_init 72 = .ok (.aload_n 0, 1) := by decide +kernel
theorem d_Model_init_73 : decode b_Model_init 73 = .ok (.iconst (-1), 1) := by decide +kernel
theorem d_Model_init_74 : decode b_Model_init 74 = .ok (.putfield 35, 3) := by decide +kernel
theorem d_Model_init_77 : decode b_Model_init 77 = .ok (.return_, 1) := by decide +kernel
theorem d_Model_put_0 : decode b_Model_put 0 = .ok (.iload_n 3, 1) := by decide +kernel
theorem d_Model_put_1 : decode b_Model_put 1 = .ok (.iconst 1, 1) := by decide +kernel
theorem d_Model_put_2 : decode b_Model_put 2 = .ok (.if_icmp .lt 21, 3) := by decide +kernel
theorem d_Model_put_5 : decode b_Model_put 5 = .ok (.iload_n 3, 1) := by decide +kernel
theorem d_Model_put_6 : decode b_Model_put 6 = .ok (.bipush 8, 2) := by decide +kernel
theorem d_Model_put_8 : decode b_Model_put 8 = .ok (.if_icmp .gt 15, 3) := by decide +kernel
theorem d_Model_put_11 : decode b_Model_put 11 = .ok (.aload_n 0, 1) := by decide +kernel
theorem d_Model_put_12 : decode b_Model_put 12 = .ok (.getfield 39, 3) := by decide +kernel
theorem d_Model_put_15 : decode b_Model_put 15 = .ok (.iload_n 3, 1) := by decide +kernel
theorem d_Model_put_16 : decode b_Model_put 16 = .ok (.iadd, 1) := by decide +kernel
theorem d_Model_put_17 : decode b_Model_put 17 = .ok (.sipush 400, 3) := by decide +kernel
theorem d_Model_put_20 : decode b_Model_put 20 = .ok (.if_icmp .le 5, 3) := by decide +kernel
theorem d_Model_put_23 : decode b_Model_put 23 = .ok (.iconst 0, 1) := by decide +kernel
theorem d_Model_put_24 : decode b_Model_put 24 = .ok (.ireturn, 1) := by decide +kernel
theorem d_Model_put_25 : decode b_Model_put 25 = .ok (.iconst 0, 1) := by decide +kernel
theorem d_Model_put_26 : decode b_Model_put 26 = .ok (.istore 4, 2) := by decide +kernel
theorem d_Model_put_28 : decode b_Model_put 28 = .ok (.iload 4, 2) := by decide +kernel
theorem d_Model_put_30 : decode b_Model_put 30 = .ok (.iload_n 3, 1) := by decide +kernel
theorem d_Model_put_31 : decode b_Model_put 31 = .ok (.if_icmp .ge 37, 3) := by decide +kernel
theorem d_Model_put_34 : decode b_Model_put 34 = .ok (.aload_n 0, 1) := by decide +kernel
theorem d_Model_put_35 : decode b_Model_put 35 = .ok (.getfield 7, 3) := by decide +kernel
theorem d_Model_put_38 : decode b_Model_put 38 = .ok (.aload_n 0, 1) := by decide +kernel
theorem d_Model_put_39 : decode b_Model_put 39 = .ok (.getfield 39, 3) := by decide +kernel
theorem d_Model_put_42 : decode b_Model_put 42 = .ok (.iload 4, 2) := by decide +kernel
theorem d_Model_put_44 : decode b_Model_put 44 = .ok (.iadd, 1) := by decide +kernel
theorem d_Model_put_45 : decode b_Model_put 45 = .ok (.lload_n 1, 1) := by decide +kernel
theorem d_Model_put_46 : decode b_Model_put 46 = .ok (.bipush 8, 2) := by decide +kernel
theorem d_Model_put_48 : decode b_Model_put 48 = .ok (.iload_n 3, 1) := by decide +kernel
theorem d_Model_put_49 : decode b_Model_put 49 = .ok (.iconst 1, 1) := by decide +kernel
theorem d_Model_put_50 : decode b_Model_put 50 = .ok (.isub, 1) := by decide +kernel
theorem d_Model_put_51 : decode b_Model_put 51 = .ok (.iload 4, 2) := by decide +kernel
theorem d_Model_put_53 : decode b_Model_put 53 = .ok (.isub, 1) := by decide +kernel
theorem d_Model_put_54 : decode b_Model_put 54 = .ok (.imul, 1) := by decide +kernel
theorem d_Model_put_55 : decode b_Model_put 55 = .ok (.lshr, 1) := by decide +kernel
theorem d_Model_put_56 : decode b_Model_put 56 = .ok (.ldc2_w 42, 3) := by decide +kernel
theorem d_Model_put_59 : decode b_Model_put 59 = .ok (.land, 1) := by decide +kernel
theorem d_Model_put_60 : decode b_Model_put 60 = .ok (.l2i, 1) := by decide +kernel
theorem d_Model_put_61 : decode b_Model_put 61 = .ok (.iastore, 1) := by decide +kernel
theorem d_Model_put_62 : decode b_Model_put 62 = .ok (.iinc 4 1, 3) := by decide +kernel
theorem d_Model_put_65 : decode b_Model_put 65 = .ok (.goto (-37), 3) := by decide +kernel
theorem d_Model_put_68 : decode b_Model_put 68 = .ok (.aload_n 0, 1) := by decide +kernel
theorem d_Model_put_69 : decode b_Model_put 69 = .ok (.aload_n 0, 1) := by decide +kernel
theorem d_Model_put_70 : decode b_Model_put 70 = .ok (.getfield 39, 3) := by decide +kernel
theorem d_Model_put_73 : decode b_Model_put 73 = .ok (.iload_n 3, 1) := by decide +kernel
theorem d_Model_put_74 : decode b_Model_put 74 = .ok (.iadd, 1) := by decide +kernel
theorem d_Model_put_75 : decode b_Model_put 75 = .ok (.putfield 39, 3) := by decide +kernel
theorem d_Model_put_78 : decode b_Model_put 78 = .ok (.iconst 1, 1) := by decide +kernel
theorem d_Model_put_79 : decode b_Model_put 79 = .ok (.ireturn, 1) := by decide +kernel
theorem d_Model_fail_0 : decode b_Model_fail 0 = .ok (.aload_n 0, 1) := by decide +kernel
theorem d_Model_fail_1 : decode b_Model_fail 1 = .ok (.iload_n 1, 1) := by decide +kernel
theorem d_Model_fail_2 : decode b_Model_fail 2 = .ok (.putfield 44, 3) := by decide +kernel
theorem d_Model_fail_5 : decode b_Model_fail 5 = .ok (.aload_n 0, 1) := by decide +kernel
theorem d_Model_fail_6 : decode b_Model_fail 6 = .ok (.aload_n 0, 1) := by decide +kernel
theorem d_Model_fail_7 : decode b_Model_fail 7 = .ok (.getfield 47, 3) := by decide +kernel
theorem d_Model_fail_10 : decode b_Model_fail 10 = .ok (.ifCond .le 10, 3) := by decide +kernel
theorem d_Model_fail_13 : decode b_Model_fail 13 = .ok (.aload_n 0, 1) := by decide +kernel
theorem d_Model_fail_14 : decode b_Model_fail 14 = .ok (.getfield 50, 3) := by decide +kernel
theorem d_Model_fail_17 : decode b_Model_fail 17 = .ok (.goto 4, 3) := by decide +kernel
theorem d_Model_fail_20 : decode b_Model_fail 20 = .ok (.iload_n 2, 1) := by decide +kernel
theorem d_Model_fail_21 : decode b_Model_fail 21 = .ok (.putfield 35, 3) := by decide +kernel
theorem d_Model_fail_24 : decode b_Model_fail 24 = .ok (.iconst (-1), 1) := by decide +kernel
theorem d_Model_fail_25 : decode b_Model_fail 25 = .ok (.ireturn, 1) := by decide +kernel
theorem d_Model_peek_0 : decode b_Model_peek 0 = .ok (.aload_n 0, 1) := by decide +kernel
theorem d_Model_peek_1 : decode b_Model_peek 1 = .ok (.getfield 53, 3) := by decide +kernel
theorem d_Model_peek_4 : decode b_Model_peek 4 = .ok (.ifCond .eq 17, 3) := by decide +kernel
theorem d_Model_peek_7 : decode b_Model_peek 7 = .ok (.aload_n 0, 1) := by decide +kernel
theorem d_Model_peek_8 : decode b_Model_peek 8 = .ok (.getfield 26, 3) := by decide +kernel
theorem d_Model_peek_11 : decode b_Model_peek 11 = .ok (.aload_n 0, 1) := by decide +kernel
theorem d_Model_peek_12 : decode b_Model_peek 12 = .ok (.getfield 53, 3) := by decide +kernel
theorem d_Model_peek_15 : decode b_Model_peek 15 = .ok (.iconst 1, 1) := by decide +kernel
theorem d_Model_peek_16 : decode b_Model_peek 16 = .ok (.isub, 1) := by decide +kernel
theorem d_Model_peek_17 : decode b_Model_peek 17 = .ok (.iaload, 1) := by decide +kernel
theorem d_Model_peek_18 : decode b_Model_peek 18 = .ok (.ifCond .ge 7, 3) := by decide +kernel
theorem d_Model_peek_21 : decode b_Model_peek 21 = .ok (.iconst (-1), 1) := by decide +kernel
theorem d_Model_peek_22 : decode b_Model_peek 22 = .ok (.goto 14, 3) := by decide +kernel
theorem d_Model_peek_25 : decode b_Model_peek 25 = .ok (.aload_n 0, 1) := by decide +kernel
theorem d_Model_peek_26 : decode b_Model_peek 26 = .ok (.getfield 26, 3) := by decide +kernel
theorem d_Model_peek_29 : decode b_Model_peek 29 = .ok (.aload_n 0, 1) := by decide +kernel
theorem d_Model_peek_30 : decode b_Model_peek 30 = .ok (.getfield 53, 3) := by decide +kernel
theorem d_Model_peek_33 : decode b_Model_peek 33 = .ok (.iconst 1, 1) := by decide +kernel
theorem d_Model_peek_34 : decode b_Model_peek 34 = .ok (.isub, 1) := by decide +kernel
theorem d_Model_peek_35 : decode b_Model_peek 35 = .ok (.iaload, 1) := by decide +kernel
theorem d_Model_peek_36 : decode b_Model_peek 36 = .ok (.ireturn, 1) := by decide +kernel
theorem d_Model_pass_0 : decode b_Model_pass 0 = .ok (.aload_n 0, 1) := by decide +kernel
theorem d_Model_pass_1 : decode b_Model_pass 1 = .ok (.aload_n 0, 1) := by decide +kernel
theorem d_Model_pass_2 : decode b_Model_pass 2 = .ok (.getfield 53, 3) := by decide +kernel
theorem d_Model_pass_5 : decode b_Model_pass 5 = .ok (.iconst 1, 1) := by decide +kernel
theorem d_Model_pass_6 : decode b_Model_pass 6 = .ok (.isub, 1) := by decide +kernel
theorem d_Model_pass_7 : decode b_Model_pass 7 = .ok (.putfield 53, 3) := by decide +kernel
theorem d_Model_pass_10 : decode b_Model_pass 10 = .ok (.aload_n 0, 1) := by decide +kernel
theorem d_Model_pass_11 : decode b_Model_pass 11 = .ok (.getfield 47, 3) := by decide +kernel
theorem d_Model_pass_14 : decode b_Model_pass 14 = .ok (.ifCond .ne 13, 3) := by decide +kernel
theorem d_Model_pass_17 : decode b_Model_pass 17 = .ok (.aload_n 0, 1) := by decide +kernel
theorem d_Model_pass_18 : decode b_Model_pass 18 = .ok (.aload_n 0, 1) := by decide +kernel
theorem d_Model_pass_19 : decode b_Model_pass 19 = .ok (.getfield 56, 3) := by decide +kernel
theorem d_Model_pass_22 : decode b_Model_pass 22 = .ok (.iconst 1, 1) := by decide +kernel
theorem d_Model_pass_23 : decode b_Model_pass 23 = .ok (.iadd, 1) := by decide +kernel
theorem d_Model_pass_24 : decode b_Model_pass 24 = .ok (.putfield 56, 3) := by decide +kernel
theorem d_Model_pass_27 : decode b_Model_pass 27 = .ok (.return_, 1) := by decide +kernel
theorem d_Model_digit_0 : decode b_Model_digit 0 = .ok (.iload_n 0, 1) := by decide +kernel
theorem d_Model_digit_1 : decode b_Model_digit 1 = .ok (.bipush 48, 2) := by decide +kernel
theorem d_Model_digit_3 : decode b_Model_digit 3 = .ok (.if_icmp .lt 14, 3) := by decide +kernel
theorem d_Model_digit_6 : decode b_Model_digit 6 = .ok (.iload_n 0, 1) := by decide +kernel
theorem d_Model_digit_7 : decode b_Model_digit 7 = .ok (.bipush 57, 2) := by decide +kernel
theorem d_Model_digit_9 : decode b_Model_digit 9 = .ok (.if_icmp .gt 8, 3) := by decide +kernel
theorem d_Model_digit_12 : decode b_Model_digit 12 = .ok (.iload_n 0, 1) := by decide +kernel
theorem d_Model_digit_13 : decode b_Model_digit 13 = .ok (.bipush 48, 2) := by decide +kernel
theorem d_Model_digit_15 : decode b_Model_digit 15 = .ok (.isub, 1) := by decide +kernel
theorem d_Model_digit_16 : decode b_Model_digit 16 = .ok (.ireturn, 1) := by decide +kernel
theorem d_Model_digit_17 : decode b_Model_digit 17 = .ok (.iload_n 1, 1) := by decide +kernel
theorem d_Model_digit_18 : decode b_Model_digit 18 = .ok (.bipush 16, 2) := by decide +kernel
theorem d_Model_digit_20 : decode b_Model_digit 20 = .ok (.if_icmp .ne 23, 3) := by decide +kernel
theorem d_Model_digit_23 : decode b_Model_digit 23 = .ok (.iload_n 0, 1) := by decide +kernel
theorem d_Model_digit_24 : decode b_Model_digit 24 = .ok (.bipush 97, 2) := by decide +kernel
theorem d_Model_digit_26 : decode b_Model_digit 26 = .ok (.if_icmp .lt 17, 3) := by decide +kernel
theorem d_Model_digit_29 : decode b_Model_digit 29 = .ok (.iload_n 0, 1) := by decide +kernel
theorem d_Model_digit_30 : decode b_Model_digit 30 = .ok (.bipush 102, 2) := by decide +kernel
theorem d_Model_digit_32 : decode b_Model_digit 32 = .ok (.if_icmp .gt 11, 3) := by decide +kernel
theorem d_Model_digit_35 : decode b_Model_digit 35 = .ok (.iload_n 0, 1) := by decide +kernel
theorem d_Model_digit_36 : decode b_Model_digit 36 = .ok (.bipush 97, 2) := by decide +kernel
theorem d_Model_digit_38 : decode b_Model_digit 38 = .ok (.isub, 1) := by decide +kernel
theorem d_Model_digit_39 : decode b_Model_digit 39 = .ok (.bipush 10, 2) := by decide +kernel
theorem d_Model_digit_41 : decode b_Model_digit 41 = .ok (.iadd, 1) := by decide +kernel
theorem d_Model_digit_42 : decode b_Model_digit 42 = .ok (.ireturn, 1) := by decide +kernel
theorem d_Model_digit_43 : decode b_Model_digit 43 = .ok (.iload_n 1, 1) := by decide +kernel
theorem d_Model_digit_44 : decode b_Model_digit 44 = .ok (.bipush 16, 2) := by decide +kernel
theorem d_Model_digit_46 : decode b_Model_digit 46 = .ok (.if_icmp .ne 25, 3) := by decide +kernel
theorem d_Model_digit_49 : decode b_Model_digit 49 = .ok (.iload_n 0, 1) := by decide +kernel
theorem d_Model_digit_50 : decode b_Model_digit 50 = .ok (.bipush 65, 2) := by decide +kernel
theorem d_Model_digit_52 : decode b_Model_digit 52 = .ok (.if_icmp .lt 19, 3) := by decide +kernel
theorem d_Model_digit_55 : decode b_Model_digit 55 = .ok (.iload_n 0, 1) := by decide +kernel
theorem d_Model_digit_56 : decode b_Model_digit 56 = .ok (.bipush 70, 2) := by decide +kernel
theorem d_Model_digit_58 : decode b_Model_digit 58 = .ok (.if_icmp .gt 13, 3) := by decide +kernel
theorem d_Model_digit_61 : decode b_Model_digit 61 = .ok (.iload_n 0, 1) := by decide +kernel
theorem d_Model_digit_62 : decode b_Model_digit 62 = .ok (.bipush 65, 2) := by decide +kernel
theorem d_Model_digit_64 : decode b_Model_digit 64 = .ok (.isub, 1) := by decide +kernel
theorem d_Model_digit_65 : decode b_Model_digit 65 = .ok (.bipush 10, 2) := by decide +kernel
theorem d_Model_digit_67 : decode b_Model_digit 67 = .ok (.iadd, 1) := by decide +kernel
theorem d_Model_digit_68 : decode b_Model_digit 68 = .ok (.goto 4, 3) := by decide +kernel
theorem d_Model_digit_71 : decode b_Model_digit 71 = .ok (.iconst (-1), 1) := by decide +kernel
theorem d_Model_digit_72 : decode b_Model_digit 72 = .ok (.ireturn, 1) := by decide +kernel
theorem d_Model_broken_0 : decode b_Model_broken 0 = .ok (.aload_n 0, 1) := by decide +kernel
theorem d_Model_broken_1 : decode b_Model_broken 1 = .ok (.getfield 47, 3) := by decide +kernel
theorem d_Model_broken_4 : decode b_Model_broken 4 = .ok (.ifCond .le 20, 3) := by decide +kernel
theorem d_Model_broken_7 : decode b_Model_broken 7 = .ok (.aload_n 0, 1) := by decide +kernel
theorem d_Model_broken_8 : decode b_Model_broken 8 = .ok (.invokevirtual 59, 3) := by decide +kernel
theorem d_Model_broken_11 : decode b_Model_broken 11 = .ok (.ifCond .ge 13, 3) := by decide +kernel
theorem d_Model_broken_14 : decode b_Model_broken 14 = .ok (.aload_n 0, 1) := by decide +kernel
theorem d_Model_broken_15 : decode b_Model_broken 15 = .ok (.bipush 13, 2) := by decide +kernel
theorem d_Model_broken_17 : decode b_Model_broken 17 = .ok (.iconst 0, 1) := by decide +kernel
theorem d_Model_broken_18 : decode b_Model_broken 18 = .ok (.invokevirtual 63, 3) := by decide +kernel
theorem d_Model_broken_21 : decode b_Model_broken 21 = .ok (.goto 12, 3) := by decide +kernel
theorem d_Model_broken_24 : decode b_Model_broken 24 = .ok (.aload_n 0, 1) := by decide +kernel
theorem d_Model_broken_25 : decode b_Model_broken 25 = .ok (.iconst 2, 1) := by decide +kernel
theorem d_Model_broken_26 : decode b_Model_broken 26 = .ok (.aload_n 0, 1) := by decide +kernel
theorem d_Model_broken_27 : decode b_Model_broken 27 = .ok (.getfield 56, 3) := by decide +kernel
theorem d_Model_broken_30 : decode b_Model_broken 30 = .ok (.invokevirtual 63, 3) := by decide +kernel
theorem d_Model_broken_33 : decode b_Model_broken 33 = .ok (.ireturn, 1) := by decide +kernel
theorem d_Model_reference_0 : decode b_Model_reference 0 = .ok (.aload_n 0, 1) := by decide +kernel
theorem d_Model_reference_1 : decode b_Model_reference 1 = .ok (.invokevirtual 59, 3) := by decide +kernel
theorem d_Model_reference_4 : decode b_Model_reference 4 = .ok (.istore_n 2, 1) := by decide +kernel
theorem d_Model_reference_5 : decode b_Model_reference 5 = .ok (.aload_n 0, 1) := by decide +kernel
theorem d_Model_reference_6 : decode b_Model_reference 6 = .ok (.iconst (-1), 1) := by decide +kernel
theorem d_Model_reference_7 : decode b_Model_reference 7 = .ok (.putfield 67, 3) := by decide +kernel
theorem d_Model_reference_10 : decode b_Model_reference 10 = .ok (.aload_n 0, 1) := by decide +kernel
theorem d_Model_reference_11 : decode b_Model_reference 11 = .ok (.lconst 0, 1) := by decide +kernel
theorem d_Model_reference_12 : decode b_Model_reference 12 = .ok (.putfield 70, 3) := by decide +kernel
theorem d_Model_reference_15 : decode b_Model_reference 15 = .ok (.iload_n 2, 1) := by decide +kernel
theorem d_Model_reference_16 : decode b_Model_reference 16 = .ok (.bipush 97, 2) := by decide +kernel
theorem d_Model_reference_18 : decode b_Model_reference 18 = .ok (.if_icmp .lt 24, 3) := by decide +kernel
theorem d_Model_reference_21 : decode b_Model_reference 21 = .ok (.iload_n 2, 1) := by decide +kernel
theorem d_Model_reference_22 : decode b_Model_reference 22 = .ok (.bipush 122, 2) := by decide +kernel
theorem d_Model_reference_24 : decode b_Model_reference 24 = .ok (.if_icmp .gt 18, 3) := by decide +kernel
theorem d_Model_reference_27 : decode b_Model_reference 27 = .ok (.aload_n 0, 1) := by decide +kernel
theorem d_Model_reference_28 : decode b_Model_reference 28 = .ok (.iload_n 2, 1) := by decide +kernel
theorem d_Model_reference_29 : decode b_Model_reference 29 = .ok (.bipush 97, 2) := by decide +kernel
theorem d_Model_reference_31 : decode b_Model_reference 31 = .ok (.isub, 1) := by decide +kernel
theorem d_Model_reference_32 : decode b_Model_reference 32 = .ok (.putfield 67, 3) := by decide +kernel
theorem d_Model_reference_35 : decode b_Model_reference 35 = .ok (.aload_n 0, 1) := by decide +kernel
theorem d_Model_reference_36 : decode b_Model_reference 36 = .ok (.invokevirtual 74, 3) := by decide +kernel
theorem d_Model_reference_39 : decode b_Model_reference 39 = .ok (.goto 128, 3) := by decide +kernel
theorem d_Model_reference_42 : decode b_Model_reference 42 = .ok (.iload_n 2, 1) := by decide +kernel
theorem d_Model_reference_43 : decode b_Model_reference 43 = .ok (.bipush 35, 2) := by decide +kernel
theorem d_Model_reference_45 : decode b_Model_reference 45 = .ok (.if_icmp .ne 117, 3) := by decide +kernel
theorem d_Model_reference_48 : decode b_Model_reference 48 = .ok (.aload_n 0, 1) := by decide +kernel
theorem d_Model_reference_49 : decode b_Model_reference 49 = .ok (.invokevirtual 74, 3) := by decide +kernel
theorem d_Model_reference_52 : decode b_Model_reference 52 = .ok (.aload_n 0, 1) := by decide +kernel
theorem d_Model_reference_53 : decode b_Model_reference 53 = .ok (.invokevirtual 59, 3) := by decide +kernel
theorem d_Model_reference_56 : decode b_Model_reference 56 = .ok (.bipush 120, 2) := by decide +kernel
theorem d_Model_reference_58 : decode b_Model_reference 58 = .ok (.if_icmp .ne 8, 3) := by decide +kernel
theorem d_Model_reference_61 : decode b_Model_reference 61 = .ok (.bipush 16, 2) := by decide +kernel
theorem d_Model_reference_63 : decode b_Model_reference 63 = .ok (.goto 5, 3) := by decide +kernel
theorem d_Model_reference_66 : decode b_Model_reference 66 = .ok (.bipush 10, 2) := by decide +kernel
theorem d_Model_reference_68 : decode b_Model_reference 68 = .ok (.istore_n 3, 1) := by decide +kernel
theorem d_Model_reference_69 : decode b_Model_reference 69 = .ok (.iload_n 3, 1) := by decide +kernel
theorem d_Model_reference_70 : decode b_Model_reference 70 = .ok (.bipush 16, 2) := by decide +kernel
theorem d_Model_reference_72 : decode b_Model_reference 72 = .ok (.if_icmp .ne 7, 3) := by decide +kernel
theorem d_Model_reference_75 : decode b_Model_reference 75 = .ok (.aload_n 0, 1) := by decide +kernel
theorem d_Model_reference_76 : decode b_Model_reference 76 = .ok (.invokevirtual 74, 3) := by decide +kernel
theorem d_Model_reference_79 : decode b_Model_reference 79 = .ok (.aload_n 0, 1) := by decide +kernel
theorem d_Model_reference_80 : decode b_Model_reference 80 = .ok (.invokevirtual 59, 3) := by decide +kernel
theorem d_Model_reference_83 : decode b_Model_reference 83 = .ok (.iload_n 3, 1) := by decide +kernel
theorem d_Model_reference_84 : decode b_Model_reference 84 = .ok (.invokestatic 77, 3) := by decide +kernel
theorem d_Model_reference_87 : decode b_Model_reference 87 = .ok (.ifCond .ge 8, 3) := by decide +kernel
theorem d_Model_reference_90 : decode b_Model_reference 90 = .ok (.aload_n 0, 1) := by decide +kernel
theorem d_Model_reference_91 : decode b_Model_reference 91 = .ok (.invokevirtual 80, 3) := by decide +kernel
theorem d_Model_reference_94 : decode b_Model_reference 94 = .ok (.ireturn, 1) := by decide +kernel
theorem d_Model_reference_95 : decode b_Model_reference 95 = .ok (.aload_n 0, 1) := by decide +kernel
theorem d_Model_reference_96 : decode b_Model_reference 96 = .ok (.invokevirtual 59, 3) := by decide +kernel
theorem d_Model_reference_99 : decode b_Model_reference 99 = .ok (.iload_n 3, 1) := by decide +kernel
theorem d_Model_reference_100 : decode b_Model_reference 100 = .ok (.invokestatic 77, 3) := by decide +kernel
theorem d_Model_reference_103 : decode b_Model_reference 103 = .ok (.ifCond .lt 56, 3) := by decide +kernel
theorem d_Model_reference_106 : decode b_Model_reference 106 = .ok (.aload_n 0, 1) := by decide +kernel
theorem d_Model_reference_107 : decode b_Model_reference 107 = .ok (.aload_n 0, 1) := by decide +kernel
theorem d_Model_reference_108 : decode b_Model_reference 108 = .ok (.getfield 70, 3) := by decide +kernel
theorem d_Model_reference_111 : decode b_Model_reference 111 = .ok (.iload_n 3, 1) := by decide +kernel
theorem d_Model_reference_112 : decode b_Model_reference 112 = .ok (.i2l, 1) := by decide +kernel
theorem d_Model_reference_113 : decode b_Model_reference 113 = .ok (.lmul, 1) := by decide +kernel
theorem d_Model_reference_114 : decode b_Model_reference 114 = .ok (.aload_n 0, 1) := by decide +kernel
theorem d_Model_reference_115 : decode b_Model_reference 115 = .ok (.invokevirtual 59, 3) := by decide +kernel
theorem d_Model_reference_118 : decode b_Model_reference 118 = .ok (.iload_n 3, 1) := by decide +kernel
theorem d_Model_reference_119 : decode b_Model_reference 119 = .ok (.invokestatic 77, 3) := by decide +kernel
theorem d_Model_reference_122 : decode b_Model_reference 122 = .ok (.i2l, 1) := by decide +kernel
theorem d_Model_reference_123 : decode b_Model_reference 123 = .ok (.ladd, 1) := by decide +kernel
theorem d_Model_reference_124 : decode b_Model_reference 124 = .ok (.putfield 70, 3) := by decide +kernel
theorem d_Model_reference_127 : decode b_Model_reference 127 = .ok (.aload_n 0, 1) := by decide +kernel
theorem d_Model_reference_128 : decode b_Model_reference 128 = .ok (.aload_n 0, 1) := by decide +kernel
theorem d_Model_reference_129 : decode b_Model_reference 129 = .ok (.getfield 70, 3) := by decide +kernel
theorem d_Model_reference_132 : decode b_Model_reference 132 = .ok (.ldc2_w 83, 3) := by decide +kernel
theorem d_Model_reference_135 : decode b_Model_reference 135 = .ok (.lcmp, 1) := by decide +kernel
theorem d_Model_reference_136 : decode b_Model_reference 136 = .ok (.ifCond .le 9, 3) := by decide +kernel
theorem d_Model_reference_139 : decode b_Model_reference 139 = .ok (.ldc2_w 83, 3) := by decide +kernel
theorem d_Model_reference_142 : decode b_Model_reference 142 = .ok (.goto 7, 3) := by decide +kernel
theorem d_Model_reference_145 : decode b_Model_reference 145 = .ok (.aload_n 0, 1) := by decide +kernel
theorem d_Model_reference_146 : decode b_Model_reference 146 = .ok (.getfield 70, 3) := by decide +kernel
theorem d_Model_reference_149 : decode b_Model_reference 149 = .ok (.putfield 70, 3) := by decide +kernel
theorem d_Model_reference_152 : decode b_Model_reference 152 = .ok (.aload_n 0, 1) := by decide +kernel
theorem d_Model_reference_153 : decode b_Model_reference 153 = .ok (.invokevirtual 74, 3) := by decide +kernel
theorem d_Model_reference_156 : decode b_Model_reference 156 = .ok (.goto (-61), 3) := by decide +kernel
theorem d_Model_reference_159 : decode b_Model_reference 159 = .ok (.goto 8, 3) := by decide +kernel
theorem d_Model_reference_162 : decode b_Model_reference 162 = .ok (.aload_n 0, 1) := by decide +kernel
theorem d_Model_reference_163 : decode b_Model_reference 163 = .ok (.invokevirtual 80, 3) := by decide +kernel
theorem d_Model_reference_166 : decode b_Model_reference 166 = .ok (.ireturn, 1) := by decide +kernel
theorem d_Model_reference_167 : decode b_Model_reference 167 = .ok (.aload_n 0, 1) := by decide +kernel
theorem d_Model_reference_168 : decode b_Model_reference 168 = .ok (.invokevirtual 59, 3) := by decide +kernel
theorem d_Model_reference_171 : decode b_Model_reference 171 = .ok (.bipush 59, 2) := by decide +kernel
theorem d_Model_reference_173 : decode b_Model_reference 173 = .ok (.if_icmp .eq 8, 3) := by decide +kernel
theorem d_Model_reference_176 : decode b_Model_reference 176 = .ok (.aload_n 0, 1) := by decide +kernel
theorem d_Model_reference_177 : decode b_Model_reference 177 = .ok (.invokevirtual 80, 3) := by decide +kernel
theorem d_Model_reference_180 : decode b_Model_reference 180 = .ok (.ireturn, 1) := by decide +kernel
theorem d_Model_reference_181 : decode b_Model_reference 181 = .ok (.aload_n 0, 1) := by decide +kernel
theorem d_Model_reference_182 : decode b_Model_reference 182 = .ok (.invokevirtual 74, 3) := by decide +kernel
theorem d_Model_reference_185 : decode b_Model_reference 185 = .ok (.aload_n 0, 1) := by decide +kernel
theorem d_Model_reference_186 : decode b_Model_reference 186 = .ok (.getfield 70, 3) := by decide +kernel
theorem d_Model_reference_189 : decode b_Model_reference 189 = .ok (.ldc2_w 85, 3) := by decide +kernel
theorem d_Model_reference_192 : decode b_Model_reference 192 = .ok (.lcmp, 1) := by decide +kernel
theorem d_Model_reference_193 : decode b_Model_reference 193 = .ok (.ifCond .eq 47, 3) := by decide +kernel
theorem d_Model_reference_196 : decode b_Model_reference 196 = .ok (.aload_n 0, 1) := by decide +kernel
theorem d_Model_reference_197 : decode b_Model_reference 197 = .ok (.getfield 70, 3) := by decide +kernel
theorem d_Model_reference_200 : decode b_Model_reference 200 = .ok (.ldc2_w 87, 3) := by decide +kernel
theorem d_Model_reference_203 : decode b_Model_reference 203 = .ok (.lcmp, 1) := by decide +kernel
theorem d_Model_reference_204 : decode b_Model_reference 204 = .ok (.ifCond .eq 36, 3) := by decide +kernel
theorem d_Model_reference_207 : decode b_Model_reference 207 = .ok (.aload_n 0, 1) := by decide +kernel
theorem d_Model_reference_208 : decode b_Model_reference 208 = .ok (.getfield 70, 3) := by decide +kernel
theorem d_Model_reference_211 : decode b_Model_reference 211 = .ok (.ldc2_w 89, 3) := by decide +kernel
theorem d_Model_reference_214 : decode b_Model_reference 214 = .ok (.lcmp, 1) := by decide +kernel
theorem d_Model_reference_215 : decode b_Model_reference 215 = .ok (.ifCond .eq 25, 3) := by decide +kernel
theorem d_Model_reference_218 : decode b_Model_reference 218 = .ok (.aload_n 0, 1) := by decide +kernel
theorem d_Model_reference_219 : decode b_Model_reference 219 = .ok (.getfield 70, 3) := by decide +kernel
theorem d_Model_reference_222 : decode b_Model_reference 222 = .ok (.ldc2_w 91, 3) := by decide +kernel
theorem d_Model_reference_225 : decode b_Model_reference 225 = .ok (.lcmp, 1) := by decide +kernel
theorem d_Model_reference_226 : decode b_Model_reference 226 = .ok (.ifCond .lt 18, 3) := by decide +kernel
theorem d_Model_reference_229 : decode b_Model_reference 229 = .ok (.aload_n 0, 1) := by decide +kernel
theorem d_Model_reference_230 : decode b_Model_reference 230 = .ok (.getfield 70, 3) := by decide +kernel
theorem d_Model_reference_233 : decode b_Model_reference 233 = .ok (.ldc2_w 93, 3) := by decide +kernel
theorem d_Model_reference_236 : decode b_Model_reference 236 = .ok (.lcmp, 1) := by decide +kernel
theorem d_Model_reference_237 : decode b_Model_reference 237 = .ok (.ifCond .ge 7, 3) := by decide +kernel
theorem d_Model_reference_240 : decode b_Model_reference 240 = .ok (.iconst 1, 1) := by decide +kernel
theorem d_Model_reference_241 : decode b_Model_reference 241 = .ok (.goto 4, 3) := by decide +kernel
theorem d_Model_reference_244 : decode b_Model_reference 244 = .ok (.iconst 0, 1) := by decide +kernel
theorem d_Model_reference_245 : decode b_Model_reference 245 = .ok (.istore_n 3, 1) := by decide +kernel
theorem d_Model_reference_246 : decode b_Model_reference 246 = .ok (.aload_n 0, 1) := by decide +kernel
theorem d_Model_reference_247 : decode b_Model_reference 247 = .ok (.getfield 67, 3) := by decide +kernel
theorem d_Model_reference_250 : decode b_Model_reference 250 = .ok (.ifCond .ge 17, 3) := by decide +kernel
theorem d_Model_reference_253 : decode b_Model_reference 253 = .ok (.iload_n 3, 1) := by decide +kernel
theorem d_Model_reference_254 : decode b_Model_reference 254 = .ok (.ifCond .ne 13, 3) := by decide +kernel
theorem d_Model_reference_257 : decode b_Model_reference 257 = .ok (.aload_n 0, 1) := by decide +kernel
theorem d_Model_reference_258 : decode b_Model_reference 258 = .ok (.bipush 8, 2) := by decide +kernel
theorem d_Model_reference_260 : decode b_Model_reference 260 = .ok (.iload_n 1, 1) := by decide +kernel
theorem d_Model_reference_261 : decode b_Model_reference 261 = .ok (.invokevirtual 63, 3) := by decide +kernel
theorem d_Model_reference_264 : decode b_Model_reference 264 = .ok (.goto 4, 3) := by decide +kernel
theorem d_Model_reference_267 : decode b_Model_reference 267 = .ok (.iconst 0, 1) := by decide +kernel
theorem d_Model_reference_268 : decode b_Model_reference 268 = .ok (.ireturn, 1) := by decide +kernel
theorem d_Model_begin_0 : decode b_Model_begin 0 = .ok (.iconst 0, 1) := by decide +kernel
theorem d_Model_begin_1 : decode b_Model_begin 1 = .ok (.istore_n 1, 1) := by decide +kernel
theorem d_Model_begin_2 : decode b_Model_begin 2 = .ok (.iload_n 1, 1) := by decide +kernel
theorem d_Model_begin_3 : decode b_Model_begin 3 = .ok (.aload_n 0, 1) := by decide +kernel
theorem d_Model_begin_4 : decode b_Model_begin 4 = .ok (.getfield 39, 3) := by decide +kernel
theorem d_Model_begin_7 : decode b_Model_begin 7 = .ok (.if_icmp .ge 28, 3) := by decide +kernel
theorem d_Model_begin_10 : decode b_Model_begin 10 = .ok (.aload_n 0, 1) := by decide +kernel
theorem d_Model_begin_11 : decode b_Model_begin 11 = .ok (.getfield 26, 3) := by decide +kernel
theorem d_Model_begin_14 : decode b_Model_begin 14 = .ok (.iload_n 1, 1) := by decide +kernel
theorem d_Model_begin_15 : decode b_Model_begin 15 = .ok (.aload_n 0, 1) := by decide +kernel
theorem d_Model_begin_16 : decode b_Model_begin 16 = .ok (.getfield 7, 3) := by decide +kernel
theorem d_Model_begin_19 : decode b_Model_begin 19 = .ok (.aload_n 0, 1) := by decide +kernel
theorem d_Model_begin_20 : decode b_Model_begin 20 = .ok (.getfield 39, 3) := by decide +kernel
theorem d_Model_begin_23 : decode b_Model_begin 23 = .ok (.iconst 1, 1) := by decide +kernel
theorem d_Model_begin_24 : decode b_Model_begin 24 = .ok (.isub, 1) := by decide +kernel
theorem d_Model_begin_25 : decode b_Model_begin 25 = .ok (.iload_n 1, 1) := by decide +kernel
theorem d_Model_begin_26 : decode b_Model_begin 26 = .ok (.isub, 1) := by decide +kernel
theorem d_Model_begin_27 : decode b_Model_begin 27 = .ok (.iaload, 1) := by decide +kernel
theorem d_Model_begin_28 : decode b_Model_begin 28 = .ok (.iastore, 1) := by decide +kernel
theorem d_Model_begin_29 : decode b_Model_begin 29 = .ok (.iinc 1 1, 3) := by decide +kernel
theorem d_Model_begin_32 : decode b_Model_begin 32 = .ok (.goto (-30), 3) := by decide +kernel
theorem d_Model_begin_35 : decode b_Model_begin 35 = .ok (.aload_n 0, 1) := by decide +kernel
theorem d_Model_begin_36 : decode b_Model_begin 36 = .ok (.aload_n 0, 1) := by decide +kernel
theorem d_Model_begin_37 : decode b_Model_begin 37 = .ok (.getfield 39, 3) := by decide +kernel
theorem d_Model_begin_40 : decode b_Model_begin 40 = .ok (.putfield 53, 3) := by decide +kernel
theorem d_Model_begin_43 : decode b_Model_begin 43 = .ok (.aload_n 0, 1) := by decide +kernel
theorem d_Model_begin_44 : decode b_Model_begin 44 = .ok (.iconst 0, 1) := by decide +kernel
theorem d_Model_begin_45 : decode b_Model_begin 45 = .ok (.putfield 39, 3) := by decide +kernel
theorem d_Model_begin_48 : decode b_Model_begin 48 = .ok (.aload_n 0, 1) := by decide +kernel
theorem d_Model_begin_49 : decode b_Model_begin 49 = .ok (.iconst 0, 1) := by decide +kernel
theorem d_Model_begin_50 : decode b_Model_begin 50 = .ok (.putfield 47, 3) := by decide +kernel
theorem d_Model_begin_53 : decode b_Model_begin 53 = .ok (.aload_n 0, 1) := by decide +kernel
theorem d_Model_begin_54 : decode b_Model_begin 54 = .ok (.iconst 0, 1) := by decide +kernel
theorem d_Model_begin_55 : decode b_Model_begin 55 = .ok (.putfield 56, 3) := by decide +kernel
theorem d_Model_begin_58 : decode b_Model_begin 58 = .ok (.aload_n 0, 1) := by decide +kernel
theorem d_Model_begin_59 : decode b_Model_begin 59 = .ok (.iconst 0, 1) := by decide +kernel
theorem d_Model_begin_60 : decode b_Model_begin 60 = .ok (.putfield 44, 3) := by decide +kernel
theorem d_Model_begin_63 : decode b_Model_begin 63 = .ok (.aload_n 0, 1) := by decide +kernel
theorem d_Model_begin_64 : decode b_Model_begin 64 = .ok (.iconst (-1), 1) := by decide +kernel
theorem d_Model_begin_65 : decode b_Model_begin 65 = .ok (.putfield 35, 3) := by decide +kernel
theorem d_Model_begin_68 : decode b_Model_begin 68 = .ok (.iconst 0, 1) := by decide +kernel
theorem d_Model_begin_69 : decode b_Model_begin 69 = .ok (.istore_n 1, 1) := by decide +kernel
theorem d_Model_begin_70 : decode b_Model_begin 70 = .ok (.iload_n 1, 1) := by decide +kernel
theorem d_Model_begin_71 : decode b_Model_begin 71 = .ok (.bipush 26, 2) := by decide +kernel
theorem d_Model_begin_73 : decode b_Model_begin 73 = .ok (.if_icmp .ge 16, 3) := by decide +kernel
theorem d_Model_begin_76 : decode b_Model_begin 76 = .ok (.aload_n 0, 1) := by decide +kernel
theorem d_Model_begin_77 : decode b_Model_begin 77 = .ok (.getfield 29, 3) := by decide +kernel
theorem d_Model_begin_80 : decode b_Model_begin 80 = .ok (.iload_n 1, 1) := by decide +kernel
theorem d_Model_begin_81 : decode b_Model_begin 81 = .ok (.iconst 0, 1) := by decide +kernel
theorem d_Model_begin_82 : decode b_Model_begin 82 = .ok (.bastore, 1) := by decide +kernel
theorem d_Model_begin_83 : decode b_Model_begin 83 = .ok (.iinc 1 1, 3) := by decide +kernel
theorem d_Model_begin_86 : decode b_Model_begin 86 = .ok (.goto (-16), 3) := by decide +kernel
theorem d_Model_begin_89 : decode b_Model_begin 89 = .ok (.return_, 1) := by decide +kernel
theorem d_Model_declare_0 : decode b_Model_declare 0 = .ok (.iload_n 1, 1) := by decide +kernel
theorem d_Model_declare_1 : decode b_Model_declare 1 = .ok (.ifCond .lt 9, 3) := by decide +kernel
theorem d_Model_declare_4 : decode b_Model_declare 4 = .ok (.iload_n 1, 1) := by decide +kernel
theorem d_Model_declare_5 : decode b_Model_declare 5 = .ok (.bipush 25, 2) := by decide +kernel
theorem d_Model_declare_7 : decode b_Model_declare 7 = .ok (.if_icmp .le 6, 3) := by decide +kernel
theorem d_Model_declare_10 : decode b_Model_declare 10 = .ok (.bipush (-102), 2) := by decide +kernel
theorem d_Model_declare_12 : decode b_Model_declare 12 = .ok (.ireturn, 1) := by decide +kernel
theorem d_Model_declare_13 : decode b_Model_declare 13 = .ok (.aload_n 0, 1) := by decide +kernel
theorem d_Model_declare_14 : decode b_Model_declare 14 = .ok (.invokevirtual 95, 3) := by decide +kernel
theorem d_Model_declare_17 : decode b_Model_declare 17 = .ok (.aload_n 0, 1) := by decide +kernel
theorem d_Model_declare_18 : decode b_Model_declare 18 = .ok (.getfield 22, 3) := by decide +kernel
theorem d_Model_declare_21 : decode b_Model_declare 21 = .ok (.iload_n 1, 1) := by decide +kernel
theorem d_Model_declare_22 : decode b_Model_declare 22 = .ok (.baload, 1) := by decide +kernel
theorem d_Model_declare_23 : decode b_Model_declare 23 = .ok (.ifCond .eq 6, 3) := by decide +kernel
theorem d_Model_declare_26 : decode b_Model_declare 26 = .ok (.bipush (-100), 2) := by decide +kernel
theorem d_Model_declare_28 : decode b_Model_declare 28 = .ok (.ireturn, 1) := by decide +kernel
theorem d_Model_declare_29 : decode b_Model_declare 29 = .ok (.aload_n 0, 1) := by decide +kernel
theorem d_Model_declare_30 : decode b_Model_declare 30 = .ok (.getfield 98, 3) := by decide +kernel
theorem d_Model_declare_33 : decode b_Model_declare 33 = .ok (.istore_n 2, 1) := by decide +kernel
theorem d_Model_declare_34 : decode b_Model_declare 34 = .ok (.aload_n 0, 1) := by decide +kernel
theorem d_Model_declare_35 : decode b_Model_declare 35 = .ok (.getfield 53, 3) := by decide +kernel
theorem d_Model_declare_38 : decode b_Model_declare 38 = .ok (.ifCond .le 220, 3) := by decide +kernel
theorem d_Model_declare_41 : decode b_Model_declare 41 = .ok (.aload_n 0, 1) := by decide +kernel
theorem d_Model_declare_42 : decode b_Model_declare 42 = .ok (.invokevirtual 59, 3) := by decide +kernel
theorem d_Model_declare_45 : decode b_Model_declare 45 = .ok (.istore_n 3, 1) := by decide +kernel
theorem d_Model_declare_46 : decode b_Model_declare 46 = .ok (.aload_n 0, 1) := by decide +kernel
theorem d_Model_declare_47 : decode b_Model_declare 47 = .ok (.getfield 56, 3) := by decide +kernel
theorem d_Model_declare_50 : decode b_Model_declare 50 = .ok (.istore 4, 2) := by decide +kernel
theorem d_Model_declare_52 : decode b_Model_declare 52 = .ok (.aload_n 0, 1) := by decide +kernel
theorem d_Model_declare_53 : decode b_Model_declare 53 = .ok (.invokevirtual 74, 3) := by decide +kernel
theorem d_Model_declare_56 : decode b_Model_declare 56 = .ok (.iload_n 3, 1) := by decide +kernel
theorem d_Model_declare_57 : decode b_Model_declare 57 = .ok (.bipush 38, 2) := by decide +kernel
theorem d_Model_declare_59 : decode b_Model_declare 59 = .ok (.if_icmp .eq 48, 3) := by decide +kernel
theorem d_Model_declare_62 : decode b_Model_declare 62 = .ok (.aload_n 0, 1) := by decide +kernel
theorem d_Model_declare_63 : decode b_Model_declare 63 = .ok (.getfield 13, 3) := by decide +kernel
theorem d_Model_declare_66 : decode b_Model_declare 66 = .ok (.iload_n 2, 1) := by decide +kernel
theorem d_Model_declare_67 : decode b_Model_declare 67 = .ok (.sipush 2000, 3) := by decide +kernel
theorem d_Model_declare_70 : decode b_Model_declare 70 = .ok (.if_icmp .ge 7, 3) := by decide +kernel
theorem d_Model_declare_73 : decode b_Model_declare 73 = .ok (.iload_n 2, 1) := by decide +kernel
theorem d_Model_declare_74 : decode b_Model_declare 74 = .ok (.goto 6, 3) := by decide +kernel
theorem d_Model_declare_77 : decode b_Model_declare 77 = .ok (.sipush 1999, 3) := by decide +kernel
theorem d_Model_declare_80 : decode b_Model_declare 80 = .ok (.iload_n 2, 1) := by decide +kernel
theorem d_Model_declare_81 : decode b_Model_declare 81 = .ok (.sipush 2000, 3) := by decide +kernel
theorem d_Model_declare_84 : decode b_Model_declare 84 = .ok (.if_icmp .ge 7, 3) := by decide +kernel
theorem d_Model_declare_87 : decode b_Model_declare 87 = .ok (.iload_n 3, 1) := by decide +kernel
theorem d_Model_declare_88 : decode b_Model_declare 88 = .ok (.goto 11, 3) := by decide +kernel
theorem d_Model_declare_91 : decode b_Model_declare 91 = .ok (.aload_n 0, 1) := by decide +kernel
theorem d_Model_declare_92 : decode b_Model_declare 92 = .ok (.getfield 13, 3) := by decide +kernel
theorem d_Model_declare_95 : decode b_Model_declare 95 = .ok (.sipush 1999, 3) := by decide +kernel
theorem d_Model_declare_98 : decode b_Model_declare 98 = .ok (.iaload, 1) := by decide +kernel
theorem d_Model_declare_99 : decode b_Model_declare 99 = .ok (.iastore, 1) := by decide +kernel
theorem d_Model_declare_100 : decode b_Model_declare 100 = .ok (.iload_n 2, 1) := by decide +kernel
theorem d_Model_declare_101 : decode b_Model_declare 101 = .ok (.iconst 1, 1) := by decide +kernel
theorem d_Model_declare_102 : decode b_Model_declare 102 = .ok (.iadd, 1) := by decide +kernel
theorem d_Model_declare_103 : decode b_Model_declare 103 = .ok (.istore_n 2, 1) := by decide +kernel
theorem d_Model_declare_104 : decode b_Model_declare 104 = .ok (.goto 151, 3) := by decide +kernel
theorem d_Model_declare_107 : decode b_Model_declare 107 = .ok (.aload_n 0, 1) := by decide +kernel
theorem d_Model_declare_108 : decode b_Model_declare 108 = .ok (.getfield 53, 3) := by decide +kernel
theorem d_Model_declare_111 : decode b_Model_declare 111 = .ok (.istore 5, 2) := by decide +kernel
theorem d_Model_declare_113 : decode b_Model_declare 113 = .ok (.aload_n 0, 1) := by decide +kernel
theorem d_Model_declare_114 : decode b_Model_declare 114 = .ok (.iload 4, 2) := by decide +kernel
theorem d_Model_declare_116 : decode b_Model_declare 116 = .ok (.invokevirtual 101, 3) := by decide +kernel
theorem d_Model_declare_119 : decode b_Model_declare 119 = .ok (.ifCond .ge 10, 3) := by decide +kernel
theorem d_Model_declare_122 : decode b_Model_declare 122 = .ok (.iconst (-1), 1) := by decide +kernel
theorem d_Model_declare_123 : decode b_Model_declare 123 = .ok (.aload_n 0, 1) := by decide +kernel
theorem d_Model_declare_124 : decode b_Model_declare 124 = .ok (.getfield 44, 3) := by decide +kernel
theorem d_Model_declare_127 : decode b_Model_declare 127 = .ok (.isub, 1) := by decide +kernel
theorem d_Model_declare_128 : decode b_Model_declare 128 = .ok (.ireturn, 1) := by decide +kernel
theorem d_Model_declare_129 : decode b_Model_declare 129 = .ok (.aload_n 0, 1) := by decide +kernel
theorem d_Model_declare_130 : decode b_Model_declare 130 = .ok (.getfield 67, 3) := by decide +kernel
theorem d_Model_declare_133 : decode b_Model_declare 133 = .ok (.ifCond .ge 7, 3) := by decide +kernel
theorem d_Model_declare_136 : decode b_Model_declare 136 = .ok (.iconst 1, 1) := by decide +kernel
theorem d_Model_declare_137 : decode b_Model_declare 137 = .ok (.goto 12, 3) := by decide +kernel
theorem d_Model_declare_140 : decode b_Model_declare 140 = .ok (.iload 5, 2) := by decide +kernel
theorem d_Model_declare_142 : decode b_Model_declare 142 = .ok (.aload_n 0, 1) := by decide +kernel
theorem d_Model_declare_143 : decode b_Model_declare 143 = .ok (.getfield 53, 3) := by decide +kernel
theorem d_Model_declare_146 : decode b_Model_declare 146 = .ok (.isub, 1) := by decide +kernel
theorem d_Model_declare_147 : decode b_Model_declare 147 = .ok (.iconst 1, 1) := by decide +kernel
theorem d_Model_declare_148 : decode b_Model_declare 148 = .ok (.iadd, 1) := by decide +kernel
theorem d_Model_declare_149 : decode b_Model_declare 149 = .ok (.istore 6, 2) := by decide +kernel
theorem d_Model_declare_151 : decode b_Model_declare 151 = .ok (.iconst 0, 1) := by decide +kernel
theorem d_Model_declare_152 : decode b_Model_declare 152 = .ok (.istore 7, 2) := by decide +kernel
theorem d_Model_declare_154 : decode b_Model_declare 154 = .ok (.iload 7, 2) := by decide +kernel
theorem d_Model_declare_156 : decode b_Model_declare 156 = .ok (.iload 6, 2) := by decide +kernel
theorem d_Model_declare_158 : decode b_Model_declare 158 = .ok (.if_icmp .ge 97, 3) := by decide +kernel
theorem d_Model_declare_161 : decode b_Model_declare 161 = .ok (.aload_n 0, 1) := by decide +kernel
theorem d_Model_declare_162 : decode b_Model_declare 162 = .ok (.getfield 67, 3) := by decide +kernel
theorem d_Model_declare_165 : decode b_Model_declare 165 = .ok (.ifCond .ge 11, 3) := by decide +kernel
theorem d_Model_declare_168 : decode b_Model_declare 168 = .ok (.aload_n 0, 1) := by decide +kernel
theorem d_Model_declare_169 : decode b_Model_declare 169 = .ok (.getfield 70, 3) := by decide +kernel
theorem d_Model_declare_172 : decode b_Model_declare 172 = .ok (.l2i, 1) := by decide +kernel
theorem d_Model_declare_173 : decode b_Model_declare 173 = .ok (.goto 31, 3) := by decide +kernel
theorem d_Model_declare_176 : decode b_Model_declare 176 = .ok (.iload 7, 2) := by decide +kernel
theorem d_Model_declare_178 : decode b_Model_declare 178 = .ok (.ifCond .ne 8, 3) := by decide +kernel
theorem d_Model_declare_181 : decode b_Model_declare 181 = .ok (.bipush 38, 2) := by decide +kernel
theorem d_Model_declare_183 : decode b_Model_declare 183 = .ok (.goto 21, 3) := by decide +kernel
theorem d_Model_declare_186 : decode b_Model_declare 186 = .ok (.iload 7, 2) := by decide +kernel
theorem d_Model_declare_188 : decode b_Model_declare 188 = .ok (.iconst 1, 1) := by decide +kernel
theorem d_Model_declare_189 : decode b_Model_declare 189 = .ok (.if_icmp .ne 13, 3) := by decide +kernel
theorem d_Model_declare_192 : decode b_Model_declare 192 = .ok (.bipush 97, 2) := by decide +kernel
theorem d_Model_declare_194 : decode b_Model_declare 194 = .ok (.aload_n 0, 1) := by decide +kernel
theorem d_Model_declare_195 : decode b_Model_declare 195 = .ok (.getfield 67, 3) := by decide +kernel
theorem d_Model_declare_198 : decode b_Model_declare 198 = .ok (.iadd, 1) := by decide +kernel
theorem d_Model_declare_199 : decode b_Model_declare 199 = .ok (.goto 5, 3) := by decide +kernel
theorem d_Model_declare_202 : decode b_Model_declare 202 = .ok (.bipush 59, 2) := by decide +kernel
theorem d_Model_declare_204 : decode b_Model_declare 204 = .ok (.istore 8, 2) := by decide +kernel
theorem d_Model_declare_206 : decode b_Model_declare 206 = .ok (.aload_n 0, 1) := by decide +kernel
theorem d_Model_declare_207 : decode b_Model_declare 207 = .ok (.getfield 13, 3) := by decide +kernel
theorem d_Model_declare_210 : decode b_Model_declare 210 = .ok (.iload_n 2, 1) := by decide +kernel
theorem d_Model_declare_211 : decode b_Model_declare 211 = .ok (.sipush 2000, 3) := by decide +kernel
theorem d_Model_declare_214 : decode b_Model_declare 214 = .ok (.if_icmp .ge 7, 3) := by decide +kernel
theorem d_Model_declare_217 : decode b_Model_declare 217 = .ok (.iload_n 2, 1) := by decide +kernel
theorem d_Model_declare_218 : decode b_Model_declare 218 = .ok (.goto 6, 3) := by decide +kernel
theorem d_Model_declare_221 : decode b_Model_declare 221 = .ok (.sipush 1999, 3) := by decide +kernel
theorem d_Model_declare_224 : decode b_Model_declare 224 = .ok (.iload_n 2, 1) := by decide +kernel
theorem d_Model_declare_225 : decode b_Model_declare 225 = .ok (.sipush 2000, 3) := by decide +kernel
theorem d_Model_declare_228 : decode b_Model_declare 228 = .ok (.if_icmp .ge 8, 3) := by decide +kernel
theorem d_Model_declare_231 : decode b_Model_declare 231 = .ok (.iload 8, 2) := by decide +kernel
theorem d_Model_declare_233 : decode b_Model_declare 233 = .ok (.goto 11, 3) := by decide +kernel
theorem d_Model_declare_236 : decode b_Model_declare 236 = .ok (.aload_n 0, 1) := by decide +kernel
theorem d_Model_declare_237 : decode b_Model_declare 237 = .ok (.getfield 13, 3) := by decide +kernel
theorem d_Model_declare_240 : decode b_Model_declare 240 = .ok (.sipush 1999, 3) := by decide +kernel
theorem d_Model_declare_243 : decode b_Model_declare 243 = .ok (.iaload, 1) := by decide +kernel
theorem d_Model_declare_244 : decode b_Model_declare 244 = .ok (.iastore, 1) := by decide +kernel
theorem d_Model_declare_245 : decode b_Model_declare 245 = .ok (.iload_n 2, 1) := by decide +kernel
theorem d_Model_declare_246 : decode b_Model_declare 246 = .ok (.iconst 1, 1) := by decide +kernel
theorem d_Model_declare_247 : decode b_Model_declare 247 = .ok (.iadd, 1) := by decide +kernel
theorem d_Model_declare_248 : decode b_Model_declare 248 = .ok (.istore_n 2, 1) := by decide +kernel
theorem d_Model_declare_249 : decode b_Model_declare 249 = .ok (.iinc 7 1, 3) := by decide +kernel
theorem d_Model_declare_252 : decode b_Model_declare 252 = .ok (.goto (-98), 3) := by decide +kernel
theorem d_Model_declare_255 : decode b_Model_declare 255 = .ok (.goto (-221), 3) := by decide +kernel
theorem d_Model_declare_258 : decode b_Model_declare 258 = .ok (.iload_n 2, 1) := by decide +kernel
theorem d_Model_declare_259 : decode b_Model_declare 259 = .ok (.sipush 2000, 3) := by decide +kernel
theorem d_Model_declare_262 : decode b_Model_declare 262 = .ok (.if_icmp .le 6, 3) := by decide +kernel
theorem d_Model_declare_265 : decode b_Model_declare 265 = .ok (.bipush (-101), 2) := by decide +kernel
theorem d_Model_declare_267 : decode b_Model_declare 267 = .ok (.ireturn, 1) := by decide +kernel
theorem d_Model_declare_268 : decode b_Model_declare 268 = .ok (.aload_n 0, 1) := by decide +kernel
theorem d_Model_declare_269 : decode b_Model_declare 269 = .ok (.getfield 22, 3) := by decide +kernel
theorem d_Model_declare_272 : decode b_Model_declare 272 = .ok (.iload_n 1, 1) := by decide +kernel
theorem d_Model_declare_273 : decode b_Model_declare 273 = .ok (.iconst 1, 1) := by decide +kernel
theorem d_Model_declare_274 : decode b_Model_declare 274 = .ok (.bastore, 1) := by decide +kernel
theorem d_Model_declare_275 : decode b_Model_declare 275 = .ok (.aload_n 0, 1) := by decide +kernel
theorem d_Model_declare_276 : decode b_Model_declare 276 = .ok (.getfield 16, 3) := by decide +kernel
theorem d_Model_declare_279 : decode b_Model_declare 279 = .ok (.iload_n 1, 1) := by decide +kernel
theorem d_Model_declare_280 : decode b_Model_declare 280 = .ok (.aload_n 0, 1) := by decide +kernel
theorem d_Model_declare_281 : decode b_Model_declare 281 = .ok (.getfield 98, 3) := by decide +kernel
theorem d_Model_declare_284 : decode b_Model_declare 284 = .ok (.iastore, 1) := by decide +kernel
theorem d_Model_declare_285 : decode b_Model_declare 285 = .ok (.aload_n 0, 1) := by decide +kernel
theorem d_Model_declare_286 : decode b_Model_declare 286 = .ok (.getfield 19, 3) := by decide +kernel
theorem d_Model_declare_289 : decode b_Model_declare 289 = .ok (.iload_n 1, 1) := by decide +kernel
theorem d_Model_declare_290 : decode b_Model_declare 290 = .ok (.iload_n 2, 1) := by decide +kernel
theorem d_Model_declare_291 : decode b_Model_declare 291 = .ok (.iastore, 1) := by decide +kernel
theorem d_Model_declare_292 : decode b_Model_declare 292 = .ok (.aload_n 0, 1) := by decide +kernel
theorem d_Model_declare_293 : decode b_Model_declare 293 = .ok (.iload_n 2, 1) := by decide +kernel
theorem d_Model_declare_294 : decode b_Model_declare 294 = .ok (.putfield 98, 3) := by decide +kernel
theorem d_Model_declare_297 : decode b_Model_declare 297 = .ok (.aload_n 0, 1) := by decide +kernel
theorem d_Model_declare_298 : decode b_Model_declare 298 = .ok (.aload_n 0, 1) := by decide +kernel
theorem d_Model_declare_299 : decode b_Model_declare 299 = .ok (.getfield 105, 3) := by decide +kernel
theorem d_Model_declare_302 : decode b_Model_declare 302 = .ok (.iconst 1, 1) := by decide +kernel
theorem d_Model_declare_303 : decode b_Model_declare 303 = .ok (.iadd, 1) := by decide +kernel
theorem d_Model_declare_304 : decode b_Model_declare 304 = .ok (.putfield 105, 3) := by decide +kernel
theorem d_Model_declare_307 : decode b_Model_declare 307 = .ok (.iload_n 2, 1) := by decide +kernel
theorem d_Model_declare_308 : decode b_Model_declare 308 = .ok (.aload_n 0, 1) := by decide +kernel
theorem d_Model_declare_309 : decode b_Model_declare 309 = .ok (.getfield 16, 3) := by decide +kernel
theorem d_Model_declare_312 : decode b_Model_declare 312 = .ok (.iload_n 1, 1) := by decide +kernel
theorem d_Model_declare_313 : decode b_Model_declare 313 = .ok (.iaload, 1) := by decide +kernel
theorem d_Model_declare_314 : decode b_Model_declare 314 = .ok (.isub, 1) := by decide +kernel
theorem d_Model_declare_315 : decode b_Model_declare 315 = .ok (.ireturn, 1) := by decide +kernel
theorem d_Model_enter_0 : decode b_Model_enter 0 = .ok (.aload_n 0, 1) := by decide +kernel
theorem d_Model_enter_1 : decode b_Model_enter 1 = .ok (.getfield 22, 3) := by decide +kernel
theorem d_Model_enter_4 : decode b_Model_enter 4 = .ok (.aload_n 0, 1) := by decide +kernel
theorem d_Model_enter_5 : decode b_Model_enter 5 = .ok (.getfield 67, 3) := by decide +kernel
theorem d_Model_enter_8 : decode b_Model_enter 8 = .ok (.baload, 1) := by decide +kernel
theorem d_Model_enter_9 : decode b_Model_enter 9 = .ok (.ifCond .eq 25, 3) := by decide +kernel
theorem d_Model_enter_12 : decode b_Model_enter 12 = .ok (.aload_n 0, 1) := by decide +kernel
theorem d_Model_enter_13 : decode b_Model_enter 13 = .ok (.getfield 19, 3) := by decide +kernel
theorem d_Model_enter_16 : decode b_Model_enter 16 = .ok (.aload_n 0, 1) := by decide +kernel
theorem d_Model_enter_17 : decode b_Model_enter 17 = .ok (.getfield 67, 3) := by decide +kernel
theorem d_Model_enter_20 : decode b_Model_enter 20 = .ok (.iaload, 1) := by decide +kernel
theorem d_Model_enter_21 : decode b_Model_enter 21 = .ok (.aload_n 0, 1) := by decide +kernel
theorem d_Model_enter_22 : decode b_Model_enter 22 = .ok (.getfield 16, 3) := by decide +kernel
theorem d_Model_enter_25 : decode b_Model_enter 25 = .ok (.aload_n 0, 1) := by decide +kernel
theorem d_Model_enter_26 : decode b_Model_enter 26 = .ok (.getfield 67, 3) := by decide +kernel
theorem d_Model_enter_29 : decode b_Model_enter 29 = .ok (.iaload, 1) := by decide +kernel
theorem d_Model_enter_30 : decode b_Model_enter 30 = .ok (.isub, 1) := by decide +kernel
theorem d_Model_enter_31 : decode b_Model_enter 31 = .ok (.goto 4, 3) := by decide +kernel
theorem d_Model_enter_34 : decode b_Model_enter 34 = .ok (.iconst 0, 1) := by decide +kernel
theorem d_Model_enter_35 : decode b_Model_enter 35 = .ok (.istore_n 3, 1) := by decide +kernel
theorem d_Model_enter_36 : decode b_Model_enter 36 = .ok (.aload_n 0, 1) := by decide +kernel
theorem d_Model_enter_37 : decode b_Model_enter 37 = .ok (.getfield 22, 3) := by decide +kernel
theorem d_Model_enter_40 : decode b_Model_enter 40 = .ok (.aload_n 0, 1) := by decide +kernel
theorem d_Model_enter_41 : decode b_Model_enter 41 = .ok (.getfield 67, 3) := by decide +kernel
theorem d_Model_enter_44 : decode b_Model_enter 44 = .ok (.baload, 1) := by decide +kernel
theorem d_Model_enter_45 : decode b_Model_enter 45 = .ok (.ifCond .ne 10, 3) := by decide +kernel
theorem d_Model_enter_48 : decode b_Model_enter 48 = .ok (.aload_n 0, 1) := by decide +kernel
theorem d_Model_enter_49 : decode b_Model_enter 49 = .ok (.iconst 5, 1) := by decide +kernel
theorem d_Model_enter_50 : decode b_Model_enter 50 = .ok (.iload_n 1, 1) := by decide +kernel
theorem d_Model_enter_51 : decode b_Model_enter 51 = .ok (.invokevirtual 63, 3) := by decide +kernel
theorem d_Model_enter_54 : decode b_Model_enter 54 = .ok (.ireturn, 1) := by decide +kernel
theorem d_Model_enter_55 : decode b_Model_enter 55 = .ok (.aload_n 0, 1) := by decide +kernel
theorem d_Model_enter_56 : decode b_Model_enter 56 = .ok (.getfield 29, 3) := by decide +kernel
theorem d_Model_enter_59 : decode b_Model_enter 59 = .ok (.aload_n 0, 1) := by decide +kernel
theorem d_Model_enter_60 : decode b_Model_enter 60 = .ok (.getfield 67, 3) := by decide +kernel
theorem d_Model_enter_63 : decode b_Model_enter 63 = .ok (.baload, 1) := by decide +kernel
theorem d_Model_enter_64 : decode b_Model_enter 64 = .ok (.ifCond .eq 11, 3) := by decide +kernel
theorem d_Model_enter_67 : decode b_Model_enter 67 = .ok (.aload_n 0, 1) := by decide +kernel
theorem d_Model_enter_68 : decode b_Model_enter 68 = .ok (.bipush 6, 2) := by decide +kernel
theorem d_Model_enter_70 : decode b_Model_enter 70 = .ok (.iload_n 1, 1) := by decide +kernel
theorem d_Model_enter_71 : decode b_Model_enter 71 = .ok (.invokevirtual 63, 3) := by decide +kernel
theorem d_Model_enter_74 : decode b_Model_enter 74 = .ok (.ireturn, 1) := by decide +kernel
theorem d_Model_enter_75 : decode b_Model_enter 75 = .ok (.aload_n 0, 1) := by decide +kernel
theorem d_Model_enter_76 : decode b_Model_enter 76 = .ok (.getfield 47, 3) := by decide +kernel
theorem d_Model_enter_79 : decode b_Model_enter 79 = .ok (.bipush 12, 2) := by decide +kernel
theorem d_Model_enter_81 : decode b_Model_enter 81 = .ok (.if_icmp .ne 11, 3) := by decide +kernel
theorem d_Model_enter_84 : decode b_Model_enter 84 = .ok (.aload_n 0, 1) := by decide +kernel
theorem d_Model_enter_85 : decode b_Model_enter 85 = .ok (.bipush 15, 2) := by decide +kernel
theorem d_Model_enter_87 : decode b_Model_enter 87 = .ok (.iload_n 1, 1) := by decide +kernel
theorem d_Model_enter_88 : decode b_Model_enter 88 = .ok (.invokevirtual 63, 3) := by decide +kernel
theorem d_Model_enter_91 : decode b_Model_enter 91 = .ok (.ireturn, 1) := by decide +kernel
theorem d_Model_enter_92 : decode b_Model_enter 92 = .ok (.aload_n 0, 1) := by decide +kernel
theorem d_Model_enter_93 : decode b_Model_enter 93 = .ok (.getfield 108, 3) := by decide +kernel
theorem d_Model_enter_96 : decode b_Model_enter 96 = .ok (.iload_n 3, 1) := by decide +kernel
theorem d_Model_enter_97 : decode b_Model_enter 97 = .ok (.iadd, 1) := by decide +kernel
theorem d_Model_enter_98 : decode b_Model_enter 98 = .ok (.iload_n 2, 1) := by decide +kernel
theorem d_Model_enter_99 : decode b_Model_enter 99 = .ok (.if_icmp .le 11, 3) := by decide +kernel
theorem d_Model_enter_102 : decode b_Model_enter 102 = .ok (.aload_n 0, 1) := by decide +kernel
theorem d_Model_enter_103 : decode b_Model_enter 103 = .ok (.bipush 14, 2) := by decide +kernel
theorem d_Model_enter_105 : decode b_Model_enter 105 = .ok (.iload_n 1, 1) := by decide +kernel
theorem d_Model_enter_106 : decode b_Model_enter 106 = .ok (.invokevirtual 63, 3) := by decide +kernel
theorem d_Model_enter_109 : decode b_Model_enter 109 = .ok (.ireturn, 1) := by decide +kernel
theorem d_Model_enter_110 : decode b_Model_enter 110 = .ok (.aload_n 0, 1) := by decide +kernel
theorem d_Model_enter_111 : decode b_Model_enter 111 = .ok (.aload_n 0, 1) := by decide +kernel
theorem d_Model_enter_112 : decode b_Model_enter 112 = .ok (.getfield 108, 3) := by decide +kernel
theorem d_Model_enter_115 : decode b_Model_enter 115 = .ok (.iload_n 3, 1) := by decide +kernel
theorem d_Model_enter_116 : decode b_Model_enter 116 = .ok (.iadd, 1) := by decide +kernel
theorem d_Model_enter_117 : decode b_Model_enter 117 = .ok (.putfield 108, 3) := by decide +kernel
theorem d_Model_enter_120 : decode b_Model_enter 120 = .ok (.aload_n 0, 1) := by decide +kernel
theorem d_Model_enter_121 : decode b_Model_enter 121 = .ok (.aload_n 0, 1) := by decide +kernel
theorem d_Model_enter_122 : decode b_Model_enter 122 = .ok (.getfield 111, 3) := by decide +kernel
theorem d_Model_enter_125 : decode b_Model_enter 125 = .ok (.iconst 1, 1) := by decide +kernel
theorem d_Model_enter_126 : decode b_Model_enter 126 = .ok (.iadd, 1) := by decide +kernel
theorem d_Model_enter_127 : decode b_Model_enter 127 = .ok (.putfield 111, 3) := by decide +kernel
theorem d_Model_enter_130 : decode b_Model_enter 130 = .ok (.aload_n 0, 1) := by decide +kernel
theorem d_Model_enter_131 : decode b_Model_enter 131 = .ok (.getfield 47, 3) := by decide +kernel
theorem d_Model_enter_134 : decode b_Model_enter 134 = .ok (.ifCond .ne 8, 3) := by decide +kernel
theorem d_Model_enter_137 : decode b_Model_enter 137 = .ok (.aload_n 0, 1) := by decide +kernel
theorem d_Model_enter_138 : decode b_Model_enter 138 = .ok (.iload_n 1, 1) := by decide +kernel
theorem d_Model_enter_139 : decode b_Model_enter 139 = .ok (.putfield 50, 3) := by decide +kernel
theorem d_Model_enter_142 : decode b_Model_enter 142 = .ok (.aload_n 0, 1) := by decide +kernel
theorem d_Model_enter_143 : decode b_Model_enter 143 = .ok (.aload_n 0, 1) := by decide +kernel
theorem d_Model_enter_144 : decode b_Model_enter 144 = .ok (.getfield 47, 3) := by decide +kernel
theorem d_Model_enter_147 : decode b_Model_enter 147 = .ok (.iconst 1, 1) := by decide +kernel
theorem d_Model_enter_148 : decode b_Model_enter 148 = .ok (.iadd, 1) := by decide +kernel
theorem d_Model_enter_149 : decode b_Model_enter 149 = .ok (.putfield 47, 3) := by decide +kernel
theorem d_Model_enter_152 : decode b_Model_enter 152 = .ok (.aload_n 0, 1) := by decide +kernel
theorem d_Model_enter_153 : decode b_Model_enter 153 = .ok (.aload_n 0, 1) := by decide +kernel
theorem d_Model_enter_154 : decode b_Model_enter 154 = .ok (.getfield 47, 3) := by decide +kernel
theorem d_Model_enter_157 : decode b_Model_enter 157 = .ok (.aload_n 0, 1) := by decide +kernel
theorem d_Model_enter_158 : decode b_Model_enter 158 = .ok (.getfield 114, 3) := by decide +kernel
theorem d_Model_enter_161 : decode b_Model_enter 161 = .ok (.if_icmp .le 10, 3) := by decide +kernel
theorem d_Model_enter_164 : decode b_Model_enter 164 = .ok (.aload_n 0, 1) := by decide +kernel
theorem d_Model_enter_165 : decode b_Model_enter 165 = .ok (.getfield 47, 3) := by decide +kernel
theorem d_Model_enter_168 : decode b_Model_enter 168 = .ok (.goto 7, 3) := by decide +kernel
theorem d_Model_enter_171 : decode b_Model_enter 171 = .ok (.aload_n 0, 1) := by decide +kernel
theorem d_Model_enter_172 : decode b_Model_enter 172 = .ok (.getfield 114, 3) := by decide +kernel
theorem d_Model_enter_175 : decode b_Model_enter 175 = .ok (.putfield 114, 3) := by decide +kernel
theorem d_Model_enter_178 : decode b_Model_enter 178 = .ok (.aload_n 0, 1) := by decide +kernel
theorem d_Model_enter_179 : decode b_Model_enter 179 = .ok (.getfield 29, 3) := by decide +kernel
theorem d_Model_enter_182 : decode b_Model_enter 182 = .ok (.aload_n 0, 1) := by decide +kernel
theorem d_Model_enter_183 : decode b_Model_enter 183 = .ok (.getfield 67, 3) := by decide +kernel
theorem d_Model_enter_186 : decode b_Model_enter 186 = .ok (.iconst 1, 1) := by decide +kernel
theorem d_Model_enter_187 : decode b_Model_enter 187 = .ok (.bastore, 1) := by decide +kernel
theorem d_Model_enter_188 : decode b_Model_enter 188 = .ok (.aload_n 0, 1) := by decide +kernel
theorem d_Model_enter_189 : decode b_Model_enter 189 = .ok (.getfield 26, 3) := by decide +kernel
theorem d_Model_enter_192 : decode b_Model_enter 192 = .ok (.aload_n 0, 1) := by decide +kernel
theorem d_Model_enter_193 : decode b_Model_enter 193 = .ok (.getfield 53, 3) := by decide +kernel
theorem d_Model_enter_196 : decode b_Model_enter 196 = .ok (.iconst (-1), 1) := by decide +kernel
theorem d_Model_enter_197 : decode b_Model_enter 197 = .ok (.aload_n 0, 1) := by decide +kernel
theorem d_Model_enter_198 : decode b_Model_enter 198 = .ok (.getfield 67, 3) := by decide +kernel
theorem d_Model_enter_201 : decode b_Model_enter 201 = .ok (.isub, 1) := by decide +kernel
theorem d_Model_enter_202 : decode b_Model_enter 202 = .ok (.iastore, 1) := by decide +kernel
theorem d_Model_enter_203 : decode b_Model_enter 203 = .ok (.aload_n 0, 1) := by decide +kernel
theorem d_Model_enter_204 : decode b_Model_enter 204 = .ok (.aload_n 0, 1) := by decide +kernel
theorem d_Model_enter_205 : decode b_Model_enter 205 = .ok (.getfield 53, 3) := by decide +kernel
theorem d_Model_enter_208 : decode b_Model_enter 208 = .ok (.iconst 1, 1) := by decide +kernel
theorem d_Model_enter_209 : decode b_Model_enter 209 = .ok (.iadd, 1) := by decide +kernel
theorem d_Model_enter_210 : decode b_Model_enter 210 = .ok (.putfield 53, 3) := by decide +kernel
theorem d_Model_enter_213 : decode b_Model_enter 213 = .ok (.aload_n 0, 1) := by decide +kernel
theorem d_Model_enter_214 : decode b_Model_enter 214 = .ok (.getfield 19, 3) := by decide +kernel
theorem d_Model_enter_217 : decode b_Model_enter 217 = .ok (.aload_n 0, 1) := by decide +kernel
theorem d_Model_enter_218 : decode b_Model_enter 218 = .ok (.getfield 67, 3) := by decide +kernel
theorem d_Model_enter_221 : decode b_Model_enter 221 = .ok (.iaload, 1) := by decide +kernel
theorem d_Model_enter_222 : decode b_Model_enter 222 = .ok (.iconst 1, 1) := by decide +kernel
theorem d_Model_enter_223 : decode b_Model_enter 223 = .ok (.isub, 1) := by decide +kernel
theorem d_Model_enter_224 : decode b_Model_enter 224 = .ok (.istore 4, 2) := by decide +kernel
theorem d_Model_enter_226 : decode b_Model_enter 226 = .ok (.iload 4, 2) := by decide +kernel
theorem d_Model_enter_228 : decode b_Model_enter 228 = .ok (.aload_n 0, 1) := by decide +kernel
theorem d_Model_enter_229 : decode b_Model_enter 229 = .ok (.getfield 16, 3) := by decide +kernel
theorem d_Model_enter_232 : decode b_Model_enter 232 = .ok (.aload_n 0, 1) := by decide +kernel
theorem d_Model_enter_233 : decode b_Model_enter 233 = .ok (.getfield 67, 3) := by decide +kernel
theorem d_Model_enter_236 : decode b_Model_enter 236 = .ok (.iaload, 1) := by decide +kernel
theorem d_Model_enter_237 : decode b_Model_enter 237 = .ok (.if_icmp .lt 35, 3) := by decide +kernel
theorem d_Model_enter_240 : decode b_Model_enter 240 = .ok (.aload_n 0, 1) := by decide +kernel
theorem d_Model_enter_241 : decode b_Model_enter 241 = .ok (.getfield 26, 3) := by decide +kernel
theorem d_Model_enter_244 : decode b_Model_enter 244 = .ok (.aload_n 0, 1) := by decide +kernel
theorem d_Model_enter_245 : decode b_Model_enter 245 = .ok (.getfield 53, 3) := by decide +kernel
theorem d_Model_enter_248 : decode b_Model_enter 248 = .ok (.aload_n 0, 1) := by decide +kernel
theorem d_Model_enter_249 : decode b_Model_enter 249 = .ok (.getfield 13, 3) := by decide +kernel
theorem d_Model_enter_252 : decode b_Model_enter 252 = .ok (.iload 4, 2) := by decide +kernel
theorem d_Model_enter_254 : decode b_Model_enter 254 = .ok (.iaload, 1) := by decide +kernel
theorem d_Model_enter_255 : decode b_Model_enter 255 = .ok (.iastore, 1) := by decide +kernel
theorem d_Model_enter_256 : decode b_Model_enter 256 = .ok (.aload_n 0, 1) := by decide +kernel
theorem d_Model_enter_257 : decode b_Model_enter 257 = .ok (.aload_n 0, 1) := by decide +kernel
theorem d_Model_enter_258 : decode b_Model_enter 258 = .ok (.getfield 53, 3) := by decide +kernel
theorem d_Model_enter_261 : decode b_Model_enter 261 = .ok (.iconst 1, 1) := by decide +kernel
theorem d_Model_enter_262 : decode b_Model_enter 262 = .ok (.iadd, 1) := by decide +kernel
theorem d_Model_enter_263 : decode b_Model_enter 263 = .ok (.putfield 53, 3) := by decide +kernel
theorem d_Model_enter_266 : decode b_Model_enter 266 = .ok (.iinc 4 (-1), 3) := by decide +kernel
theorem d_Model_enter_269 : decode b_Model_enter 269 = .ok (.goto (-43), 3) := by decide +kernel
theorem d_Model_enter_272 : decode b_Model_enter 272 = .ok (.iconst 0, 1) := by decide +kernel
theorem d_Model_enter_273 : decode b_Model_enter 273 = .ok (.ireturn, 1) := by decide +kernel
theorem d_Model_give_0 : decode b_Model_give 0 = .ok (.aload_n 0, 1) := by decide +kernel
theorem d_Model_give_1 : decode b_Model_give 1 = .ok (.getfield 117, 3) := by decide +kernel
theorem d_Model_give_4 : decode b_Model_give 4 = .ok (.sipush 3000, 3) := by decide +kernel
theorem d_Model_give_7 : decode b_Model_give 7 = .ok (.if_icmp .ne 11, 3) := by decide +kernel
theorem d_Model_give_10 : decode b_Model_give 10 = .ok (.aload_n 0, 1) := by decide +kernel
theorem d_Model_give_11 : decode b_Model_give 11 = .ok (.bipush 15, 2) := by decide +kernel
theorem d_Model_give_13 : decode b_Model_give 13 = .ok (.iload_n 2, 1) := by decide +kernel
theorem d_Model_give_14 : decode b_Model_give 14 = .ok (.invokevirtual 63, 3) := by decide +kernel
theorem d_Model_give_17 : decode b_Model_give 17 = .ok (.ireturn, 1) := by decide +kernel
theorem d_Model_give_18 : decode b_Model_give 18 = .ok (.aload_n 0, 1) := by decide +kernel
theorem d_Model_give_19 : decode b_Model_give 19 = .ok (.getfield 32, 3) := by decide +kernel
theorem d_Model_give_22 : decode b_Model_give 22 = .ok (.aload_n 0, 1) := by decide +kernel
theorem d_Model_give_23 : decode b_Model_give 23 = .ok (.getfield 117, 3) := by decide +kernel
theorem d_Model_give_26 : decode b_Model_give 26 = .ok (.iload_n 1, 1) := by decide +kernel
theorem d_Model_give_27 : decode b_Model_give 27 = .ok (.iastore, 1) := by decide +kernel
theorem d_Model_give_28 : decode b_Model_give 28 = .ok (.aload_n 0, 1) := by decide +kernel
theorem d_Model_give_29 : decode b_Model_give 29 = .ok (.aload_n 0, 1) := by decide +kernel
theorem d_Model_give_30 : decode b_Model_give 30 = .ok (.getfield 117, 3) := by decide +kernel
theorem d_Model_give_33 : decode b_Model_give 33 = .ok (.iconst 1, 1) := by decide +kernel
theorem d_Model_give_34 : decode b_Model_give 34 = .ok (.iadd, 1) := by decide +kernel
theorem d_Model_give_35 : decode b_Model_give 35 = .ok (.putfield 117, 3) := by decide +kernel
theorem d_Model_give_38 : decode b_Model_give 38 = .ok (.iconst 0, 1) := by decide +kernel
theorem d_Model_give_39 : decode b_Model_give 39 = .ok (.ireturn, 1) := by decide +kernel
theorem d_Model_step_0 : decode b_Model_step 0 = .ok (.aload_n 0, 1) := by decide +kernel
theorem d_Model_step_1 : decode b_Model_step 1 = .ok (.getfield 26, 3) := by decide +kernel
theorem d_Model_step_4 : decode b_Model_step 4 = .ok (.aload_n 0, 1) := by decide +kernel
theorem d_Model_step_5 : decode b_Model_step 5 = .ok (.getfield 53, 3) := by decide +kernel
theorem d_Model_step_8 : decode b_Model_step 8 = .ok (.iconst 1, 1) := by decide +kernel
theorem d_Model_step_9 : decode b_Model_step 9 = .ok (.isub, 1) := by decide +kernel
theorem d_Model_step_10 : decode b_Model_step 10 = .ok (.iaload, 1) := by decide +kernel
theorem d_Model_step_11 : decode b_Model_step 11 = .ok (.ifCond .ge 42, 3) := by decide +kernel
theorem d_Model_step_14 : decode b_Model_step 14 = .ok (.aload_n 0, 1) := by decide +kernel
theorem d_Model_step_15 : decode b_Model_step 15 = .ok (.aload_n 0, 1) := by decide +kernel
theorem d_Model_step_16 : decode b_Model_step 16 = .ok (.getfield 53, 3) := by decide +kernel
theorem d_Model_step_19 : decode b_Model_step 19 = .ok (.iconst 1, 1) := by decide +kernel
theorem d_Model_step_20 : decode b_Model_step 20 = .ok (.isub, 1) := by decide +kernel
theorem d_Model_step_21 : decode b_Model_step 21 = .ok (.putfield 53, 3) := by decide +kernel
theorem d_Model_step_24 : decode b_Model_step 24 = .ok (.aload_n 0, 1) := by decide +kernel
theorem d_Model_step_25 : decode b_Model_step 25 = .ok (.getfield 29, 3) := by decide +kernel
theorem d_Model_step_28 : decode b_Model_step 28 = .ok (.iconst (-1), 1) := by decide +kernel
theorem d_Model_step_29 : decode b_Model_step 29 = .ok (.aload_n 0, 1) := by decide +kernel
theorem d_Model_step_30 : decode b_Model_step 30 = .ok (.getfield 26, 3) := by decide +kernel
theorem d_Model_step_33 : decode b_Model_step 33 = .ok (.aload_n 0, 1) := by decide +kernel
theorem d_Model_step_34 : decode b_Model_step 34 = .ok (.getfield 53, 3) := by decide +kernel
theorem d_Model_step_37 : decode b_Model_step 37 = .ok (.iaload, 1) := by decide +kernel
theorem d_Model_step_38 : decode b_Model_step 38 = .ok (.isub, 1) := by decide +kernel
theorem d_Model_step_39 : decode b_Model_step 39 = .ok (.iconst 0, 1) := by decide +kernel
theorem d_Model_step_40 : decode b_Model_step 40 = .ok (.bastore, 1) := by decide +kernel
theorem d_Model_step_41 : decode b_Model_step 41 = .ok (.aload_n 0, 1) := by decide +kernel
theorem d_Model_step_42 : decode b_Model_step 42 = .ok (.aload_n 0, 1) := by decide +kernel
theorem d_Model_step_43 : decode b_Model_step 43 = .ok (.getfield 47, 3) := by decide +kernel
theorem d_Model_step_46 : decode b_Model_step 46 = .ok (.iconst 1, 1) := by decide +kernel
theorem d_Model_step_47 : decode b_Model_step 47 = .ok (.isub, 1) := by decide +kernel
theorem d_Model_step_48 : decode b_Model_step 48 = .ok (.putfield 47, 3) := by decide +kernel
theorem d_Model_step_51 : decode b_Model_step 51 = .ok (.iconst 0, 1) := by decide +kernel
theorem d_Model_step_52 : decode b_Model_step 52 = .ok (.ireturn, 1) := by decide +kernel
theorem d_Model_step_53 : decode b_Model_step 53 = .ok (.aload_n 0, 1) := by decide +kernel
theorem d_Model_step_54 : decode b_Model_step 54 = .ok (.invokevirtual 59, 3) := by decide +kernel
theorem d_Model_step_57 : decode b_Model_step 57 = .ok (.istore_n 2, 1) := by decide +kernel
theorem d_Model_step_58 : decode b_Model_step 58 = .ok (.aload_n 0, 1) := by decide +kernel
theorem d_Model_step_59 : decode b_Model_step 59 = .ok (.getfield 56, 3) := by decide +kernel
theorem d_Model_step_62 : decode b_Model_step 62 = .ok (.istore_n 3, 1) := by decide +kernel
theorem d_Model_step_63 : decode b_Model_step 63 = .ok (.aload_n 0, 1) := by decide +kernel
theorem d_Model_step_64 : decode b_Model_step 64 = .ok (.invokevirtual 74, 3) := by decide +kernel
theorem d_Model_step_67 : decode b_Model_step 67 = .ok (.iload_n 2, 1) := by decide +kernel
theorem d_Model_step_68 : decode b_Model_step 68 = .ok (.bipush 38, 2) := by decide +kernel
theorem d_Model_step_70 : decode b_Model_step 70 = .ok (.if_icmp .eq 10, 3) := by decide +kernel
theorem d_Model_step_73 : decode b_Model_step 73 = .ok (.aload_n 0, 1) := by decide +kernel
theorem d_Model_step_74 : decode b_Model_step 74 = .ok (.iload_n 2, 1) := by decide +kernel
theorem d_Model_step_75 : decode b_Model_step 75 = .ok (.iload_n 3, 1) := by decide +kernel
theorem d_Model_step_76 : decode b_Model_step 76 = .ok (.invokevirtual 120, 3) := by decide +kernel
theorem d_Model_step_79 : decode b_Model_step 79 = .ok (.ireturn, 1) := by decide +kernel
theorem d_Model_step_80 : decode b_Model_step 80 = .ok (.aload_n 0, 1) := by decide +kernel
theorem d_Model_step_81 : decode b_Model_step 81 = .ok (.iload_n 3, 1) := by decide +kernel
theorem d_Model_step_82 : decode b_Model_step 82 = .ok (.invokevirtual 101, 3) := by decide +kernel
theorem d_Model_step_85 : decode b_Model_step 85 = .ok (.ifCond .ge 5, 3) := by decide +kernel
theorem d_Model_step_88 : decode b_Model_step 88 = .ok (.iconst (-1), 1) := by decide +kernel
theorem d_Model_step_89 : decode b_Model_step 89 = .ok (.ireturn, 1) := by decide +kernel
theorem d_Model_step_90 : decode b_Model_step 90 = .ok (.aload_n 0, 1) := by decide +kernel
theorem d_Model_step_91 : decode b_Model_step 91 = .ok (.getfield 67, 3) := by decide +kernel
theorem d_Model_step_94 : decode b_Model_step 94 = .ok (.ifCond .ge 16, 3) := by decide +kernel
theorem d_Model_step_97 : decode b_Model_step 97 = .ok (.aload_n 0, 1) := by decide +kernel
theorem d_Model_step_98 : decode b_Model_step 98 = .ok (.aload_n 0, 1) := by decide +kernel
theorem d_Model_step_99 : decode b_Model_step 99 = .ok (.getfield 70, 3) := by decide +kernel
theorem d_Model_step_102 : decode b_Model_step 102 = .ok (.l2i, 1) := by decide +kernel
theorem d_Model_step_103 : decode b_Model_step 103 = .ok (.iload_n 3, 1) := by decide +kernel
theorem d_Model_step_104 : decode b_Model_step 104 = .ok (.invokevirtual 120, 3) := by decide +kernel
theorem d_Model_step_107 : decode b_Model_step 107 = .ok (.goto 9, 3) := by decide +kernel
theorem d_Model_step_110 : decode b_Model_step 110 = .ok (.aload_n 0, 1) := by decide +kernel
theorem d_Model_step_111 : decode b_Model_step 111 = .ok (.iload_n 3, 1) := by decide +kernel
theorem d_Model_step_112 : decode b_Model_step 112 = .ok (.iload_n 1, 1) := by decide +kernel
theorem d_Model_step_113 : decode b_Model_step 113 = .ok (.invokevirtual 123, 3) := by decide +kernel
theorem d_Model_step_116 : decode b_Model_step 116 = .ok (.ireturn, 1) := by decide +kernel
theorem d_Model_expand_0 : decode b_Model_expand 0 = .ok (.iload_n 1, 1) := by decide +kernel
theorem d_Model_expand_1 : decode b_Model_expand 1 = .ok (.ifCond .lt 9, 3) := by decide +kernel
theorem d_Model_expand_4 : decode b_Model_expand 4 = .ok (.iload_n 1, 1) := by decide +kernel
theorem d_Model_expand_5 : decode b_Model_expand 5 = .ok (.ldc 126, 2) := by decide +kernel
theorem d_Model_expand_7 : decode b_Model_expand 7 = .ok (.if_icmp .le 6, 3) := by decide +kernel
theorem d_Model_expand_10 : decode b_Model_expand 10 = .ok (.bipush (-102), 2) := by decide +kernel
theorem d_Model_expand_12 : decode b_Model_expand 12 = .ok (.ireturn, 1) := by decide +kernel
theorem d_Model_expand_13 : decode b_Model_expand 13 = .ok (.aload_n 0, 1) := by decide +kernel
theorem d_Model_expand_14 : decode b_Model_expand 14 = .ok (.invokevirtual 95, 3) := by decide +kernel
theorem d_Model_expand_17 : decode b_Model_expand 17 = .ok (.aload_n 0, 1) := by decide +kernel
theorem d_Model_expand_18 : decode b_Model_expand 18 = .ok (.iconst 0, 1) := by decide +kernel
theorem d_Model_expand_19 : decode b_Model_expand 19 = .ok (.putfield 108, 3) := by decide +kernel
theorem d_Model_expand_22 : decode b_Model_expand 22 = .ok (.aload_n 0, 1) := by decide +kernel
theorem d_Model_expand_23 : decode b_Model_expand 23 = .ok (.iconst 0, 1) := by decide +kernel
theorem d_Model_expand_24 : decode b_Model_expand 24 = .ok (.putfield 111, 3) := by decide +kernel
theorem d_Model_expand_27 : decode b_Model_expand 27 = .ok (.aload_n 0, 1) := by decide +kernel
theorem d_Model_expand_28 : decode b_Model_expand 28 = .ok (.iconst 0, 1) := by decide +kernel
theorem d_Model_expand_29 : decode b_Model_expand 29 = .ok (.putfield 114, 3) := by decide +kernel
theorem d_Model_expand_32 : decode b_Model_expand 32 = .ok (.aload_n 0, 1) := by decide +kernel
theorem d_Model_expand_33 : decode b_Model_expand 33 = .ok (.iconst 0, 1) := by decide +kernel
theorem d_Model_expand_34 : decode b_Model_expand 34 = .ok (.putfield 117, 3) := by decide +kernel
theorem d_Model_expand_37 : decode b_Model_expand 37 = .ok (.iconst 0, 1) := by decide +kernel
theorem d_Model_expand_38 : decode b_Model_expand 38 = .ok (.istore_n 2, 1) := by decide +kernel
theorem d_Model_expand_39 : decode b_Model_expand 39 = .ok (.aload_n 0, 1) := by decide +kernel
theorem d_Model_expand_40 : decode b_Model_expand 40 = .ok (.getfield 53, 3) := by decide +kernel
theorem d_Model_expand_43 : decode b_Model_expand 43 = .ok (.ifCond .le 16, 3) := by decide +kernel
theorem d_Model_expand_46 : decode b_Model_expand 46 = .ok (.iload_n 2, 1) := by decide +kernel
theorem d_Model_expand_47 : decode b_Model_expand 47 = .ok (.ifCond .ne 12, 3) := by decide +kernel
theorem d_Model_expand_50 : decode b_Model_expand 50 = .ok (.aload_n 0, 1) := by decide +kernel
theorem d_Model_expand_51 : decode b_Model_expand 51 = .ok (.iload_n 1, 1) := by decide +kernel
theorem d_Model_expand_52 : decode b_Model_expand 52 = .ok (.invokevirtual 127, 3) := by decide +kernel
theorem d_Model_expand_55 : decode b_Model_expand 55 = .ok (.istore_n 2, 1) := by decide +kernel
theorem d_Model_expand_56 : decode b_Model_expand 56 = .ok (.goto (-17), 3) := by decide +kernel
theorem d_Model_expand_59 : decode b_Model_expand 59 = .ok (.aload_n 0, 1) := by decide +kernel
theorem d_Model_expand_60 : decode b_Model_expand 60 = .ok (.iload_n 2, 1) := by decide +kernel
theorem d_Model_expand_61 : decode b_Model_expand 61 = .ok (.ifCond .ne 7, 3) := by decide +kernel
theorem d_Model_expand_64 : decode b_Model_expand 64 = .ok (.iconst 1, 1) := by decide +kernel
theorem d_Model_expand_65 : decode b_Model_expand 65 = .ok (.goto 4, 3) := by decide +kernel
theorem d_Model_expand_68 : decode b_Model_expand 68 = .ok (.iconst 0, 1) := by decide +kernel
theorem d_Model_expand_69 : decode b_Model_expand 69 = .ok (.putfield 130, 3) := by decide +kernel
theorem d_Model_expand_72 : decode b_Model_expand 72 = .ok (.aload_n 0, 1) := by decide +kernel
theorem d_Model_expand_73 : decode b_Model_expand 73 = .ok (.getfield 130, 3) := by decide +kernel
theorem d_Model_expand_76 : decode b_Model_expand 76 = .ok (.ifCond .eq 10, 3) := by decide +kernel
theorem d_Model_expand_79 : decode b_Model_expand 79 = .ok (.aload_n 0, 1) := by decide +kernel
theorem d_Model_expand_80 : decode b_Model_expand 80 = .ok (.getfield 117, 3) := by decide +kernel
theorem d_Model_expand_83 : decode b_Model_expand 83 = .ok (.goto 9, 3) := by decide +kernel
theorem d_Model_expand_86 : decode b_Model_expand 86 = .ok (.iconst (-1), 1) := by decide +kernel
theorem d_Model_expand_87 : decode b_Model_expand 87 = .ok (.aload_n 0, 1) := by decide +kernel
theorem d_Model_expand_88 : decode b_Model_expand 88 = .ok (.getfield 44, 3) := by decide +kernel
theorem d_Model_expand_91 : decode b_Model_expand 91 = .ok (.isub, 1) := by decide +kernel
theorem d_Model_expand_92 : decode b_Model_expand 92 = .ok (.ireturn, 1) := by decide +kernel
theorem d_Model_place_0 : decode b_Model_place 0 = .ok (.aload_n 0, 1) := by decide +kernel
theorem d_Model_place_1 : decode b_Model_place 1 = .ok (.getfield 35, 3) := by decide +kernel
theorem d_Model_place_4 : decode b_Model_place 4 = .ok (.ireturn, 1) := by decide +kernel
theorem d_Model_given_0 : decode b_Model_given 0 = .ok (.aload_n 0, 1) := by decide +kernel
theorem d_Model_given_1 : decode b_Model_given 1 = .ok (.getfield 130, 3) := by decide +kernel
theorem d_Model_given_4 : decode b_Model_given 4 = .ok (.ifCond .eq 24, 3) := by decide +kernel
theorem d_Model_given_7 : decode b_Model_given 7 = .ok (.iload_n 1, 1) := by decide +kernel
theorem d_Model_given_8 : decode b_Model_given 8 = .ok (.ifCond .lt 20, 3) := by decide +kernel
theorem d_Model_given_11 : decode b_Model_given 11 = .ok (.iload_n 1, 1) := by decide +kernel
theorem d_Model_given_12 : decode b_Model_given 12 = .ok (.aload_n 0, 1) := by decide +kernel
theorem d_Model_given_13 : decode b_Model_given 13 = .ok (.getfield 117, 3) := by decide +kernel
theorem d_Model_given_16 : decode b_Model_given 16 = .ok (.if_icmp .ge 12, 3) := by decide +kernel
theorem d_Model_given_19 : decode b_Model_given 19 = .ok (.aload_n 0, 1) := by decide +kernel
theorem d_Model_given_20 : decode b_Model_given 20 = .ok (.getfield 32, 3) := by decide +kernel
theorem d_Model_given_23 : decode b_Model_given 23 = .ok (.iload_n 1, 1) := by decide +kernel
theorem d_Model_given_24 : decode b_Model_given 24 = .ok (.iaload, 1) := by decide +kernel
theorem d_Model_given_25 : decode b_Model_given 25 = .ok (.goto 4, 3) := by decide +kernel
theorem d_Model_given_28 : decode b_Model_given 28 = .ok (.iconst (-1), 1) := by decide +kernel
theorem d_Model_given_29 : decode b_Model_given 29 = .ok (.ireturn, 1) := by decide +kernel
theorem d_Model_text_0 : decode b_Model_text 0 = .ok (.iload_n 1, 1) := by decide +kernel
theorem d_Model_text_1 : decode b_Model_text 1 = .ok (.ifCond .lt 55, 3) := by decide +kernel
theorem d_Model_text_4 : decode b_Model_text 4 = .ok (.iload_n 1, 1) := by decide +kernel
theorem d_Model_text_5 : decode b_Model_text 5 = .ok (.bipush 26, 2) := by decide +kernel
theorem d_Model_text_7 : decode b_Model_text 7 = .ok (.if_icmp .ge 49, 3) := by decide +kernel
theorem d_Model_text_10 : decode b_Model_text 10 = .ok (.aload_n 0, 1) := by decide +kernel
theorem d_Model_text_11 : decode b_Model_text 11 = .ok (.getfield 22, 3) := by decide +kernel
theorem d_Model_text_14 : decode b_Model_text 14 = .ok (.iload_n 1, 1) := by decide +kernel
theorem d_Model_text_15 : decode b_Model_text 15 = .ok (.baload, 1) := by decide +kernel
theorem d_Model_text_16 : decode b_Model_text 16 = .ok (.ifCond .eq 40, 3) := by decide +kernel
theorem d_Model_text_19 : decode b_Model_text 19 = .ok (.iload_n 2, 1) := by decide +kernel
theorem d_Model_text_20 : decode b_Model_text 20 = .ok (.ifCond .lt 36, 3) := by decide +kernel
theorem d_Model_text_23 : decode b_Model_text 23 = .ok (.iload_n 2, 1) := by decide +kernel
theorem d_Model_text_24 : decode b_Model_text 24 = .ok (.aload_n 0, 1) := by decide +kernel
theorem d_Model_text_25 : decode b_Model_text 25 = .ok (.getfield 19, 3) := by decide +kernel
theorem d_Model_text_28 : decode b_Model_text 28 = .ok (.iload_n 1, 1) := by decide +kernel
theorem d_Model_text_29 : decode b_Model_text 29 = .ok (.iaload, 1) := by decide +kernel
theorem d_Model_text_30 : decode b_Model_text 30 = .ok (.aload_n 0, 1) := by decide +kernel
theorem d_Model_text_31 : decode b_Model_text 31 = .ok (.getfield 16, 3) := by decide +kernel
theorem d_Model_text_34 : decode b_Model_text 34 = .ok (.iload_n 1, 1) := by decide +kernel
theorem d_Model_text_35 : decode b_Model_text 35 = .ok (.iaload, 1) := by decide +kernel
theorem d_Model_text_36 : decode b_Model_text 36 = .ok (.isub, 1) := by decide +kernel
theorem d_Model_text_37 : decode b_Model_text 37 = .ok (.if_icmp .ge 19, 3) := by decide +kernel
theorem d_Model_text_40 : decode b_Model_text 40 = .ok (.aload_n 0, 1) := by decide +kernel
theorem d_Model_text_41 : decode b_Model_text 41 = .ok (.getfield 13, 3) := by decide +kernel
theorem d_Model_text_44 : decode b_Model_text 44 = .ok (.aload_n 0, 1) := by decide +kernel
theorem d_Model_text_45 : decode b_Model_text 45 = .ok (.getfield 16, 3) := by decide +kernel
theorem d_Model_text_48 : decode b_Model_text 48 = .ok (.iload_n 1, 1) := by decide +kernel
theorem d_Model_text_49 : decode b_Model_text 49 = .ok (.iaload, 1) := by decide +kernel
theorem d_Model_text_50 : decode b_Model_text 50 = .ok (.iload_n 2, 1) := by decide +kernel
theorem d_Model_text_51 : decode b_Model_text 51 = .ok (.iadd, 1) := by decide +kernel
theorem d_Model_text_52 : decode b_Model_text 52 = .ok (.iaload, 1) := by decide +kernel
theorem d_Model_text_53 : decode b_Model_text 53 = .ok (.goto 4, 3) := by decide +kernel
theorem d_Model_text_56 : decode b_Model_text 56 = .ok (.iconst (-1), 1) := by decide +kernel
theorem d_Model_text_57 : decode b_Model_text 57 = .ok (.ireturn, 1) := by decide +kernel
theorem d_Model_count_0 : decode b_Model_count 0 = .ok (.iload_n 1, 1) := by decide +kernel
theorem d_Model_count_1 : decode b_Model_count 1 = .ok (.tableswitch 69 0 5 #[39, 44, 49, 54, 59, 64], 39) := by decide +kernel
theorem d_Model_count_40 : decode b_Model_count 40 = .ok (.aload_n 0, 1) := by decide +kernel
theorem d_Model_count_41 : decode b_Model_count 41 = .ok (.getfield 105, 3) := by decide +kernel
theorem d_Model_count_44 : decode b_Model_count 44 = .ok (.ireturn, 1) := by decide +kernel
theorem d_Model_count_45 : decode b_Model_count 45 = .ok (.aload_n 0, 1) := by decide +kernel
theorem d_Model_count_46 : decode b_Model_count 46 = .ok (.getfield 98, 3) := by decide +kernel
theorem d_Model_count_49 : decode b_Model_count 49 = .ok (.ireturn, 1) := by decide +kernel
theorem d_Model_count_50 : decode b_Model_count 50 = .ok (.aload_n 0, 1) := by decide +kernel
theorem d_Model_count_51 : decode b_Model_count 51 = .ok (.getfield 108, 3) := by decide +kernel
theorem d_Model_count_54 : decode b_Model_count 54 = .ok (.ireturn, 1) := by decide +kernel
theorem d_Model_count_55 : decode b_Model_count 55 = .ok (.aload_n 0, 1) := by decide +kernel
theorem d_Model_count_56 : decode b_Model_count 56 = .ok (.getfield 39, 3) := by decide +kernel
theorem d_Model_count_59 : decode b_Model_count 59 = .ok (.ireturn, 1) := by decide +kernel
theorem d_Model_count_60 : decode b_Model_count 60 = .ok (.aload_n 0, 1) := by decide +kernel
theorem d_Model_count_61 : decode b_Model_count 61 = .ok (.getfield 111, 3) := by decide +kernel
theorem d_Model_count_64 : decode b_Model_count 64 = .ok (.ireturn, 1) := by decide +kernel
theorem d_Model_count_65 : decode b_Model_count 65 = .ok (.aload_n 0, 1) := by decide +kernel
theorem d_Model_count_66 : decode b_Model_count 66 = .ok (.getfield 114, 3) := by decide +kernel
theorem d_Model_count_69 : decode b_Model_count 69 = .ok (.ireturn, 1) := by decide +kernel
theorem d_Model_count_70 : decode b_Model_count 70 = .ok (.iconst (-1), 1) := by decide +kernel
theorem d_Model_count_71 : decode b_Model_count 71 = .ok (.ireturn, 1) := by decide +kernel
