theorem dX7_init_0 : decode cX7_init 0 = .ok (.aload_n 0, 1) := by decide +kernel
theorem dX7_init_1 : decode cX7_init 1 = .ok (.invokespecial 1, 3) := by decide +kernel
theorem dX7_init_4 : decode cX7_init 4 = .ok (.aload_n 0, 1) := by decide +kernel
theorem dX7_init_5 : decode cX7_init 5 = .ok (.sipush 300, 3) := by decide +kernel
theorem dX7_init_8 : decode cX7_init 8 = .ok (.newarray .int, 2) := by decide +kernel
theorem dX7_init_10 : decode cX7_init 10 = .ok (.putfield 7, 3) := by decide +kernel
theorem dX7_init_13 : decode cX7_init 13 = .ok (.aload_n 0, 1) := by decide +kernel
theorem dX7_init_14 : decode cX7_init 14 = .ok (.bipush 24, 2) := by decide +kernel
theorem dX7_init_16 : decode cX7_init 16 = .ok (.newarray .int, 2) := by decide +kernel
theorem dX7_init_18 : decode cX7_init 18 = .ok (.putfield 13, 3) := by decide +kernel
theorem dX7_init_21 : decode cX7_init 21 = .ok (.aload_n 0, 1) := by decide +kernel
theorem dX7_init_22 : decode cX7_init 22 = .ok (.bipush 24, 2) := by decide +kernel
theorem dX7_init_24 : decode cX7_init 24 = .ok (.newarray .int, 2) := by decide +kernel
theorem dX7_init_26 : decode cX7_init 26 = .ok (.putfield 16, 3) := by decide +kernel
theorem dX7_init_29 : decode cX7_init 29 = .ok (.aload_n 0, 1) := by decide +kernel
theorem dX7_init_30 : decode cX7_init 30 = .ok (.bipush 8, 2) := by decide +kernel
theorem dX7_init_32 : decode cX7_init 32 = .ok (.newarray .int, 2) := by decide +kernel
theorem dX7_init_34 : decode cX7_init 34 = .ok (.putfield 19, 3) := by decide +kernel
theorem dX7_init_37 : decode cX7_init 37 = .ok (.aload_n 0, 1) := by decide +kernel
theorem dX7_init_38 : decode cX7_init 38 = .ok (.bipush 8, 2) := by decide +kernel
theorem dX7_init_40 : decode cX7_init 40 = .ok (.newarray .int, 2) := by decide +kernel
theorem dX7_init_42 : decode cX7_init 42 = .ok (.putfield 22, 3) := by decide +kernel
theorem dX7_init_45 : decode cX7_init 45 = .ok (.aload_n 0, 1) := by decide +kernel
theorem dX7_init_46 : decode cX7_init 46 = .ok (.bipush 76, 2) := by decide +kernel
theorem dX7_init_48 : decode cX7_init 48 = .ok (.newarray .int, 2) := by decide +kernel
theorem dX7_init_50 : decode cX7_init 50 = .ok (.putfield 25, 3) := by decide +kernel
theorem dX7_init_53 : decode cX7_init 53 = .ok (.aload_n 0, 1) := by decide +kernel
theorem dX7_init_54 : decode cX7_init 54 = .ok (.sipush 152, 3) := by decide +kernel
theorem dX7_init_57 : decode cX7_init 57 = .ok (.newarray .int, 2) := by decide +kernel
theorem dX7_init_59 : decode cX7_init 59 = .ok (.putfield 28, 3) := by decide +kernel
theorem dX7_init_62 : decode cX7_init 62 = .ok (.aload_n 0, 1) := by decide +kernel
theorem dX7_init_63 : decode cX7_init 63 = .ok (.iconst 2, 1) := by decide +kernel
theorem dX7_init_64 : decode cX7_init 64 = .ok (.newarray .boolean, 2) := by decide +kernel
theorem dX7_init_66 : decode cX7_init 66 = .ok (.putfield 31, 3) := by decide +kernel
theorem dX7_init_69 : decode cX7_init 69 = .ok (.aload_n 0, 1) := by decide +kernel
theorem dX7_init_70 : decode cX7_init 70 = .ok (.bipush 24, 2) := by decide +kernel
theorem dX7_init_72 : decode cX7_init 72 = .ok (.newarray .int, 2) := by decide +kernel
theorem dX7_init_74 : decode cX7_init 74 = .ok (.putfield 35, 3) := by decide +kernel
theorem dX7_init_77 : decode cX7_init 77 = .ok (.aload_n 0, 1) := by decide +kernel
theorem dX7_init_78 : decode cX7_init 78 = .ok (.bipush 24, 2) := by decide +kernel
theorem dX7_init_80 : decode cX7_init 80 = .ok (.newarray .int, 2) := by decide +kernel
theorem dX7_init_82 : decode cX7_init 82 = .ok (.putfield 38, 3) := by decide +kernel
theorem dX7_init_85 : decode cX7_init 85 = .ok (.aload_n 0, 1) := by decide +kernel
theorem dX7_init_86 : decode cX7_init 86 = .ok (.bipush 24, 2) := by decide +kernel
theorem dX7_init_88 : decode cX7_init 88 = .ok (.newarray .int, 2) := by decide +kernel
theorem dX7_init_90 : decode cX7_init 90 = .ok (.putfield 41, 3) := by decide +kernel
theorem dX7_init_93 : decode cX7_init 93 = .ok (.aload_n 0, 1) := by decide +kernel
theorem dX7_init_94 : decode cX7_init 94 = .ok (.sipush 256, 3) := by decide +kernel
theorem dX7_init_97 : decode cX7_init 97 = .ok (.newarray .int, 2) := by decide +kernel
theorem dX7_init_99 : decode cX7_init 99 = .ok (.putfield 44, 3) := by decide +kernel
theorem dX7_init_102 : decode cX7_init 102 = .ok (.aload_n 0, 1) := by decide +kernel
theorem dX7_init_103 : decode cX7_init 103 = .ok (.iconst 0, 1) := by decide +kernel
theorem dX7_init_104 : decode cX7_init 104 = .ok (.putfield 47, 3) := by decide +kernel
theorem dX7_init_107 : decode cX7_init 107 = .ok (.return_, 1) := by decide +kernel
theorem dX7_in_0 : decode cX7_in 0 = .ok (.iload_n 0, 1) := by decide +kernel
theorem dX7_in_1 : decode cX7_in 1 = .ok (.iload_n 1, 1) := by decide +kernel
theorem dX7_in_2 : decode cX7_in 2 = .ok (.if_icmp .lt 12, 3) := by decide +kernel
theorem dX7_in_5 : decode cX7_in 5 = .ok (.iload_n 0, 1) := by decide +kernel
theorem dX7_in_6 : decode cX7_in 6 = .ok (.iload_n 2, 1) := by decide +kernel
theorem dX7_in_7 : decode cX7_in 7 = .ok (.if_icmp .gt 7, 3) := by decide +kernel
theorem dX7_in_10 : decode cX7_in 10 = .ok (.iconst 1, 1) := by decide +kernel
theorem dX7_in_11 : decode cX7_in 11 = .ok (.goto 4, 3) := by decide +kernel
theorem dX7_in_14 : decode cX7_in 14 = .ok (.iconst 0, 1) := by decide +kernel
theorem dX7_in_15 : decode cX7_in 15 = .ok (.ireturn, 1) := by decide +kernel
theorem dX7_isCell_0 : decode cX7_isCell 0 = .ok (.iload_n 1, 1) := by decide +kernel
theorem dX7_isCell_1 : decode cX7_isCell 1 = .ok (.iconst 0, 1) := by decide +kernel
theorem dX7_isCell_2 : decode cX7_isCell 2 = .ok (.aload_n 0, 1) := by decide +kernel
theorem dX7_isCell_3 : decode cX7_isCell 3 = .ok (.getfield 51, 3) := by decide +kernel
theorem dX7_isCell_6 : decode cX7_isCell 6 = .ok (.aload_n 0, 1) := by decide +kernel
theorem dX7_isCell_7 : decode cX7_isCell 7 = .ok (.getfield 54, 3) := by decide +kernel
theorem dX7_isCell_10 : decode cX7_isCell 10 = .ok (.imul, 1) := by decide +kernel
theorem dX7_isCell_11 : decode cX7_isCell 11 = .ok (.iconst 1, 1) := by decide +kernel
theorem dX7_isCell_12 : decode cX7_isCell 12 = .ok (.isub, 1) := by decide +kernel
theorem dX7_isCell_13 : decode cX7_isCell 13 = .ok (.invokestatic 57, 3) := by decide +kernel
theorem dX7_isCell_16 : decode cX7_isCell 16 = .ok (.ireturn, 1) := by decide +kernel
theorem dX7_isWalker_0 : decode cX7_isWalker 0 = .ok (.iload_n 1, 1) := by decide +kernel
theorem dX7_isWalker_1 : decode cX7_isWalker 1 = .ok (.iconst 0, 1) := by decide +kernel
theorem dX7_isWalker_2 : decode cX7_isWalker 2 = .ok (.aload_n 0, 1) := by decide +kernel
theorem dX7_isWalker_3 : decode cX7_isWalker 3 = .ok (.getfield 61, 3) := by decide +kernel
theorem dX7_isWalker_6 : decode cX7_isWalker 6 = .ok (.iconst 1, 1) := by decide +kernel
theorem dX7_isWalker_7 : decode cX7_isWalker 7 = .ok (.isub, 1) := by decide +kernel
theorem dX7_isWalker_8 : decode cX7_isWalker 8 = .ok (.invokestatic 57, 3) := by decide +kernel
theorem dX7_isWalker_11 : decode cX7_isWalker 11 = .ok (.ireturn, 1) := by decide +kernel
theorem dX7_type_0 : decode cX7_type 0 = .ok (.aload_n 0, 1) := by decide +kernel
theorem dX7_type_1 : decode cX7_type 1 = .ok (.iconst 0, 1) := by decide +kernel
theorem dX7_type_2 : decode cX7_type 2 = .ok (.putfield 47, 3) := by decide +kernel
theorem dX7_type_5 : decode cX7_type 5 = .ok (.iload_n 3, 1) := by decide +kernel
theorem dX7_type_6 : decode cX7_type 6 = .ok (.iconst 1, 1) := by decide +kernel
theorem dX7_type_7 : decode cX7_type 7 = .ok (.bipush 8, 2) := by decide +kernel
theorem dX7_type_9 : decode cX7_type 9 = .ok (.invokestatic 57, 3) := by decide +kernel
theorem dX7_type_12 : decode cX7_type 12 = .ok (.ifCond .ne 5, 3) := by decide +kernel
theorem dX7_type_15 : decode cX7_type 15 = .ok (.iconst (-1), 1) := by decide +kernel
theorem dX7_type_16 : decode cX7_type 16 = .ok (.ireturn, 1) := by decide +kernel
theorem dX7_type_17 : decode cX7_type 17 = .ok (.aload_n 0, 1) := by decide +kernel
theorem dX7_type_18 : decode cX7_type 18 = .ok (.getfield 64, 3) := by decide +kernel
theorem dX7_type_21 : decode cX7_type 21 = .ok (.iload_n 3, 1) := by decide +kernel
theorem dX7_type_22 : decode cX7_type 22 = .ok (.iadd, 1) := by decide +kernel
theorem dX7_type_23 : decode cX7_type 23 = .ok (.sipush 300, 3) := by decide +kernel
theorem dX7_type_26 : decode cX7_type 26 = .ok (.if_icmp .le 6, 3) := by decide +kernel
theorem dX7_type_29 : decode cX7_type 29 = .ok (.bipush (-3), 2) := by decide +kernel
theorem dX7_type_31 : decode cX7_type 31 = .ok (.ireturn, 1) := by decide +kernel
theorem dX7_type_32 : decode cX7_type 32 = .ok (.iload_n 3, 1) := by decide +kernel
theorem dX7_type_33 : decode cX7_type 33 = .ok (.iconst 1, 1) := by decide +kernel
theorem dX7_type_34 : decode cX7_type 34 = .ok (.isub, 1) := by decide +kernel
theorem dX7_type_35 : decode cX7_type 35 = .ok (.istore 4, 2) := by decide +kernel
theorem dX7_type_37 : decode cX7_type 37 = .ok (.iload 4, 2) := by decide +kernel
theorem dX7_type_39 : decode cX7_type 39 = .ok (.ifCond .lt 40, 3) := by decide +kernel
theorem dX7_type_42 : decode cX7_type 42 = .ok (.aload_n 0, 1) := by decide +kernel
theorem dX7_type_43 : decode cX7_type 43 = .ok (.getfield 7, 3) := by decide +kernel
theorem dX7_type_46 : decode cX7_type 46 = .ok (.aload_n 0, 1) := by decide +kernel
theorem dX7_type_47 : decode cX7_type 47 = .ok (.getfield 64, 3) := by decide +kernel
theorem dX7_type_50 : decode cX7_type 50 = .ok (.lload_n 1, 1) := by decide +kernel
theorem dX7_type_51 : decode cX7_type 51 = .ok (.bipush 8, 2) := by decide +kernel
theorem dX7_type_53 : decode cX7_type 53 = .ok (.iload 4, 2) := by decide +kernel
theorem dX7_type_55 : decode cX7_type 55 = .ok (.imul, 1) := by decide +kernel
theorem dX7_type_56 : decode cX7_type 56 = .ok (.lshr, 1) := by decide +kernel
theorem dX7_type_57 : decode cX7_type 57 = .ok (.ldc2_w 67, 3) := by decide +kernel
theorem dX7_type_60 : decode cX7_type 60 = .ok (.land, 1) := by decide +kernel
theorem dX7_type_61 : decode cX7_type 61 = .ok (.l2i, 1) := by decide +kernel
theorem dX7_type_62 : decode cX7_type 62 = .ok (.iastore, 1) := by decide +kernel
theorem dX7_type_63 : decode cX7_type 63 = .ok (.aload_n 0, 1) := by decide +kernel
theorem dX7_type_64 : decode cX7_type 64 = .ok (.dup, 1) := by decide +kernel
theorem dX7_type_65 : decode cX7_type 65 = .ok (.getfield 64, 3) := by decide +kernel
theorem dX7_type_68 : decode cX7_type 68 = .ok (.iconst 1, 1) := by decide +kernel
theorem dX7_type_69 : decode cX7_type 69 = .ok (.iadd, 1) := by decide +kernel
theorem dX7_type_70 : decode cX7_type 70 = .ok (.putfield 64, 3) := by decide +kernel
theorem dX7_type_73 : decode cX7_type 73 = .ok (.iinc 4 (-1), 3) := by decide +kernel
theorem dX7_type_76 : decode cX7_type 76 = .ok (.goto (-39), 3) := by decide +kernel
theorem dX7_type_79 : decode cX7_type 79 = .ok (.aload_n 0, 1) := by decide +kernel
theorem dX7_type_80 : decode cX7_type 80 = .ok (.getfield 64, 3) := by decide +kernel
theorem dX7_type_83 : decode cX7_type 83 = .ok (.ireturn, 1) := by decide +kernel
theorem dX7_clear_0 : decode cX7_clear 0 = .ok (.aload_n 0, 1) := by decide +kernel
theorem dX7_clear_1 : decode cX7_clear 1 = .ok (.iconst 0, 1) := by decide +kernel
theorem dX7_clear_2 : decode cX7_clear 2 = .ok (.putfield 47, 3) := by decide +kernel
theorem dX7_clear_5 : decode cX7_clear 5 = .ok (.aload_n 0, 1) := by decide +kernel
theorem dX7_clear_6 : decode cX7_clear 6 = .ok (.getfield 64, 3) := by decide +kernel
theorem dX7_clear_9 : decode cX7_clear 9 = .ok (.istore_n 1, 1) := by decide +kernel
theorem dX7_clear_10 : decode cX7_clear 10 = .ok (.aload_n 0, 1) := by decide +kernel
theorem dX7_clear_11 : decode cX7_clear 11 = .ok (.iconst 0, 1) := by decide +kernel
theorem dX7_clear_12 : decode cX7_clear 12 = .ok (.putfield 64, 3) := by decide +kernel
theorem dX7_clear_15 : decode cX7_clear 15 = .ok (.iload_n 1, 1) := by decide +kernel
theorem dX7_clear_16 : decode cX7_clear 16 = .ok (.ireturn, 1) := by decide +kernel
theorem dX7_byteAt_0 : decode cX7_byteAt 0 = .ok (.iload_n 1, 1) := by decide +kernel
theorem dX7_byteAt_1 : decode cX7_byteAt 1 = .ok (.aload_n 0, 1) := by decide +kernel
theorem dX7_byteAt_2 : decode cX7_byteAt 2 = .ok (.getfield 64, 3) := by decide +kernel
theorem dX7_byteAt_5 : decode cX7_byteAt 5 = .ok (.if_icmp .ge 12, 3) := by decide +kernel
theorem dX7_byteAt_8 : decode cX7_byteAt 8 = .ok (.aload_n 0, 1) := by decide +kernel
theorem dX7_byteAt_9 : decode cX7_byteAt 9 = .ok (.getfield 7, 3) := by decide +kernel
theorem dX7_byteAt_12 : decode cX7_byteAt 12 = .ok (.iload_n 1, 1) := by decide +kernel
theorem dX7_byteAt_13 : decode cX7_byteAt 13 = .ok (.iaload, 1) := by decide +kernel
theorem dX7_byteAt_14 : decode cX7_byteAt 14 = .ok (.goto 4, 3) := by decide +kernel
theorem dX7_byteAt_17 : decode cX7_byteAt 17 = .ok (.iconst (-1), 1) := by decide +kernel
theorem dX7_byteAt_18 : decode cX7_byteAt 18 = .ok (.ireturn, 1) := by decide +kernel
theorem dX7_sortOf_0 : decode cX7_sortOf 0 = .ok (.iload_n 0, 1) := by decide +kernel
theorem dX7_sortOf_1 : decode cX7_sortOf 1 = .ok (.ifCond .ge 7, 3) := by decide +kernel
theorem dX7_sortOf_4 : decode cX7_sortOf 4 = .ok (.iconst 0, 1) := by decide +kernel
theorem dX7_sortOf_5 : decode cX7_sortOf 5 = .ok (.goto 44, 3) := by decide +kernel
theorem dX7_sortOf_8 : decode cX7_sortOf 8 = .ok (.iload_n 0, 1) := by decide +kernel
theorem dX7_sortOf_9 : decode cX7_sortOf 9 = .ok (.bipush 97, 2) := by decide +kernel
theorem dX7_sortOf_11 : decode cX7_sortOf 11 = .ok (.bipush 122, 2) := by decide +kernel
theorem dX7_sortOf_13 : decode cX7_sortOf 13 = .ok (.invokestatic 57, 3) := by decide +kernel
theorem dX7_sortOf_16 : decode cX7_sortOf 16 = .ok (.ifCond .eq 7, 3) := by decide +kernel
theorem dX7_sortOf_19 : decode cX7_sortOf 19 = .ok (.iconst 1, 1) := by decide +kernel
theorem dX7_sortOf_20 : decode cX7_sortOf 20 = .ok (.goto 29, 3) := by decide +kernel
theorem dX7_sortOf_23 : decode cX7_sortOf 23 = .ok (.iload_n 0, 1) := by decide +kernel
theorem dX7_sortOf_24 : decode cX7_sortOf 24 = .ok (.bipush 48, 2) := by decide +kernel
theorem dX7_sortOf_26 : decode cX7_sortOf 26 = .ok (.bipush 57, 2) := by decide +kernel
theorem dX7_sortOf_28 : decode cX7_sortOf 28 = .ok (.invokestatic 57, 3) := by decide +kernel
theorem dX7_sortOf_31 : decode cX7_sortOf 31 = .ok (.ifCond .eq 7, 3) := by decide +kernel
theorem dX7_sortOf_34 : decode cX7_sortOf 34 = .ok (.iconst 2, 1) := by decide +kernel
theorem dX7_sortOf_35 : decode cX7_sortOf 35 = .ok (.goto 14, 3) := by decide +kernel
theorem dX7_sortOf_38 : decode cX7_sortOf 38 = .ok (.iload_n 0, 1) := by decide +kernel
theorem dX7_sortOf_39 : decode cX7_sortOf 39 = .ok (.bipush 59, 2) := by decide +kernel
theorem dX7_sortOf_41 : decode cX7_sortOf 41 = .ok (.if_icmp .ne 7, 3) := by decide +kernel
theorem dX7_sortOf_44 : decode cX7_sortOf 44 = .ok (.iconst 3, 1) := by decide +kernel
theorem dX7_sortOf_45 : decode cX7_sortOf 45 = .ok (.goto 4, 3) := by decide +kernel
theorem dX7_sortOf_48 : decode cX7_sortOf 48 = .ok (.iconst 4, 1) := by decide +kernel
theorem dX7_sortOf_49 : decode cX7_sortOf 49 = .ok (.ireturn, 1) := by decide +kernel
theorem dX7_token_0 : decode cX7_token 0 = .ok (.aload_n 0, 1) := by decide +kernel
theorem dX7_token_1 : decode cX7_token 1 = .ok (.aload_n 0, 1) := by decide +kernel
theorem dX7_token_2 : decode cX7_token 2 = .ok (.getfield 69, 3) := by decide +kernel
theorem dX7_token_5 : decode cX7_token 5 = .ok (.invokevirtual 72, 3) := by decide +kernel
theorem dX7_token_8 : decode cX7_token 8 = .ok (.bipush 32, 2) := by decide +kernel
theorem dX7_token_10 : decode cX7_token 10 = .ok (.if_icmp .ne 16, 3) := by decide +kernel
theorem dX7_token_13 : decode cX7_token 13 = .ok (.aload_n 0, 1) := by decide +kernel
theorem dX7_token_14 : decode cX7_token 14 = .ok (.dup, 1) := by decide +kernel
theorem dX7_token_15 : decode cX7_token 15 = .ok (.getfield 69, 3) := by decide +kernel
theorem dX7_token_18 : decode cX7_token 18 = .ok (.iconst 1, 1) := by decide +kernel
theorem dX7_token_19 : decode cX7_token 19 = .ok (.iadd, 1) := by decide +kernel
theorem dX7_token_20 : decode cX7_token 20 = .ok (.putfield 69, 3) := by decide +kernel
theorem dX7_token_23 : decode cX7_token 23 = .ok (.goto (-23), 3) := by decide +kernel
theorem dX7_token_26 : decode cX7_token 26 = .ok (.aload_n 0, 1) := by decide +kernel
theorem dX7_token_27 : decode cX7_token 27 = .ok (.aload_n 0, 1) := by decide +kernel
theorem dX7_token_28 : decode cX7_token 28 = .ok (.getfield 69, 3) := by decide +kernel
theorem dX7_token_31 : decode cX7_token 31 = .ok (.putfield 76, 3) := by decide +kernel
theorem dX7_token_34 : decode cX7_token 34 = .ok (.aload_n 0, 1) := by decide +kernel
theorem dX7_token_35 : decode cX7_token 35 = .ok (.aload_n 0, 1) := by decide +kernel
theorem dX7_token_36 : decode cX7_token 36 = .ok (.aload_n 0, 1) := by decide +kernel
theorem dX7_token_37 : decode cX7_token 37 = .ok (.getfield 69, 3) := by decide +kernel
theorem dX7_token_40 : decode cX7_token 40 = .ok (.invokevirtual 72, 3) := by decide +kernel
theorem dX7_token_43 : decode cX7_token 43 = .ok (.invokestatic 79, 3) := by decide +kernel
theorem dX7_token_46 : decode cX7_token 46 = .ok (.putfield 82, 3) := by decide +kernel
theorem dX7_token_49 : decode cX7_token 49 = .ok (.aload_n 0, 1) := by decide +kernel
theorem dX7_token_50 : decode cX7_token 50 = .ok (.iconst 0, 1) := by decide +kernel
theorem dX7_token_51 : decode cX7_token 51 = .ok (.putfield 85, 3) := by decide +kernel
theorem dX7_token_54 : decode cX7_token 54 = .ok (.aload_n 0, 1) := by decide +kernel
theorem dX7_token_55 : decode cX7_token 55 = .ok (.getfield 85, 3) := by decide +kernel
theorem dX7_token_58 : decode cX7_token 58 = .ok (.ifCond .ne 10, 3) := by decide +kernel
theorem dX7_token_61 : decode cX7_token 61 = .ok (.aload_n 0, 1) := by decide +kernel
theorem dX7_token_62 : decode cX7_token 62 = .ok (.getfield 82, 3) := by decide +kernel
theorem dX7_token_65 : decode cX7_token 65 = .ok (.ifCond .ne 37, 3) := by decide +kernel
theorem dX7_token_68 : decode cX7_token 68 = .ok (.aload_n 0, 1) := by decide +kernel
theorem dX7_token_69 : decode cX7_token 69 = .ok (.getfield 82, 3) := by decide +kernel
theorem dX7_token_72 : decode cX7_token 72 = .ok (.iconst 1, 1) := by decide +kernel
theorem dX7_token_73 : decode cX7_token 73 = .ok (.if_icmp .eq 11, 3) := by decide +kernel
theorem dX7_token_76 : decode cX7_token 76 = .ok (.aload_n 0, 1) := by decide +kernel
theorem dX7_token_77 : decode cX7_token 77 = .ok (.getfield 82, 3) := by decide +kernel
theorem dX7_token_80 : decode cX7_token 80 = .ok (.iconst 2, 1) := by decide +kernel
theorem dX7_token_81 : decode cX7_token 81 = .ok (.if_icmp .ne 44, 3) := by decide +kernel
theorem dX7_token_84 : decode cX7_token 84 = .ok (.aload_n 0, 1) := by decide +kernel
theorem dX7_token_85 : decode cX7_token 85 = .ok (.aload_n 0, 1) := by decide +kernel
theorem dX7_token_86 : decode cX7_token 86 = .ok (.getfield 69, 3) := by decide +kernel
theorem dX7_token_89 : decode cX7_token 89 = .ok (.invokevirtual 72, 3) := by decide +kernel
theorem dX7_token_92 : decode cX7_token 92 = .ok (.invokestatic 79, 3) := by decide +kernel
theorem dX7_token_95 : decode cX7_token 95 = .ok (.aload_n 0, 1) := by decide +kernel
theorem dX7_token_96 : decode cX7_token 96 = .ok (.getfield 82, 3) := by decide +kernel
theorem dX7_token_99 : decode cX7_token 99 = .ok (.if_icmp .ne 26, 3) := by decide +kernel
theorem dX7_token_102 : decode cX7_token 102 = .ok (.aload_n 0, 1) := by decide +kernel
theorem dX7_token_103 : decode cX7_token 103 = .ok (.dup, 1) := by decide +kernel
theorem dX7_token_104 : decode cX7_token 104 = .ok (.getfield 69, 3) := by decide +kernel
theorem dX7_token_107 : decode cX7_token 107 = .ok (.iconst 1, 1) := by decide +kernel
theorem dX7_token_108 : decode cX7_token 108 = .ok (.iadd, 1) := by decide +kernel
theorem dX7_token_109 : decode cX7_token 109 = .ok (.putfield 69, 3) := by decide +kernel
theorem dX7_token_112 : decode cX7_token 112 = .ok (.aload_n 0, 1) := by decide +kernel
theorem dX7_token_113 : decode cX7_token 113 = .ok (.dup, 1) := by decide +kernel
theorem dX7_token_114 : decode cX7_token 114 = .ok (.getfield 85, 3) := by decide +kernel
theorem dX7_token_117 : decode cX7_token 117 = .ok (.iconst 1, 1) := by decide +kernel
theorem dX7_token_118 : decode cX7_token 118 = .ok (.iadd, 1) := by decide +kernel
theorem dX7_token_119 : decode cX7_token 119 = .ok (.putfield 85, 3) := by decide +kernel
theorem dX7_token_122 : decode cX7_token 122 = .ok (.goto (-68), 3) := by decide +kernel
theorem dX7_token_125 : decode cX7_token 125 = .ok (.return_, 1) := by decide +kernel
theorem dX7_verb_0 : decode cX7_verb 0 = .ok (.lconst 0, 1) := by decide +kernel
theorem dX7_verb_1 : decode cX7_verb 1 = .ok (.lstore_n 1, 1) := by decide +kernel
theorem dX7_verb_2 : decode cX7_verb 2 = .ok (.iconst 0, 1) := by decide +kernel
theorem dX7_verb_3 : decode cX7_verb 3 = .ok (.istore_n 3, 1) := by decide +kernel
theorem dX7_verb_4 : decode cX7_verb 4 = .ok (.iload_n 3, 1) := by decide +kernel
theorem dX7_verb_5 : decode cX7_verb 5 = .ok (.aload_n 0, 1) := by decide +kernel
theorem dX7_verb_6 : decode cX7_verb 6 = .ok (.getfield 85, 3) := by decide +kernel
theorem dX7_verb_9 : decode cX7_verb 9 = .ok (.if_icmp .ge 41, 3) := by decide +kernel
theorem dX7_verb_12 : decode cX7_verb 12 = .ok (.iload_n 3, 1) := by decide +kernel
theorem dX7_verb_13 : decode cX7_verb 13 = .ok (.bipush 7, 2) := by decide +kernel
theorem dX7_verb_15 : decode cX7_verb 15 = .ok (.if_icmp .ge 35, 3) := by decide +kernel
theorem dX7_verb_18 : decode cX7_verb 18 = .ok (.aload_n 0, 1) := by decide +kernel
theorem dX7_verb_19 : decode cX7_verb 19 = .ok (.getfield 82, 3) := by decide +kernel
theorem dX7_verb_22 : decode cX7_verb 22 = .ok (.iconst 1, 1) := by decide +kernel
theorem dX7_verb_23 : decode cX7_verb 23 = .ok (.if_icmp .ne 27, 3) := by decide +kernel
theorem dX7_verb_26 : decode cX7_verb 26 = .ok (.ldc2_w 88, 3) := by decide +kernel
theorem dX7_verb_29 : decode cX7_verb 29 = .ok (.lload_n 1, 1) := by decide +kernel
theorem dX7_verb_30 : decode cX7_verb 30 = .ok (.lmul, 1) := by decide +kernel
theorem dX7_verb_31 : decode cX7_verb 31 = .ok (.aload_n 0, 1) := by decide +kernel
theorem dX7_verb_32 : decode cX7_verb 32 = .ok (.aload_n 0, 1) := by decide +kernel
theorem dX7_verb_33 : decode cX7_verb 33 = .ok (.getfield 76, 3) := by decide +kernel
theorem dX7_verb_36 : decode cX7_verb 36 = .ok (.iload_n 3, 1) := by decide +kernel
theorem dX7_verb_37 : decode cX7_verb 37 = .ok (.iadd, 1) := by decide +kernel
theorem dX7_verb_38 : decode cX7_verb 38 = .ok (.invokevirtual 72, 3) := by decide +kernel
theorem dX7_verb_41 : decode cX7_verb 41 = .ok (.i2l, 1) := by decide +kernel
theorem dX7_verb_42 : decode cX7_verb 42 = .ok (.ladd, 1) := by decide +kernel
theorem dX7_verb_43 : decode cX7_verb 43 = .ok (.lstore_n 1, 1) := by decide +kernel
theorem dX7_verb_44 : decode cX7_verb 44 = .ok (.iinc 3 1, 3) := by decide +kernel
theorem dX7_verb_47 : decode cX7_verb 47 = .ok (.goto (-43), 3) := by decide +kernel
theorem dX7_verb_50 : decode cX7_verb 50 = .ok (.lload_n 1, 1) := by decide +kernel
theorem dX7_verb_51 : decode cX7_verb 51 = .ok (.ldc2_w 90, 3) := by decide +kernel
theorem dX7_verb_54 : decode cX7_verb 54 = .ok (.lcmp, 1) := by decide +kernel
theorem dX7_verb_55 : decode cX7_verb 55 = .ok (.ifCond .ne 7, 3) := by decide +kernel
theorem dX7_verb_58 : decode cX7_verb 58 = .ok (.iconst 0, 1) := by decide +kernel
theorem dX7_verb_59 : decode cX7_verb 59 = .ok (.goto 29, 3) := by decide +kernel
theorem dX7_verb_62 : decode cX7_verb 62 = .ok (.lload_n 1, 1) := by decide +kernel
theorem dX7_verb_63 : decode cX7_verb 63 = .ok (.ldc2_w 92, 3) := by decide +kernel
theorem dX7_verb_66 : decode cX7_verb 66 = .ok (.lcmp, 1) := by decide +kernel
theorem dX7_verb_67 : decode cX7_verb 67 = .ok (.ifCond .ne 7, 3) := by decide +kernel
theorem dX7_verb_70 : decode cX7_verb 70 = .ok (.iconst 1, 1) := by decide +kernel
theorem dX7_verb_71 : decode cX7_verb 71 = .ok (.goto 17, 3) := by decide +kernel
theorem dX7_verb_74 : decode cX7_verb 74 = .ok (.lload_n 1, 1) := by decide +kernel
theorem dX7_verb_75 : decode cX7_verb 75 = .ok (.ldc2_w 94, 3) := by decide +kernel
theorem dX7_verb_78 : decode cX7_verb 78 = .ok (.lcmp, 1) := by decide +kernel
theorem dX7_verb_79 : decode cX7_verb 79 = .ok (.ifCond .ne 7, 3) := by decide +kernel
theorem dX7_verb_82 : decode cX7_verb 82 = .ok (.iconst 2, 1) := by decide +kernel
theorem dX7_verb_83 : decode cX7_verb 83 = .ok (.goto 5, 3) := by decide +kernel
theorem dX7_verb_86 : decode cX7_verb 86 = .ok (.bipush (-9), 2) := by decide +kernel
theorem dX7_verb_88 : decode cX7_verb 88 = .ok (.ireturn, 1) := by decide +kernel
theorem dX7_number_0 : decode cX7_number 0 = .ok (.aload_n 0, 1) := by decide +kernel
theorem dX7_number_1 : decode cX7_number 1 = .ok (.invokevirtual 96, 3) := by decide +kernel
theorem dX7_number_4 : decode cX7_number 4 = .ok (.aload_n 0, 1) := by decide +kernel
theorem dX7_number_5 : decode cX7_number 5 = .ok (.getfield 82, 3) := by decide +kernel
theorem dX7_number_8 : decode cX7_number 8 = .ok (.iconst 2, 1) := by decide +kernel
theorem dX7_number_9 : decode cX7_number 9 = .ok (.if_icmp .ne 32, 3) := by decide +kernel
theorem dX7_number_12 : decode cX7_number 12 = .ok (.aload_n 0, 1) := by decide +kernel
theorem dX7_number_13 : decode cX7_number 13 = .ok (.getfield 85, 3) := by decide +kernel
theorem dX7_number_16 : decode cX7_number 16 = .ok (.iconst 2, 1) := by decide +kernel
theorem dX7_number_17 : decode cX7_number 17 = .ok (.if_icmp .gt 24, 3) := by decide +kernel
theorem dX7_number_20 : decode cX7_number 20 = .ok (.aload_n 0, 1) := by decide +kernel
theorem dX7_number_21 : decode cX7_number 21 = .ok (.getfield 85, 3) := by decide +kernel
theorem dX7_number_24 : decode cX7_number 24 = .ok (.iconst 2, 1) := by decide +kernel
theorem dX7_number_25 : decode cX7_number 25 = .ok (.if_icmp .ne 19, 3) := by decide +kernel
theorem dX7_number_28 : decode cX7_number 28 = .ok (.aload_n 0, 1) := by decide +kernel
theorem dX7_number_29 : decode cX7_number 29 = .ok (.aload_n 0, 1) := by decide +kernel
theorem dX7_number_30 : decode cX7_number 30 = .ok (.getfield 76, 3) := by decide +kernel
theorem dX7_number_33 : decode cX7_number 33 = .ok (.invokevirtual 72, 3) := by decide +kernel
theorem dX7_number_36 : decode cX7_number 36 = .ok (.bipush 48, 2) := by decide +kernel
theorem dX7_number_38 : decode cX7_number 38 = .ok (.if_icmp .ne 6, 3) := by decide +kernel
theorem dX7_number_41 : decode cX7_number 41 = .ok (.bipush (-9), 2) := by decide +kernel
theorem dX7_number_43 : decode cX7_number 43 = .ok (.ireturn, 1) := by decide +kernel
theorem dX7_number_44 : decode cX7_number 44 = .ok (.aload_n 0, 1) := by decide +kernel
theorem dX7_number_45 : decode cX7_number 45 = .ok (.aload_n 0, 1) := by decide +kernel
theorem dX7_number_46 : decode cX7_number 46 = .ok (.getfield 76, 3) := by decide +kernel
theorem dX7_number_49 : decode cX7_number 49 = .ok (.invokevirtual 72, 3) := by decide +kernel
theorem dX7_number_52 : decode cX7_number 52 = .ok (.bipush 48, 2) := by decide +kernel
theorem dX7_number_54 : decode cX7_number 54 = .ok (.isub, 1) := by decide +kernel
theorem dX7_number_55 : decode cX7_number 55 = .ok (.istore_n 2, 1) := by decide +kernel
theorem dX7_number_56 : decode cX7_number 56 = .ok (.aload_n 0, 1) := by decide +kernel
theorem dX7_number_57 : decode cX7_number 57 = .ok (.getfield 85, 3) := by decide +kernel
theorem dX7_number_60 : decode cX7_number 60 = .ok (.iconst 2, 1) := by decide +kernel
theorem dX7_number_61 : decode cX7_number 61 = .ok (.if_icmp .ne 24, 3) := by decide +kernel
theorem dX7_number_64 : decode cX7_number 64 = .ok (.bipush 10, 2) := by decide +kernel
theorem dX7_number_66 : decode cX7_number 66 = .ok (.iload_n 2, 1) := by decide +kernel
theorem dX7_number_67 : decode cX7_number 67 = .ok (.imul, 1) := by decide +kernel
theorem dX7_number_68 : decode cX7_number 68 = .ok (.aload_n 0, 1) := by decide +kernel
theorem dX7_number_69 : decode cX7_number 69 = .ok (.aload_n 0, 1) := by decide +kernel
theorem dX7_number_70 : decode cX7_number 70 = .ok (.getfield 76, 3) := by decide +kernel
theorem dX7_number_73 : decode cX7_number 73 = .ok (.iconst 1, 1) := by decide +kernel
theorem dX7_number_74 : decode cX7_number 74 = .ok (.iadd, 1) := by decide +kernel
theorem dX7_number_75 : decode cX7_number 75 = .ok (.invokevirtual 72, 3) := by decide +kernel
theorem dX7_number_78 : decode cX7_number 78 = .ok (.iadd, 1) := by decide +kernel
theorem dX7_number_79 : decode cX7_number 79 = .ok (.bipush 48, 2) := by decide +kernel
theorem dX7_number_81 : decode cX7_number 81 = .ok (.isub, 1) := by decide +kernel
theorem dX7_number_82 : decode cX7_number 82 = .ok (.goto 4, 3) := by decide +kernel
theorem dX7_number_85 : decode cX7_number 85 = .ok (.iload_n 2, 1) := by decide +kernel
theorem dX7_number_86 : decode cX7_number 86 = .ok (.istore_n 2, 1) := by decide +kernel
theorem dX7_number_87 : decode cX7_number 87 = .ok (.iload_n 2, 1) := by decide +kernel
theorem dX7_number_88 : decode cX7_number 88 = .ok (.iload_n 1, 1) := by decide +kernel
theorem dX7_number_89 : decode cX7_number 89 = .ok (.if_icmp .gt 7, 3) := by decide +kernel
theorem dX7_number_92 : decode cX7_number 92 = .ok (.iload_n 2, 1) := by decide +kernel
theorem dX7_number_93 : decode cX7_number 93 = .ok (.goto 5, 3) := by decide +kernel
theorem dX7_number_96 : decode cX7_number 96 = .ok (.bipush (-9), 2) := by decide +kernel
theorem dX7_number_98 : decode cX7_number 98 = .ok (.ireturn, 1) := by decide +kernel
theorem dX7_readsRow_0 : decode cX7_readsRow 0 = .ok (.aload_n 0, 1) := by decide +kernel
theorem dX7_readsRow_1 : decode cX7_readsRow 1 = .ok (.getfield 99, 3) := by decide +kernel
theorem dX7_readsRow_4 : decode cX7_readsRow 4 = .ok (.iconst 4, 1) := by decide +kernel
theorem dX7_readsRow_5 : decode cX7_readsRow 5 = .ok (.if_icmp .eq 10, 3) := by decide +kernel
theorem dX7_readsRow_8 : decode cX7_readsRow 8 = .ok (.aload_n 0, 1) := by decide +kernel
theorem dX7_readsRow_9 : decode cX7_readsRow 9 = .ok (.getfield 102, 3) := by decide +kernel
theorem dX7_readsRow_12 : decode cX7_readsRow 12 = .ok (.ifCond .le 5, 3) := by decide +kernel
theorem dX7_readsRow_15 : decode cX7_readsRow 15 = .ok (.iconst 0, 1) := by decide +kernel
theorem dX7_readsRow_16 : decode cX7_readsRow 16 = .ok (.ireturn, 1) := by decide +kernel
theorem dX7_readsRow_17 : decode cX7_readsRow 17 = .ok (.aload_n 0, 1) := by decide +kernel
theorem dX7_readsRow_18 : decode cX7_readsRow 18 = .ok (.invokevirtual 96, 3) := by decide +kernel
theorem dX7_readsRow_21 : decode cX7_readsRow 21 = .ok (.aload_n 0, 1) := by decide +kernel
theorem dX7_readsRow_22 : decode cX7_readsRow 22 = .ok (.getfield 82, 3) := by decide +kernel
theorem dX7_readsRow_25 : decode cX7_readsRow 25 = .ok (.iconst 1, 1) := by decide +kernel
theorem dX7_readsRow_26 : decode cX7_readsRow 26 = .ok (.if_icmp .ne 30, 3) := by decide +kernel
theorem dX7_readsRow_29 : decode cX7_readsRow 29 = .ok (.aload_n 0, 1) := by decide +kernel
theorem dX7_readsRow_30 : decode cX7_readsRow 30 = .ok (.getfield 85, 3) := by decide +kernel
theorem dX7_readsRow_33 : decode cX7_readsRow 33 = .ok (.bipush 6, 2) := by decide +kernel
theorem dX7_readsRow_35 : decode cX7_readsRow 35 = .ok (.if_icmp .gt 21, 3) := by decide +kernel
theorem dX7_readsRow_38 : decode cX7_readsRow 38 = .ok (.aload_n 0, 1) := by decide +kernel
theorem dX7_readsRow_39 : decode cX7_readsRow 39 = .ok (.getfield 99, 3) := by decide +kernel
theorem dX7_readsRow_42 : decode cX7_readsRow 42 = .ok (.ifCond .le 16, 3) := by decide +kernel
theorem dX7_readsRow_45 : decode cX7_readsRow 45 = .ok (.aload_n 0, 1) := by decide +kernel
theorem dX7_readsRow_46 : decode cX7_readsRow 46 = .ok (.getfield 85, 3) := by decide +kernel
theorem dX7_readsRow_49 : decode cX7_readsRow 49 = .ok (.aload_n 0, 1) := by decide +kernel
theorem dX7_readsRow_50 : decode cX7_readsRow 50 = .ok (.getfield 105, 3) := by decide +kernel
theorem dX7_readsRow_53 : decode cX7_readsRow 53 = .ok (.if_icmp .eq 5, 3) := by decide +kernel
theorem dX7_readsRow_56 : decode cX7_readsRow 56 = .ok (.iconst 0, 1) := by decide +kernel
theorem dX7_readsRow_57 : decode cX7_readsRow 57 = .ok (.ireturn, 1) := by decide +kernel
theorem dX7_readsRow_58 : decode cX7_readsRow 58 = .ok (.aload_n 0, 1) := by decide +kernel
theorem dX7_readsRow_59 : decode cX7_readsRow 59 = .ok (.aload_n 0, 1) := by decide +kernel
theorem dX7_readsRow_60 : decode cX7_readsRow 60 = .ok (.getfield 85, 3) := by decide +kernel
theorem dX7_readsRow_63 : decode cX7_readsRow 63 = .ok (.putfield 105, 3) := by decide +kernel
theorem dX7_readsRow_66 : decode cX7_readsRow 66 = .ok (.iconst 1, 1) := by decide +kernel
theorem dX7_readsRow_67 : decode cX7_readsRow 67 = .ok (.istore_n 1, 1) := by decide +kernel
theorem dX7_readsRow_68 : decode cX7_readsRow 68 = .ok (.iconst 0, 1) := by decide +kernel
theorem dX7_readsRow_69 : decode cX7_readsRow 69 = .ok (.istore_n 2, 1) := by decide +kernel
theorem dX7_readsRow_70 : decode cX7_readsRow 70 = .ok (.iload_n 2, 1) := by decide +kernel
theorem dX7_readsRow_71 : decode cX7_readsRow 71 = .ok (.aload_n 0, 1) := by decide +kernel
theorem dX7_readsRow_72 : decode cX7_readsRow 72 = .ok (.getfield 85, 3) := by decide +kernel
theorem dX7_readsRow_75 : decode cX7_readsRow 75 = .ok (.if_icmp .ge 85, 3) := by decide +kernel
theorem dX7_readsRow_78 : decode cX7_readsRow 78 = .ok (.aload_n 0, 1) := by decide +kernel
theorem dX7_readsRow_79 : decode cX7_readsRow 79 = .ok (.aload_n 0, 1) := by decide +kernel
theorem dX7_readsRow_80 : decode cX7_readsRow 80 = .ok (.getfield 76, 3) := by decide +kernel
theorem dX7_readsRow_83 : decode cX7_readsRow 83 = .ok (.iload_n 2, 1) := by decide +kernel
theorem dX7_readsRow_84 : decode cX7_readsRow 84 = .ok (.iadd, 1) := by decide +kernel
theorem dX7_readsRow_85 : decode cX7_readsRow 85 = .ok (.invokevirtual 72, 3) := by decide +kernel
theorem dX7_readsRow_88 : decode cX7_readsRow 88 = .ok (.istore_n 3, 1) := by decide +kernel
theorem dX7_readsRow_89 : decode cX7_readsRow 89 = .ok (.iload_n 1, 1) := by decide +kernel
theorem dX7_readsRow_90 : decode cX7_readsRow 90 = .ok (.ifCond .eq 25, 3) := by decide +kernel
theorem dX7_readsRow_93 : decode cX7_readsRow 93 = .ok (.iload_n 3, 1) := by decide +kernel
theorem dX7_readsRow_94 : decode cX7_readsRow 94 = .ok (.bipush 104, 2) := by decide +kernel
theorem dX7_readsRow_96 : decode cX7_readsRow 96 = .ok (.if_icmp .eq 15, 3) := by decide +kernel
theorem dX7_readsRow_99 : decode cX7_readsRow 99 = .ok (.iload_n 3, 1) := by decide +kernel
theorem dX7_readsRow_100 : decode cX7_readsRow 100 = .ok (.bipush 98, 2) := by decide +kernel
theorem dX7_readsRow_102 : decode cX7_readsRow 102 = .ok (.if_icmp .eq 9, 3) := by decide +kernel
theorem dX7_readsRow_105 : decode cX7_readsRow 105 = .ok (.iload_n 3, 1) := by decide +kernel
theorem dX7_readsRow_106 : decode cX7_readsRow 106 = .ok (.bipush 115, 2) := by decide +kernel
theorem dX7_readsRow_108 : decode cX7_readsRow 108 = .ok (.if_icmp .ne 7, 3) := by decide +kernel
theorem dX7_readsRow_111 : decode cX7_readsRow 111 = .ok (.iconst 1, 1) := by decide +kernel
theorem dX7_readsRow_112 : decode cX7_readsRow 112 = .ok (.goto 4, 3) := by decide +kernel
theorem dX7_readsRow_115 : decode cX7_readsRow 115 = .ok (.iconst 0, 1) := by decide +kernel
theorem dX7_readsRow_116 : decode cX7_readsRow 116 = .ok (.istore_n 1, 1) := by decide +kernel
theorem dX7_readsRow_117 : decode cX7_readsRow 117 = .ok (.aload_n 0, 1) := by decide +kernel
theorem dX7_readsRow_118 : decode cX7_readsRow 118 = .ok (.getfield 16, 3) := by decide +kernel
theorem dX7_readsRow_121 : decode cX7_readsRow 121 = .ok (.aload_n 0, 1) := by decide +kernel
theorem dX7_readsRow_122 : decode cX7_readsRow 122 = .ok (.getfield 105, 3) := by decide +kernel
theorem dX7_readsRow_125 : decode cX7_readsRow 125 = .ok (.aload_n 0, 1) := by decide +kernel
theorem dX7_readsRow_126 : decode cX7_readsRow 126 = .ok (.getfield 99, 3) := by decide +kernel
theorem dX7_readsRow_129 : decode cX7_readsRow 129 = .ok (.imul, 1) := by decide +kernel
theorem dX7_readsRow_130 : decode cX7_readsRow 130 = .ok (.iload_n 2, 1) := by decide +kernel
theorem dX7_readsRow_131 : decode cX7_readsRow 131 = .ok (.iadd, 1) := by decide +kernel
theorem dX7_readsRow_132 : decode cX7_readsRow 132 = .ok (.iload_n 3, 1) := by decide +kernel
theorem dX7_readsRow_133 : decode cX7_readsRow 133 = .ok (.bipush 104, 2) := by decide +kernel
theorem dX7_readsRow_135 : decode cX7_readsRow 135 = .ok (.if_icmp .ne 7, 3) := by decide +kernel
theorem dX7_readsRow_138 : decode cX7_readsRow 138 = .ok (.iconst 0, 1) := by decide +kernel
theorem dX7_readsRow_139 : decode cX7_readsRow 139 = .ok (.goto 14, 3) := by decide +kernel
theorem dX7_readsRow_142 : decode cX7_readsRow 142 = .ok (.iload_n 3, 1) := by decide +kernel
theorem dX7_readsRow_143 : decode cX7_readsRow 143 = .ok (.bipush 98, 2) := by decide +kernel
theorem dX7_readsRow_145 : decode cX7_readsRow 145 = .ok (.if_icmp .ne 7, 3) := by decide +kernel
theorem dX7_readsRow_148 : decode cX7_readsRow 148 = .ok (.iconst 1, 1) := by decide +kernel
theorem dX7_readsRow_149 : decode cX7_readsRow 149 = .ok (.goto 4, 3) := by decide +kernel
theorem dX7_readsRow_152 : decode cX7_readsRow 152 = .ok (.iconst 2, 1) := by decide +kernel
theorem dX7_readsRow_153 : decode cX7_readsRow 153 = .ok (.iastore, 1) := by decide +kernel
theorem dX7_readsRow_154 : decode cX7_readsRow 154 = .ok (.iinc 2 1, 3) := by decide +kernel
theorem dX7_readsRow_157 : decode cX7_readsRow 157 = .ok (.goto (-87), 3) := by decide +kernel
theorem dX7_readsRow_160 : decode cX7_readsRow 160 = .ok (.aload_n 0, 1) := by decide +kernel
theorem dX7_readsRow_161 : decode cX7_readsRow 161 = .ok (.dup, 1) := by decide +kernel
theorem dX7_readsRow_162 : decode cX7_readsRow 162 = .ok (.getfield 99, 3) := by decide +kernel
theorem dX7_readsRow_165 : decode cX7_readsRow 165 = .ok (.iload_n 1, 1) := by decide +kernel
theorem dX7_readsRow_166 : decode cX7_readsRow 166 = .ok (.ifCond .eq 7, 3) := by decide +kernel
theorem dX7_readsRow_169 : decode cX7_readsRow 169 = .ok (.iconst 1, 1) := by decide +kernel
theorem dX7_readsRow_170 : decode cX7_readsRow 170 = .ok (.goto 4, 3) := by decide +kernel
theorem dX7_readsRow_173 : decode cX7_readsRow 173 = .ok (.iconst 0, 1) := by decide +kernel
theorem dX7_readsRow_174 : decode cX7_readsRow 174 = .ok (.iadd, 1) := by decide +kernel
theorem dX7_readsRow_175 : decode cX7_readsRow 175 = .ok (.putfield 99, 3) := by decide +kernel
theorem dX7_readsRow_178 : decode cX7_readsRow 178 = .ok (.iload_n 1, 1) := by decide +kernel
theorem dX7_readsRow_179 : decode cX7_readsRow 179 = .ok (.ireturn, 1) := by decide +kernel
theorem dX7_readsWalker_0 : decode cX7_readsWalker 0 = .ok (.aload_n 0, 1) := by decide +kernel
theorem dX7_readsWalker_1 : decode cX7_readsWalker 1 = .ok (.getfield 102, 3) := by decide +kernel
theorem dX7_readsWalker_4 : decode cX7_readsWalker 4 = .ok (.iconst 4, 1) := by decide +kernel
theorem dX7_readsWalker_5 : decode cX7_readsWalker 5 = .ok (.if_icmp .ne 5, 3) := by decide +kernel
theorem dX7_readsWalker_8 : decode cX7_readsWalker 8 = .ok (.iconst 0, 1) := by decide +kernel
theorem dX7_readsWalker_9 : decode cX7_readsWalker 9 = .ok (.ireturn, 1) := by decide +kernel
theorem dX7_readsWalker_10 : decode cX7_readsWalker 10 = .ok (.aload_n 0, 1) := by decide +kernel
theorem dX7_readsWalker_11 : decode cX7_readsWalker 11 = .ok (.getfield 105, 3) := by decide +kernel
theorem dX7_readsWalker_14 : decode cX7_readsWalker 14 = .ok (.aload_n 0, 1) := by decide +kernel
theorem dX7_readsWalker_15 : decode cX7_readsWalker 15 = .ok (.getfield 99, 3) := by decide +kernel
theorem dX7_readsWalker_18 : decode cX7_readsWalker 18 = .ok (.imul, 1) := by decide +kernel
theorem dX7_readsWalker_19 : decode cX7_readsWalker 19 = .ok (.iconst 1, 1) := by decide +kernel
theorem dX7_readsWalker_20 : decode cX7_readsWalker 20 = .ok (.isub, 1) := by decide +kernel
theorem dX7_readsWalker_21 : decode cX7_readsWalker 21 = .ok (.istore_n 1, 1) := by decide +kernel
theorem dX7_readsWalker_22 : decode cX7_readsWalker 22 = .ok (.aload_n 0, 1) := by decide +kernel
theorem dX7_readsWalker_23 : decode cX7_readsWalker 23 = .ok (.iload_n 1, 1) := by decide +kernel
theorem dX7_readsWalker_24 : decode cX7_readsWalker 24 = .ok (.invokevirtual 108, 3) := by decide +kernel
theorem dX7_readsWalker_27 : decode cX7_readsWalker 27 = .ok (.istore_n 2, 1) := by decide +kernel
theorem dX7_readsWalker_28 : decode cX7_readsWalker 28 = .ok (.iload_n 2, 1) := by decide +kernel
theorem dX7_readsWalker_29 : decode cX7_readsWalker 29 = .ok (.bipush (-9), 2) := by decide +kernel
theorem dX7_readsWalker_31 : decode cX7_readsWalker 31 = .ok (.if_icmp .ne 5, 3) := by decide +kernel
theorem dX7_readsWalker_34 : decode cX7_readsWalker 34 = .ok (.iconst 0, 1) := by decide +kernel
theorem dX7_readsWalker_35 : decode cX7_readsWalker 35 = .ok (.ireturn, 1) := by decide +kernel
theorem dX7_readsWalker_36 : decode cX7_readsWalker 36 = .ok (.aload_n 0, 1) := by decide +kernel
theorem dX7_readsWalker_37 : decode cX7_readsWalker 37 = .ok (.iload_n 1, 1) := by decide +kernel
theorem dX7_readsWalker_38 : decode cX7_readsWalker 38 = .ok (.invokevirtual 108, 3) := by decide +kernel
theorem dX7_readsWalker_41 : decode cX7_readsWalker 41 = .ok (.istore_n 3, 1) := by decide +kernel
theorem dX7_readsWalker_42 : decode cX7_readsWalker 42 = .ok (.iload_n 3, 1) := by decide +kernel
theorem dX7_readsWalker_43 : decode cX7_readsWalker 43 = .ok (.bipush (-9), 2) := by decide +kernel
theorem dX7_readsWalker_45 : decode cX7_readsWalker 45 = .ok (.if_icmp .eq 8, 3) := by decide +kernel
theorem dX7_readsWalker_48 : decode cX7_readsWalker 48 = .ok (.iload_n 2, 1) := by decide +kernel
theorem dX7_readsWalker_49 : decode cX7_readsWalker 49 = .ok (.iload_n 3, 1) := by decide +kernel
theorem dX7_readsWalker_50 : decode cX7_readsWalker 50 = .ok (.if_icmp .ne 5, 3) := by decide +kernel
theorem dX7_readsWalker_53 : decode cX7_readsWalker 53 = .ok (.iconst 0, 1) := by decide +kernel
theorem dX7_readsWalker_54 : decode cX7_readsWalker 54 = .ok (.ireturn, 1) := by decide +kernel
theorem dX7_readsWalker_55 : decode cX7_readsWalker 55 = .ok (.aload_n 0, 1) := by decide +kernel
theorem dX7_readsWalker_56 : decode cX7_readsWalker 56 = .ok (.getfield 22, 3) := by decide +kernel
theorem dX7_readsWalker_59 : decode cX7_readsWalker 59 = .ok (.iconst 2, 1) := by decide +kernel
theorem dX7_readsWalker_60 : decode cX7_readsWalker 60 = .ok (.aload_n 0, 1) := by decide +kernel
theorem dX7_readsWalker_61 : decode cX7_readsWalker 61 = .ok (.getfield 102, 3) := by decide +kernel
theorem dX7_readsWalker_64 : decode cX7_readsWalker 64 = .ok (.imul, 1) := by decide +kernel
theorem dX7_readsWalker_65 : decode cX7_readsWalker 65 = .ok (.iload_n 2, 1) := by decide +kernel
theorem dX7_readsWalker_66 : decode cX7_readsWalker 66 = .ok (.iastore, 1) := by decide +kernel
theorem dX7_readsWalker_67 : decode cX7_readsWalker 67 = .ok (.aload_n 0, 1) := by decide +kernel
theorem dX7_readsWalker_68 : decode cX7_readsWalker 68 = .ok (.getfield 22, 3) := by decide +kernel
theorem dX7_readsWalker_71 : decode cX7_readsWalker 71 = .ok (.iconst 2, 1) := by decide +kernel
theorem dX7_readsWalker_72 : decode cX7_readsWalker 72 = .ok (.aload_n 0, 1) := by decide +kernel
theorem dX7_readsWalker_73 : decode cX7_readsWalker 73 = .ok (.getfield 102, 3) := by decide +kernel
theorem dX7_readsWalker_76 : decode cX7_readsWalker 76 = .ok (.imul, 1) := by decide +kernel
theorem dX7_readsWalker_77 : decode cX7_readsWalker 77 = .ok (.iconst 1, 1) := by decide +kernel
theorem dX7_readsWalker_78 : decode cX7_readsWalker 78 = .ok (.iadd, 1) := by decide +kernel
theorem dX7_readsWalker_79 : decode cX7_readsWalker 79 = .ok (.iload_n 3, 1) := by decide +kernel
theorem dX7_readsWalker_80 : decode cX7_readsWalker 80 = .ok (.iastore, 1) := by decide +kernel
theorem dX7_readsWalker_81 : decode cX7_readsWalker 81 = .ok (.aload_n 0, 1) := by decide +kernel
theorem dX7_readsWalker_82 : decode cX7_readsWalker 82 = .ok (.dup, 1) := by decide +kernel
theorem dX7_readsWalker_83 : decode cX7_readsWalker 83 = .ok (.getfield 102, 3) := by decide +kernel
theorem dX7_readsWalker_86 : decode cX7_readsWalker 86 = .ok (.iconst 1, 1) := by decide +kernel
theorem dX7_readsWalker_87 : decode cX7_readsWalker 87 = .ok (.iadd, 1) := by decide +kernel
theorem dX7_readsWalker_88 : decode cX7_readsWalker 88 = .ok (.putfield 102, 3) := by decide +kernel
theorem dX7_readsWalker_91 : decode cX7_readsWalker 91 = .ok (.iconst 1, 1) := by decide +kernel
theorem dX7_readsWalker_92 : decode cX7_readsWalker 92 = .ok (.ireturn, 1) := by decide +kernel
theorem dX7_readsSink_0 : decode cX7_readsSink 0 = .ok (.aload_n 0, 1) := by decide +kernel
theorem dX7_readsSink_1 : decode cX7_readsSink 1 = .ok (.getfield 111, 3) := by decide +kernel
theorem dX7_readsSink_4 : decode cX7_readsSink 4 = .ok (.bipush (-9), 2) := by decide +kernel
theorem dX7_readsSink_6 : decode cX7_readsSink 6 = .ok (.if_icmp .eq 5, 3) := by decide +kernel
theorem dX7_readsSink_9 : decode cX7_readsSink 9 = .ok (.iconst 0, 1) := by decide +kernel
theorem dX7_readsSink_10 : decode cX7_readsSink 10 = .ok (.ireturn, 1) := by decide +kernel
theorem dX7_readsSink_11 : decode cX7_readsSink 11 = .ok (.aload_n 0, 1) := by decide +kernel
theorem dX7_readsSink_12 : decode cX7_readsSink 12 = .ok (.bipush 9, 2) := by decide +kernel
theorem dX7_readsSink_14 : decode cX7_readsSink 14 = .ok (.invokevirtual 108, 3) := by decide +kernel
theorem dX7_readsSink_17 : decode cX7_readsSink 17 = .ok (.istore_n 1, 1) := by decide +kernel
theorem dX7_readsSink_18 : decode cX7_readsSink 18 = .ok (.aload_n 0, 1) := by decide +kernel
theorem dX7_readsSink_19 : decode cX7_readsSink 19 = .ok (.iload_n 1, 1) := by decide +kernel
theorem dX7_readsSink_20 : decode cX7_readsSink 20 = .ok (.putfield 111, 3) := by decide +kernel
theorem dX7_readsSink_23 : decode cX7_readsSink 23 = .ok (.iload_n 1, 1) := by decide +kernel
theorem dX7_readsSink_24 : decode cX7_readsSink 24 = .ok (.bipush (-9), 2) := by decide +kernel
theorem dX7_readsSink_26 : decode cX7_readsSink 26 = .ok (.if_icmp .eq 7, 3) := by decide +kernel
theorem dX7_readsSink_29 : decode cX7_readsSink 29 = .ok (.iconst 1, 1) := by decide +kernel
theorem dX7_readsSink_30 : decode cX7_readsSink 30 = .ok (.goto 4, 3) := by decide +kernel
theorem dX7_readsSink_33 : decode cX7_readsSink 33 = .ok (.iconst 0, 1) := by decide +kernel
theorem dX7_readsSink_34 : decode cX7_readsSink 34 = .ok (.ireturn, 1) := by decide +kernel
theorem dX7_reads_0 : decode cX7_reads 0 = .ok (.aload_n 0, 1) := by decide +kernel
theorem dX7_reads_1 : decode cX7_reads 1 = .ok (.iconst 0, 1) := by decide +kernel
theorem dX7_reads_2 : decode cX7_reads 2 = .ok (.putfield 69, 3) := by decide +kernel
theorem dX7_reads_5 : decode cX7_reads 5 = .ok (.aload_n 0, 1) := by decide +kernel
theorem dX7_reads_6 : decode cX7_reads 6 = .ok (.iconst 0, 1) := by decide +kernel
theorem dX7_reads_7 : decode cX7_reads 7 = .ok (.putfield 105, 3) := by decide +kernel
theorem dX7_reads_10 : decode cX7_reads 10 = .ok (.aload_n 0, 1) := by decide +kernel
theorem dX7_reads_11 : decode cX7_reads 11 = .ok (.iconst 0, 1) := by decide +kernel
theorem dX7_reads_12 : decode cX7_reads 12 = .ok (.putfield 99, 3) := by decide +kernel
theorem dX7_reads_15 : decode cX7_reads 15 = .ok (.aload_n 0, 1) := by decide +kernel
theorem dX7_reads_16 : decode cX7_reads 16 = .ok (.iconst 0, 1) := by decide +kernel
theorem dX7_reads_17 : decode cX7_reads 17 = .ok (.putfield 102, 3) := by decide +kernel
theorem dX7_reads_20 : decode cX7_reads 20 = .ok (.aload_n 0, 1) := by decide +kernel
theorem dX7_reads_21 : decode cX7_reads 21 = .ok (.bipush (-9), 2) := by decide +kernel
theorem dX7_reads_23 : decode cX7_reads 23 = .ok (.putfield 111, 3) := by decide +kernel
theorem dX7_reads_26 : decode cX7_reads 26 = .ok (.iconst 0, 1) := by decide +kernel
theorem dX7_reads_27 : decode cX7_reads 27 = .ok (.istore_n 1, 1) := by decide +kernel
theorem dX7_reads_28 : decode cX7_reads 28 = .ok (.aload_n 0, 1) := by decide +kernel
theorem dX7_reads_29 : decode cX7_reads 29 = .ok (.invokevirtual 96, 3) := by decide +kernel
theorem dX7_reads_32 : decode cX7_reads 32 = .ok (.aload_n 0, 1) := by decide +kernel
theorem dX7_reads_33 : decode cX7_reads 33 = .ok (.getfield 82, 3) := by decide +kernel
theorem dX7_reads_36 : decode cX7_reads 36 = .ok (.ifCond .eq 81, 3) := by decide +kernel
theorem dX7_reads_39 : decode cX7_reads 39 = .ok (.aload_n 0, 1) := by decide +kernel
theorem dX7_reads_40 : decode cX7_reads 40 = .ok (.invokevirtual 114, 3) := by decide +kernel
theorem dX7_reads_43 : decode cX7_reads 43 = .ok (.istore_n 2, 1) := by decide +kernel
theorem dX7_reads_44 : decode cX7_reads 44 = .ok (.iload_n 2, 1) := by decide +kernel
theorem dX7_reads_45 : decode cX7_reads 45 = .ok (.ifCond .ne 10, 3) := by decide +kernel
theorem dX7_reads_48 : decode cX7_reads 48 = .ok (.aload_n 0, 1) := by decide +kernel
theorem dX7_reads_49 : decode cX7_reads 49 = .ok (.invokevirtual 118, 3) := by decide +kernel
theorem dX7_reads_52 : decode cX7_reads 52 = .ok (.goto 32, 3) := by decide +kernel
theorem dX7_reads_55 : decode cX7_reads 55 = .ok (.iload_n 2, 1) := by decide +kernel
theorem dX7_reads_56 : decode cX7_reads 56 = .ok (.iconst 1, 1) := by decide +kernel
theorem dX7_reads_57 : decode cX7_reads 57 = .ok (.if_icmp .ne 10, 3) := by decide +kernel
theorem dX7_reads_60 : decode cX7_reads 60 = .ok (.aload_n 0, 1) := by decide +kernel
theorem dX7_reads_61 : decode cX7_reads 61 = .ok (.invokevirtual 122, 3) := by decide +kernel
theorem dX7_reads_64 : decode cX7_reads 64 = .ok (.goto 20, 3) := by decide +kernel
theorem dX7_reads_67 : decode cX7_reads 67 = .ok (.iload_n 2, 1) := by decide +kernel
theorem dX7_reads_68 : decode cX7_reads 68 = .ok (.iconst 2, 1) := by decide +kernel
theorem dX7_reads_69 : decode cX7_reads 69 = .ok (.if_icmp .ne 14, 3) := by decide +kernel
theorem dX7_reads_72 : decode cX7_reads 72 = .ok (.aload_n 0, 1) := by decide +kernel
theorem dX7_reads_73 : decode cX7_reads 73 = .ok (.invokevirtual 125, 3) := by decide +kernel
theorem dX7_reads_76 : decode cX7_reads 76 = .ok (.ifCond .eq 7, 3) := by decide +kernel
theorem dX7_reads_79 : decode cX7_reads 79 = .ok (.iconst 1, 1) := by decide +kernel
theorem dX7_reads_80 : decode cX7_reads 80 = .ok (.goto 4, 3) := by decide +kernel
theorem dX7_reads_83 : decode cX7_reads 83 = .ok (.iconst 0, 1) := by decide +kernel
theorem dX7_reads_84 : decode cX7_reads 84 = .ok (.istore_n 3, 1) := by decide +kernel
theorem dX7_reads_85 : decode cX7_reads 85 = .ok (.iload_n 3, 1) := by decide +kernel
theorem dX7_reads_86 : decode cX7_reads 86 = .ok (.ifCond .ne 6, 3) := by decide +kernel
theorem dX7_reads_89 : decode cX7_reads 89 = .ok (.bipush (-9), 2) := by decide +kernel
theorem dX7_reads_91 : decode cX7_reads 91 = .ok (.ireturn, 1) := by decide +kernel
theorem dX7_reads_92 : decode cX7_reads 92 = .ok (.aload_n 0, 1) := by decide +kernel
theorem dX7_reads_93 : decode cX7_reads 93 = .ok (.invokevirtual 96, 3) := by decide +kernel
theorem dX7_reads_96 : decode cX7_reads 96 = .ok (.aload_n 0, 1) := by decide +kernel
theorem dX7_reads_97 : decode cX7_reads 97 = .ok (.getfield 82, 3) := by decide +kernel
theorem dX7_reads_100 : decode cX7_reads 100 = .ok (.iconst 3, 1) := by decide +kernel
theorem dX7_reads_101 : decode cX7_reads 101 = .ok (.if_icmp .eq 6, 3) := by decide +kernel
theorem dX7_reads_104 : decode cX7_reads 104 = .ok (.bipush (-9), 2) := by decide +kernel
theorem dX7_reads_106 : decode cX7_reads 106 = .ok (.ireturn, 1) := by decide +kernel
theorem dX7_reads_107 : decode cX7_reads 107 = .ok (.iinc 1 1, 3) := by decide +kernel
theorem dX7_reads_110 : decode cX7_reads 110 = .ok (.aload_n 0, 1) := by decide +kernel
theorem dX7_reads_111 : decode cX7_reads 111 = .ok (.invokevirtual 96, 3) := by decide +kernel
theorem dX7_reads_114 : decode cX7_reads 114 = .ok (.goto (-82), 3) := by decide +kernel
theorem dX7_reads_117 : decode cX7_reads 117 = .ok (.iload_n 1, 1) := by decide +kernel
theorem dX7_reads_118 : decode cX7_reads 118 = .ok (.ireturn, 1) := by decide +kernel
theorem dX7_begins_0 : decode cX7_begins 0 = .ok (.iconst 0, 1) := by decide +kernel
theorem dX7_begins_1 : decode cX7_begins 1 = .ok (.istore_n 1, 1) := by decide +kernel
theorem dX7_begins_2 : decode cX7_begins 2 = .ok (.iload_n 1, 1) := by decide +kernel
theorem dX7_begins_3 : decode cX7_begins 3 = .ok (.bipush 76, 2) := by decide +kernel
theorem dX7_begins_5 : decode cX7_begins 5 = .ok (.if_icmp .ge 16, 3) := by decide +kernel
theorem dX7_begins_8 : decode cX7_begins 8 = .ok (.aload_n 0, 1) := by decide +kernel
theorem dX7_begins_9 : decode cX7_begins 9 = .ok (.getfield 25, 3) := by decide +kernel
theorem dX7_begins_12 : decode cX7_begins 12 = .ok (.iload_n 1, 1) := by decide +kernel
theorem dX7_begins_13 : decode cX7_begins 13 = .ok (.iconst 0, 1) := by decide +kernel
theorem dX7_begins_14 : decode cX7_begins 14 = .ok (.iastore, 1) := by decide +kernel
theorem dX7_begins_15 : decode cX7_begins 15 = .ok (.iinc 1 1, 3) := by decide +kernel
theorem dX7_begins_18 : decode cX7_begins 18 = .ok (.goto (-16), 3) := by decide +kernel
theorem dX7_begins_21 : decode cX7_begins 21 = .ok (.iconst 0, 1) := by decide +kernel
theorem dX7_begins_22 : decode cX7_begins 22 = .ok (.istore_n 1, 1) := by decide +kernel
theorem dX7_begins_23 : decode cX7_begins 23 = .ok (.iload_n 1, 1) := by decide +kernel
theorem dX7_begins_24 : decode cX7_begins 24 = .ok (.aload_n 0, 1) := by decide +kernel
theorem dX7_begins_25 : decode cX7_begins 25 = .ok (.getfield 51, 3) := by decide +kernel
theorem dX7_begins_28 : decode cX7_begins 28 = .ok (.aload_n 0, 1) := by decide +kernel
theorem dX7_begins_29 : decode cX7_begins 29 = .ok (.getfield 54, 3) := by decide +kernel
theorem dX7_begins_32 : decode cX7_begins 32 = .ok (.imul, 1) := by decide +kernel
theorem dX7_begins_33 : decode cX7_begins 33 = .ok (.if_icmp .ge 59, 3) := by decide +kernel
theorem dX7_begins_36 : decode cX7_begins 36 = .ok (.aload_n 0, 1) := by decide +kernel
theorem dX7_begins_37 : decode cX7_begins 37 = .ok (.getfield 25, 3) := by decide +kernel
theorem dX7_begins_40 : decode cX7_begins 40 = .ok (.iload_n 1, 1) := by decide +kernel
theorem dX7_begins_41 : decode cX7_begins 41 = .ok (.aload_n 0, 1) := by decide +kernel
theorem dX7_begins_42 : decode cX7_begins 42 = .ok (.getfield 13, 3) := by decide +kernel
theorem dX7_begins_45 : decode cX7_begins 45 = .ok (.iload_n 1, 1) := by decide +kernel
theorem dX7_begins_46 : decode cX7_begins 46 = .ok (.iaload, 1) := by decide +kernel
theorem dX7_begins_47 : decode cX7_begins 47 = .ok (.iastore, 1) := by decide +kernel
theorem dX7_begins_48 : decode cX7_begins 48 = .ok (.aload_n 0, 1) := by decide +kernel
theorem dX7_begins_49 : decode cX7_begins 49 = .ok (.getfield 25, 3) := by decide +kernel
theorem dX7_begins_52 : decode cX7_begins 52 = .ok (.bipush 24, 2) := by decide +kernel
theorem dX7_begins_54 : decode cX7_begins 54 = .ok (.iload_n 1, 1) := by decide +kernel
theorem dX7_begins_55 : decode cX7_begins 55 = .ok (.iadd, 1) := by decide +kernel
theorem dX7_begins_56 : decode cX7_begins 56 = .ok (.aload_n 0, 1) := by decide +kernel
theorem dX7_begins_57 : decode cX7_begins 57 = .ok (.getfield 13, 3) := by decide +kernel
theorem dX7_begins_60 : decode cX7_begins 60 = .ok (.iload_n 1, 1) := by decide +kernel
theorem dX7_begins_61 : decode cX7_begins 61 = .ok (.iaload, 1) := by decide +kernel
theorem dX7_begins_62 : decode cX7_begins 62 = .ok (.iconst 2, 1) := by decide +kernel
theorem dX7_begins_63 : decode cX7_begins 63 = .ok (.if_icmp .ne 10, 3) := by decide +kernel
theorem dX7_begins_66 : decode cX7_begins 66 = .ok (.aload_n 0, 1) := by decide +kernel
theorem dX7_begins_67 : decode cX7_begins 67 = .ok (.getfield 128, 3) := by decide +kernel
theorem dX7_begins_70 : decode cX7_begins 70 = .ok (.goto 4, 3) := by decide +kernel
theorem dX7_begins_73 : decode cX7_begins 73 = .ok (.iconst 0, 1) := by decide +kernel
theorem dX7_begins_74 : decode cX7_begins 74 = .ok (.iastore, 1) := by decide +kernel
theorem dX7_begins_75 : decode cX7_begins 75 = .ok (.aload_n 0, 1) := by decide +kernel
theorem dX7_begins_76 : decode cX7_begins 76 = .ok (.getfield 25, 3) := by decide +kernel
theorem dX7_begins_79 : decode cX7_begins 79 = .ok (.bipush 48, 2) := by decide +kernel
theorem dX7_begins_81 : decode cX7_begins 81 = .ok (.iload_n 1, 1) := by decide +kernel
theorem dX7_begins_82 : decode cX7_begins 82 = .ok (.iadd, 1) := by decide +kernel
theorem dX7_begins_83 : decode cX7_begins 83 = .ok (.bipush (-9), 2) := by decide +kernel
theorem dX7_begins_85 : decode cX7_begins 85 = .ok (.iastore, 1) := by decide +kernel
theorem dX7_begins_86 : decode cX7_begins 86 = .ok (.iinc 1 1, 3) := by decide +kernel
theorem dX7_begins_89 : decode cX7_begins 89 = .ok (.goto (-66), 3) := by decide +kernel
theorem dX7_begins_92 : decode cX7_begins 92 = .ok (.return_, 1) := by decide +kernel
theorem dX7_moor_0 : decode cX7_moor 0 = .ok (.aload_n 0, 1) := by decide +kernel
theorem dX7_moor_1 : decode cX7_moor 1 = .ok (.iconst 0, 1) := by decide +kernel
theorem dX7_moor_2 : decode cX7_moor 2 = .ok (.putfield 47, 3) := by decide +kernel
theorem dX7_moor_5 : decode cX7_moor 5 = .ok (.aload_n 0, 1) := by decide +kernel
theorem dX7_moor_6 : decode cX7_moor 6 = .ok (.invokevirtual 131, 3) := by decide +kernel
theorem dX7_moor_9 : decode cX7_moor 9 = .ok (.istore_n 1, 1) := by decide +kernel
theorem dX7_moor_10 : decode cX7_moor 10 = .ok (.iload_n 1, 1) := by decide +kernel
theorem dX7_moor_11 : decode cX7_moor 11 = .ok (.bipush (-9), 2) := by decide +kernel
theorem dX7_moor_13 : decode cX7_moor 13 = .ok (.if_icmp .ne 11, 3) := by decide +kernel
theorem dX7_moor_16 : decode cX7_moor 16 = .ok (.bipush (-10), 2) := by decide +kernel
theorem dX7_moor_18 : decode cX7_moor 18 = .ok (.aload_n 0, 1) := by decide +kernel
theorem dX7_moor_19 : decode cX7_moor 19 = .ok (.getfield 76, 3) := by decide +kernel
theorem dX7_moor_22 : decode cX7_moor 22 = .ok (.isub, 1) := by decide +kernel
theorem dX7_moor_23 : decode cX7_moor 23 = .ok (.ireturn, 1) := by decide +kernel
theorem dX7_moor_24 : decode cX7_moor 24 = .ok (.aload_n 0, 1) := by decide +kernel
theorem dX7_moor_25 : decode cX7_moor 25 = .ok (.aload_n 0, 1) := by decide +kernel
theorem dX7_moor_26 : decode cX7_moor 26 = .ok (.getfield 105, 3) := by decide +kernel
theorem dX7_moor_29 : decode cX7_moor 29 = .ok (.putfield 51, 3) := by decide +kernel
theorem dX7_moor_32 : decode cX7_moor 32 = .ok (.aload_n 0, 1) := by decide +kernel
theorem dX7_moor_33 : decode cX7_moor 33 = .ok (.aload_n 0, 1) := by decide +kernel
theorem dX7_moor_34 : decode cX7_moor 34 = .ok (.getfield 99, 3) := by decide +kernel
theorem dX7_moor_37 : decode cX7_moor 37 = .ok (.putfield 54, 3) := by decide +kernel
theorem dX7_moor_40 : decode cX7_moor 40 = .ok (.aload_n 0, 1) := by decide +kernel
theorem dX7_moor_41 : decode cX7_moor 41 = .ok (.aload_n 0, 1) := by decide +kernel
theorem dX7_moor_42 : decode cX7_moor 42 = .ok (.getfield 102, 3) := by decide +kernel
theorem dX7_moor_45 : decode cX7_moor 45 = .ok (.putfield 61, 3) := by decide +kernel
theorem dX7_moor_48 : decode cX7_moor 48 = .ok (.aload_n 0, 1) := by decide +kernel
theorem dX7_moor_49 : decode cX7_moor 49 = .ok (.aload_n 0, 1) := by decide +kernel
theorem dX7_moor_50 : decode cX7_moor 50 = .ok (.getfield 111, 3) := by decide +kernel
theorem dX7_moor_53 : decode cX7_moor 53 = .ok (.bipush (-9), 2) := by decide +kernel
theorem dX7_moor_55 : decode cX7_moor 55 = .ok (.if_icmp .ne 7, 3) := by decide +kernel
theorem dX7_moor_58 : decode cX7_moor 58 = .ok (.iconst 0, 1) := by decide +kernel
theorem dX7_moor_59 : decode cX7_moor 59 = .ok (.goto 7, 3) := by decide +kernel
theorem dX7_moor_62 : decode cX7_moor 62 = .ok (.aload_n 0, 1) := by decide +kernel
theorem dX7_moor_63 : decode cX7_moor 63 = .ok (.getfield 111, 3) := by decide +kernel
theorem dX7_moor_66 : decode cX7_moor 66 = .ok (.putfield 128, 3) := by decide +kernel
theorem dX7_moor_69 : decode cX7_moor 69 = .ok (.iconst 0, 1) := by decide +kernel
theorem dX7_moor_70 : decode cX7_moor 70 = .ok (.istore_n 2, 1) := by decide +kernel
theorem dX7_moor_71 : decode cX7_moor 71 = .ok (.iload_n 2, 1) := by decide +kernel
theorem dX7_moor_72 : decode cX7_moor 72 = .ok (.bipush 24, 2) := by decide +kernel
theorem dX7_moor_74 : decode cX7_moor 74 = .ok (.if_icmp .ge 21, 3) := by decide +kernel
theorem dX7_moor_77 : decode cX7_moor 77 = .ok (.aload_n 0, 1) := by decide +kernel
theorem dX7_moor_78 : decode cX7_moor 78 = .ok (.getfield 13, 3) := by decide +kernel
theorem dX7_moor_81 : decode cX7_moor 81 = .ok (.iload_n 2, 1) := by decide +kernel
theorem dX7_moor_82 : decode cX7_moor 82 = .ok (.aload_n 0, 1) := by decide +kernel
theorem dX7_moor_83 : decode cX7_moor 83 = .ok (.getfield 16, 3) := by decide +kernel
theorem dX7_moor_86 : decode cX7_moor 86 = .ok (.iload_n 2, 1) := by decide +kernel
theorem dX7_moor_87 : decode cX7_moor 87 = .ok (.iaload, 1) := by decide +kernel
theorem dX7_moor_88 : decode cX7_moor 88 = .ok (.iastore, 1) := by decide +kernel
theorem dX7_moor_89 : decode cX7_moor 89 = .ok (.iinc 2 1, 3) := by decide +kernel
theorem dX7_moor_92 : decode cX7_moor 92 = .ok (.goto (-21), 3) := by decide +kernel
theorem dX7_moor_95 : decode cX7_moor 95 = .ok (.iconst 0, 1) := by decide +kernel
theorem dX7_moor_96 : decode cX7_moor 96 = .ok (.istore_n 2, 1) := by decide +kernel
theorem dX7_moor_97 : decode cX7_moor 97 = .ok (.iload_n 2, 1) := by decide +kernel
theorem dX7_moor_98 : decode cX7_moor 98 = .ok (.bipush 8, 2) := by decide +kernel
theorem dX7_moor_100 : decode cX7_moor 100 = .ok (.if_icmp .ge 21, 3) := by decide +kernel
theorem dX7_moor_103 : decode cX7_moor 103 = .ok (.aload_n 0, 1) := by decide +kernel
theorem dX7_moor_104 : decode cX7_moor 104 = .ok (.getfield 19, 3) := by decide +kernel
theorem dX7_moor_107 : decode cX7_moor 107 = .ok (.iload_n 2, 1) := by decide +kernel
theorem dX7_moor_108 : decode cX7_moor 108 = .ok (.aload_n 0, 1) := by decide +kernel
theorem dX7_moor_109 : decode cX7_moor 109 = .ok (.getfield 22, 3) := by decide +kernel
theorem dX7_moor_112 : decode cX7_moor 112 = .ok (.iload_n 2, 1) := by decide +kernel
theorem dX7_moor_113 : decode cX7_moor 113 = .ok (.iaload, 1) := by decide +kernel
theorem dX7_moor_114 : decode cX7_moor 114 = .ok (.iastore, 1) := by decide +kernel
theorem dX7_moor_115 : decode cX7_moor 115 = .ok (.iinc 2 1, 3) := by decide +kernel
theorem dX7_moor_118 : decode cX7_moor 118 = .ok (.goto (-21), 3) := by decide +kernel
theorem dX7_moor_121 : decode cX7_moor 121 = .ok (.aload_n 0, 1) := by decide +kernel
theorem dX7_moor_122 : decode cX7_moor 122 = .ok (.iconst 0, 1) := by decide +kernel
theorem dX7_moor_123 : decode cX7_moor 123 = .ok (.putfield 64, 3) := by decide +kernel
theorem dX7_moor_126 : decode cX7_moor 126 = .ok (.aload_n 0, 1) := by decide +kernel
theorem dX7_moor_127 : decode cX7_moor 127 = .ok (.getfield 31, 3) := by decide +kernel
theorem dX7_moor_130 : decode cX7_moor 130 = .ok (.iconst 0, 1) := by decide +kernel
theorem dX7_moor_131 : decode cX7_moor 131 = .ok (.iconst 0, 1) := by decide +kernel
theorem dX7_moor_132 : decode cX7_moor 132 = .ok (.bastore, 1) := by decide +kernel
theorem dX7_moor_133 : decode cX7_moor 133 = .ok (.aload_n 0, 1) := by decide +kernel
theorem dX7_moor_134 : decode cX7_moor 134 = .ok (.getfield 31, 3) := by decide +kernel
theorem dX7_moor_137 : decode cX7_moor 137 = .ok (.iconst 1, 1) := by decide +kernel
theorem dX7_moor_138 : decode cX7_moor 138 = .ok (.iconst 0, 1) := by decide +kernel
theorem dX7_moor_139 : decode cX7_moor 139 = .ok (.bastore, 1) := by decide +kernel
theorem dX7_moor_140 : decode cX7_moor 140 = .ok (.aload_n 0, 1) := by decide +kernel
theorem dX7_moor_141 : decode cX7_moor 141 = .ok (.invokevirtual 134, 3) := by decide +kernel
theorem dX7_moor_144 : decode cX7_moor 144 = .ok (.iload_n 1, 1) := by decide +kernel
theorem dX7_moor_145 : decode cX7_moor 145 = .ok (.ireturn, 1) := by decide +kernel
theorem dX7_cell_0 : decode cX7_cell 0 = .ok (.aload_n 0, 1) := by decide +kernel
theorem dX7_cell_1 : decode cX7_cell 1 = .ok (.iconst 0, 1) := by decide +kernel
theorem dX7_cell_2 : decode cX7_cell 2 = .ok (.putfield 47, 3) := by decide +kernel
theorem dX7_cell_5 : decode cX7_cell 5 = .ok (.aload_n 0, 1) := by decide +kernel
theorem dX7_cell_6 : decode cX7_cell 6 = .ok (.iload_n 1, 1) := by decide +kernel
theorem dX7_cell_7 : decode cX7_cell 7 = .ok (.invokevirtual 137, 3) := by decide +kernel
theorem dX7_cell_10 : decode cX7_cell 10 = .ok (.ifCond .eq 26, 3) := by decide +kernel
theorem dX7_cell_13 : decode cX7_cell 13 = .ok (.iload_n 2, 1) := by decide +kernel
theorem dX7_cell_14 : decode cX7_cell 14 = .ok (.iconst 0, 1) := by decide +kernel
theorem dX7_cell_15 : decode cX7_cell 15 = .ok (.iconst 2, 1) := by decide +kernel
theorem dX7_cell_16 : decode cX7_cell 16 = .ok (.invokestatic 57, 3) := by decide +kernel
theorem dX7_cell_19 : decode cX7_cell 19 = .ok (.ifCond .eq 17, 3) := by decide +kernel
theorem dX7_cell_22 : decode cX7_cell 22 = .ok (.aload_n 0, 1) := by decide +kernel
theorem dX7_cell_23 : decode cX7_cell 23 = .ok (.getfield 25, 3) := by decide +kernel
theorem dX7_cell_26 : decode cX7_cell 26 = .ok (.bipush 24, 2) := by decide +kernel
theorem dX7_cell_28 : decode cX7_cell 28 = .ok (.iload_n 2, 1) := by decide +kernel
theorem dX7_cell_29 : decode cX7_cell 29 = .ok (.imul, 1) := by decide +kernel
theorem dX7_cell_30 : decode cX7_cell 30 = .ok (.iload_n 1, 1) := by decide +kernel
theorem dX7_cell_31 : decode cX7_cell 31 = .ok (.iadd, 1) := by decide +kernel
theorem dX7_cell_32 : decode cX7_cell 32 = .ok (.iaload, 1) := by decide +kernel
theorem dX7_cell_33 : decode cX7_cell 33 = .ok (.goto 4, 3) := by decide +kernel
theorem dX7_cell_36 : decode cX7_cell 36 = .ok (.iconst (-1), 1) := by decide +kernel
theorem dX7_cell_37 : decode cX7_cell 37 = .ok (.ireturn, 1) := by decide +kernel
theorem dX7_laidBy_0 : decode cX7_laidBy 0 = .ok (.iconst 0, 1) := by decide +kernel
theorem dX7_laidBy_1 : decode cX7_laidBy 1 = .ok (.istore_n 2, 1) := by decide +kernel
theorem dX7_laidBy_2 : decode cX7_laidBy 2 = .ok (.iconst 0, 1) := by decide +kernel
theorem dX7_laidBy_3 : decode cX7_laidBy 3 = .ok (.istore_n 3, 1) := by decide +kernel
theorem dX7_laidBy_4 : decode cX7_laidBy 4 = .ok (.iload_n 3, 1) := by decide +kernel
theorem dX7_laidBy_5 : decode cX7_laidBy 5 = .ok (.aload_n 0, 1) := by decide +kernel
theorem dX7_laidBy_6 : decode cX7_laidBy 6 = .ok (.getfield 51, 3) := by decide +kernel
theorem dX7_laidBy_9 : decode cX7_laidBy 9 = .ok (.aload_n 0, 1) := by decide +kernel
theorem dX7_laidBy_10 : decode cX7_laidBy 10 = .ok (.getfield 54, 3) := by decide +kernel
theorem dX7_laidBy_13 : decode cX7_laidBy 13 = .ok (.imul, 1) := by decide +kernel
theorem dX7_laidBy_14 : decode cX7_laidBy 14 = .ok (.if_icmp .ge 30, 3) := by decide +kernel
theorem dX7_laidBy_17 : decode cX7_laidBy 17 = .ok (.iload_n 2, 1) := by decide +kernel
theorem dX7_laidBy_18 : decode cX7_laidBy 18 = .ok (.aload_n 0, 1) := by decide +kernel
theorem dX7_laidBy_19 : decode cX7_laidBy 19 = .ok (.getfield 25, 3) := by decide +kernel
theorem dX7_laidBy_22 : decode cX7_laidBy 22 = .ok (.bipush 48, 2) := by decide +kernel
theorem dX7_laidBy_24 : decode cX7_laidBy 24 = .ok (.iload_n 3, 1) := by decide +kernel
theorem dX7_laidBy_25 : decode cX7_laidBy 25 = .ok (.iadd, 1) := by decide +kernel
theorem dX7_laidBy_26 : decode cX7_laidBy 26 = .ok (.iaload, 1) := by decide +kernel
theorem dX7_laidBy_27 : decode cX7_laidBy 27 = .ok (.iload_n 1, 1) := by decide +kernel
theorem dX7_laidBy_28 : decode cX7_laidBy 28 = .ok (.if_icmp .ne 7, 3) := by decide +kernel
theorem dX7_laidBy_31 : decode cX7_laidBy 31 = .ok (.iconst 1, 1) := by decide +kernel
theorem dX7_laidBy_32 : decode cX7_laidBy 32 = .ok (.goto 4, 3) := by decide +kernel
theorem dX7_laidBy_35 : decode cX7_laidBy 35 = .ok (.iconst 0, 1) := by decide +kernel
theorem dX7_laidBy_36 : decode cX7_laidBy 36 = .ok (.iadd, 1) := by decide +kernel
theorem dX7_laidBy_37 : decode cX7_laidBy 37 = .ok (.istore_n 2, 1) := by decide +kernel
theorem dX7_laidBy_38 : decode cX7_laidBy 38 = .ok (.iinc 3 1, 3) := by decide +kernel
theorem dX7_laidBy_41 : decode cX7_laidBy 41 = .ok (.goto (-37), 3) := by decide +kernel
theorem dX7_laidBy_44 : decode cX7_laidBy 44 = .ok (.iload_n 2, 1) := by decide +kernel
theorem dX7_laidBy_45 : decode cX7_laidBy 45 = .ok (.ireturn, 1) := by decide +kernel
theorem dX7_walker_0 : decode cX7_walker 0 = .ok (.aload_n 0, 1) := by decide +kernel
theorem dX7_walker_1 : decode cX7_walker 1 = .ok (.iconst 0, 1) := by decide +kernel
theorem dX7_walker_2 : decode cX7_walker 2 = .ok (.putfield 47, 3) := by decide +kernel
theorem dX7_walker_5 : decode cX7_walker 5 = .ok (.aload_n 0, 1) := by decide +kernel
theorem dX7_walker_6 : decode cX7_walker 6 = .ok (.iload_n 1, 1) := by decide +kernel
theorem dX7_walker_7 : decode cX7_walker 7 = .ok (.invokevirtual 141, 3) := by decide +kernel
theorem dX7_walker_10 : decode cX7_walker 10 = .ok (.ifCond .eq 12, 3) := by decide +kernel
theorem dX7_walker_13 : decode cX7_walker 13 = .ok (.iload_n 2, 1) := by decide +kernel
theorem dX7_walker_14 : decode cX7_walker 14 = .ok (.iconst 0, 1) := by decide +kernel
theorem dX7_walker_15 : decode cX7_walker 15 = .ok (.iconst 3, 1) := by decide +kernel
theorem dX7_walker_16 : decode cX7_walker 16 = .ok (.invokestatic 57, 3) := by decide +kernel
theorem dX7_walker_19 : decode cX7_walker 19 = .ok (.ifCond .ne 5, 3) := by decide +kernel
theorem dX7_walker_22 : decode cX7_walker 22 = .ok (.iconst (-1), 1) := by decide +kernel
theorem dX7_walker_23 : decode cX7_walker 23 = .ok (.ireturn, 1) := by decide +kernel
theorem dX7_walker_24 : decode cX7_walker 24 = .ok (.iload_n 2, 1) := by decide +kernel
theorem dX7_walker_25 : decode cX7_walker 25 = .ok (.iconst 2, 1) := by decide +kernel
theorem dX7_walker_26 : decode cX7_walker 26 = .ok (.if_icmp .ge 16, 3) := by decide +kernel
theorem dX7_walker_29 : decode cX7_walker 29 = .ok (.aload_n 0, 1) := by decide +kernel
theorem dX7_walker_30 : decode cX7_walker 30 = .ok (.getfield 19, 3) := by decide +kernel
theorem dX7_walker_33 : decode cX7_walker 33 = .ok (.iconst 2, 1) := by decide +kernel
theorem dX7_walker_34 : decode cX7_walker 34 = .ok (.iload_n 1, 1) := by decide +kernel
theorem dX7_walker_35 : decode cX7_walker 35 = .ok (.imul, 1) := by decide +kernel
theorem dX7_walker_36 : decode cX7_walker 36 = .ok (.iload_n 2, 1) := by decide +kernel
theorem dX7_walker_37 : decode cX7_walker 37 = .ok (.iadd, 1) := by decide +kernel
theorem dX7_walker_38 : decode cX7_walker 38 = .ok (.iaload, 1) := by decide +kernel
theorem dX7_walker_39 : decode cX7_walker 39 = .ok (.goto 25, 3) := by decide +kernel
theorem dX7_walker_42 : decode cX7_walker 42 = .ok (.iload_n 2, 1) := by decide +kernel
theorem dX7_walker_43 : decode cX7_walker 43 = .ok (.iconst 2, 1) := by decide +kernel
theorem dX7_walker_44 : decode cX7_walker 44 = .ok (.if_icmp .ne 15, 3) := by decide +kernel
theorem dX7_walker_47 : decode cX7_walker 47 = .ok (.aload_n 0, 1) := by decide +kernel
theorem dX7_walker_48 : decode cX7_walker 48 = .ok (.getfield 25, 3) := by decide +kernel
theorem dX7_walker_51 : decode cX7_walker 51 = .ok (.bipush 72, 2) := by decide +kernel
theorem dX7_walker_53 : decode cX7_walker 53 = .ok (.iload_n 1, 1) := by decide +kernel
theorem dX7_walker_54 : decode cX7_walker 54 = .ok (.iadd, 1) := by decide +kernel
theorem dX7_walker_55 : decode cX7_walker 55 = .ok (.iaload, 1) := by decide +kernel
theorem dX7_walker_56 : decode cX7_walker 56 = .ok (.goto 8, 3) := by decide +kernel
theorem dX7_walker_59 : decode cX7_walker 59 = .ok (.aload_n 0, 1) := by decide +kernel
theorem dX7_walker_60 : decode cX7_walker 60 = .ok (.iload_n 1, 1) := by decide +kernel
theorem dX7_walker_61 : decode cX7_walker 61 = .ok (.invokevirtual 144, 3) := by decide +kernel
theorem dX7_walker_64 : decode cX7_walker 64 = .ok (.ireturn, 1) := by decide +kernel
theorem dX7_apartBy_0 : decode cX7_apartBy 0 = .ok (.iload_n 0, 1) := by decide +kernel
theorem dX7_apartBy_1 : decode cX7_apartBy 1 = .ok (.iload_n 1, 1) := by decide +kernel
theorem dX7_apartBy_2 : decode cX7_apartBy 2 = .ok (.if_icmp .ge 9, 3) := by decide +kernel
theorem dX7_apartBy_5 : decode cX7_apartBy 5 = .ok (.iload_n 1, 1) := by decide +kernel
theorem dX7_apartBy_6 : decode cX7_apartBy 6 = .ok (.iload_n 0, 1) := by decide +kernel
theorem dX7_apartBy_7 : decode cX7_apartBy 7 = .ok (.isub, 1) := by decide +kernel
theorem dX7_apartBy_8 : decode cX7_apartBy 8 = .ok (.goto 6, 3) := by decide +kernel
theorem dX7_apartBy_11 : decode cX7_apartBy 11 = .ok (.iload_n 0, 1) := by decide +kernel
theorem dX7_apartBy_12 : decode cX7_apartBy 12 = .ok (.iload_n 1, 1) := by decide +kernel
theorem dX7_apartBy_13 : decode cX7_apartBy 13 = .ok (.isub, 1) := by decide +kernel
theorem dX7_apartBy_14 : decode cX7_apartBy 14 = .ok (.ireturn, 1) := by decide +kernel
theorem dX7_isStep_0 : decode cX7_isStep 0 = .ok (.iload_n 1, 1) := by decide +kernel
theorem dX7_isStep_1 : decode cX7_isStep 1 = .ok (.aload_n 0, 1) := by decide +kernel
theorem dX7_isStep_2 : decode cX7_isStep 2 = .ok (.getfield 51, 3) := by decide +kernel
theorem dX7_isStep_5 : decode cX7_isStep 5 = .ok (.irem, 1) := by decide +kernel
theorem dX7_isStep_6 : decode cX7_isStep 6 = .ok (.iload_n 2, 1) := by decide +kernel
theorem dX7_isStep_7 : decode cX7_isStep 7 = .ok (.aload_n 0, 1) := by decide +kernel
theorem dX7_isStep_8 : decode cX7_isStep 8 = .ok (.getfield 51, 3) := by decide +kernel
theorem dX7_isStep_11 : decode cX7_isStep 11 = .ok (.irem, 1) := by decide +kernel
theorem dX7_isStep_12 : decode cX7_isStep 12 = .ok (.invokestatic 147, 3) := by decide +kernel
theorem dX7_isStep_15 : decode cX7_isStep 15 = .ok (.istore_n 3, 1) := by decide +kernel
theorem dX7_isStep_16 : decode cX7_isStep 16 = .ok (.iload_n 1, 1) := by decide +kernel
theorem dX7_isStep_17 : decode cX7_isStep 17 = .ok (.aload_n 0, 1) := by decide +kernel
theorem dX7_isStep_18 : decode cX7_isStep 18 = .ok (.getfield 51, 3) := by decide +kernel
theorem dX7_isStep_21 : decode cX7_isStep 21 = .ok (.idiv, 1) := by decide +kernel
theorem dX7_isStep_22 : decode cX7_isStep 22 = .ok (.iload_n 2, 1) := by decide +kernel
theorem dX7_isStep_23 : decode cX7_isStep 23 = .ok (.aload_n 0, 1) := by decide +kernel
theorem dX7_isStep_24 : decode cX7_isStep 24 = .ok (.getfield 51, 3) := by decide +kernel
theorem dX7_isStep_27 : decode cX7_isStep 27 = .ok (.idiv, 1) := by decide +kernel
theorem dX7_isStep_28 : decode cX7_isStep 28 = .ok (.invokestatic 147, 3) := by decide +kernel
theorem dX7_isStep_31 : decode cX7_isStep 31 = .ok (.istore 4, 2) := by decide +kernel
theorem dX7_isStep_33 : decode cX7_isStep 33 = .ok (.iload_n 3, 1) := by decide +kernel
theorem dX7_isStep_34 : decode cX7_isStep 34 = .ok (.ifCond .ne 13, 3) := by decide +kernel
theorem dX7_isStep_37 : decode cX7_isStep 37 = .ok (.iload 4, 2) := by decide +kernel
theorem dX7_isStep_39 : decode cX7_isStep 39 = .ok (.iconst 1, 1) := by decide +kernel
theorem dX7_isStep_40 : decode cX7_isStep 40 = .ok (.iconst 2, 1) := by decide +kernel
theorem dX7_isStep_41 : decode cX7_isStep 41 = .ok (.invokestatic 57, 3) := by decide +kernel
theorem dX7_isStep_44 : decode cX7_isStep 44 = .ok (.ifCond .ne 17, 3) := by decide +kernel
theorem dX7_isStep_47 : decode cX7_isStep 47 = .ok (.iload 4, 2) := by decide +kernel
theorem dX7_isStep_49 : decode cX7_isStep 49 = .ok (.ifCond .ne 16, 3) := by decide +kernel
theorem dX7_isStep_52 : decode cX7_isStep 52 = .ok (.iload_n 3, 1) := by decide +kernel
theorem dX7_isStep_53 : decode cX7_isStep 53 = .ok (.iconst 1, 1) := by decide +kernel
theorem dX7_isStep_54 : decode cX7_isStep 54 = .ok (.iconst 2, 1) := by decide +kernel
theorem dX7_isStep_55 : decode cX7_isStep 55 = .ok (.invokestatic 57, 3) := by decide +kernel
theorem dX7_isStep_58 : decode cX7_isStep 58 = .ok (.ifCond .eq 7, 3) := by decide +kernel
theorem dX7_isStep_61 : decode cX7_isStep 61 = .ok (.iconst 1, 1) := by decide +kernel
theorem dX7_isStep_62 : decode cX7_isStep 62 = .ok (.goto 4, 3) := by decide +kernel
theorem dX7_isStep_65 : decode cX7_isStep 65 = .ok (.iconst 0, 1) := by decide +kernel
theorem dX7_isStep_66 : decode cX7_isStep 66 = .ok (.ireturn, 1) := by decide +kernel
theorem dX7_measures_0 : decode cX7_measures 0 = .ok (.aload_n 0, 1) := by decide +kernel
theorem dX7_measures_1 : decode cX7_measures 1 = .ok (.getfield 51, 3) := by decide +kernel
theorem dX7_measures_4 : decode cX7_measures 4 = .ok (.aload_n 0, 1) := by decide +kernel
theorem dX7_measures_5 : decode cX7_measures 5 = .ok (.getfield 54, 3) := by decide +kernel
theorem dX7_measures_8 : decode cX7_measures 8 = .ok (.imul, 1) := by decide +kernel
theorem dX7_measures_9 : decode cX7_measures 9 = .ok (.istore_n 2, 1) := by decide +kernel
theorem dX7_measures_10 : decode cX7_measures 10 = .ok (.iconst 0, 1) := by decide +kernel
theorem dX7_measures_11 : decode cX7_measures 11 = .ok (.istore_n 3, 1) := by decide +kernel
theorem dX7_measures_12 : decode cX7_measures 12 = .ok (.iload_n 3, 1) := by decide +kernel
theorem dX7_measures_13 : decode cX7_measures 13 = .ok (.iload_n 2, 1) := by decide +kernel
theorem dX7_measures_14 : decode cX7_measures 14 = .ok (.if_icmp .ge 36, 3) := by decide +kernel
theorem dX7_measures_17 : decode cX7_measures 17 = .ok (.aload_n 0, 1) := by decide +kernel
theorem dX7_measures_18 : decode cX7_measures 18 = .ok (.getfield 35, 3) := by decide +kernel
theorem dX7_measures_21 : decode cX7_measures 21 = .ok (.iload_n 3, 1) := by decide +kernel
theorem dX7_measures_22 : decode cX7_measures 22 = .ok (.iload_n 3, 1) := by decide +kernel
theorem dX7_measures_23 : decode cX7_measures 23 = .ok (.iload_n 1, 1) := by decide +kernel
theorem dX7_measures_24 : decode cX7_measures 24 = .ok (.if_icmp .ne 17, 3) := by decide +kernel
theorem dX7_measures_27 : decode cX7_measures 27 = .ok (.aload_n 0, 1) := by decide +kernel
theorem dX7_measures_28 : decode cX7_measures 28 = .ok (.getfield 25, 3) := by decide +kernel
theorem dX7_measures_31 : decode cX7_measures 31 = .ok (.iload_n 3, 1) := by decide +kernel
theorem dX7_measures_32 : decode cX7_measures 32 = .ok (.iaload, 1) := by decide +kernel
theorem dX7_measures_33 : decode cX7_measures 33 = .ok (.iconst 1, 1) := by decide +kernel
theorem dX7_measures_34 : decode cX7_measures 34 = .ok (.if_icmp .eq 7, 3) := by decide +kernel
theorem dX7_measures_37 : decode cX7_measures 37 = .ok (.iconst 0, 1) := by decide +kernel
theorem dX7_measures_38 : decode cX7_measures 38 = .ok (.goto 5, 3) := by decide +kernel
theorem dX7_measures_41 : decode cX7_measures 41 = .ok (.bipush 99, 2) := by decide +kernel
theorem dX7_measures_43 : decode cX7_measures 43 = .ok (.iastore, 1) := by decide +kernel
theorem dX7_measures_44 : decode cX7_measures 44 = .ok (.iinc 3 1, 3) := by decide +kernel
theorem dX7_measures_47 : decode cX7_measures 47 = .ok (.goto (-35), 3) := by decide +kernel
theorem dX7_measures_50 : decode cX7_measures 50 = .ok (.iconst 1, 1) := by decide +kernel
theorem dX7_measures_51 : decode cX7_measures 51 = .ok (.istore_n 3, 1) := by decide +kernel
theorem dX7_measures_52 : decode cX7_measures 52 = .ok (.iload_n 3, 1) := by decide +kernel
theorem dX7_measures_53 : decode cX7_measures 53 = .ok (.ifCond .eq 143, 3) := by decide +kernel
theorem dX7_measures_56 : decode cX7_measures 56 = .ok (.iconst 0, 1) := by decide +kernel
theorem dX7_measures_57 : decode cX7_measures 57 = .ok (.istore_n 3, 1) := by decide +kernel
theorem dX7_measures_58 : decode cX7_measures 58 = .ok (.iconst 0, 1) := by decide +kernel
theorem dX7_measures_59 : decode cX7_measures 59 = .ok (.istore 4, 2) := by decide +kernel
theorem dX7_measures_61 : decode cX7_measures 61 = .ok (.iload 4, 2) := by decide +kernel
theorem dX7_measures_63 : decode cX7_measures 63 = .ok (.iload_n 2, 1) := by decide +kernel
theorem dX7_measures_64 : decode cX7_measures 64 = .ok (.if_icmp .ge 129, 3) := by decide +kernel
theorem dX7_measures_67 : decode cX7_measures 67 = .ok (.iconst 0, 1) := by decide +kernel
theorem dX7_measures_68 : decode cX7_measures 68 = .ok (.istore 5, 2) := by decide +kernel
theorem dX7_measures_70 : decode cX7_measures 70 = .ok (.iload 5, 2) := by decide +kernel
theorem dX7_measures_72 : decode cX7_measures 72 = .ok (.iload_n 2, 1) := by decide +kernel
theorem dX7_measures_73 : decode cX7_measures 73 = .ok (.if_icmp .ge 114, 3) := by decide +kernel
theorem dX7_measures_76 : decode cX7_measures 76 = .ok (.aload_n 0, 1) := by decide +kernel
theorem dX7_measures_77 : decode cX7_measures 77 = .ok (.getfield 25, 3) := by decide +kernel
theorem dX7_measures_80 : decode cX7_measures 80 = .ok (.iload 4, 2) := by decide +kernel
theorem dX7_measures_82 : decode cX7_measures 82 = .ok (.iaload, 1) := by decide +kernel
theorem dX7_measures_83 : decode cX7_measures 83 = .ok (.iconst 1, 1) := by decide +kernel
theorem dX7_measures_84 : decode cX7_measures 84 = .ok (.if_icmp .eq 103, 3) := by decide +kernel
theorem dX7_measures_87 : decode cX7_measures 87 = .ok (.aload_n 0, 1) := by decide +kernel
theorem dX7_measures_88 : decode cX7_measures 88 = .ok (.getfield 25, 3) := by decide +kernel
theorem dX7_measures_91 : decode cX7_measures 91 = .ok (.iload 5, 2) := by decide +kernel
theorem dX7_measures_93 : decode cX7_measures 93 = .ok (.iaload, 1) := by decide +kernel
theorem dX7_measures_94 : decode cX7_measures 94 = .ok (.iconst 1, 1) := by decide +kernel
theorem dX7_measures_95 : decode cX7_measures 95 = .ok (.if_icmp .eq 37, 3) := by decide +kernel
theorem dX7_measures_98 : decode cX7_measures 98 = .ok (.aload_n 0, 1) := by decide +kernel
theorem dX7_measures_99 : decode cX7_measures 99 = .ok (.iload 4, 2) := by decide +kernel
theorem dX7_measures_101 : decode cX7_measures 101 = .ok (.iload 5, 2) := by decide +kernel
theorem dX7_measures_103 : decode cX7_measures 103 = .ok (.invokevirtual 151, 3) := by decide +kernel
theorem dX7_measures_106 : decode cX7_measures 106 = .ok (.ifCond .eq 26, 3) := by decide +kernel
theorem dX7_measures_109 : decode cX7_measures 109 = .ok (.aload_n 0, 1) := by decide +kernel
theorem dX7_measures_110 : decode cX7_measures 110 = .ok (.getfield 35, 3) := by decide +kernel
theorem dX7_measures_113 : decode cX7_measures 113 = .ok (.iload 5, 2) := by decide +kernel
theorem dX7_measures_115 : decode cX7_measures 115 = .ok (.iaload, 1) := by decide +kernel
theorem dX7_measures_116 : decode cX7_measures 116 = .ok (.iconst 1, 1) := by decide +kernel
theorem dX7_measures_117 : decode cX7_measures 117 = .ok (.iadd, 1) := by decide +kernel
theorem dX7_measures_118 : decode cX7_measures 118 = .ok (.aload_n 0, 1) := by decide +kernel
theorem dX7_measures_119 : decode cX7_measures 119 = .ok (.getfield 35, 3) := by decide +kernel
theorem dX7_measures_122 : decode cX7_measures 122 = .ok (.iload 4, 2) := by decide +kernel
theorem dX7_measures_124 : decode cX7_measures 124 = .ok (.iaload, 1) := by decide +kernel
theorem dX7_measures_125 : decode cX7_measures 125 = .ok (.if_icmp .ge 7, 3) := by decide +kernel
theorem dX7_measures_128 : decode cX7_measures 128 = .ok (.iconst 1, 1) := by decide +kernel
theorem dX7_measures_129 : decode cX7_measures 129 = .ok (.goto 4, 3) := by decide +kernel
theorem dX7_measures_132 : decode cX7_measures 132 = .ok (.iconst 0, 1) := by decide +kernel
theorem dX7_measures_133 : decode cX7_measures 133 = .ok (.istore 6, 2) := by decide +kernel
theorem dX7_measures_135 : decode cX7_measures 135 = .ok (.aload_n 0, 1) := by decide +kernel
theorem dX7_measures_136 : decode cX7_measures 136 = .ok (.getfield 35, 3) := by decide +kernel
theorem dX7_measures_139 : decode cX7_measures 139 = .ok (.iload 4, 2) := by decide +kernel
theorem dX7_measures_141 : decode cX7_measures 141 = .ok (.iload 6, 2) := by decide +kernel
theorem dX7_measures_143 : decode cX7_measures 143 = .ok (.ifCond .eq 15, 3) := by decide +kernel
theorem dX7_measures_146 : decode cX7_measures 146 = .ok (.aload_n 0, 1) := by decide +kernel
theorem dX7_measures_147 : decode cX7_measures 147 = .ok (.getfield 35, 3) := by decide +kernel
theorem dX7_measures_150 : decode cX7_measures 150 = .ok (.iload 5, 2) := by decide +kernel
theorem dX7_measures_152 : decode cX7_measures 152 = .ok (.iaload, 1) := by decide +kernel
theorem dX7_measures_153 : decode cX7_measures 153 = .ok (.iconst 1, 1) := by decide +kernel
theorem dX7_measures_154 : decode cX7_measures 154 = .ok (.iadd, 1) := by decide +kernel
theorem dX7_measures_155 : decode cX7_measures 155 = .ok (.goto 10, 3) := by decide +kernel
theorem dX7_measures_158 : decode cX7_measures 158 = .ok (.aload_n 0, 1) := by decide +kernel
theorem dX7_measures_159 : decode cX7_measures 159 = .ok (.getfield 35, 3) := by decide +kernel
theorem dX7_measures_162 : decode cX7_measures 162 = .ok (.iload 4, 2) := by decide +kernel
theorem dX7_measures_164 : decode cX7_measures 164 = .ok (.iaload, 1) := by decide +kernel
theorem dX7_measures_165 : decode cX7_measures 165 = .ok (.iastore, 1) := by decide +kernel
theorem dX7_measures_166 : decode cX7_measures 166 = .ok (.iload_n 3, 1) := by decide +kernel
theorem dX7_measures_167 : decode cX7_measures 167 = .ok (.ifCond .ne 8, 3) := by decide +kernel
theorem dX7_measures_170 : decode cX7_measures 170 = .ok (.iload 6, 2) := by decide +kernel
theorem dX7_measures_172 : decode cX7_measures 172 = .ok (.ifCond .eq 7, 3) := by decide +kernel
theorem dX7_measures_175 : decode cX7_measures 175 = .ok (.iconst 1, 1) := by decide +kernel
theorem dX7_measures_176 : decode cX7_measures 176 = .ok (.goto 4, 3) := by decide +kernel
theorem dX7_measures_179 : decode cX7_measures 179 = .ok (.iconst 0, 1) := by decide +kernel
theorem dX7_measures_180 : decode cX7_measures 180 = .ok (.istore_n 3, 1) := by decide +kernel
theorem dX7_measures_181 : decode cX7_measures 181 = .ok (.iinc 5 1, 3) := by decide +kernel
theorem dX7_measures_184 : decode cX7_measures 184 = .ok (.goto (-114), 3) := by decide +kernel
theorem dX7_measures_187 : decode cX7_measures 187 = .ok (.iinc 4 1, 3) := by decide +kernel
theorem dX7_measures_190 : decode cX7_measures 190 = .ok (.goto (-129), 3) := by decide +kernel
theorem dX7_measures_193 : decode cX7_measures 193 = .ok (.goto (-141), 3) := by decide +kernel
theorem dX7_measures_196 : decode cX7_measures 196 = .ok (.return_, 1) := by decide +kernel
theorem dX7_onward_0 : decode cX7_onward 0 = .ok (.bipush (-9), 2) := by decide +kernel
theorem dX7_onward_2 : decode cX7_onward 2 = .ok (.istore_n 2, 1) := by decide +kernel
theorem dX7_onward_3 : decode cX7_onward 3 = .ok (.aload_n 0, 1) := by decide +kernel
theorem dX7_onward_4 : decode cX7_onward 4 = .ok (.getfield 51, 3) := by decide +kernel
theorem dX7_onward_7 : decode cX7_onward 7 = .ok (.aload_n 0, 1) := by decide +kernel
theorem dX7_onward_8 : decode cX7_onward 8 = .ok (.getfield 54, 3) := by decide +kernel
theorem dX7_onward_11 : decode cX7_onward 11 = .ok (.imul, 1) := by decide +kernel
theorem dX7_onward_12 : decode cX7_onward 12 = .ok (.iconst 1, 1) := by decide +kernel
theorem dX7_onward_13 : decode cX7_onward 13 = .ok (.isub, 1) := by decide +kernel
theorem dX7_onward_14 : decode cX7_onward 14 = .ok (.istore_n 3, 1) := by decide +kernel
theorem dX7_onward_15 : decode cX7_onward 15 = .ok (.iload_n 3, 1) := by decide +kernel
theorem dX7_onward_16 : decode cX7_onward 16 = .ok (.ifCond .lt 51, 3) := by decide +kernel
theorem dX7_onward_19 : decode cX7_onward 19 = .ok (.aload_n 0, 1) := by decide +kernel
theorem dX7_onward_20 : decode cX7_onward 20 = .ok (.getfield 25, 3) := by decide +kernel
theorem dX7_onward_23 : decode cX7_onward 23 = .ok (.iload_n 3, 1) := by decide +kernel
theorem dX7_onward_24 : decode cX7_onward 24 = .ok (.iaload, 1) := by decide +kernel
theorem dX7_onward_25 : decode cX7_onward 25 = .ok (.iconst 1, 1) := by decide +kernel
theorem dX7_onward_26 : decode cX7_onward 26 = .ok (.if_icmp .eq 33, 3) := by decide +kernel
theorem dX7_onward_29 : decode cX7_onward 29 = .ok (.aload_n 0, 1) := by decide +kernel
theorem dX7_onward_30 : decode cX7_onward 30 = .ok (.iload_n 1, 1) := by decide +kernel
theorem dX7_onward_31 : decode cX7_onward 31 = .ok (.iload_n 3, 1) := by decide +kernel
theorem dX7_onward_32 : decode cX7_onward 32 = .ok (.invokevirtual 151, 3) := by decide +kernel
theorem dX7_onward_35 : decode cX7_onward 35 = .ok (.ifCond .eq 24, 3) := by decide +kernel
theorem dX7_onward_38 : decode cX7_onward 38 = .ok (.aload_n 0, 1) := by decide +kernel
theorem dX7_onward_39 : decode cX7_onward 39 = .ok (.getfield 35, 3) := by decide +kernel
theorem dX7_onward_42 : decode cX7_onward 42 = .ok (.iload_n 3, 1) := by decide +kernel
theorem dX7_onward_43 : decode cX7_onward 43 = .ok (.iaload, 1) := by decide +kernel
theorem dX7_onward_44 : decode cX7_onward 44 = .ok (.aload_n 0, 1) := by decide +kernel
theorem dX7_onward_45 : decode cX7_onward 45 = .ok (.getfield 35, 3) := by decide +kernel
theorem dX7_onward_48 : decode cX7_onward 48 = .ok (.iload_n 1, 1) := by decide +kernel
theorem dX7_onward_49 : decode cX7_onward 49 = .ok (.iaload, 1) := by decide +kernel
theorem dX7_onward_50 : decode cX7_onward 50 = .ok (.iconst 1, 1) := by decide +kernel
theorem dX7_onward_51 : decode cX7_onward 51 = .ok (.isub, 1) := by decide +kernel
theorem dX7_onward_52 : decode cX7_onward 52 = .ok (.if_icmp .ne 7, 3) := by decide +kernel
theorem dX7_onward_55 : decode cX7_onward 55 = .ok (.iload_n 3, 1) := by decide +kernel
theorem dX7_onward_56 : decode cX7_onward 56 = .ok (.goto 4, 3) := by decide +kernel
theorem dX7_onward_59 : decode cX7_onward 59 = .ok (.iload_n 2, 1) := by decide +kernel
theorem dX7_onward_60 : decode cX7_onward 60 = .ok (.istore_n 2, 1) := by decide +kernel
theorem dX7_onward_61 : decode cX7_onward 61 = .ok (.iinc 3 (-1), 3) := by decide +kernel
theorem dX7_onward_64 : decode cX7_onward 64 = .ok (.goto (-49), 3) := by decide +kernel
theorem dX7_onward_67 : decode cX7_onward 67 = .ok (.iload_n 2, 1) := by decide +kernel
theorem dX7_onward_68 : decode cX7_onward 68 = .ok (.ireturn, 1) := by decide +kernel
theorem dX7_stepsOf_0 : decode cX7_stepsOf 0 = .ok (.aload_n 0, 1) := by decide +kernel
theorem dX7_stepsOf_1 : decode cX7_stepsOf 1 = .ok (.iload_n 2, 1) := by decide +kernel
theorem dX7_stepsOf_2 : decode cX7_stepsOf 2 = .ok (.invokevirtual 155, 3) := by decide +kernel
theorem dX7_stepsOf_5 : decode cX7_stepsOf 5 = .ok (.aload_n 0, 1) := by decide +kernel
theorem dX7_stepsOf_6 : decode cX7_stepsOf 6 = .ok (.getfield 25, 3) := by decide +kernel
theorem dX7_stepsOf_9 : decode cX7_stepsOf 9 = .ok (.iload_n 1, 1) := by decide +kernel
theorem dX7_stepsOf_10 : decode cX7_stepsOf 10 = .ok (.iaload, 1) := by decide +kernel
theorem dX7_stepsOf_11 : decode cX7_stepsOf 11 = .ok (.iconst 1, 1) := by decide +kernel
theorem dX7_stepsOf_12 : decode cX7_stepsOf 12 = .ok (.if_icmp .eq 14, 3) := by decide +kernel
theorem dX7_stepsOf_15 : decode cX7_stepsOf 15 = .ok (.aload_n 0, 1) := by decide +kernel
theorem dX7_stepsOf_16 : decode cX7_stepsOf 16 = .ok (.getfield 35, 3) := by decide +kernel
theorem dX7_stepsOf_19 : decode cX7_stepsOf 19 = .ok (.iload_n 1, 1) := by decide +kernel
theorem dX7_stepsOf_20 : decode cX7_stepsOf 20 = .ok (.iaload, 1) := by decide +kernel
theorem dX7_stepsOf_21 : decode cX7_stepsOf 21 = .ok (.bipush 99, 2) := by decide +kernel
theorem dX7_stepsOf_23 : decode cX7_stepsOf 23 = .ok (.if_icmp .ne 8, 3) := by decide +kernel
theorem dX7_stepsOf_26 : decode cX7_stepsOf 26 = .ok (.bipush (-9), 2) := by decide +kernel
theorem dX7_stepsOf_28 : decode cX7_stepsOf 28 = .ok (.goto 9, 3) := by decide +kernel
theorem dX7_stepsOf_31 : decode cX7_stepsOf 31 = .ok (.aload_n 0, 1) := by decide +kernel
theorem dX7_stepsOf_32 : decode cX7_stepsOf 32 = .ok (.getfield 35, 3) := by decide +kernel
theorem dX7_stepsOf_35 : decode cX7_stepsOf 35 = .ok (.iload_n 1, 1) := by decide +kernel
theorem dX7_stepsOf_36 : decode cX7_stepsOf 36 = .ok (.iaload, 1) := by decide +kernel
theorem dX7_stepsOf_37 : decode cX7_stepsOf 37 = .ok (.ireturn, 1) := by decide +kernel
theorem dX7_passesAndLays_0 : decode cX7_passesAndLays 0 = .ok (.aload_n 0, 1) := by decide +kernel
theorem dX7_passesAndLays_1 : decode cX7_passesAndLays 1 = .ok (.aload_n 0, 1) := by decide +kernel
theorem dX7_passesAndLays_2 : decode cX7_passesAndLays 2 = .ok (.getfield 19, 3) := by decide +kernel
theorem dX7_passesAndLays_5 : decode cX7_passesAndLays 5 = .ok (.iconst 2, 1) := by decide +kernel
theorem dX7_passesAndLays_6 : decode cX7_passesAndLays 6 = .ok (.iload_n 1, 1) := by decide +kernel
theorem dX7_passesAndLays_7 : decode cX7_passesAndLays 7 = .ok (.imul, 1) := by decide +kernel
theorem dX7_passesAndLays_8 : decode cX7_passesAndLays 8 = .ok (.iaload, 1) := by decide +kernel
theorem dX7_passesAndLays_9 : decode cX7_passesAndLays 9 = .ok (.aload_n 0, 1) := by decide +kernel
theorem dX7_passesAndLays_10 : decode cX7_passesAndLays 10 = .ok (.getfield 19, 3) := by decide +kernel
theorem dX7_passesAndLays_13 : decode cX7_passesAndLays 13 = .ok (.iconst 2, 1) := by decide +kernel
theorem dX7_passesAndLays_14 : decode cX7_passesAndLays 14 = .ok (.iload_n 1, 1) := by decide +kernel
theorem dX7_passesAndLays_15 : decode cX7_passesAndLays 15 = .ok (.imul, 1) := by decide +kernel
theorem dX7_passesAndLays_16 : decode cX7_passesAndLays 16 = .ok (.iconst 1, 1) := by decide +kernel
theorem dX7_passesAndLays_17 : decode cX7_passesAndLays 17 = .ok (.iadd, 1) := by decide +kernel
theorem dX7_passesAndLays_18 : decode cX7_passesAndLays 18 = .ok (.iaload, 1) := by decide +kernel
theorem dX7_passesAndLays_19 : decode cX7_passesAndLays 19 = .ok (.invokevirtual 159, 3) := by decide +kernel
theorem dX7_passesAndLays_22 : decode cX7_passesAndLays 22 = .ok (.istore_n 3, 1) := by decide +kernel
theorem dX7_passesAndLays_23 : decode cX7_passesAndLays 23 = .ok (.aload_n 0, 1) := by decide +kernel
theorem dX7_passesAndLays_24 : decode cX7_passesAndLays 24 = .ok (.getfield 19, 3) := by decide +kernel
theorem dX7_passesAndLays_27 : decode cX7_passesAndLays 27 = .ok (.iconst 2, 1) := by decide +kernel
theorem dX7_passesAndLays_28 : decode cX7_passesAndLays 28 = .ok (.iload_n 1, 1) := by decide +kernel
theorem dX7_passesAndLays_29 : decode cX7_passesAndLays 29 = .ok (.imul, 1) := by decide +kernel
theorem dX7_passesAndLays_30 : decode cX7_passesAndLays 30 = .ok (.iaload, 1) := by decide +kernel
theorem dX7_passesAndLays_31 : decode cX7_passesAndLays 31 = .ok (.istore 4, 2) := by decide +kernel
theorem dX7_passesAndLays_33 : decode cX7_passesAndLays 33 = .ok (.iconst 0, 1) := by decide +kernel
theorem dX7_passesAndLays_34 : decode cX7_passesAndLays 34 = .ok (.istore 5, 2) := by decide +kernel
theorem dX7_passesAndLays_36 : decode cX7_passesAndLays 36 = .ok (.iload 5, 2) := by decide +kernel
theorem dX7_passesAndLays_38 : decode cX7_passesAndLays 38 = .ok (.iload_n 3, 1) := by decide +kernel
theorem dX7_passesAndLays_39 : decode cX7_passesAndLays 39 = .ok (.if_icmp .ge 53, 3) := by decide +kernel
theorem dX7_passesAndLays_42 : decode cX7_passesAndLays 42 = .ok (.aload_n 0, 1) := by decide +kernel
theorem dX7_passesAndLays_43 : decode cX7_passesAndLays 43 = .ok (.iload 4, 2) := by decide +kernel
theorem dX7_passesAndLays_45 : decode cX7_passesAndLays 45 = .ok (.invokevirtual 162, 3) := by decide +kernel
theorem dX7_passesAndLays_48 : decode cX7_passesAndLays 48 = .ok (.istore 4, 2) := by decide +kernel
theorem dX7_passesAndLays_50 : decode cX7_passesAndLays 50 = .ok (.aload_n 0, 1) := by decide +kernel
theorem dX7_passesAndLays_51 : decode cX7_passesAndLays 51 = .ok (.getfield 25, 3) := by decide +kernel
theorem dX7_passesAndLays_54 : decode cX7_passesAndLays 54 = .ok (.bipush 24, 2) := by decide +kernel
theorem dX7_passesAndLays_56 : decode cX7_passesAndLays 56 = .ok (.iload 4, 2) := by decide +kernel
theorem dX7_passesAndLays_58 : decode cX7_passesAndLays 58 = .ok (.iadd, 1) := by decide +kernel
theorem dX7_passesAndLays_59 : decode cX7_passesAndLays 59 = .ok (.dup2, 1) := by decide +kernel
theorem dX7_passesAndLays_60 : decode cX7_passesAndLays 60 = .ok (.iaload, 1) := by decide +kernel
theorem dX7_passesAndLays_61 : decode cX7_passesAndLays 61 = .ok (.aload_n 0, 1) := by decide +kernel
theorem dX7_passesAndLays_62 : decode cX7_passesAndLays 62 = .ok (.getfield 25, 3) := by decide +kernel
theorem dX7_passesAndLays_65 : decode cX7_passesAndLays 65 = .ok (.iload 4, 2) := by decide +kernel
theorem dX7_passesAndLays_67 : decode cX7_passesAndLays 67 = .ok (.iaload, 1) := by decide +kernel
theorem dX7_passesAndLays_68 : decode cX7_passesAndLays 68 = .ok (.iconst 2, 1) := by decide +kernel
theorem dX7_passesAndLays_69 : decode cX7_passesAndLays 69 = .ok (.if_icmp .ne 14, 3) := by decide +kernel
theorem dX7_passesAndLays_72 : decode cX7_passesAndLays 72 = .ok (.aload_n 0, 1) := by decide +kernel
theorem dX7_passesAndLays_73 : decode cX7_passesAndLays 73 = .ok (.getfield 128, 3) := by decide +kernel
theorem dX7_passesAndLays_76 : decode cX7_passesAndLays 76 = .ok (.ifCond .le 7, 3) := by decide +kernel
theorem dX7_passesAndLays_79 : decode cX7_passesAndLays 79 = .ok (.iconst 1, 1) := by decide +kernel
theorem dX7_passesAndLays_80 : decode cX7_passesAndLays 80 = .ok (.goto 4, 3) := by decide +kernel
theorem dX7_passesAndLays_83 : decode cX7_passesAndLays 83 = .ok (.iconst 0, 1) := by decide +kernel
theorem dX7_passesAndLays_84 : decode cX7_passesAndLays 84 = .ok (.isub, 1) := by decide +kernel
theorem dX7_passesAndLays_85 : decode cX7_passesAndLays 85 = .ok (.iastore, 1) := by decide +kernel
theorem dX7_passesAndLays_86 : decode cX7_passesAndLays 86 = .ok (.iinc 5 1, 3) := by decide +kernel
theorem dX7_passesAndLays_89 : decode cX7_passesAndLays 89 = .ok (.goto (-53), 3) := by decide +kernel
theorem dX7_passesAndLays_92 : decode cX7_passesAndLays 92 = .ok (.iconst 0, 1) := by decide +kernel
theorem dX7_passesAndLays_93 : decode cX7_passesAndLays 93 = .ok (.istore 5, 2) := by decide +kernel
theorem dX7_passesAndLays_95 : decode cX7_passesAndLays 95 = .ok (.iload 5, 2) := by decide +kernel
theorem dX7_passesAndLays_97 : decode cX7_passesAndLays 97 = .ok (.aload_n 0, 1) := by decide +kernel
theorem dX7_passesAndLays_98 : decode cX7_passesAndLays 98 = .ok (.getfield 51, 3) := by decide +kernel
theorem dX7_passesAndLays_101 : decode cX7_passesAndLays 101 = .ok (.aload_n 0, 1) := by decide +kernel
theorem dX7_passesAndLays_102 : decode cX7_passesAndLays 102 = .ok (.getfield 54, 3) := by decide +kernel
theorem dX7_passesAndLays_105 : decode cX7_passesAndLays 105 = .ok (.imul, 1) := by decide +kernel
theorem dX7_passesAndLays_106 : decode cX7_passesAndLays 106 = .ok (.if_icmp .ge 60, 3) := by decide +kernel
theorem dX7_passesAndLays_109 : decode cX7_passesAndLays 109 = .ok (.aload_n 0, 1) := by decide +kernel
theorem dX7_passesAndLays_110 : decode cX7_passesAndLays 110 = .ok (.getfield 25, 3) := by decide +kernel
theorem dX7_passesAndLays_113 : decode cX7_passesAndLays 113 = .ok (.iload 5, 2) := by decide +kernel
theorem dX7_passesAndLays_115 : decode cX7_passesAndLays 115 = .ok (.iaload, 1) := by decide +kernel
theorem dX7_passesAndLays_116 : decode cX7_passesAndLays 116 = .ok (.iconst 2, 1) := by decide +kernel
theorem dX7_passesAndLays_117 : decode cX7_passesAndLays 117 = .ok (.if_icmp .ne 43, 3) := by decide +kernel
theorem dX7_passesAndLays_120 : decode cX7_passesAndLays 120 = .ok (.aload_n 0, 1) := by decide +kernel
theorem dX7_passesAndLays_121 : decode cX7_passesAndLays 121 = .ok (.getfield 128, 3) := by decide +kernel
theorem dX7_passesAndLays_124 : decode cX7_passesAndLays 124 = .ok (.ifCond .le 36, 3) := by decide +kernel
theorem dX7_passesAndLays_127 : decode cX7_passesAndLays 127 = .ok (.aload_n 0, 1) := by decide +kernel
theorem dX7_passesAndLays_128 : decode cX7_passesAndLays 128 = .ok (.getfield 25, 3) := by decide +kernel
theorem dX7_passesAndLays_131 : decode cX7_passesAndLays 131 = .ok (.bipush 24, 2) := by decide +kernel
theorem dX7_passesAndLays_133 : decode cX7_passesAndLays 133 = .ok (.iload 5, 2) := by decide +kernel
theorem dX7_passesAndLays_135 : decode cX7_passesAndLays 135 = .ok (.iadd, 1) := by decide +kernel
theorem dX7_passesAndLays_136 : decode cX7_passesAndLays 136 = .ok (.iaload, 1) := by decide +kernel
theorem dX7_passesAndLays_137 : decode cX7_passesAndLays 137 = .ok (.ifCond .ne 23, 3) := by decide +kernel
theorem dX7_passesAndLays_140 : decode cX7_passesAndLays 140 = .ok (.aload_n 0, 1) := by decide +kernel
theorem dX7_passesAndLays_141 : decode cX7_passesAndLays 141 = .ok (.getfield 25, 3) := by decide +kernel
theorem dX7_passesAndLays_144 : decode cX7_passesAndLays 144 = .ok (.iload 5, 2) := by decide +kernel
theorem dX7_passesAndLays_146 : decode cX7_passesAndLays 146 = .ok (.iconst 1, 1) := by decide +kernel
theorem dX7_passesAndLays_147 : decode cX7_passesAndLays 147 = .ok (.iastore, 1) := by decide +kernel
theorem dX7_passesAndLays_148 : decode cX7_passesAndLays 148 = .ok (.aload_n 0, 1) := by decide +kernel
theorem dX7_passesAndLays_149 : decode cX7_passesAndLays 149 = .ok (.getfield 25, 3) := by decide +kernel
theorem dX7_passesAndLays_152 : decode cX7_passesAndLays 152 = .ok (.bipush 48, 2) := by decide +kernel
theorem dX7_passesAndLays_154 : decode cX7_passesAndLays 154 = .ok (.iload 5, 2) := by decide +kernel
theorem dX7_passesAndLays_156 : decode cX7_passesAndLays 156 = .ok (.iadd, 1) := by decide +kernel
theorem dX7_passesAndLays_157 : decode cX7_passesAndLays 157 = .ok (.bipush (-9), 2) := by decide +kernel
theorem dX7_passesAndLays_159 : decode cX7_passesAndLays 159 = .ok (.iastore, 1) := by decide +kernel
theorem dX7_passesAndLays_160 : decode cX7_passesAndLays 160 = .ok (.iinc 5 1, 3) := by decide +kernel
theorem dX7_passesAndLays_163 : decode cX7_passesAndLays 163 = .ok (.goto (-68), 3) := by decide +kernel
theorem dX7_passesAndLays_166 : decode cX7_passesAndLays 166 = .ok (.aload_n 0, 1) := by decide +kernel
theorem dX7_passesAndLays_167 : decode cX7_passesAndLays 167 = .ok (.getfield 25, 3) := by decide +kernel
theorem dX7_passesAndLays_170 : decode cX7_passesAndLays 170 = .ok (.iload_n 2, 1) := by decide +kernel
theorem dX7_passesAndLays_171 : decode cX7_passesAndLays 171 = .ok (.iconst 2, 1) := by decide +kernel
theorem dX7_passesAndLays_172 : decode cX7_passesAndLays 172 = .ok (.iastore, 1) := by decide +kernel
theorem dX7_passesAndLays_173 : decode cX7_passesAndLays 173 = .ok (.aload_n 0, 1) := by decide +kernel
theorem dX7_passesAndLays_174 : decode cX7_passesAndLays 174 = .ok (.getfield 25, 3) := by decide +kernel
theorem dX7_passesAndLays_177 : decode cX7_passesAndLays 177 = .ok (.bipush 24, 2) := by decide +kernel
theorem dX7_passesAndLays_179 : decode cX7_passesAndLays 179 = .ok (.iload_n 2, 1) := by decide +kernel
theorem dX7_passesAndLays_180 : decode cX7_passesAndLays 180 = .ok (.iadd, 1) := by decide +kernel
theorem dX7_passesAndLays_181 : decode cX7_passesAndLays 181 = .ok (.aload_n 0, 1) := by decide +kernel
theorem dX7_passesAndLays_182 : decode cX7_passesAndLays 182 = .ok (.getfield 128, 3) := by decide +kernel
theorem dX7_passesAndLays_185 : decode cX7_passesAndLays 185 = .ok (.iastore, 1) := by decide +kernel
theorem dX7_passesAndLays_186 : decode cX7_passesAndLays 186 = .ok (.aload_n 0, 1) := by decide +kernel
theorem dX7_passesAndLays_187 : decode cX7_passesAndLays 187 = .ok (.getfield 25, 3) := by decide +kernel
theorem dX7_passesAndLays_190 : decode cX7_passesAndLays 190 = .ok (.bipush 48, 2) := by decide +kernel
theorem dX7_passesAndLays_192 : decode cX7_passesAndLays 192 = .ok (.iload_n 2, 1) := by decide +kernel
theorem dX7_passesAndLays_193 : decode cX7_passesAndLays 193 = .ok (.iadd, 1) := by decide +kernel
theorem dX7_passesAndLays_194 : decode cX7_passesAndLays 194 = .ok (.iload_n 1, 1) := by decide +kernel
theorem dX7_passesAndLays_195 : decode cX7_passesAndLays 195 = .ok (.iastore, 1) := by decide +kernel
theorem dX7_passesAndLays_196 : decode cX7_passesAndLays 196 = .ok (.aload_n 0, 1) := by decide +kernel
theorem dX7_passesAndLays_197 : decode cX7_passesAndLays 197 = .ok (.getfield 25, 3) := by decide +kernel
theorem dX7_passesAndLays_200 : decode cX7_passesAndLays 200 = .ok (.bipush 72, 2) := by decide +kernel
theorem dX7_passesAndLays_202 : decode cX7_passesAndLays 202 = .ok (.iload_n 1, 1) := by decide +kernel
theorem dX7_passesAndLays_203 : decode cX7_passesAndLays 203 = .ok (.iadd, 1) := by decide +kernel
theorem dX7_passesAndLays_204 : decode cX7_passesAndLays 204 = .ok (.dup2, 1) := by decide +kernel
theorem dX7_passesAndLays_205 : decode cX7_passesAndLays 205 = .ok (.iaload, 1) := by decide +kernel
theorem dX7_passesAndLays_206 : decode cX7_passesAndLays 206 = .ok (.iconst 1, 1) := by decide +kernel
theorem dX7_passesAndLays_207 : decode cX7_passesAndLays 207 = .ok (.iadd, 1) := by decide +kernel
theorem dX7_passesAndLays_208 : decode cX7_passesAndLays 208 = .ok (.iastore, 1) := by decide +kernel
theorem dX7_passesAndLays_209 : decode cX7_passesAndLays 209 = .ok (.return_, 1) := by decide +kernel
theorem dX7_passes_0 : decode cX7_passes 0 = .ok (.aload_n 0, 1) := by decide +kernel
theorem dX7_passes_1 : decode cX7_passes 1 = .ok (.iconst 0, 1) := by decide +kernel
theorem dX7_passes_2 : decode cX7_passes 2 = .ok (.putfield 47, 3) := by decide +kernel
theorem dX7_passes_5 : decode cX7_passes 5 = .ok (.aload_n 0, 1) := by decide +kernel
theorem dX7_passes_6 : decode cX7_passes 6 = .ok (.iload_n 1, 1) := by decide +kernel
theorem dX7_passes_7 : decode cX7_passes 7 = .ok (.invokevirtual 141, 3) := by decide +kernel
theorem dX7_passes_10 : decode cX7_passes 10 = .ok (.ifCond .eq 11, 3) := by decide +kernel
theorem dX7_passes_13 : decode cX7_passes 13 = .ok (.aload_n 0, 1) := by decide +kernel
theorem dX7_passes_14 : decode cX7_passes 14 = .ok (.iload_n 2, 1) := by decide +kernel
theorem dX7_passes_15 : decode cX7_passes 15 = .ok (.invokevirtual 137, 3) := by decide +kernel
theorem dX7_passes_18 : decode cX7_passes 18 = .ok (.ifCond .ne 5, 3) := by decide +kernel
theorem dX7_passes_21 : decode cX7_passes 21 = .ok (.iconst (-1), 1) := by decide +kernel
theorem dX7_passes_22 : decode cX7_passes 22 = .ok (.ireturn, 1) := by decide +kernel
theorem dX7_passes_23 : decode cX7_passes 23 = .ok (.aload_n 0, 1) := by decide +kernel
theorem dX7_passes_24 : decode cX7_passes 24 = .ok (.aload_n 0, 1) := by decide +kernel
theorem dX7_passes_25 : decode cX7_passes 25 = .ok (.getfield 19, 3) := by decide +kernel
theorem dX7_passes_28 : decode cX7_passes 28 = .ok (.iconst 2, 1) := by decide +kernel
theorem dX7_passes_29 : decode cX7_passes 29 = .ok (.iload_n 1, 1) := by decide +kernel
theorem dX7_passes_30 : decode cX7_passes 30 = .ok (.imul, 1) := by decide +kernel
theorem dX7_passes_31 : decode cX7_passes 31 = .ok (.iaload, 1) := by decide +kernel
theorem dX7_passes_32 : decode cX7_passes 32 = .ok (.aload_n 0, 1) := by decide +kernel
theorem dX7_passes_33 : decode cX7_passes 33 = .ok (.getfield 19, 3) := by decide +kernel
theorem dX7_passes_36 : decode cX7_passes 36 = .ok (.iconst 2, 1) := by decide +kernel
theorem dX7_passes_37 : decode cX7_passes 37 = .ok (.iload_n 1, 1) := by decide +kernel
theorem dX7_passes_38 : decode cX7_passes 38 = .ok (.imul, 1) := by decide +kernel
theorem dX7_passes_39 : decode cX7_passes 39 = .ok (.iconst 1, 1) := by decide +kernel
theorem dX7_passes_40 : decode cX7_passes 40 = .ok (.iadd, 1) := by decide +kernel
theorem dX7_passes_41 : decode cX7_passes 41 = .ok (.iaload, 1) := by decide +kernel
theorem dX7_passes_42 : decode cX7_passes 42 = .ok (.invokevirtual 159, 3) := by decide +kernel
theorem dX7_passes_45 : decode cX7_passes 45 = .ok (.istore_n 3, 1) := by decide +kernel
theorem dX7_passes_46 : decode cX7_passes 46 = .ok (.iload_n 3, 1) := by decide +kernel
theorem dX7_passes_47 : decode cX7_passes 47 = .ok (.bipush (-9), 2) := by decide +kernel
theorem dX7_passes_49 : decode cX7_passes 49 = .ok (.if_icmp .eq 13, 3) := by decide +kernel
theorem dX7_passes_52 : decode cX7_passes 52 = .ok (.aload_n 0, 1) := by decide +kernel
theorem dX7_passes_53 : decode cX7_passes 53 = .ok (.getfield 25, 3) := by decide +kernel
theorem dX7_passes_56 : decode cX7_passes 56 = .ok (.iload_n 2, 1) := by decide +kernel
theorem dX7_passes_57 : decode cX7_passes 57 = .ok (.iaload, 1) := by decide +kernel
theorem dX7_passes_58 : decode cX7_passes 58 = .ok (.iconst 1, 1) := by decide +kernel
theorem dX7_passes_59 : decode cX7_passes 59 = .ok (.if_icmp .eq 6, 3) := by decide +kernel
theorem dX7_passes_62 : decode cX7_passes 62 = .ok (.bipush (-2), 2) := by decide +kernel
theorem dX7_passes_64 : decode cX7_passes 64 = .ok (.ireturn, 1) := by decide +kernel
theorem dX7_passes_65 : decode cX7_passes 65 = .ok (.aload_n 0, 1) := by decide +kernel
theorem dX7_passes_66 : decode cX7_passes 66 = .ok (.iload_n 1, 1) := by decide +kernel
theorem dX7_passes_67 : decode cX7_passes 67 = .ok (.iload_n 2, 1) := by decide +kernel
theorem dX7_passes_68 : decode cX7_passes 68 = .ok (.invokevirtual 165, 3) := by decide +kernel
theorem dX7_passes_71 : decode cX7_passes 71 = .ok (.iload_n 3, 1) := by decide +kernel
theorem dX7_passes_72 : decode cX7_passes 72 = .ok (.ireturn, 1) := by decide +kernel
theorem dX7_likesOf_0 : decode cX7_likesOf 0 = .ok (.bipush (-9), 2) := by decide +kernel
theorem dX7_likesOf_2 : decode cX7_likesOf 2 = .ok (.istore_n 2, 1) := by decide +kernel
theorem dX7_likesOf_3 : decode cX7_likesOf 3 = .ok (.bipush 100, 2) := by decide +kernel
theorem dX7_likesOf_5 : decode cX7_likesOf 5 = .ok (.istore_n 3, 1) := by decide +kernel
theorem dX7_likesOf_6 : decode cX7_likesOf 6 = .ok (.iconst 0, 1) := by decide +kernel
theorem dX7_likesOf_7 : decode cX7_likesOf 7 = .ok (.istore 4, 2) := by decide +kernel
theorem dX7_likesOf_9 : decode cX7_likesOf 9 = .ok (.iload 4, 2) := by decide +kernel
theorem dX7_likesOf_11 : decode cX7_likesOf 11 = .ok (.aload_n 0, 1) := by decide +kernel
theorem dX7_likesOf_12 : decode cX7_likesOf 12 = .ok (.getfield 51, 3) := by decide +kernel
theorem dX7_likesOf_15 : decode cX7_likesOf 15 = .ok (.aload_n 0, 1) := by decide +kernel
theorem dX7_likesOf_16 : decode cX7_likesOf 16 = .ok (.getfield 54, 3) := by decide +kernel
theorem dX7_likesOf_19 : decode cX7_likesOf 19 = .ok (.imul, 1) := by decide +kernel
theorem dX7_likesOf_20 : decode cX7_likesOf 20 = .ok (.if_icmp .ge 102, 3) := by decide +kernel
theorem dX7_likesOf_23 : decode cX7_likesOf 23 = .ok (.aload_n 0, 1) := by decide +kernel
theorem dX7_likesOf_24 : decode cX7_likesOf 24 = .ok (.getfield 25, 3) := by decide +kernel
theorem dX7_likesOf_27 : decode cX7_likesOf 27 = .ok (.iload 4, 2) := by decide +kernel
theorem dX7_likesOf_29 : decode cX7_likesOf 29 = .ok (.iaload, 1) := by decide +kernel
theorem dX7_likesOf_30 : decode cX7_likesOf 30 = .ok (.iconst 1, 1) := by decide +kernel
theorem dX7_likesOf_31 : decode cX7_likesOf 31 = .ok (.if_icmp .ne 85, 3) := by decide +kernel
theorem dX7_likesOf_34 : decode cX7_likesOf 34 = .ok (.aload_n 0, 1) := by decide +kernel
theorem dX7_likesOf_35 : decode cX7_likesOf 35 = .ok (.getfield 25, 3) := by decide +kernel
theorem dX7_likesOf_38 : decode cX7_likesOf 38 = .ok (.iload 4, 2) := by decide +kernel
theorem dX7_likesOf_40 : decode cX7_likesOf 40 = .ok (.iconst 2, 1) := by decide +kernel
theorem dX7_likesOf_41 : decode cX7_likesOf 41 = .ok (.iastore, 1) := by decide +kernel
theorem dX7_likesOf_42 : decode cX7_likesOf 42 = .ok (.aload_n 0, 1) := by decide +kernel
theorem dX7_likesOf_43 : decode cX7_likesOf 43 = .ok (.aload_n 0, 1) := by decide +kernel
theorem dX7_likesOf_44 : decode cX7_likesOf 44 = .ok (.getfield 19, 3) := by decide +kernel
theorem dX7_likesOf_47 : decode cX7_likesOf 47 = .ok (.iconst 2, 1) := by decide +kernel
theorem dX7_likesOf_48 : decode cX7_likesOf 48 = .ok (.iload_n 1, 1) := by decide +kernel
theorem dX7_likesOf_49 : decode cX7_likesOf 49 = .ok (.imul, 1) := by decide +kernel
theorem dX7_likesOf_50 : decode cX7_likesOf 50 = .ok (.iaload, 1) := by decide +kernel
theorem dX7_likesOf_51 : decode cX7_likesOf 51 = .ok (.aload_n 0, 1) := by decide +kernel
theorem dX7_likesOf_52 : decode cX7_likesOf 52 = .ok (.getfield 19, 3) := by decide +kernel
theorem dX7_likesOf_55 : decode cX7_likesOf 55 = .ok (.iconst 2, 1) := by decide +kernel
theorem dX7_likesOf_56 : decode cX7_likesOf 56 = .ok (.iload_n 1, 1) := by decide +kernel
theorem dX7_likesOf_57 : decode cX7_likesOf 57 = .ok (.imul, 1) := by decide +kernel
theorem dX7_likesOf_58 : decode cX7_likesOf 58 = .ok (.iconst 1, 1) := by decide +kernel
theorem dX7_likesOf_59 : decode cX7_likesOf 59 = .ok (.iadd, 1) := by decide +kernel
theorem dX7_likesOf_60 : decode cX7_likesOf 60 = .ok (.iaload, 1) := by decide +kernel
theorem dX7_likesOf_61 : decode cX7_likesOf 61 = .ok (.invokevirtual 159, 3) := by decide +kernel
theorem dX7_likesOf_64 : decode cX7_likesOf 64 = .ok (.istore 5, 2) := by decide +kernel
theorem dX7_likesOf_66 : decode cX7_likesOf 66 = .ok (.aload_n 0, 1) := by decide +kernel
theorem dX7_likesOf_67 : decode cX7_likesOf 67 = .ok (.getfield 25, 3) := by decide +kernel
theorem dX7_likesOf_70 : decode cX7_likesOf 70 = .ok (.iload 4, 2) := by decide +kernel
theorem dX7_likesOf_72 : decode cX7_likesOf 72 = .ok (.iconst 1, 1) := by decide +kernel
theorem dX7_likesOf_73 : decode cX7_likesOf 73 = .ok (.iastore, 1) := by decide +kernel
theorem dX7_likesOf_74 : decode cX7_likesOf 74 = .ok (.iload 5, 2) := by decide +kernel
theorem dX7_likesOf_76 : decode cX7_likesOf 76 = .ok (.bipush (-9), 2) := by decide +kernel
theorem dX7_likesOf_78 : decode cX7_likesOf 78 = .ok (.if_icmp .ne 8, 3) := by decide +kernel
theorem dX7_likesOf_81 : decode cX7_likesOf 81 = .ok (.bipush 99, 2) := by decide +kernel
theorem dX7_likesOf_83 : decode cX7_likesOf 83 = .ok (.goto 5, 3) := by decide +kernel
theorem dX7_likesOf_86 : decode cX7_likesOf 86 = .ok (.iload 5, 2) := by decide +kernel
theorem dX7_likesOf_88 : decode cX7_likesOf 88 = .ok (.istore 5, 2) := by decide +kernel
theorem dX7_likesOf_90 : decode cX7_likesOf 90 = .ok (.iload 5, 2) := by decide +kernel
theorem dX7_likesOf_92 : decode cX7_likesOf 92 = .ok (.iload_n 3, 1) := by decide +kernel
theorem dX7_likesOf_93 : decode cX7_likesOf 93 = .ok (.if_icmp .ge 8, 3) := by decide +kernel
theorem dX7_likesOf_96 : decode cX7_likesOf 96 = .ok (.iload 4, 2) := by decide +kernel
theorem dX7_likesOf_98 : decode cX7_likesOf 98 = .ok (.goto 4, 3) := by decide +kernel
theorem dX7_likesOf_101 : decode cX7_likesOf 101 = .ok (.iload_n 2, 1) := by decide +kernel
theorem dX7_likesOf_102 : decode cX7_likesOf 102 = .ok (.istore_n 2, 1) := by decide +kernel
theorem dX7_likesOf_103 : decode cX7_likesOf 103 = .ok (.iload 5, 2) := by decide +kernel
theorem dX7_likesOf_105 : decode cX7_likesOf 105 = .ok (.iload_n 3, 1) := by decide +kernel
theorem dX7_likesOf_106 : decode cX7_likesOf 106 = .ok (.if_icmp .ge 8, 3) := by decide +kernel
theorem dX7_likesOf_109 : decode cX7_likesOf 109 = .ok (.iload 5, 2) := by decide +kernel
theorem dX7_likesOf_111 : decode cX7_likesOf 111 = .ok (.goto 4, 3) := by decide +kernel
theorem dX7_likesOf_114 : decode cX7_likesOf 114 = .ok (.iload_n 3, 1) := by decide +kernel
theorem dX7_likesOf_115 : decode cX7_likesOf 115 = .ok (.istore_n 3, 1) := by decide +kernel
theorem dX7_likesOf_116 : decode cX7_likesOf 116 = .ok (.iinc 4 1, 3) := by decide +kernel
theorem dX7_likesOf_119 : decode cX7_likesOf 119 = .ok (.goto (-110), 3) := by decide +kernel
theorem dX7_likesOf_122 : decode cX7_likesOf 122 = .ok (.iload_n 2, 1) := by decide +kernel
theorem dX7_likesOf_123 : decode cX7_likesOf 123 = .ok (.ireturn, 1) := by decide +kernel
theorem dX7_days_0 : decode cX7_days 0 = .ok (.aload_n 0, 1) := by decide +kernel
theorem dX7_days_1 : decode cX7_days 1 = .ok (.iconst 0, 1) := by decide +kernel
theorem dX7_days_2 : decode cX7_days 2 = .ok (.putfield 47, 3) := by decide +kernel
theorem dX7_days_5 : decode cX7_days 5 = .ok (.iload_n 1, 1) := by decide +kernel
theorem dX7_days_6 : decode cX7_days 6 = .ok (.iconst 1, 1) := by decide +kernel
theorem dX7_days_7 : decode cX7_days 7 = .ok (.bipush 9, 2) := by decide +kernel
theorem dX7_days_9 : decode cX7_days 9 = .ok (.invokestatic 57, 3) := by decide +kernel
theorem dX7_days_12 : decode cX7_days 12 = .ok (.ifCond .ne 5, 3) := by decide +kernel
theorem dX7_days_15 : decode cX7_days 15 = .ok (.iconst (-1), 1) := by decide +kernel
theorem dX7_days_16 : decode cX7_days 16 = .ok (.ireturn, 1) := by decide +kernel
theorem dX7_days_17 : decode cX7_days 17 = .ok (.iconst 0, 1) := by decide +kernel
theorem dX7_days_18 : decode cX7_days 18 = .ok (.istore_n 2, 1) := by decide +kernel
theorem dX7_days_19 : decode cX7_days 19 = .ok (.iconst 0, 1) := by decide +kernel
theorem dX7_days_20 : decode cX7_days 20 = .ok (.istore_n 3, 1) := by decide +kernel
theorem dX7_days_21 : decode cX7_days 21 = .ok (.iload_n 3, 1) := by decide +kernel
theorem dX7_days_22 : decode cX7_days 22 = .ok (.iload_n 1, 1) := by decide +kernel
theorem dX7_days_23 : decode cX7_days 23 = .ok (.aload_n 0, 1) := by decide +kernel
theorem dX7_days_24 : decode cX7_days 24 = .ok (.getfield 61, 3) := by decide +kernel
theorem dX7_days_27 : decode cX7_days 27 = .ok (.imul, 1) := by decide +kernel
theorem dX7_days_28 : decode cX7_days 28 = .ok (.if_icmp .ge 75, 3) := by decide +kernel
theorem dX7_days_31 : decode cX7_days 31 = .ok (.iload_n 3, 1) := by decide +kernel
theorem dX7_days_32 : decode cX7_days 32 = .ok (.aload_n 0, 1) := by decide +kernel
theorem dX7_days_33 : decode cX7_days 33 = .ok (.getfield 61, 3) := by decide +kernel
theorem dX7_days_36 : decode cX7_days 36 = .ok (.irem, 1) := by decide +kernel
theorem dX7_days_37 : decode cX7_days 37 = .ok (.istore 4, 2) := by decide +kernel
theorem dX7_days_39 : decode cX7_days 39 = .ok (.aload_n 0, 1) := by decide +kernel
theorem dX7_days_40 : decode cX7_days 40 = .ok (.iload 4, 2) := by decide +kernel
theorem dX7_days_42 : decode cX7_days 42 = .ok (.invokevirtual 169, 3) := by decide +kernel
theorem dX7_days_45 : decode cX7_days 45 = .ok (.istore 5, 2) := by decide +kernel
theorem dX7_days_47 : decode cX7_days 47 = .ok (.iload 5, 2) := by decide +kernel
theorem dX7_days_49 : decode cX7_days 49 = .ok (.bipush (-9), 2) := by decide +kernel
theorem dX7_days_51 : decode cX7_days 51 = .ok (.if_icmp .eq 32, 3) := by decide +kernel
theorem dX7_days_54 : decode cX7_days 54 = .ok (.aload_n 0, 1) := by decide +kernel
theorem dX7_days_55 : decode cX7_days 55 = .ok (.aload_n 0, 1) := by decide +kernel
theorem dX7_days_56 : decode cX7_days 56 = .ok (.getfield 19, 3) := by decide +kernel
theorem dX7_days_59 : decode cX7_days 59 = .ok (.iconst 2, 1) := by decide +kernel
theorem dX7_days_60 : decode cX7_days 60 = .ok (.iload 4, 2) := by decide +kernel
theorem dX7_days_62 : decode cX7_days 62 = .ok (.imul, 1) := by decide +kernel
theorem dX7_days_63 : decode cX7_days 63 = .ok (.iaload, 1) := by decide +kernel
theorem dX7_days_64 : decode cX7_days 64 = .ok (.aload_n 0, 1) := by decide +kernel
theorem dX7_days_65 : decode cX7_days 65 = .ok (.getfield 19, 3) := by decide +kernel
theorem dX7_days_68 : decode cX7_days 68 = .ok (.iconst 2, 1) := by decide +kernel
theorem dX7_days_69 : decode cX7_days 69 = .ok (.iload 4, 2) := by decide +kernel
theorem dX7_days_71 : decode cX7_days 71 = .ok (.imul, 1) := by decide +kernel
theorem dX7_days_72 : decode cX7_days 72 = .ok (.iconst 1, 1) := by decide +kernel
theorem dX7_days_73 : decode cX7_days 73 = .ok (.iadd, 1) := by decide +kernel
theorem dX7_days_74 : decode cX7_days 74 = .ok (.iaload, 1) := by decide +kernel
theorem dX7_days_75 : decode cX7_days 75 = .ok (.invokevirtual 159, 3) := by decide +kernel
theorem dX7_days_78 : decode cX7_days 78 = .ok (.bipush (-9), 2) := by decide +kernel
theorem dX7_days_80 : decode cX7_days 80 = .ok (.if_icmp .ne 9, 3) := by decide +kernel
theorem dX7_days_83 : decode cX7_days 83 = .ok (.iinc 2 1, 3) := by decide +kernel
theorem dX7_days_86 : decode cX7_days 86 = .ok (.goto 11, 3) := by decide +kernel
theorem dX7_days_89 : decode cX7_days 89 = .ok (.aload_n 0, 1) := by decide +kernel
theorem dX7_days_90 : decode cX7_days 90 = .ok (.iload 4, 2) := by decide +kernel
theorem dX7_days_92 : decode cX7_days 92 = .ok (.iload 5, 2) := by decide +kernel
theorem dX7_days_94 : decode cX7_days 94 = .ok (.invokevirtual 165, 3) := by decide +kernel
theorem dX7_days_97 : decode cX7_days 97 = .ok (.iinc 3 1, 3) := by decide +kernel
theorem dX7_days_100 : decode cX7_days 100 = .ok (.goto (-79), 3) := by decide +kernel
theorem dX7_days_103 : decode cX7_days 103 = .ok (.iload_n 2, 1) := by decide +kernel
theorem dX7_days_104 : decode cX7_days 104 = .ok (.ireturn, 1) := by decide +kernel
theorem dX7_passedInAll_0 : decode cX7_passedInAll 0 = .ok (.aload_n 0, 1) := by decide +kernel
theorem dX7_passedInAll_1 : decode cX7_passedInAll 1 = .ok (.getfield 25, 3) := by decide +kernel
theorem dX7_passedInAll_4 : decode cX7_passedInAll 4 = .ok (.bipush 72, 2) := by decide +kernel
theorem dX7_passedInAll_6 : decode cX7_passedInAll 6 = .ok (.iaload, 1) := by decide +kernel
theorem dX7_passedInAll_7 : decode cX7_passedInAll 7 = .ok (.aload_n 0, 1) := by decide +kernel
theorem dX7_passedInAll_8 : decode cX7_passedInAll 8 = .ok (.getfield 25, 3) := by decide +kernel
theorem dX7_passedInAll_11 : decode cX7_passedInAll 11 = .ok (.bipush 73, 2) := by decide +kernel
theorem dX7_passedInAll_13 : decode cX7_passedInAll 13 = .ok (.iaload, 1) := by decide +kernel
theorem dX7_passedInAll_14 : decode cX7_passedInAll 14 = .ok (.iadd, 1) := by decide +kernel
theorem dX7_passedInAll_15 : decode cX7_passedInAll 15 = .ok (.aload_n 0, 1) := by decide +kernel
theorem dX7_passedInAll_16 : decode cX7_passedInAll 16 = .ok (.getfield 25, 3) := by decide +kernel
theorem dX7_passedInAll_19 : decode cX7_passedInAll 19 = .ok (.bipush 74, 2) := by decide +kernel
theorem dX7_passedInAll_21 : decode cX7_passedInAll 21 = .ok (.iaload, 1) := by decide +kernel
theorem dX7_passedInAll_22 : decode cX7_passedInAll 22 = .ok (.iadd, 1) := by decide +kernel
theorem dX7_passedInAll_23 : decode cX7_passedInAll 23 = .ok (.aload_n 0, 1) := by decide +kernel
theorem dX7_passedInAll_24 : decode cX7_passedInAll 24 = .ok (.getfield 25, 3) := by decide +kernel
theorem dX7_passedInAll_27 : decode cX7_passedInAll 27 = .ok (.bipush 75, 2) := by decide +kernel
theorem dX7_passedInAll_29 : decode cX7_passedInAll 29 = .ok (.iaload, 1) := by decide +kernel
theorem dX7_passedInAll_30 : decode cX7_passedInAll 30 = .ok (.iadd, 1) := by decide +kernel
theorem dX7_passedInAll_31 : decode cX7_passedInAll 31 = .ok (.ireturn, 1) := by decide +kernel
theorem dX7_many_0 : decode cX7_many 0 = .ok (.iconst 0, 1) := by decide +kernel
theorem dX7_many_1 : decode cX7_many 1 = .ok (.istore_n 2, 1) := by decide +kernel
theorem dX7_many_2 : decode cX7_many 2 = .ok (.iconst 0, 1) := by decide +kernel
theorem dX7_many_3 : decode cX7_many 3 = .ok (.istore_n 3, 1) := by decide +kernel
theorem dX7_many_4 : decode cX7_many 4 = .ok (.iload_n 3, 1) := by decide +kernel
theorem dX7_many_5 : decode cX7_many 5 = .ok (.aload_n 0, 1) := by decide +kernel
theorem dX7_many_6 : decode cX7_many 6 = .ok (.getfield 51, 3) := by decide +kernel
theorem dX7_many_9 : decode cX7_many 9 = .ok (.aload_n 0, 1) := by decide +kernel
theorem dX7_many_10 : decode cX7_many 10 = .ok (.getfield 54, 3) := by decide +kernel
theorem dX7_many_13 : decode cX7_many 13 = .ok (.imul, 1) := by decide +kernel
theorem dX7_many_14 : decode cX7_many 14 = .ok (.if_icmp .ge 27, 3) := by decide +kernel
theorem dX7_many_17 : decode cX7_many 17 = .ok (.iload_n 2, 1) := by decide +kernel
theorem dX7_many_18 : decode cX7_many 18 = .ok (.aload_n 0, 1) := by decide +kernel
theorem dX7_many_19 : decode cX7_many 19 = .ok (.getfield 25, 3) := by decide +kernel
theorem dX7_many_22 : decode cX7_many 22 = .ok (.iload_n 3, 1) := by decide +kernel
theorem dX7_many_23 : decode cX7_many 23 = .ok (.iaload, 1) := by decide +kernel
theorem dX7_many_24 : decode cX7_many 24 = .ok (.iload_n 1, 1) := by decide +kernel
theorem dX7_many_25 : decode cX7_many 25 = .ok (.if_icmp .ne 7, 3) := by decide +kernel
theorem dX7_many_28 : decode cX7_many 28 = .ok (.iconst 1, 1) := by decide +kernel
theorem dX7_many_29 : decode cX7_many 29 = .ok (.goto 4, 3) := by decide +kernel
theorem dX7_many_32 : decode cX7_many 32 = .ok (.iconst 0, 1) := by decide +kernel
theorem dX7_many_33 : decode cX7_many 33 = .ok (.iadd, 1) := by decide +kernel
theorem dX7_many_34 : decode cX7_many 34 = .ok (.istore_n 2, 1) := by decide +kernel
theorem dX7_many_35 : decode cX7_many 35 = .ok (.iinc 3 1, 3) := by decide +kernel
theorem dX7_many_38 : decode cX7_many 38 = .ok (.goto (-34), 3) := by decide +kernel
theorem dX7_many_41 : decode cX7_many 41 = .ok (.iload_n 2, 1) := by decide +kernel
theorem dX7_many_42 : decode cX7_many 42 = .ok (.ireturn, 1) := by decide +kernel
theorem dX7_now_0 : decode cX7_now 0 = .ok (.aload_n 0, 1) := by decide +kernel
theorem dX7_now_1 : decode cX7_now 1 = .ok (.iconst 0, 1) := by decide +kernel
theorem dX7_now_2 : decode cX7_now 2 = .ok (.putfield 47, 3) := by decide +kernel
theorem dX7_now_5 : decode cX7_now 5 = .ok (.iload_n 1, 1) := by decide +kernel
theorem dX7_now_6 : decode cX7_now 6 = .ok (.iconst 0, 1) := by decide +kernel
theorem dX7_now_7 : decode cX7_now 7 = .ok (.iconst 3, 1) := by decide +kernel
theorem dX7_now_8 : decode cX7_now 8 = .ok (.invokestatic 57, 3) := by decide +kernel
theorem dX7_now_11 : decode cX7_now 11 = .ok (.ifCond .ne 7, 3) := by decide +kernel
theorem dX7_now_14 : decode cX7_now 14 = .ok (.iconst (-1), 1) := by decide +kernel
theorem dX7_now_15 : decode cX7_now 15 = .ok (.goto 20, 3) := by decide +kernel
theorem dX7_now_18 : decode cX7_now 18 = .ok (.iload_n 1, 1) := by decide +kernel
theorem dX7_now_19 : decode cX7_now 19 = .ok (.iconst 3, 1) := by decide +kernel
theorem dX7_now_20 : decode cX7_now 20 = .ok (.if_icmp .ge 11, 3) := by decide +kernel
theorem dX7_now_23 : decode cX7_now 23 = .ok (.aload_n 0, 1) := by decide +kernel
theorem dX7_now_24 : decode cX7_now 24 = .ok (.iload_n 1, 1) := by decide +kernel
theorem dX7_now_25 : decode cX7_now 25 = .ok (.invokevirtual 172, 3) := by decide +kernel
theorem dX7_now_28 : decode cX7_now 28 = .ok (.goto 7, 3) := by decide +kernel
theorem dX7_now_31 : decode cX7_now 31 = .ok (.aload_n 0, 1) := by decide +kernel
theorem dX7_now_32 : decode cX7_now 32 = .ok (.invokevirtual 175, 3) := by decide +kernel
theorem dX7_now_35 : decode cX7_now 35 = .ok (.ireturn, 1) := by decide +kernel
theorem dX7_anew_0 : decode cX7_anew 0 = .ok (.aload_n 0, 1) := by decide +kernel
theorem dX7_anew_1 : decode cX7_anew 1 = .ok (.iconst 0, 1) := by decide +kernel
theorem dX7_anew_2 : decode cX7_anew 2 = .ok (.putfield 47, 3) := by decide +kernel
theorem dX7_anew_5 : decode cX7_anew 5 = .ok (.aload_n 0, 1) := by decide +kernel
theorem dX7_anew_6 : decode cX7_anew 6 = .ok (.invokevirtual 175, 3) := by decide +kernel
theorem dX7_anew_9 : decode cX7_anew 9 = .ok (.istore_n 1, 1) := by decide +kernel
theorem dX7_anew_10 : decode cX7_anew 10 = .ok (.aload_n 0, 1) := by decide +kernel
theorem dX7_anew_11 : decode cX7_anew 11 = .ok (.invokevirtual 134, 3) := by decide +kernel
theorem dX7_anew_14 : decode cX7_anew 14 = .ok (.iload_n 1, 1) := by decide +kernel
theorem dX7_anew_15 : decode cX7_anew 15 = .ok (.ireturn, 1) := by decide +kernel
theorem dX7_steps_0 : decode cX7_steps 0 = .ok (.aload_n 0, 1) := by decide +kernel
theorem dX7_steps_1 : decode cX7_steps 1 = .ok (.iconst 0, 1) := by decide +kernel
theorem dX7_steps_2 : decode cX7_steps 2 = .ok (.putfield 47, 3) := by decide +kernel
theorem dX7_steps_5 : decode cX7_steps 5 = .ok (.aload_n 0, 1) := by decide +kernel
theorem dX7_steps_6 : decode cX7_steps 6 = .ok (.iload_n 1, 1) := by decide +kernel
theorem dX7_steps_7 : decode cX7_steps 7 = .ok (.invokevirtual 137, 3) := by decide +kernel
theorem dX7_steps_10 : decode cX7_steps 10 = .ok (.ifCond .eq 20, 3) := by decide +kernel
theorem dX7_steps_13 : decode cX7_steps 13 = .ok (.aload_n 0, 1) := by decide +kernel
theorem dX7_steps_14 : decode cX7_steps 14 = .ok (.iload_n 2, 1) := by decide +kernel
theorem dX7_steps_15 : decode cX7_steps 15 = .ok (.invokevirtual 137, 3) := by decide +kernel
theorem dX7_steps_18 : decode cX7_steps 18 = .ok (.ifCond .eq 12, 3) := by decide +kernel
theorem dX7_steps_21 : decode cX7_steps 21 = .ok (.aload_n 0, 1) := by decide +kernel
theorem dX7_steps_22 : decode cX7_steps 22 = .ok (.iload_n 1, 1) := by decide +kernel
theorem dX7_steps_23 : decode cX7_steps 23 = .ok (.iload_n 2, 1) := by decide +kernel
theorem dX7_steps_24 : decode cX7_steps 24 = .ok (.invokevirtual 159, 3) := by decide +kernel
theorem dX7_steps_27 : decode cX7_steps 27 = .ok (.goto 4, 3) := by decide +kernel
theorem dX7_steps_30 : decode cX7_steps 30 = .ok (.iconst (-1), 1) := by decide +kernel
theorem dX7_steps_31 : decode cX7_steps 31 = .ok (.ireturn, 1) := by decide +kernel
theorem dX7_way_0 : decode cX7_way 0 = .ok (.aload_n 0, 1) := by decide +kernel
theorem dX7_way_1 : decode cX7_way 1 = .ok (.iconst 0, 1) := by decide +kernel
theorem dX7_way_2 : decode cX7_way 2 = .ok (.putfield 47, 3) := by decide +kernel
theorem dX7_way_5 : decode cX7_way 5 = .ok (.aload_n 0, 1) := by decide +kernel
theorem dX7_way_6 : decode cX7_way 6 = .ok (.iload_n 1, 1) := by decide +kernel
theorem dX7_way_7 : decode cX7_way 7 = .ok (.invokevirtual 137, 3) := by decide +kernel
theorem dX7_way_10 : decode cX7_way 10 = .ok (.ifCond .eq 15, 3) := by decide +kernel
theorem dX7_way_13 : decode cX7_way 13 = .ok (.aload_n 0, 1) := by decide +kernel
theorem dX7_way_14 : decode cX7_way 14 = .ok (.iload_n 2, 1) := by decide +kernel
theorem dX7_way_15 : decode cX7_way 15 = .ok (.invokevirtual 137, 3) := by decide +kernel
theorem dX7_way_18 : decode cX7_way 18 = .ok (.ifCond .eq 7, 3) := by decide +kernel
theorem dX7_way_21 : decode cX7_way 21 = .ok (.iload_n 3, 1) := by decide +kernel
theorem dX7_way_22 : decode cX7_way 22 = .ok (.ifCond .ge 5, 3) := by decide +kernel
theorem dX7_way_25 : decode cX7_way 25 = .ok (.iconst (-1), 1) := by decide +kernel
theorem dX7_way_26 : decode cX7_way 26 = .ok (.ireturn, 1) := by decide +kernel
theorem dX7_way_27 : decode cX7_way 27 = .ok (.aload_n 0, 1) := by decide +kernel
theorem dX7_way_28 : decode cX7_way 28 = .ok (.iload_n 1, 1) := by decide +kernel
theorem dX7_way_29 : decode cX7_way 29 = .ok (.iload_n 2, 1) := by decide +kernel
theorem dX7_way_30 : decode cX7_way 30 = .ok (.invokevirtual 159, 3) := by decide +kernel
theorem dX7_way_33 : decode cX7_way 33 = .ok (.istore 4, 2) := by decide +kernel
theorem dX7_way_35 : decode cX7_way 35 = .ok (.iload 4, 2) := by decide +kernel
theorem dX7_way_37 : decode cX7_way 37 = .ok (.bipush (-9), 2) := by decide +kernel
theorem dX7_way_39 : decode cX7_way 39 = .ok (.if_icmp .eq 9, 3) := by decide +kernel
theorem dX7_way_42 : decode cX7_way 42 = .ok (.iload_n 3, 1) := by decide +kernel
theorem dX7_way_43 : decode cX7_way 43 = .ok (.iload 4, 2) := by decide +kernel
theorem dX7_way_45 : decode cX7_way 45 = .ok (.if_icmp .le 18, 3) := by decide +kernel
theorem dX7_way_48 : decode cX7_way 48 = .ok (.iload 4, 2) := by decide +kernel
theorem dX7_way_50 : decode cX7_way 50 = .ok (.bipush (-9), 2) := by decide +kernel
theorem dX7_way_52 : decode cX7_way 52 = .ok (.if_icmp .ne 8, 3) := by decide +kernel
theorem dX7_way_55 : decode cX7_way 55 = .ok (.bipush (-9), 2) := by decide +kernel
theorem dX7_way_57 : decode cX7_way 57 = .ok (.goto 5, 3) := by decide +kernel
theorem dX7_way_60 : decode cX7_way 60 = .ok (.bipush (-5), 2) := by decide +kernel
theorem dX7_way_62 : decode cX7_way 62 = .ok (.ireturn, 1) := by decide +kernel
theorem dX7_way_63 : decode cX7_way 63 = .ok (.iload_n 1, 1) := by decide +kernel
theorem dX7_way_64 : decode cX7_way 64 = .ok (.istore 5, 2) := by decide +kernel
theorem dX7_way_66 : decode cX7_way 66 = .ok (.iconst 0, 1) := by decide +kernel
theorem dX7_way_67 : decode cX7_way 67 = .ok (.istore 6, 2) := by decide +kernel
theorem dX7_way_69 : decode cX7_way 69 = .ok (.iload 6, 2) := by decide +kernel
theorem dX7_way_71 : decode cX7_way 71 = .ok (.iload_n 3, 1) := by decide +kernel
theorem dX7_way_72 : decode cX7_way 72 = .ok (.if_icmp .ge 17, 3) := by decide +kernel
theorem dX7_way_75 : decode cX7_way 75 = .ok (.aload_n 0, 1) := by decide +kernel
theorem dX7_way_76 : decode cX7_way 76 = .ok (.iload 5, 2) := by decide +kernel
theorem dX7_way_78 : decode cX7_way 78 = .ok (.invokevirtual 162, 3) := by decide +kernel
theorem dX7_way_81 : decode cX7_way 81 = .ok (.istore 5, 2) := by decide +kernel
theorem dX7_way_83 : decode cX7_way 83 = .ok (.iinc 6 1, 3) := by decide +kernel
theorem dX7_way_86 : decode cX7_way 86 = .ok (.goto (-17), 3) := by decide +kernel
theorem dX7_way_89 : decode cX7_way 89 = .ok (.iload 5, 2) := by decide +kernel
theorem dX7_way_91 : decode cX7_way 91 = .ok (.ireturn, 1) := by decide +kernel
theorem dX7_costs_0 : decode cX7_costs 0 = .ok (.aload_n 0, 1) := by decide +kernel
theorem dX7_costs_1 : decode cX7_costs 1 = .ok (.getfield 51, 3) := by decide +kernel
theorem dX7_costs_4 : decode cX7_costs 4 = .ok (.aload_n 0, 1) := by decide +kernel
theorem dX7_costs_5 : decode cX7_costs 5 = .ok (.getfield 54, 3) := by decide +kernel
theorem dX7_costs_8 : decode cX7_costs 8 = .ok (.imul, 1) := by decide +kernel
theorem dX7_costs_9 : decode cX7_costs 9 = .ok (.istore_n 3, 1) := by decide +kernel
theorem dX7_costs_10 : decode cX7_costs 10 = .ok (.iconst 0, 1) := by decide +kernel
theorem dX7_costs_11 : decode cX7_costs 11 = .ok (.istore 4, 2) := by decide +kernel
theorem dX7_costs_13 : decode cX7_costs 13 = .ok (.iload 4, 2) := by decide +kernel
theorem dX7_costs_15 : decode cX7_costs 15 = .ok (.iload_n 3, 1) := by decide +kernel
theorem dX7_costs_16 : decode cX7_costs 16 = .ok (.if_icmp .ge 43, 3) := by decide +kernel
theorem dX7_costs_19 : decode cX7_costs 19 = .ok (.aload_n 0, 1) := by decide +kernel
theorem dX7_costs_20 : decode cX7_costs 20 = .ok (.getfield 35, 3) := by decide +kernel
theorem dX7_costs_23 : decode cX7_costs 23 = .ok (.iload 4, 2) := by decide +kernel
theorem dX7_costs_25 : decode cX7_costs 25 = .ok (.iload 4, 2) := by decide +kernel
theorem dX7_costs_27 : decode cX7_costs 27 = .ok (.iload_n 2, 1) := by decide +kernel
theorem dX7_costs_28 : decode cX7_costs 28 = .ok (.if_icmp .ne 22, 3) := by decide +kernel
theorem dX7_costs_31 : decode cX7_costs 31 = .ok (.aload_n 0, 1) := by decide +kernel
theorem dX7_costs_32 : decode cX7_costs 32 = .ok (.getfield 25, 3) := by decide +kernel
theorem dX7_costs_35 : decode cX7_costs 35 = .ok (.iload 4, 2) := by decide +kernel
theorem dX7_costs_37 : decode cX7_costs 37 = .ok (.iaload, 1) := by decide +kernel
theorem dX7_costs_38 : decode cX7_costs 38 = .ok (.iconst 1, 1) := by decide +kernel
theorem dX7_costs_39 : decode cX7_costs 39 = .ok (.if_icmp .ne 7, 3) := by decide +kernel
theorem dX7_costs_42 : decode cX7_costs 42 = .ok (.iconst 1, 1) := by decide +kernel
theorem dX7_costs_43 : decode cX7_costs 43 = .ok (.goto 9, 3) := by decide +kernel
theorem dX7_costs_46 : decode cX7_costs 46 = .ok (.iconst 0, 1) := by decide +kernel
theorem dX7_costs_47 : decode cX7_costs 47 = .ok (.goto 5, 3) := by decide +kernel
theorem dX7_costs_50 : decode cX7_costs 50 = .ok (.bipush 99, 2) := by decide +kernel
theorem dX7_costs_52 : decode cX7_costs 52 = .ok (.iastore, 1) := by decide +kernel
theorem dX7_costs_53 : decode cX7_costs 53 = .ok (.iinc 4 1, 3) := by decide +kernel
theorem dX7_costs_56 : decode cX7_costs 56 = .ok (.goto (-43), 3) := by decide +kernel
theorem dX7_costs_59 : decode cX7_costs 59 = .ok (.iconst 1, 1) := by decide +kernel
theorem dX7_costs_60 : decode cX7_costs 60 = .ok (.istore 4, 2) := by decide +kernel
theorem dX7_costs_62 : decode cX7_costs 62 = .ok (.iload 4, 2) := by decide +kernel
theorem dX7_costs_64 : decode cX7_costs 64 = .ok (.ifCond .eq 144, 3) := by decide +kernel
theorem dX7_costs_67 : decode cX7_costs 67 = .ok (.iconst 0, 1) := by decide +kernel
theorem dX7_costs_68 : decode cX7_costs 68 = .ok (.istore 4, 2) := by decide +kernel
theorem dX7_costs_70 : decode cX7_costs 70 = .ok (.iconst 0, 1) := by decide +kernel
theorem dX7_costs_71 : decode cX7_costs 71 = .ok (.istore 5, 2) := by decide +kernel
theorem dX7_costs_73 : decode cX7_costs 73 = .ok (.iload 5, 2) := by decide +kernel
theorem dX7_costs_75 : decode cX7_costs 75 = .ok (.iload_n 3, 1) := by decide +kernel
theorem dX7_costs_76 : decode cX7_costs 76 = .ok (.if_icmp .ge 129, 3) := by decide +kernel
theorem dX7_costs_79 : decode cX7_costs 79 = .ok (.aload_n 0, 1) := by decide +kernel
theorem dX7_costs_80 : decode cX7_costs 80 = .ok (.getfield 25, 3) := by decide +kernel
theorem dX7_costs_83 : decode cX7_costs 83 = .ok (.iload 5, 2) := by decide +kernel
theorem dX7_costs_85 : decode cX7_costs 85 = .ok (.iaload, 1) := by decide +kernel
theorem dX7_costs_86 : decode cX7_costs 86 = .ok (.iconst 1, 1) := by decide +kernel
theorem dX7_costs_87 : decode cX7_costs 87 = .ok (.if_icmp .ne 7, 3) := by decide +kernel
theorem dX7_costs_90 : decode cX7_costs 90 = .ok (.iconst 1, 1) := by decide +kernel
theorem dX7_costs_91 : decode cX7_costs 91 = .ok (.goto 4, 3) := by decide +kernel
theorem dX7_costs_94 : decode cX7_costs 94 = .ok (.iconst 0, 1) := by decide +kernel
theorem dX7_costs_95 : decode cX7_costs 95 = .ok (.istore 6, 2) := by decide +kernel
theorem dX7_costs_97 : decode cX7_costs 97 = .ok (.iconst 0, 1) := by decide +kernel
theorem dX7_costs_98 : decode cX7_costs 98 = .ok (.istore 7, 2) := by decide +kernel
theorem dX7_costs_100 : decode cX7_costs 100 = .ok (.iload 7, 2) := by decide +kernel
theorem dX7_costs_102 : decode cX7_costs 102 = .ok (.iload_n 3, 1) := by decide +kernel
theorem dX7_costs_103 : decode cX7_costs 103 = .ok (.if_icmp .ge 96, 3) := by decide +kernel
theorem dX7_costs_106 : decode cX7_costs 106 = .ok (.aload_n 0, 1) := by decide +kernel
theorem dX7_costs_107 : decode cX7_costs 107 = .ok (.iload 5, 2) := by decide +kernel
theorem dX7_costs_109 : decode cX7_costs 109 = .ok (.iload 7, 2) := by decide +kernel
theorem dX7_costs_111 : decode cX7_costs 111 = .ok (.invokevirtual 151, 3) := by decide +kernel
theorem dX7_costs_114 : decode cX7_costs 114 = .ok (.ifCond .eq 27, 3) := by decide +kernel
theorem dX7_costs_117 : decode cX7_costs 117 = .ok (.aload_n 0, 1) := by decide +kernel
theorem dX7_costs_118 : decode cX7_costs 118 = .ok (.getfield 35, 3) := by decide +kernel
theorem dX7_costs_121 : decode cX7_costs 121 = .ok (.iload 7, 2) := by decide +kernel
theorem dX7_costs_123 : decode cX7_costs 123 = .ok (.iaload, 1) := by decide +kernel
theorem dX7_costs_124 : decode cX7_costs 124 = .ok (.iload 6, 2) := by decide +kernel
theorem dX7_costs_126 : decode cX7_costs 126 = .ok (.iadd, 1) := by decide +kernel
theorem dX7_costs_127 : decode cX7_costs 127 = .ok (.aload_n 0, 1) := by decide +kernel
theorem dX7_costs_128 : decode cX7_costs 128 = .ok (.getfield 35, 3) := by decide +kernel
theorem dX7_costs_131 : decode cX7_costs 131 = .ok (.iload 5, 2) := by decide +kernel
theorem dX7_costs_133 : decode cX7_costs 133 = .ok (.iaload, 1) := by decide +kernel
theorem dX7_costs_134 : decode cX7_costs 134 = .ok (.if_icmp .ge 7, 3) := by decide +kernel
theorem dX7_costs_137 : decode cX7_costs 137 = .ok (.iconst 1, 1) := by decide +kernel
theorem dX7_costs_138 : decode cX7_costs 138 = .ok (.goto 4, 3) := by decide +kernel
theorem dX7_costs_141 : decode cX7_costs 141 = .ok (.iconst 0, 1) := by decide +kernel
theorem dX7_costs_142 : decode cX7_costs 142 = .ok (.istore 8, 2) := by decide +kernel
theorem dX7_costs_144 : decode cX7_costs 144 = .ok (.aload_n 0, 1) := by decide +kernel
theorem dX7_costs_145 : decode cX7_costs 145 = .ok (.getfield 35, 3) := by decide +kernel
theorem dX7_costs_148 : decode cX7_costs 148 = .ok (.iload 5, 2) := by decide +kernel
theorem dX7_costs_150 : decode cX7_costs 150 = .ok (.iload 8, 2) := by decide +kernel
theorem dX7_costs_152 : decode cX7_costs 152 = .ok (.ifCond .eq 16, 3) := by decide +kernel
theorem dX7_costs_155 : decode cX7_costs 155 = .ok (.aload_n 0, 1) := by decide +kernel
theorem dX7_costs_156 : decode cX7_costs 156 = .ok (.getfield 35, 3) := by decide +kernel
theorem dX7_costs_159 : decode cX7_costs 159 = .ok (.iload 7, 2) := by decide +kernel
theorem dX7_costs_161 : decode cX7_costs 161 = .ok (.iaload, 1) := by decide +kernel
theorem dX7_costs_162 : decode cX7_costs 162 = .ok (.iload 6, 2) := by decide +kernel
theorem dX7_costs_164 : decode cX7_costs 164 = .ok (.iadd, 1) := by decide +kernel
theorem dX7_costs_165 : decode cX7_costs 165 = .ok (.goto 10, 3) := by decide +kernel
theorem dX7_costs_168 : decode cX7_costs 168 = .ok (.aload_n 0, 1) := by decide +kernel
theorem dX7_costs_169 : decode cX7_costs 169 = .ok (.getfield 35, 3) := by decide +kernel
theorem dX7_costs_172 : decode cX7_costs 172 = .ok (.iload 5, 2) := by decide +kernel
theorem dX7_costs_174 : decode cX7_costs 174 = .ok (.iaload, 1) := by decide +kernel
theorem dX7_costs_175 : decode cX7_costs 175 = .ok (.iastore, 1) := by decide +kernel
theorem dX7_costs_176 : decode cX7_costs 176 = .ok (.iload 4, 2) := by decide +kernel
theorem dX7_costs_178 : decode cX7_costs 178 = .ok (.ifCond .ne 8, 3) := by decide +kernel
theorem dX7_costs_181 : decode cX7_costs 181 = .ok (.iload 8, 2) := by decide +kernel
theorem dX7_costs_183 : decode cX7_costs 183 = .ok (.ifCond .eq 7, 3) := by decide +kernel
theorem dX7_costs_186 : decode cX7_costs 186 = .ok (.iconst 1, 1) := by decide +kernel
theorem dX7_costs_187 : decode cX7_costs 187 = .ok (.goto 4, 3) := by decide +kernel
theorem dX7_costs_190 : decode cX7_costs 190 = .ok (.iconst 0, 1) := by decide +kernel
theorem dX7_costs_191 : decode cX7_costs 191 = .ok (.istore 4, 2) := by decide +kernel
theorem dX7_costs_193 : decode cX7_costs 193 = .ok (.iinc 7 1, 3) := by decide +kernel
theorem dX7_costs_196 : decode cX7_costs 196 = .ok (.goto (-96), 3) := by decide +kernel
theorem dX7_costs_199 : decode cX7_costs 199 = .ok (.iinc 5 1, 3) := by decide +kernel
theorem dX7_costs_202 : decode cX7_costs 202 = .ok (.goto (-129), 3) := by decide +kernel
theorem dX7_costs_205 : decode cX7_costs 205 = .ok (.goto (-143), 3) := by decide +kernel
theorem dX7_costs_208 : decode cX7_costs 208 = .ok (.aload_n 0, 1) := by decide +kernel
theorem dX7_costs_209 : decode cX7_costs 209 = .ok (.getfield 35, 3) := by decide +kernel
theorem dX7_costs_212 : decode cX7_costs 212 = .ok (.iload_n 1, 1) := by decide +kernel
theorem dX7_costs_213 : decode cX7_costs 213 = .ok (.iaload, 1) := by decide +kernel
theorem dX7_costs_214 : decode cX7_costs 214 = .ok (.ireturn, 1) := by decide +kernel
theorem dX7_stones_0 : decode cX7_stones 0 = .ok (.aload_n 0, 1) := by decide +kernel
theorem dX7_stones_1 : decode cX7_stones 1 = .ok (.iconst 0, 1) := by decide +kernel
theorem dX7_stones_2 : decode cX7_stones 2 = .ok (.putfield 47, 3) := by decide +kernel
theorem dX7_stones_5 : decode cX7_stones 5 = .ok (.aload_n 0, 1) := by decide +kernel
theorem dX7_stones_6 : decode cX7_stones 6 = .ok (.iload_n 1, 1) := by decide +kernel
theorem dX7_stones_7 : decode cX7_stones 7 = .ok (.invokevirtual 137, 3) := by decide +kernel
theorem dX7_stones_10 : decode cX7_stones 10 = .ok (.ifCond .eq 20, 3) := by decide +kernel
theorem dX7_stones_13 : decode cX7_stones 13 = .ok (.aload_n 0, 1) := by decide +kernel
theorem dX7_stones_14 : decode cX7_stones 14 = .ok (.iload_n 2, 1) := by decide +kernel
theorem dX7_stones_15 : decode cX7_stones 15 = .ok (.invokevirtual 137, 3) := by decide +kernel
theorem dX7_stones_18 : decode cX7_stones 18 = .ok (.ifCond .eq 12, 3) := by decide +kernel
theorem dX7_stones_21 : decode cX7_stones 21 = .ok (.aload_n 0, 1) := by decide +kernel
theorem dX7_stones_22 : decode cX7_stones 22 = .ok (.iload_n 1, 1) := by decide +kernel
theorem dX7_stones_23 : decode cX7_stones 23 = .ok (.iload_n 2, 1) := by decide +kernel
theorem dX7_stones_24 : decode cX7_stones 24 = .ok (.invokevirtual 178, 3) := by decide +kernel
theorem dX7_stones_27 : decode cX7_stones 27 = .ok (.goto 4, 3) := by decide +kernel
theorem dX7_stones_30 : decode cX7_stones 30 = .ok (.iconst (-1), 1) := by decide +kernel
theorem dX7_stones_31 : decode cX7_stones 31 = .ok (.ireturn, 1) := by decide +kernel
theorem dX7_bearing_0 : decode cX7_bearing 0 = .ok (.iconst 0, 1) := by decide +kernel
theorem dX7_bearing_1 : decode cX7_bearing 1 = .ok (.istore_n 1, 1) := by decide +kernel
theorem dX7_bearing_2 : decode cX7_bearing 2 = .ok (.iconst 0, 1) := by decide +kernel
theorem dX7_bearing_3 : decode cX7_bearing 3 = .ok (.istore_n 2, 1) := by decide +kernel
theorem dX7_bearing_4 : decode cX7_bearing 4 = .ok (.iload_n 2, 1) := by decide +kernel
theorem dX7_bearing_5 : decode cX7_bearing 5 = .ok (.aload_n 0, 1) := by decide +kernel
theorem dX7_bearing_6 : decode cX7_bearing 6 = .ok (.getfield 51, 3) := by decide +kernel
theorem dX7_bearing_9 : decode cX7_bearing 9 = .ok (.aload_n 0, 1) := by decide +kernel
theorem dX7_bearing_10 : decode cX7_bearing 10 = .ok (.getfield 54, 3) := by decide +kernel
theorem dX7_bearing_13 : decode cX7_bearing 13 = .ok (.imul, 1) := by decide +kernel
theorem dX7_bearing_14 : decode cX7_bearing 14 = .ok (.if_icmp .ge 29, 3) := by decide +kernel
theorem dX7_bearing_17 : decode cX7_bearing 17 = .ok (.iload_n 1, 1) := by decide +kernel
theorem dX7_bearing_18 : decode cX7_bearing 18 = .ok (.aload_n 0, 1) := by decide +kernel
theorem dX7_bearing_19 : decode cX7_bearing 19 = .ok (.getfield 25, 3) := by decide +kernel
theorem dX7_bearing_22 : decode cX7_bearing 22 = .ok (.iload_n 2, 1) := by decide +kernel
theorem dX7_bearing_23 : decode cX7_bearing 23 = .ok (.iaload, 1) := by decide +kernel
theorem dX7_bearing_24 : decode cX7_bearing 24 = .ok (.iconst 1, 1) := by decide +kernel
theorem dX7_bearing_25 : decode cX7_bearing 25 = .ok (.if_icmp .eq 9, 3) := by decide +kernel
theorem dX7_bearing_28 : decode cX7_bearing 28 = .ok (.iconst 1, 1) := by decide +kernel
theorem dX7_bearing_29 : decode cX7_bearing 29 = .ok (.iload_n 2, 1) := by decide +kernel
theorem dX7_bearing_30 : decode cX7_bearing 30 = .ok (.ishl, 1) := by decide +kernel
theorem dX7_bearing_31 : decode cX7_bearing 31 = .ok (.goto 4, 3) := by decide +kernel
theorem dX7_bearing_34 : decode cX7_bearing 34 = .ok (.iconst 0, 1) := by decide +kernel
theorem dX7_bearing_35 : decode cX7_bearing 35 = .ok (.ior, 1) := by decide +kernel
theorem dX7_bearing_36 : decode cX7_bearing 36 = .ok (.istore_n 1, 1) := by decide +kernel
theorem dX7_bearing_37 : decode cX7_bearing 37 = .ok (.iinc 2 1, 3) := by decide +kernel
theorem dX7_bearing_40 : decode cX7_bearing 40 = .ok (.goto (-36), 3) := by decide +kernel
theorem dX7_bearing_43 : decode cX7_bearing 43 = .ok (.iload_n 1, 1) := by decide +kernel
theorem dX7_bearing_44 : decode cX7_bearing 44 = .ok (.ireturn, 1) := by decide +kernel
theorem dX7_listsBogs_0 : decode cX7_listsBogs 0 = .ok (.iconst 0, 1) := by decide +kernel
theorem dX7_listsBogs_1 : decode cX7_listsBogs 1 = .ok (.istore_n 1, 1) := by decide +kernel
theorem dX7_listsBogs_2 : decode cX7_listsBogs 2 = .ok (.iconst 0, 1) := by decide +kernel
theorem dX7_listsBogs_3 : decode cX7_listsBogs 3 = .ok (.istore_n 2, 1) := by decide +kernel
theorem dX7_listsBogs_4 : decode cX7_listsBogs 4 = .ok (.iload_n 2, 1) := by decide +kernel
theorem dX7_listsBogs_5 : decode cX7_listsBogs 5 = .ok (.aload_n 0, 1) := by decide +kernel
theorem dX7_listsBogs_6 : decode cX7_listsBogs 6 = .ok (.getfield 51, 3) := by decide +kernel
theorem dX7_listsBogs_9 : decode cX7_listsBogs 9 = .ok (.aload_n 0, 1) := by decide +kernel
theorem dX7_listsBogs_10 : decode cX7_listsBogs 10 = .ok (.getfield 54, 3) := by decide +kernel
theorem dX7_listsBogs_13 : decode cX7_listsBogs 13 = .ok (.imul, 1) := by decide +kernel
theorem dX7_listsBogs_14 : decode cX7_listsBogs 14 = .ok (.if_icmp .ge 29, 3) := by decide +kernel
theorem dX7_listsBogs_17 : decode cX7_listsBogs 17 = .ok (.aload_n 0, 1) := by decide +kernel
theorem dX7_listsBogs_18 : decode cX7_listsBogs 18 = .ok (.getfield 25, 3) := by decide +kernel
theorem dX7_listsBogs_21 : decode cX7_listsBogs 21 = .ok (.iload_n 2, 1) := by decide +kernel
theorem dX7_listsBogs_22 : decode cX7_listsBogs 22 = .ok (.iaload, 1) := by decide +kernel
theorem dX7_listsBogs_23 : decode cX7_listsBogs 23 = .ok (.iconst 1, 1) := by decide +kernel
theorem dX7_listsBogs_24 : decode cX7_listsBogs 24 = .ok (.if_icmp .ne 13, 3) := by decide +kernel
theorem dX7_listsBogs_27 : decode cX7_listsBogs 27 = .ok (.aload_n 0, 1) := by decide +kernel
theorem dX7_listsBogs_28 : decode cX7_listsBogs 28 = .ok (.getfield 38, 3) := by decide +kernel
theorem dX7_listsBogs_31 : decode cX7_listsBogs 31 = .ok (.iload_n 1, 1) := by decide +kernel
theorem dX7_listsBogs_32 : decode cX7_listsBogs 32 = .ok (.iload_n 2, 1) := by decide +kernel
theorem dX7_listsBogs_33 : decode cX7_listsBogs 33 = .ok (.iastore, 1) := by decide +kernel
theorem dX7_listsBogs_34 : decode cX7_listsBogs 34 = .ok (.iinc 1 1, 3) := by decide +kernel
theorem dX7_listsBogs_37 : decode cX7_listsBogs 37 = .ok (.iinc 2 1, 3) := by decide +kernel
theorem dX7_listsBogs_40 : decode cX7_listsBogs 40 = .ok (.goto (-36), 3) := by decide +kernel
theorem dX7_listsBogs_43 : decode cX7_listsBogs 43 = .ok (.iload_n 1, 1) := by decide +kernel
theorem dX7_listsBogs_44 : decode cX7_listsBogs 44 = .ok (.ireturn, 1) := by decide +kernel
theorem dX7_chosen_0 : decode cX7_chosen 0 = .ok (.iconst 0, 1) := by decide +kernel
theorem dX7_chosen_1 : decode cX7_chosen 1 = .ok (.istore_n 3, 1) := by decide +kernel
theorem dX7_chosen_2 : decode cX7_chosen 2 = .ok (.iconst 0, 1) := by decide +kernel
theorem dX7_chosen_3 : decode cX7_chosen 3 = .ok (.istore 4, 2) := by decide +kernel
theorem dX7_chosen_5 : decode cX7_chosen 5 = .ok (.iload 4, 2) := by decide +kernel
theorem dX7_chosen_7 : decode cX7_chosen 7 = .ok (.iload_n 2, 1) := by decide +kernel
theorem dX7_chosen_8 : decode cX7_chosen 8 = .ok (.if_icmp .ge 26, 3) := by decide +kernel
theorem dX7_chosen_11 : decode cX7_chosen 11 = .ok (.iload_n 3, 1) := by decide +kernel
theorem dX7_chosen_12 : decode cX7_chosen 12 = .ok (.iload_n 1, 1) := by decide +kernel
theorem dX7_chosen_13 : decode cX7_chosen 13 = .ok (.iload 4, 2) := by decide +kernel
theorem dX7_chosen_15 : decode cX7_chosen 15 = .ok (.ishr, 1) := by decide +kernel
theorem dX7_chosen_16 : decode cX7_chosen 16 = .ok (.iconst 1, 1) := by decide +kernel
theorem dX7_chosen_17 : decode cX7_chosen 17 = .ok (.iand, 1) := by decide +kernel
theorem dX7_chosen_18 : decode cX7_chosen 18 = .ok (.aload_n 0, 1) := by decide +kernel
theorem dX7_chosen_19 : decode cX7_chosen 19 = .ok (.getfield 38, 3) := by decide +kernel
theorem dX7_chosen_22 : decode cX7_chosen 22 = .ok (.iload 4, 2) := by decide +kernel
theorem dX7_chosen_24 : decode cX7_chosen 24 = .ok (.iaload, 1) := by decide +kernel
theorem dX7_chosen_25 : decode cX7_chosen 25 = .ok (.ishl, 1) := by decide +kernel
theorem dX7_chosen_26 : decode cX7_chosen 26 = .ok (.ior, 1) := by decide +kernel
theorem dX7_chosen_27 : decode cX7_chosen 27 = .ok (.istore_n 3, 1) := by decide +kernel
theorem dX7_chosen_28 : decode cX7_chosen 28 = .ok (.iinc 4 1, 3) := by decide +kernel
theorem dX7_chosen_31 : decode cX7_chosen 31 = .ok (.goto (-26), 3) := by decide +kernel
theorem dX7_chosen_34 : decode cX7_chosen 34 = .ok (.iload_n 3, 1) := by decide +kernel
theorem dX7_chosen_35 : decode cX7_chosen 35 = .ok (.ireturn, 1) := by decide +kernel
theorem dX7_nears_0 : decode cX7_nears 0 = .ok (.iconst 0, 1) := by decide +kernel
theorem dX7_nears_1 : decode cX7_nears 1 = .ok (.istore_n 1, 1) := by decide +kernel
theorem dX7_nears_2 : decode cX7_nears 2 = .ok (.iload_n 1, 1) := by decide +kernel
theorem dX7_nears_3 : decode cX7_nears 3 = .ok (.aload_n 0, 1) := by decide +kernel
theorem dX7_nears_4 : decode cX7_nears 4 = .ok (.getfield 51, 3) := by decide +kernel
theorem dX7_nears_7 : decode cX7_nears 7 = .ok (.aload_n 0, 1) := by decide +kernel
theorem dX7_nears_8 : decode cX7_nears 8 = .ok (.getfield 54, 3) := by decide +kernel
theorem dX7_nears_11 : decode cX7_nears 11 = .ok (.imul, 1) := by decide +kernel
theorem dX7_nears_12 : decode cX7_nears 12 = .ok (.if_icmp .ge 62, 3) := by decide +kernel
theorem dX7_nears_15 : decode cX7_nears 15 = .ok (.aload_n 0, 1) := by decide +kernel
theorem dX7_nears_16 : decode cX7_nears 16 = .ok (.getfield 41, 3) := by decide +kernel
theorem dX7_nears_19 : decode cX7_nears 19 = .ok (.iload_n 1, 1) := by decide +kernel
theorem dX7_nears_20 : decode cX7_nears 20 = .ok (.iconst 0, 1) := by decide +kernel
theorem dX7_nears_21 : decode cX7_nears 21 = .ok (.iastore, 1) := by decide +kernel
theorem dX7_nears_22 : decode cX7_nears 22 = .ok (.iconst 0, 1) := by decide +kernel
theorem dX7_nears_23 : decode cX7_nears 23 = .ok (.istore_n 2, 1) := by decide +kernel
theorem dX7_nears_24 : decode cX7_nears 24 = .ok (.iload_n 2, 1) := by decide +kernel
theorem dX7_nears_25 : decode cX7_nears 25 = .ok (.aload_n 0, 1) := by decide +kernel
theorem dX7_nears_26 : decode cX7_nears 26 = .ok (.getfield 51, 3) := by decide +kernel
theorem dX7_nears_29 : decode cX7_nears 29 = .ok (.aload_n 0, 1) := by decide +kernel
theorem dX7_nears_30 : decode cX7_nears 30 = .ok (.getfield 54, 3) := by decide +kernel
theorem dX7_nears_33 : decode cX7_nears 33 = .ok (.imul, 1) := by decide +kernel
theorem dX7_nears_34 : decode cX7_nears 34 = .ok (.if_icmp .ge 34, 3) := by decide +kernel
theorem dX7_nears_37 : decode cX7_nears 37 = .ok (.aload_n 0, 1) := by decide +kernel
theorem dX7_nears_38 : decode cX7_nears 38 = .ok (.getfield 41, 3) := by decide +kernel
theorem dX7_nears_41 : decode cX7_nears 41 = .ok (.iload_n 1, 1) := by decide +kernel
theorem dX7_nears_42 : decode cX7_nears 42 = .ok (.dup2, 1) := by decide +kernel
theorem dX7_nears_43 : decode cX7_nears 43 = .ok (.iaload, 1) := by decide +kernel
theorem dX7_nears_44 : decode cX7_nears 44 = .ok (.aload_n 0, 1) := by decide +kernel
theorem dX7_nears_45 : decode cX7_nears 45 = .ok (.iload_n 1, 1) := by decide +kernel
theorem dX7_nears_46 : decode cX7_nears 46 = .ok (.iload_n 2, 1) := by decide +kernel
theorem dX7_nears_47 : decode cX7_nears 47 = .ok (.invokevirtual 151, 3) := by decide +kernel
theorem dX7_nears_50 : decode cX7_nears 50 = .ok (.ifCond .eq 9, 3) := by decide +kernel
theorem dX7_nears_53 : decode cX7_nears 53 = .ok (.iconst 1, 1) := by decide +kernel
theorem dX7_nears_54 : decode cX7_nears 54 = .ok (.iload_n 2, 1) := by decide +kernel
theorem dX7_nears_55 : decode cX7_nears 55 = .ok (.ishl, 1) := by decide +kernel
theorem dX7_nears_56 : decode cX7_nears 56 = .ok (.goto 4, 3) := by decide +kernel
theorem dX7_nears_59 : decode cX7_nears 59 = .ok (.iconst 0, 1) := by decide +kernel
theorem dX7_nears_60 : decode cX7_nears 60 = .ok (.ior, 1) := by decide +kernel
theorem dX7_nears_61 : decode cX7_nears 61 = .ok (.iastore, 1) := by decide +kernel
theorem dX7_nears_62 : decode cX7_nears 62 = .ok (.iinc 2 1, 3) := by decide +kernel
theorem dX7_nears_65 : decode cX7_nears 65 = .ok (.goto (-41), 3) := by decide +kernel
theorem dX7_nears_68 : decode cX7_nears 68 = .ok (.iinc 1 1, 3) := by decide +kernel
theorem dX7_nears_71 : decode cX7_nears 71 = .ok (.goto (-69), 3) := by decide +kernel
theorem dX7_nears_74 : decode cX7_nears 74 = .ok (.return_, 1) := by decide +kernel
theorem dX7_reached_0 : decode cX7_reached 0 = .ok (.iconst 1, 1) := by decide +kernel
theorem dX7_reached_1 : decode cX7_reached 1 = .ok (.iload_n 1, 1) := by decide +kernel
theorem dX7_reached_2 : decode cX7_reached 2 = .ok (.ishl, 1) := by decide +kernel
theorem dX7_reached_3 : decode cX7_reached 3 = .ok (.istore_n 3, 1) := by decide +kernel
theorem dX7_reached_4 : decode cX7_reached 4 = .ok (.iconst 1, 1) := by decide +kernel
theorem dX7_reached_5 : decode cX7_reached 5 = .ok (.istore 4, 2) := by decide +kernel
theorem dX7_reached_7 : decode cX7_reached 7 = .ok (.iload 4, 2) := by decide +kernel
theorem dX7_reached_9 : decode cX7_reached 9 = .ok (.ifCond .eq 76, 3) := by decide +kernel
theorem dX7_reached_12 : decode cX7_reached 12 = .ok (.iload_n 3, 1) := by decide +kernel
theorem dX7_reached_13 : decode cX7_reached 13 = .ok (.istore 5, 2) := by decide +kernel
theorem dX7_reached_15 : decode cX7_reached 15 = .ok (.iconst 0, 1) := by decide +kernel
theorem dX7_reached_16 : decode cX7_reached 16 = .ok (.istore 6, 2) := by decide +kernel
theorem dX7_reached_18 : decode cX7_reached 18 = .ok (.iload 6, 2) := by decide +kernel
theorem dX7_reached_20 : decode cX7_reached 20 = .ok (.aload_n 0, 1) := by decide +kernel
theorem dX7_reached_21 : decode cX7_reached 21 = .ok (.getfield 51, 3) := by decide +kernel
theorem dX7_reached_24 : decode cX7_reached 24 = .ok (.aload_n 0, 1) := by decide +kernel
theorem dX7_reached_25 : decode cX7_reached 25 = .ok (.getfield 54, 3) := by decide +kernel
theorem dX7_reached_28 : decode cX7_reached 28 = .ok (.imul, 1) := by decide +kernel
theorem dX7_reached_29 : decode cX7_reached 29 = .ok (.if_icmp .ge 37, 3) := by decide +kernel
theorem dX7_reached_32 : decode cX7_reached 32 = .ok (.iload 5, 2) := by decide +kernel
theorem dX7_reached_34 : decode cX7_reached 34 = .ok (.iload_n 3, 1) := by decide +kernel
theorem dX7_reached_35 : decode cX7_reached 35 = .ok (.iload 6, 2) := by decide +kernel
theorem dX7_reached_37 : decode cX7_reached 37 = .ok (.ishr, 1) := by decide +kernel
theorem dX7_reached_38 : decode cX7_reached 38 = .ok (.iconst 1, 1) := by decide +kernel
theorem dX7_reached_39 : decode cX7_reached 39 = .ok (.iand, 1) := by decide +kernel
theorem dX7_reached_40 : decode cX7_reached 40 = .ok (.iconst 1, 1) := by decide +kernel
theorem dX7_reached_41 : decode cX7_reached 41 = .ok (.if_icmp .ne 15, 3) := by decide +kernel
theorem dX7_reached_44 : decode cX7_reached 44 = .ok (.aload_n 0, 1) := by decide +kernel
theorem dX7_reached_45 : decode cX7_reached 45 = .ok (.getfield 41, 3) := by decide +kernel
theorem dX7_reached_48 : decode cX7_reached 48 = .ok (.iload 6, 2) := by decide +kernel
theorem dX7_reached_50 : decode cX7_reached 50 = .ok (.iaload, 1) := by decide +kernel
theorem dX7_reached_51 : decode cX7_reached 51 = .ok (.iload_n 2, 1) := by decide +kernel
theorem dX7_reached_52 : decode cX7_reached 52 = .ok (.iand, 1) := by decide +kernel
theorem dX7_reached_53 : decode cX7_reached 53 = .ok (.goto 4, 3) := by decide +kernel
theorem dX7_reached_56 : decode cX7_reached 56 = .ok (.iconst 0, 1) := by decide +kernel
theorem dX7_reached_57 : decode cX7_reached 57 = .ok (.ior, 1) := by decide +kernel
theorem dX7_reached_58 : decode cX7_reached 58 = .ok (.istore 5, 2) := by decide +kernel
theorem dX7_reached_60 : decode cX7_reached 60 = .ok (.iinc 6 1, 3) := by decide +kernel
theorem dX7_reached_63 : decode cX7_reached 63 = .ok (.goto (-45), 3) := by decide +kernel
theorem dX7_reached_66 : decode cX7_reached 66 = .ok (.iload 5, 2) := by decide +kernel
theorem dX7_reached_68 : decode cX7_reached 68 = .ok (.iload_n 3, 1) := by decide +kernel
theorem dX7_reached_69 : decode cX7_reached 69 = .ok (.if_icmp .eq 7, 3) := by decide +kernel
theorem dX7_reached_72 : decode cX7_reached 72 = .ok (.iconst 1, 1) := by decide +kernel
theorem dX7_reached_73 : decode cX7_reached 73 = .ok (.goto 4, 3) := by decide +kernel
theorem dX7_reached_76 : decode cX7_reached 76 = .ok (.iconst 0, 1) := by decide +kernel
theorem dX7_reached_77 : decode cX7_reached 77 = .ok (.istore 4, 2) := by decide +kernel
theorem dX7_reached_79 : decode cX7_reached 79 = .ok (.iload 5, 2) := by decide +kernel
theorem dX7_reached_81 : decode cX7_reached 81 = .ok (.istore_n 3, 1) := by decide +kernel
theorem dX7_reached_82 : decode cX7_reached 82 = .ok (.goto (-75), 3) := by decide +kernel
theorem dX7_reached_85 : decode cX7_reached 85 = .ok (.iload_n 3, 1) := by decide +kernel
theorem dX7_reached_86 : decode cX7_reached 86 = .ok (.ireturn, 1) := by decide +kernel
theorem dX7_ones_0 : decode cX7_ones 0 = .ok (.iconst 0, 1) := by decide +kernel
theorem dX7_ones_1 : decode cX7_ones 1 = .ok (.istore_n 1, 1) := by decide +kernel
theorem dX7_ones_2 : decode cX7_ones 2 = .ok (.iconst 0, 1) := by decide +kernel
theorem dX7_ones_3 : decode cX7_ones 3 = .ok (.istore_n 2, 1) := by decide +kernel
theorem dX7_ones_4 : decode cX7_ones 4 = .ok (.iload_n 2, 1) := by decide +kernel
theorem dX7_ones_5 : decode cX7_ones 5 = .ok (.bipush 24, 2) := by decide +kernel
theorem dX7_ones_7 : decode cX7_ones 7 = .ok (.if_icmp .ge 17, 3) := by decide +kernel
theorem dX7_ones_10 : decode cX7_ones 10 = .ok (.iload_n 1, 1) := by decide +kernel
theorem dX7_ones_11 : decode cX7_ones 11 = .ok (.iload_n 0, 1) := by decide +kernel
theorem dX7_ones_12 : decode cX7_ones 12 = .ok (.iload_n 2, 1) := by decide +kernel
theorem dX7_ones_13 : decode cX7_ones 13 = .ok (.ishr, 1) := by decide +kernel
theorem dX7_ones_14 : decode cX7_ones 14 = .ok (.iconst 1, 1) := by decide +kernel
theorem dX7_ones_15 : decode cX7_ones 15 = .ok (.iand, 1) := by decide +kernel
theorem dX7_ones_16 : decode cX7_ones 16 = .ok (.iadd, 1) := by decide +kernel
theorem dX7_ones_17 : decode cX7_ones 17 = .ok (.istore_n 1, 1) := by decide +kernel
theorem dX7_ones_18 : decode cX7_ones 18 = .ok (.iinc 2 1, 3) := by decide +kernel
theorem dX7_ones_21 : decode cX7_ones 21 = .ok (.goto (-17), 3) := by decide +kernel
theorem dX7_ones_24 : decode cX7_ones 24 = .ok (.iload_n 1, 1) := by decide +kernel
theorem dX7_ones_25 : decode cX7_ones 25 = .ok (.ireturn, 1) := by decide +kernel
theorem dX7_joins_0 : decode cX7_joins 0 = .ok (.iconst 0, 1) := by decide +kernel
theorem dX7_joins_1 : decode cX7_joins 1 = .ok (.istore_n 3, 1) := by decide +kernel
theorem dX7_joins_2 : decode cX7_joins 2 = .ok (.iload_n 1, 1) := by decide +kernel
theorem dX7_joins_3 : decode cX7_joins 3 = .ok (.iload_n 3, 1) := by decide +kernel
theorem dX7_joins_4 : decode cX7_joins 4 = .ok (.ishr, 1) := by decide +kernel
theorem dX7_joins_5 : decode cX7_joins 5 = .ok (.iconst 1, 1) := by decide +kernel
theorem dX7_joins_6 : decode cX7_joins 6 = .ok (.iand, 1) := by decide +kernel
theorem dX7_joins_7 : decode cX7_joins 7 = .ok (.ifCond .ne 9, 3) := by decide +kernel
theorem dX7_joins_10 : decode cX7_joins 10 = .ok (.iinc 3 1, 3) := by decide +kernel
theorem dX7_joins_13 : decode cX7_joins 13 = .ok (.goto (-11), 3) := by decide +kernel
theorem dX7_joins_16 : decode cX7_joins 16 = .ok (.bipush (-9), 2) := by decide +kernel
theorem dX7_joins_18 : decode cX7_joins 18 = .ok (.istore 4, 2) := by decide +kernel
theorem dX7_joins_20 : decode cX7_joins 20 = .ok (.iconst 0, 1) := by decide +kernel
theorem dX7_joins_21 : decode cX7_joins 21 = .ok (.istore 5, 2) := by decide +kernel
theorem dX7_joins_23 : decode cX7_joins 23 = .ok (.iload 5, 2) := by decide +kernel
theorem dX7_joins_25 : decode cX7_joins 25 = .ok (.iconst 1, 1) := by decide +kernel
theorem dX7_joins_26 : decode cX7_joins 26 = .ok (.iload_n 2, 1) := by decide +kernel
theorem dX7_joins_27 : decode cX7_joins 27 = .ok (.ishl, 1) := by decide +kernel
theorem dX7_joins_28 : decode cX7_joins 28 = .ok (.if_icmp .ge 84, 3) := by decide +kernel
theorem dX7_joins_31 : decode cX7_joins 31 = .ok (.aload_n 0, 1) := by decide +kernel
theorem dX7_joins_32 : decode cX7_joins 32 = .ok (.iload 5, 2) := by decide +kernel
theorem dX7_joins_34 : decode cX7_joins 34 = .ok (.iload_n 2, 1) := by decide +kernel
theorem dX7_joins_35 : decode cX7_joins 35 = .ok (.invokevirtual 181, 3) := by decide +kernel
theorem dX7_joins_38 : decode cX7_joins 38 = .ok (.istore 6, 2) := by decide +kernel
theorem dX7_joins_40 : decode cX7_joins 40 = .ok (.aload_n 0, 1) := by decide +kernel
theorem dX7_joins_41 : decode cX7_joins 41 = .ok (.invokevirtual 184, 3) := by decide +kernel
theorem dX7_joins_44 : decode cX7_joins 44 = .ok (.iload 6, 2) := by decide +kernel
theorem dX7_joins_46 : decode cX7_joins 46 = .ok (.ior, 1) := by decide +kernel
theorem dX7_joins_47 : decode cX7_joins 47 = .ok (.istore 7, 2) := by decide +kernel
theorem dX7_joins_49 : decode cX7_joins 49 = .ok (.iload 4, 2) := by decide +kernel
theorem dX7_joins_51 : decode cX7_joins 51 = .ok (.bipush (-9), 2) := by decide +kernel
theorem dX7_joins_53 : decode cX7_joins 53 = .ok (.if_icmp .eq 16, 3) := by decide +kernel
theorem dX7_joins_56 : decode cX7_joins 56 = .ok (.iload 6, 2) := by decide +kernel
theorem dX7_joins_58 : decode cX7_joins 58 = .ok (.invokestatic 187, 3) := by decide +kernel
theorem dX7_joins_61 : decode cX7_joins 61 = .ok (.iload 4, 2) := by decide +kernel
theorem dX7_joins_63 : decode cX7_joins 63 = .ok (.invokestatic 187, 3) := by decide +kernel
theorem dX7_joins_66 : decode cX7_joins 66 = .ok (.if_icmp .ge 7, 3) := by decide +kernel
theorem dX7_joins_69 : decode cX7_joins 69 = .ok (.iconst 1, 1) := by decide +kernel
theorem dX7_joins_70 : decode cX7_joins 70 = .ok (.goto 4, 3) := by decide +kernel
theorem dX7_joins_73 : decode cX7_joins 73 = .ok (.iconst 0, 1) := by decide +kernel
theorem dX7_joins_74 : decode cX7_joins 74 = .ok (.istore 8, 2) := by decide +kernel
theorem dX7_joins_76 : decode cX7_joins 76 = .ok (.iload 8, 2) := by decide +kernel
theorem dX7_joins_78 : decode cX7_joins 78 = .ok (.ifCond .eq 28, 3) := by decide +kernel
theorem dX7_joins_81 : decode cX7_joins 81 = .ok (.iload 7, 2) := by decide +kernel
theorem dX7_joins_83 : decode cX7_joins 83 = .ok (.iload_n 1, 1) := by decide +kernel
theorem dX7_joins_84 : decode cX7_joins 84 = .ok (.iand, 1) := by decide +kernel
theorem dX7_joins_85 : decode cX7_joins 85 = .ok (.iload_n 1, 1) := by decide +kernel
theorem dX7_joins_86 : decode cX7_joins 86 = .ok (.if_icmp .ne 20, 3) := by decide +kernel
theorem dX7_joins_89 : decode cX7_joins 89 = .ok (.aload_n 0, 1) := by decide +kernel
theorem dX7_joins_90 : decode cX7_joins 90 = .ok (.iload_n 3, 1) := by decide +kernel
theorem dX7_joins_91 : decode cX7_joins 91 = .ok (.iload 7, 2) := by decide +kernel
theorem dX7_joins_93 : decode cX7_joins 93 = .ok (.invokevirtual 190, 3) := by decide +kernel
theorem dX7_joins_96 : decode cX7_joins 96 = .ok (.iload_n 1, 1) := by decide +kernel
theorem dX7_joins_97 : decode cX7_joins 97 = .ok (.iand, 1) := by decide +kernel
theorem dX7_joins_98 : decode cX7_joins 98 = .ok (.iload_n 1, 1) := by decide +kernel
theorem dX7_joins_99 : decode cX7_joins 99 = .ok (.if_icmp .ne 7, 3) := by decide +kernel
theorem dX7_joins_102 : decode cX7_joins 102 = .ok (.iload 6, 2) := by decide +kernel
theorem dX7_joins_104 : decode cX7_joins 104 = .ok (.istore 4, 2) := by decide +kernel
theorem dX7_joins_106 : decode cX7_joins 106 = .ok (.iinc 5 1, 3) := by decide +kernel
theorem dX7_joins_109 : decode cX7_joins 109 = .ok (.goto (-86), 3) := by decide +kernel
theorem dX7_joins_112 : decode cX7_joins 112 = .ok (.iload 4, 2) := by decide +kernel
theorem dX7_joins_114 : decode cX7_joins 114 = .ok (.ireturn, 1) := by decide +kernel
theorem dX7_joined_0 : decode cX7_joined 0 = .ok (.aload_n 0, 1) := by decide +kernel
theorem dX7_joined_1 : decode cX7_joined 1 = .ok (.iconst 0, 1) := by decide +kernel
theorem dX7_joined_2 : decode cX7_joined 2 = .ok (.putfield 47, 3) := by decide +kernel
theorem dX7_joined_5 : decode cX7_joined 5 = .ok (.iload_n 2, 1) := by decide +kernel
theorem dX7_joined_6 : decode cX7_joined 6 = .ok (.iconst 0, 1) := by decide +kernel
theorem dX7_joined_7 : decode cX7_joined 7 = .ok (.iconst 1, 1) := by decide +kernel
theorem dX7_joined_8 : decode cX7_joined 8 = .ok (.invokestatic 57, 3) := by decide +kernel
theorem dX7_joined_11 : decode cX7_joined 11 = .ok (.ifCond .ne 5, 3) := by decide +kernel
theorem dX7_joined_14 : decode cX7_joined 14 = .ok (.iconst (-1), 1) := by decide +kernel
theorem dX7_joined_15 : decode cX7_joined 15 = .ok (.ireturn, 1) := by decide +kernel
theorem dX7_joined_16 : decode cX7_joined 16 = .ok (.aload_n 0, 1) := by decide +kernel
theorem dX7_joined_17 : decode cX7_joined 17 = .ok (.invokevirtual 193, 3) := by decide +kernel
theorem dX7_joined_20 : decode cX7_joined 20 = .ok (.istore_n 3, 1) := by decide +kernel
theorem dX7_joined_21 : decode cX7_joined 21 = .ok (.iload_n 3, 1) := by decide +kernel
theorem dX7_joined_22 : decode cX7_joined 22 = .ok (.bipush 10, 2) := by decide +kernel
theorem dX7_joined_24 : decode cX7_joined 24 = .ok (.if_icmp .le 6, 3) := by decide +kernel
theorem dX7_joined_27 : decode cX7_joined 27 = .ok (.bipush (-2), 2) := by decide +kernel
theorem dX7_joined_29 : decode cX7_joined 29 = .ok (.ireturn, 1) := by decide +kernel
theorem dX7_joined_30 : decode cX7_joined 30 = .ok (.aload_n 0, 1) := by decide +kernel
theorem dX7_joined_31 : decode cX7_joined 31 = .ok (.invokevirtual 196, 3) := by decide +kernel
theorem dX7_joined_34 : decode cX7_joined 34 = .ok (.iload_n 1, 1) := by decide +kernel
theorem dX7_joined_35 : decode cX7_joined 35 = .ok (.iconst 1, 1) := by decide +kernel
theorem dX7_joined_36 : decode cX7_joined 36 = .ok (.aload_n 0, 1) := by decide +kernel
theorem dX7_joined_37 : decode cX7_joined 37 = .ok (.getfield 51, 3) := by decide +kernel
theorem dX7_joined_40 : decode cX7_joined 40 = .ok (.aload_n 0, 1) := by decide +kernel
theorem dX7_joined_41 : decode cX7_joined 41 = .ok (.getfield 54, 3) := by decide +kernel
theorem dX7_joined_44 : decode cX7_joined 44 = .ok (.imul, 1) := by decide +kernel
theorem dX7_joined_45 : decode cX7_joined 45 = .ok (.ishl, 1) := by decide +kernel
theorem dX7_joined_46 : decode cX7_joined 46 = .ok (.iconst 1, 1) := by decide +kernel
theorem dX7_joined_47 : decode cX7_joined 47 = .ok (.isub, 1) := by decide +kernel
theorem dX7_joined_48 : decode cX7_joined 48 = .ok (.iand, 1) := by decide +kernel
theorem dX7_joined_49 : decode cX7_joined 49 = .ok (.istore 4, 2) := by decide +kernel
theorem dX7_joined_51 : decode cX7_joined 51 = .ok (.iload 4, 2) := by decide +kernel
theorem dX7_joined_53 : decode cX7_joined 53 = .ok (.ifCond .ne 7, 3) := by decide +kernel
theorem dX7_joined_56 : decode cX7_joined 56 = .ok (.iconst 0, 1) := by decide +kernel
theorem dX7_joined_57 : decode cX7_joined 57 = .ok (.goto 10, 3) := by decide +kernel
theorem dX7_joined_60 : decode cX7_joined 60 = .ok (.aload_n 0, 1) := by decide +kernel
theorem dX7_joined_61 : decode cX7_joined 61 = .ok (.iload 4, 2) := by decide +kernel
theorem dX7_joined_63 : decode cX7_joined 63 = .ok (.iload_n 3, 1) := by decide +kernel
theorem dX7_joined_64 : decode cX7_joined 64 = .ok (.invokevirtual 199, 3) := by decide +kernel
theorem dX7_joined_67 : decode cX7_joined 67 = .ok (.istore 5, 2) := by decide +kernel
theorem dX7_joined_69 : decode cX7_joined 69 = .ok (.iload_n 2, 1) := by decide +kernel
theorem dX7_joined_70 : decode cX7_joined 70 = .ok (.ifCond .ne 11, 3) := by decide +kernel
theorem dX7_joined_73 : decode cX7_joined 73 = .ok (.iload 5, 2) := by decide +kernel
theorem dX7_joined_75 : decode cX7_joined 75 = .ok (.invokestatic 187, 3) := by decide +kernel
theorem dX7_joined_78 : decode cX7_joined 78 = .ok (.goto 5, 3) := by decide +kernel
theorem dX7_joined_81 : decode cX7_joined 81 = .ok (.iload 5, 2) := by decide +kernel
theorem dX7_joined_83 : decode cX7_joined 83 = .ok (.ireturn, 1) := by decide +kernel
theorem dX7_likes_0 : decode cX7_likes 0 = .ok (.aload_n 0, 1) := by decide +kernel
theorem dX7_likes_1 : decode cX7_likes 1 = .ok (.iconst 0, 1) := by decide +kernel
theorem dX7_likes_2 : decode cX7_likes 2 = .ok (.putfield 47, 3) := by decide +kernel
theorem dX7_likes_5 : decode cX7_likes 5 = .ok (.aload_n 0, 1) := by decide +kernel
theorem dX7_likes_6 : decode cX7_likes 6 = .ok (.iload_n 1, 1) := by decide +kernel
theorem dX7_likes_7 : decode cX7_likes 7 = .ok (.invokevirtual 141, 3) := by decide +kernel
theorem dX7_likes_10 : decode cX7_likes 10 = .ok (.ifCond .eq 11, 3) := by decide +kernel
theorem dX7_likes_13 : decode cX7_likes 13 = .ok (.aload_n 0, 1) := by decide +kernel
theorem dX7_likes_14 : decode cX7_likes 14 = .ok (.iload_n 1, 1) := by decide +kernel
theorem dX7_likes_15 : decode cX7_likes 15 = .ok (.invokevirtual 169, 3) := by decide +kernel
theorem dX7_likes_18 : decode cX7_likes 18 = .ok (.goto 4, 3) := by decide +kernel
theorem dX7_likes_21 : decode cX7_likes 21 = .ok (.iconst (-1), 1) := by decide +kernel
theorem dX7_likes_22 : decode cX7_likes 22 = .ok (.ireturn, 1) := by decide +kernel
theorem dX7_byTurns_0 : decode cX7_byTurns 0 = .ok (.aload_n 0, 1) := by decide +kernel
theorem dX7_byTurns_1 : decode cX7_byTurns 1 = .ok (.iconst 0, 1) := by decide +kernel
theorem dX7_byTurns_2 : decode cX7_byTurns 2 = .ok (.putfield 47, 3) := by decide +kernel
theorem dX7_byTurns_5 : decode cX7_byTurns 5 = .ok (.aload_n 0, 1) := by decide +kernel
theorem dX7_byTurns_6 : decode cX7_byTurns 6 = .ok (.iload_n 1, 1) := by decide +kernel
theorem dX7_byTurns_7 : decode cX7_byTurns 7 = .ok (.invokevirtual 137, 3) := by decide +kernel
theorem dX7_byTurns_10 : decode cX7_byTurns 10 = .ok (.ifCond .eq 11, 3) := by decide +kernel
theorem dX7_byTurns_13 : decode cX7_byTurns 13 = .ok (.aload_n 0, 1) := by decide +kernel
theorem dX7_byTurns_14 : decode cX7_byTurns 14 = .ok (.iload_n 2, 1) := by decide +kernel
theorem dX7_byTurns_15 : decode cX7_byTurns 15 = .ok (.invokevirtual 137, 3) := by decide +kernel
theorem dX7_byTurns_18 : decode cX7_byTurns 18 = .ok (.ifCond .ne 5, 3) := by decide +kernel
theorem dX7_byTurns_21 : decode cX7_byTurns 21 = .ok (.iconst (-1), 1) := by decide +kernel
theorem dX7_byTurns_22 : decode cX7_byTurns 22 = .ok (.ireturn, 1) := by decide +kernel
theorem dX7_byTurns_23 : decode cX7_byTurns 23 = .ok (.aload_n 0, 1) := by decide +kernel
theorem dX7_byTurns_24 : decode cX7_byTurns 24 = .ok (.invokevirtual 193, 3) := by decide +kernel
theorem dX7_byTurns_27 : decode cX7_byTurns 27 = .ok (.istore_n 3, 1) := by decide +kernel
theorem dX7_byTurns_28 : decode cX7_byTurns 28 = .ok (.iload_n 3, 1) := by decide +kernel
theorem dX7_byTurns_29 : decode cX7_byTurns 29 = .ok (.bipush 8, 2) := by decide +kernel
theorem dX7_byTurns_31 : decode cX7_byTurns 31 = .ok (.if_icmp .le 6, 3) := by decide +kernel
theorem dX7_byTurns_34 : decode cX7_byTurns 34 = .ok (.bipush (-2), 2) := by decide +kernel
theorem dX7_byTurns_36 : decode cX7_byTurns 36 = .ok (.ireturn, 1) := by decide +kernel
theorem dX7_byTurns_37 : decode cX7_byTurns 37 = .ok (.aload_n 0, 1) := by decide +kernel
theorem dX7_byTurns_38 : decode cX7_byTurns 38 = .ok (.invokevirtual 196, 3) := by decide +kernel
theorem dX7_byTurns_41 : decode cX7_byTurns 41 = .ok (.iconst 1, 1) := by decide +kernel
theorem dX7_byTurns_42 : decode cX7_byTurns 42 = .ok (.iload_n 3, 1) := by decide +kernel
theorem dX7_byTurns_43 : decode cX7_byTurns 43 = .ok (.ishl, 1) := by decide +kernel
theorem dX7_byTurns_44 : decode cX7_byTurns 44 = .ok (.iconst 1, 1) := by decide +kernel
theorem dX7_byTurns_45 : decode cX7_byTurns 45 = .ok (.isub, 1) := by decide +kernel
theorem dX7_byTurns_46 : decode cX7_byTurns 46 = .ok (.istore 4, 2) := by decide +kernel
theorem dX7_byTurns_48 : decode cX7_byTurns 48 = .ok (.iload 4, 2) := by decide +kernel
theorem dX7_byTurns_50 : decode cX7_byTurns 50 = .ok (.ifCond .lt 176, 3) := by decide +kernel
theorem dX7_byTurns_53 : decode cX7_byTurns 53 = .ok (.aload_n 0, 1) := by decide +kernel
theorem dX7_byTurns_54 : decode cX7_byTurns 54 = .ok (.invokevirtual 184, 3) := by decide +kernel
theorem dX7_byTurns_57 : decode cX7_byTurns 57 = .ok (.aload_n 0, 1) := by decide +kernel
theorem dX7_byTurns_58 : decode cX7_byTurns 58 = .ok (.iload 4, 2) := by decide +kernel
theorem dX7_byTurns_60 : decode cX7_byTurns 60 = .ok (.iload_n 3, 1) := by decide +kernel
theorem dX7_byTurns_61 : decode cX7_byTurns 61 = .ok (.invokevirtual 181, 3) := by decide +kernel
theorem dX7_byTurns_64 : decode cX7_byTurns 64 = .ok (.ior, 1) := by decide +kernel
theorem dX7_byTurns_65 : decode cX7_byTurns 65 = .ok (.istore 5, 2) := by decide +kernel
theorem dX7_byTurns_67 : decode cX7_byTurns 67 = .ok (.iload 5, 2) := by decide +kernel
theorem dX7_byTurns_69 : decode cX7_byTurns 69 = .ok (.iload_n 1, 1) := by decide +kernel
theorem dX7_byTurns_70 : decode cX7_byTurns 70 = .ok (.ishr, 1) := by decide +kernel
theorem dX7_byTurns_71 : decode cX7_byTurns 71 = .ok (.iconst 1, 1) := by decide +kernel
theorem dX7_byTurns_72 : decode cX7_byTurns 72 = .ok (.iand, 1) := by decide +kernel
theorem dX7_byTurns_73 : decode cX7_byTurns 73 = .ok (.iconst 1, 1) := by decide +kernel
theorem dX7_byTurns_74 : decode cX7_byTurns 74 = .ok (.if_icmp .ne 22, 3) := by decide +kernel
theorem dX7_byTurns_77 : decode cX7_byTurns 77 = .ok (.aload_n 0, 1) := by decide +kernel
theorem dX7_byTurns_78 : decode cX7_byTurns 78 = .ok (.iload_n 1, 1) := by decide +kernel
theorem dX7_byTurns_79 : decode cX7_byTurns 79 = .ok (.iload 5, 2) := by decide +kernel
theorem dX7_byTurns_81 : decode cX7_byTurns 81 = .ok (.invokevirtual 190, 3) := by decide +kernel
theorem dX7_byTurns_84 : decode cX7_byTurns 84 = .ok (.iload_n 2, 1) := by decide +kernel
theorem dX7_byTurns_85 : decode cX7_byTurns 85 = .ok (.ishr, 1) := by decide +kernel
theorem dX7_byTurns_86 : decode cX7_byTurns 86 = .ok (.iconst 1, 1) := by decide +kernel
theorem dX7_byTurns_87 : decode cX7_byTurns 87 = .ok (.iand, 1) := by decide +kernel
theorem dX7_byTurns_88 : decode cX7_byTurns 88 = .ok (.iconst 1, 1) := by decide +kernel
theorem dX7_byTurns_89 : decode cX7_byTurns 89 = .ok (.if_icmp .ne 7, 3) := by decide +kernel
theorem dX7_byTurns_92 : decode cX7_byTurns 92 = .ok (.iconst 1, 1) := by decide +kernel
theorem dX7_byTurns_93 : decode cX7_byTurns 93 = .ok (.goto 4, 3) := by decide +kernel
theorem dX7_byTurns_96 : decode cX7_byTurns 96 = .ok (.iconst 0, 1) := by decide +kernel
theorem dX7_byTurns_97 : decode cX7_byTurns 97 = .ok (.istore 6, 2) := by decide +kernel
theorem dX7_byTurns_99 : decode cX7_byTurns 99 = .ok (.iload 4, 2) := by decide +kernel
theorem dX7_byTurns_101 : decode cX7_byTurns 101 = .ok (.invokestatic 187, 3) := by decide +kernel
theorem dX7_byTurns_104 : decode cX7_byTurns 104 = .ok (.iconst 2, 1) := by decide +kernel
theorem dX7_byTurns_105 : decode cX7_byTurns 105 = .ok (.irem, 1) := by decide +kernel
theorem dX7_byTurns_106 : decode cX7_byTurns 106 = .ok (.ifCond .ne 7, 3) := by decide +kernel
theorem dX7_byTurns_109 : decode cX7_byTurns 109 = .ok (.iconst 1, 1) := by decide +kernel
theorem dX7_byTurns_110 : decode cX7_byTurns 110 = .ok (.goto 4, 3) := by decide +kernel
theorem dX7_byTurns_113 : decode cX7_byTurns 113 = .ok (.iconst 0, 1) := by decide +kernel
theorem dX7_byTurns_114 : decode cX7_byTurns 114 = .ok (.istore 7, 2) := by decide +kernel
theorem dX7_byTurns_116 : decode cX7_byTurns 116 = .ok (.iload 7, 2) := by decide +kernel
theorem dX7_byTurns_118 : decode cX7_byTurns 118 = .ok (.ifCond .eq 8, 3) := by decide +kernel
theorem dX7_byTurns_121 : decode cX7_byTurns 121 = .ok (.bipush 99, 2) := by decide +kernel
theorem dX7_byTurns_123 : decode cX7_byTurns 123 = .ok (.goto 4, 3) := by decide +kernel
theorem dX7_byTurns_126 : decode cX7_byTurns 126 = .ok (.iconst 0, 1) := by decide +kernel
theorem dX7_byTurns_127 : decode cX7_byTurns 127 = .ok (.istore 8, 2) := by decide +kernel
theorem dX7_byTurns_129 : decode cX7_byTurns 129 = .ok (.iconst 0, 1) := by decide +kernel
theorem dX7_byTurns_130 : decode cX7_byTurns 130 = .ok (.istore 9, 2) := by decide +kernel
theorem dX7_byTurns_132 : decode cX7_byTurns 132 = .ok (.iload 9, 2) := by decide +kernel
theorem dX7_byTurns_134 : decode cX7_byTurns 134 = .ok (.iload_n 3, 1) := by decide +kernel
theorem dX7_byTurns_135 : decode cX7_byTurns 135 = .ok (.if_icmp .ge 67, 3) := by decide +kernel
theorem dX7_byTurns_138 : decode cX7_byTurns 138 = .ok (.iload 4, 2) := by decide +kernel
theorem dX7_byTurns_140 : decode cX7_byTurns 140 = .ok (.iload 9, 2) := by decide +kernel
theorem dX7_byTurns_142 : decode cX7_byTurns 142 = .ok (.ishr, 1) := by decide +kernel
theorem dX7_byTurns_143 : decode cX7_byTurns 143 = .ok (.iconst 1, 1) := by decide +kernel
theorem dX7_byTurns_144 : decode cX7_byTurns 144 = .ok (.iand, 1) := by decide +kernel
theorem dX7_byTurns_145 : decode cX7_byTurns 145 = .ok (.iconst 1, 1) := by decide +kernel
theorem dX7_byTurns_146 : decode cX7_byTurns 146 = .ok (.if_icmp .ne 8, 3) := by decide +kernel
theorem dX7_byTurns_149 : decode cX7_byTurns 149 = .ok (.iload 8, 2) := by decide +kernel
theorem dX7_byTurns_151 : decode cX7_byTurns 151 = .ok (.goto 17, 3) := by decide +kernel
theorem dX7_byTurns_154 : decode cX7_byTurns 154 = .ok (.aload_n 0, 1) := by decide +kernel
theorem dX7_byTurns_155 : decode cX7_byTurns 155 = .ok (.getfield 44, 3) := by decide +kernel
theorem dX7_byTurns_158 : decode cX7_byTurns 158 = .ok (.iload 4, 2) := by decide +kernel
theorem dX7_byTurns_160 : decode cX7_byTurns 160 = .ok (.iconst 1, 1) := by decide +kernel
theorem dX7_byTurns_161 : decode cX7_byTurns 161 = .ok (.iload 9, 2) := by decide +kernel
theorem dX7_byTurns_163 : decode cX7_byTurns 163 = .ok (.ishl, 1) := by decide +kernel
theorem dX7_byTurns_164 : decode cX7_byTurns 164 = .ok (.ior, 1) := by decide +kernel
theorem dX7_byTurns_165 : decode cX7_byTurns 165 = .ok (.iaload, 1) := by decide +kernel
theorem dX7_byTurns_166 : decode cX7_byTurns 166 = .ok (.iconst 1, 1) := by decide +kernel
theorem dX7_byTurns_167 : decode cX7_byTurns 167 = .ok (.iadd, 1) := by decide +kernel
theorem dX7_byTurns_168 : decode cX7_byTurns 168 = .ok (.istore 10, 2) := by decide +kernel
theorem dX7_byTurns_170 : decode cX7_byTurns 170 = .ok (.iload 7, 2) := by decide +kernel
theorem dX7_byTurns_172 : decode cX7_byTurns 172 = .ok (.iload 10, 2) := by decide +kernel
theorem dX7_byTurns_174 : decode cX7_byTurns 174 = .ok (.iload 8, 2) := by decide +kernel
theorem dX7_byTurns_176 : decode cX7_byTurns 176 = .ok (.if_icmp .ge 7, 3) := by decide +kernel
theorem dX7_byTurns_179 : decode cX7_byTurns 179 = .ok (.iconst 1, 1) := by decide +kernel
theorem dX7_byTurns_180 : decode cX7_byTurns 180 = .ok (.goto 4, 3) := by decide +kernel
theorem dX7_byTurns_183 : decode cX7_byTurns 183 = .ok (.iconst 0, 1) := by decide +kernel
theorem dX7_byTurns_184 : decode cX7_byTurns 184 = .ok (.if_icmp .ne 8, 3) := by decide +kernel
theorem dX7_byTurns_187 : decode cX7_byTurns 187 = .ok (.iload 10, 2) := by decide +kernel
theorem dX7_byTurns_189 : decode cX7_byTurns 189 = .ok (.goto 5, 3) := by decide +kernel
theorem dX7_byTurns_192 : decode cX7_byTurns 192 = .ok (.iload 8, 2) := by decide +kernel
theorem dX7_byTurns_194 : decode cX7_byTurns 194 = .ok (.istore 8, 2) := by decide +kernel
theorem dX7_byTurns_196 : decode cX7_byTurns 196 = .ok (.iinc 9 1, 3) := by decide +kernel
theorem dX7_byTurns_199 : decode cX7_byTurns 199 = .ok (.goto (-67), 3) := by decide +kernel
theorem dX7_byTurns_202 : decode cX7_byTurns 202 = .ok (.aload_n 0, 1) := by decide +kernel
theorem dX7_byTurns_203 : decode cX7_byTurns 203 = .ok (.getfield 44, 3) := by decide +kernel
theorem dX7_byTurns_206 : decode cX7_byTurns 206 = .ok (.iload 4, 2) := by decide +kernel
theorem dX7_byTurns_208 : decode cX7_byTurns 208 = .ok (.iload 6, 2) := by decide +kernel
theorem dX7_byTurns_210 : decode cX7_byTurns 210 = .ok (.ifCond .eq 7, 3) := by decide +kernel
theorem dX7_byTurns_213 : decode cX7_byTurns 213 = .ok (.iconst 0, 1) := by decide +kernel
theorem dX7_byTurns_214 : decode cX7_byTurns 214 = .ok (.goto 5, 3) := by decide +kernel
theorem dX7_byTurns_217 : decode cX7_byTurns 217 = .ok (.iload 8, 2) := by decide +kernel
theorem dX7_byTurns_219 : decode cX7_byTurns 219 = .ok (.iastore, 1) := by decide +kernel
theorem dX7_byTurns_220 : decode cX7_byTurns 220 = .ok (.iinc 4 (-1), 3) := by decide +kernel
theorem dX7_byTurns_223 : decode cX7_byTurns 223 = .ok (.goto (-175), 3) := by decide +kernel
theorem dX7_byTurns_226 : decode cX7_byTurns 226 = .ok (.aload_n 0, 1) := by decide +kernel
theorem dX7_byTurns_227 : decode cX7_byTurns 227 = .ok (.getfield 44, 3) := by decide +kernel
theorem dX7_byTurns_230 : decode cX7_byTurns 230 = .ok (.iconst 0, 1) := by decide +kernel
theorem dX7_byTurns_231 : decode cX7_byTurns 231 = .ok (.iaload, 1) := by decide +kernel
theorem dX7_byTurns_232 : decode cX7_byTurns 232 = .ok (.ireturn, 1) := by decide +kernel
theorem dX7_apart_0 : decode cX7_apart 0 = .ok (.aload_n 0, 1) := by decide +kernel
theorem dX7_apart_1 : decode cX7_apart 1 = .ok (.iconst 0, 1) := by decide +kernel
theorem dX7_apart_2 : decode cX7_apart 2 = .ok (.putfield 47, 3) := by decide +kernel
theorem dX7_apart_5 : decode cX7_apart 5 = .ok (.aload_n 0, 1) := by decide +kernel
theorem dX7_apart_6 : decode cX7_apart 6 = .ok (.iload_n 1, 1) := by decide +kernel
theorem dX7_apart_7 : decode cX7_apart 7 = .ok (.invokevirtual 137, 3) := by decide +kernel
theorem dX7_apart_10 : decode cX7_apart 10 = .ok (.ifCond .eq 16, 3) := by decide +kernel
theorem dX7_apart_13 : decode cX7_apart 13 = .ok (.aload_n 0, 1) := by decide +kernel
theorem dX7_apart_14 : decode cX7_apart 14 = .ok (.iload_n 2, 1) := by decide +kernel
theorem dX7_apart_15 : decode cX7_apart 15 = .ok (.invokevirtual 137, 3) := by decide +kernel
theorem dX7_apart_18 : decode cX7_apart 18 = .ok (.ifCond .eq 8, 3) := by decide +kernel
theorem dX7_apart_21 : decode cX7_apart 21 = .ok (.iload_n 1, 1) := by decide +kernel
theorem dX7_apart_22 : decode cX7_apart 22 = .ok (.iload_n 2, 1) := by decide +kernel
theorem dX7_apart_23 : decode cX7_apart 23 = .ok (.if_icmp .ne 5, 3) := by decide +kernel
theorem dX7_apart_26 : decode cX7_apart 26 = .ok (.iconst (-1), 1) := by decide +kernel
theorem dX7_apart_27 : decode cX7_apart 27 = .ok (.ireturn, 1) := by decide +kernel
theorem dX7_apart_28 : decode cX7_apart 28 = .ok (.iconst 1, 1) := by decide +kernel
theorem dX7_apart_29 : decode cX7_apart 29 = .ok (.iload_n 1, 1) := by decide +kernel
theorem dX7_apart_30 : decode cX7_apart 30 = .ok (.ishl, 1) := by decide +kernel
theorem dX7_apart_31 : decode cX7_apart 31 = .ok (.iconst 1, 1) := by decide +kernel
theorem dX7_apart_32 : decode cX7_apart 32 = .ok (.iload_n 2, 1) := by decide +kernel
theorem dX7_apart_33 : decode cX7_apart 33 = .ok (.ishl, 1) := by decide +kernel
theorem dX7_apart_34 : decode cX7_apart 34 = .ok (.ior, 1) := by decide +kernel
theorem dX7_apart_35 : decode cX7_apart 35 = .ok (.istore_n 3, 1) := by decide +kernel
theorem dX7_apart_36 : decode cX7_apart 36 = .ok (.aload_n 0, 1) := by decide +kernel
theorem dX7_apart_37 : decode cX7_apart 37 = .ok (.invokevirtual 184, 3) := by decide +kernel
theorem dX7_apart_40 : decode cX7_apart 40 = .ok (.iload_n 3, 1) := by decide +kernel
theorem dX7_apart_41 : decode cX7_apart 41 = .ok (.iconst (-1), 1) := by decide +kernel
theorem dX7_apart_42 : decode cX7_apart 42 = .ok (.ixor, 1) := by decide +kernel
theorem dX7_apart_43 : decode cX7_apart 43 = .ok (.iand, 1) := by decide +kernel
theorem dX7_apart_44 : decode cX7_apart 44 = .ok (.istore 4, 2) := by decide +kernel
theorem dX7_apart_46 : decode cX7_apart 46 = .ok (.iload 4, 2) := by decide +kernel
theorem dX7_apart_48 : decode cX7_apart 48 = .ok (.invokestatic 187, 3) := by decide +kernel
theorem dX7_apart_51 : decode cX7_apart 51 = .ok (.bipush 12, 2) := by decide +kernel
theorem dX7_apart_53 : decode cX7_apart 53 = .ok (.if_icmp .le 6, 3) := by decide +kernel
theorem dX7_apart_56 : decode cX7_apart 56 = .ok (.bipush (-2), 2) := by decide +kernel
theorem dX7_apart_58 : decode cX7_apart 58 = .ok (.ireturn, 1) := by decide +kernel
theorem dX7_apart_59 : decode cX7_apart 59 = .ok (.aload_n 0, 1) := by decide +kernel
theorem dX7_apart_60 : decode cX7_apart 60 = .ok (.getfield 25, 3) := by decide +kernel
theorem dX7_apart_63 : decode cX7_apart 63 = .ok (.iload_n 1, 1) := by decide +kernel
theorem dX7_apart_64 : decode cX7_apart 64 = .ok (.iaload, 1) := by decide +kernel
theorem dX7_apart_65 : decode cX7_apart 65 = .ok (.iconst 1, 1) := by decide +kernel
theorem dX7_apart_66 : decode cX7_apart 66 = .ok (.if_icmp .eq 22, 3) := by decide +kernel
theorem dX7_apart_69 : decode cX7_apart 69 = .ok (.aload_n 0, 1) := by decide +kernel
theorem dX7_apart_70 : decode cX7_apart 70 = .ok (.getfield 25, 3) := by decide +kernel
theorem dX7_apart_73 : decode cX7_apart 73 = .ok (.iload_n 2, 1) := by decide +kernel
theorem dX7_apart_74 : decode cX7_apart 74 = .ok (.iaload, 1) := by decide +kernel
theorem dX7_apart_75 : decode cX7_apart 75 = .ok (.iconst 1, 1) := by decide +kernel
theorem dX7_apart_76 : decode cX7_apart 76 = .ok (.if_icmp .eq 12, 3) := by decide +kernel
theorem dX7_apart_79 : decode cX7_apart 79 = .ok (.aload_n 0, 1) := by decide +kernel
theorem dX7_apart_80 : decode cX7_apart 80 = .ok (.iload_n 1, 1) := by decide +kernel
theorem dX7_apart_81 : decode cX7_apart 81 = .ok (.iload_n 2, 1) := by decide +kernel
theorem dX7_apart_82 : decode cX7_apart 82 = .ok (.invokevirtual 151, 3) := by decide +kernel
theorem dX7_apart_85 : decode cX7_apart 85 = .ok (.ifCond .eq 6, 3) := by decide +kernel
theorem dX7_apart_88 : decode cX7_apart 88 = .ok (.bipush (-9), 2) := by decide +kernel
theorem dX7_apart_90 : decode cX7_apart 90 = .ok (.ireturn, 1) := by decide +kernel
theorem dX7_apart_91 : decode cX7_apart 91 = .ok (.aload_n 0, 1) := by decide +kernel
theorem dX7_apart_92 : decode cX7_apart 92 = .ok (.invokevirtual 196, 3) := by decide +kernel
theorem dX7_apart_95 : decode cX7_apart 95 = .ok (.iconst 0, 1) := by decide +kernel
theorem dX7_apart_96 : decode cX7_apart 96 = .ok (.istore 5, 2) := by decide +kernel
theorem dX7_apart_98 : decode cX7_apart 98 = .ok (.iconst 0, 1) := by decide +kernel
theorem dX7_apart_99 : decode cX7_apart 99 = .ok (.istore 6, 2) := by decide +kernel
theorem dX7_apart_101 : decode cX7_apart 101 = .ok (.iload 6, 2) := by decide +kernel
theorem dX7_apart_103 : decode cX7_apart 103 = .ok (.aload_n 0, 1) := by decide +kernel
theorem dX7_apart_104 : decode cX7_apart 104 = .ok (.getfield 51, 3) := by decide +kernel
theorem dX7_apart_107 : decode cX7_apart 107 = .ok (.aload_n 0, 1) := by decide +kernel
theorem dX7_apart_108 : decode cX7_apart 108 = .ok (.getfield 54, 3) := by decide +kernel
theorem dX7_apart_111 : decode cX7_apart 111 = .ok (.imul, 1) := by decide +kernel
theorem dX7_apart_112 : decode cX7_apart 112 = .ok (.if_icmp .ge 32, 3) := by decide +kernel
theorem dX7_apart_115 : decode cX7_apart 115 = .ok (.iload 4, 2) := by decide +kernel
theorem dX7_apart_117 : decode cX7_apart 117 = .ok (.iload 6, 2) := by decide +kernel
theorem dX7_apart_119 : decode cX7_apart 119 = .ok (.ishr, 1) := by decide +kernel
theorem dX7_apart_120 : decode cX7_apart 120 = .ok (.iconst 1, 1) := by decide +kernel
theorem dX7_apart_121 : decode cX7_apart 121 = .ok (.iand, 1) := by decide +kernel
theorem dX7_apart_122 : decode cX7_apart 122 = .ok (.iconst 1, 1) := by decide +kernel
theorem dX7_apart_123 : decode cX7_apart 123 = .ok (.if_icmp .ne 15, 3) := by decide +kernel
theorem dX7_apart_126 : decode cX7_apart 126 = .ok (.aload_n 0, 1) := by decide +kernel
theorem dX7_apart_127 : decode cX7_apart 127 = .ok (.getfield 38, 3) := by decide +kernel
theorem dX7_apart_130 : decode cX7_apart 130 = .ok (.iload 5, 2) := by decide +kernel
theorem dX7_apart_132 : decode cX7_apart 132 = .ok (.iload 6, 2) := by decide +kernel
theorem dX7_apart_134 : decode cX7_apart 134 = .ok (.iastore, 1) := by decide +kernel
theorem dX7_apart_135 : decode cX7_apart 135 = .ok (.iinc 5 1, 3) := by decide +kernel
theorem dX7_apart_138 : decode cX7_apart 138 = .ok (.iinc 6 1, 3) := by decide +kernel
theorem dX7_apart_141 : decode cX7_apart 141 = .ok (.goto (-40), 3) := by decide +kernel
theorem dX7_apart_144 : decode cX7_apart 144 = .ok (.bipush 99, 2) := by decide +kernel
theorem dX7_apart_146 : decode cX7_apart 146 = .ok (.istore 6, 2) := by decide +kernel
theorem dX7_apart_148 : decode cX7_apart 148 = .ok (.iconst 0, 1) := by decide +kernel
theorem dX7_apart_149 : decode cX7_apart 149 = .ok (.istore 7, 2) := by decide +kernel
theorem dX7_apart_151 : decode cX7_apart 151 = .ok (.iload 7, 2) := by decide +kernel
theorem dX7_apart_153 : decode cX7_apart 153 = .ok (.iconst 1, 1) := by decide +kernel
theorem dX7_apart_154 : decode cX7_apart 154 = .ok (.iload 5, 2) := by decide +kernel
theorem dX7_apart_156 : decode cX7_apart 156 = .ok (.ishl, 1) := by decide +kernel
theorem dX7_apart_157 : decode cX7_apart 157 = .ok (.if_icmp .ge 74, 3) := by decide +kernel
theorem dX7_apart_160 : decode cX7_apart 160 = .ok (.aload_n 0, 1) := by decide +kernel
theorem dX7_apart_161 : decode cX7_apart 161 = .ok (.iload 7, 2) := by decide +kernel
theorem dX7_apart_163 : decode cX7_apart 163 = .ok (.iload 5, 2) := by decide +kernel
theorem dX7_apart_165 : decode cX7_apart 165 = .ok (.invokevirtual 181, 3) := by decide +kernel
theorem dX7_apart_168 : decode cX7_apart 168 = .ok (.istore 8, 2) := by decide +kernel
theorem dX7_apart_170 : decode cX7_apart 170 = .ok (.iload 8, 2) := by decide +kernel
theorem dX7_apart_172 : decode cX7_apart 172 = .ok (.invokestatic 187, 3) := by decide +kernel
theorem dX7_apart_175 : decode cX7_apart 175 = .ok (.iload 6, 2) := by decide +kernel
theorem dX7_apart_177 : decode cX7_apart 177 = .ok (.if_icmp .ge 7, 3) := by decide +kernel
theorem dX7_apart_180 : decode cX7_apart 180 = .ok (.iconst 1, 1) := by decide +kernel
theorem dX7_apart_181 : decode cX7_apart 181 = .ok (.goto 4, 3) := by decide +kernel
theorem dX7_apart_184 : decode cX7_apart 184 = .ok (.iconst 0, 1) := by decide +kernel
theorem dX7_apart_185 : decode cX7_apart 185 = .ok (.istore 9, 2) := by decide +kernel
theorem dX7_apart_187 : decode cX7_apart 187 = .ok (.iload 9, 2) := by decide +kernel
theorem dX7_apart_189 : decode cX7_apart 189 = .ok (.ifCond .eq 32, 3) := by decide +kernel
theorem dX7_apart_192 : decode cX7_apart 192 = .ok (.aload_n 0, 1) := by decide +kernel
theorem dX7_apart_193 : decode cX7_apart 193 = .ok (.iload_n 1, 1) := by decide +kernel
theorem dX7_apart_194 : decode cX7_apart 194 = .ok (.iload 4, 2) := by decide +kernel
theorem dX7_apart_196 : decode cX7_apart 196 = .ok (.iload 8, 2) := by decide +kernel
theorem dX7_apart_198 : decode cX7_apart 198 = .ok (.iconst (-1), 1) := by decide +kernel
theorem dX7_apart_199 : decode cX7_apart 199 = .ok (.ixor, 1) := by decide +kernel
theorem dX7_apart_200 : decode cX7_apart 200 = .ok (.iand, 1) := by decide +kernel
theorem dX7_apart_201 : decode cX7_apart 201 = .ok (.iload_n 3, 1) := by decide +kernel
theorem dX7_apart_202 : decode cX7_apart 202 = .ok (.ior, 1) := by decide +kernel
theorem dX7_apart_203 : decode cX7_apart 203 = .ok (.invokevirtual 190, 3) := by decide +kernel
theorem dX7_apart_206 : decode cX7_apart 206 = .ok (.iload_n 2, 1) := by decide +kernel
theorem dX7_apart_207 : decode cX7_apart 207 = .ok (.ishr, 1) := by decide +kernel
theorem dX7_apart_208 : decode cX7_apart 208 = .ok (.iconst 1, 1) := by decide +kernel
theorem dX7_apart_209 : decode cX7_apart 209 = .ok (.iand, 1) := by decide +kernel
theorem dX7_apart_210 : decode cX7_apart 210 = .ok (.ifCond .ne 11, 3) := by decide +kernel
theorem dX7_apart_213 : decode cX7_apart 213 = .ok (.iload 8, 2) := by decide +kernel
theorem dX7_apart_215 : decode cX7_apart 215 = .ok (.invokestatic 187, 3) := by decide +kernel
theorem dX7_apart_218 : decode cX7_apart 218 = .ok (.goto 5, 3) := by decide +kernel
theorem dX7_apart_221 : decode cX7_apart 221 = .ok (.iload 6, 2) := by decide +kernel
theorem dX7_apart_223 : decode cX7_apart 223 = .ok (.istore 6, 2) := by decide +kernel
theorem dX7_apart_225 : decode cX7_apart 225 = .ok (.iinc 7 1, 3) := by decide +kernel
theorem dX7_apart_228 : decode cX7_apart 228 = .ok (.goto (-77), 3) := by decide +kernel
theorem dX7_apart_231 : decode cX7_apart 231 = .ok (.iload 6, 2) := by decide +kernel
theorem dX7_apart_233 : decode cX7_apart 233 = .ok (.ireturn, 1) := by decide +kernel
theorem dX7_rate_0 : decode cX7_rate 0 = .ok (.aload_n 0, 1) := by decide +kernel
theorem dX7_rate_1 : decode cX7_rate 1 = .ok (.iconst 0, 1) := by decide +kernel
theorem dX7_rate_2 : decode cX7_rate 2 = .ok (.putfield 47, 3) := by decide +kernel
theorem dX7_rate_5 : decode cX7_rate 5 = .ok (.iload_n 1, 1) := by decide +kernel
theorem dX7_rate_6 : decode cX7_rate 6 = .ok (.iconst 0, 1) := by decide +kernel
theorem dX7_rate_7 : decode cX7_rate 7 = .ok (.iconst 5, 1) := by decide +kernel
theorem dX7_rate_8 : decode cX7_rate 8 = .ok (.invokestatic 57, 3) := by decide +kernel
theorem dX7_rate_11 : decode cX7_rate 11 = .ok (.ifCond .eq 11, 3) := by decide +kernel
theorem dX7_rate_14 : decode cX7_rate 14 = .ok (.aload_n 0, 1) := by decide +kernel
theorem dX7_rate_15 : decode cX7_rate 15 = .ok (.iload_n 2, 1) := by decide +kernel
theorem dX7_rate_16 : decode cX7_rate 16 = .ok (.invokevirtual 141, 3) := by decide +kernel
theorem dX7_rate_19 : decode cX7_rate 19 = .ok (.ifCond .ne 6, 3) := by decide +kernel
theorem dX7_rate_22 : decode cX7_rate 22 = .ok (.ldc 202, 2) := by decide +kernel
theorem dX7_rate_24 : decode cX7_rate 24 = .ok (.ireturn, 1) := by decide +kernel
theorem dX7_rate_25 : decode cX7_rate 25 = .ok (.aload_n 0, 1) := by decide +kernel
theorem dX7_rate_26 : decode cX7_rate 26 = .ok (.aload_n 0, 1) := by decide +kernel
theorem dX7_rate_27 : decode cX7_rate 27 = .ok (.getfield 19, 3) := by decide +kernel
theorem dX7_rate_30 : decode cX7_rate 30 = .ok (.iconst 2, 1) := by decide +kernel
theorem dX7_rate_31 : decode cX7_rate 31 = .ok (.iload_n 2, 1) := by decide +kernel
theorem dX7_rate_32 : decode cX7_rate 32 = .ok (.imul, 1) := by decide +kernel
theorem dX7_rate_33 : decode cX7_rate 33 = .ok (.iaload, 1) := by decide +kernel
theorem dX7_rate_34 : decode cX7_rate 34 = .ok (.aload_n 0, 1) := by decide +kernel
theorem dX7_rate_35 : decode cX7_rate 35 = .ok (.getfield 19, 3) := by decide +kernel
theorem dX7_rate_38 : decode cX7_rate 38 = .ok (.iconst 2, 1) := by decide +kernel
theorem dX7_rate_39 : decode cX7_rate 39 = .ok (.iload_n 2, 1) := by decide +kernel
theorem dX7_rate_40 : decode cX7_rate 40 = .ok (.imul, 1) := by decide +kernel
theorem dX7_rate_41 : decode cX7_rate 41 = .ok (.iconst 1, 1) := by decide +kernel
theorem dX7_rate_42 : decode cX7_rate 42 = .ok (.iadd, 1) := by decide +kernel
theorem dX7_rate_43 : decode cX7_rate 43 = .ok (.iaload, 1) := by decide +kernel
theorem dX7_rate_44 : decode cX7_rate 44 = .ok (.invokevirtual 159, 3) := by decide +kernel
theorem dX7_rate_47 : decode cX7_rate 47 = .ok (.istore_n 3, 1) := by decide +kernel
theorem dX7_rate_48 : decode cX7_rate 48 = .ok (.iload_n 3, 1) := by decide +kernel
theorem dX7_rate_49 : decode cX7_rate 49 = .ok (.bipush (-9), 2) := by decide +kernel
theorem dX7_rate_51 : decode cX7_rate 51 = .ok (.if_icmp .ne 7, 3) := by decide +kernel
theorem dX7_rate_54 : decode cX7_rate 54 = .ok (.iconst 0, 1) := by decide +kernel
theorem dX7_rate_55 : decode cX7_rate 55 = .ok (.goto 4, 3) := by decide +kernel
theorem dX7_rate_58 : decode cX7_rate 58 = .ok (.iload_n 3, 1) := by decide +kernel
theorem dX7_rate_59 : decode cX7_rate 59 = .ok (.istore 4, 2) := by decide +kernel
theorem dX7_rate_61 : decode cX7_rate 61 = .ok (.aload_n 0, 1) := by decide +kernel
theorem dX7_rate_62 : decode cX7_rate 62 = .ok (.dup, 1) := by decide +kernel
theorem dX7_rate_63 : decode cX7_rate 63 = .ok (.getfield 203, 3) := by decide +kernel
theorem dX7_rate_66 : decode cX7_rate 66 = .ok (.iload_n 1, 1) := by decide +kernel
theorem dX7_rate_67 : decode cX7_rate 67 = .ok (.ifCond .ne 7, 3) := by decide +kernel
theorem dX7_rate_70 : decode cX7_rate 70 = .ok (.lconst 1, 1) := by decide +kernel
theorem dX7_rate_71 : decode cX7_rate 71 = .ok (.goto 50, 3) := by decide +kernel
theorem dX7_rate_74 : decode cX7_rate 74 = .ok (.iload_n 1, 1) := by decide +kernel
theorem dX7_rate_75 : decode cX7_rate 75 = .ok (.iconst 1, 1) := by decide +kernel
theorem dX7_rate_76 : decode cX7_rate 76 = .ok (.if_icmp .ne 9, 3) := by decide +kernel
theorem dX7_rate_79 : decode cX7_rate 79 = .ok (.ldc2_w 207, 3) := by decide +kernel
theorem dX7_rate_82 : decode cX7_rate 82 = .ok (.goto 39, 3) := by decide +kernel
theorem dX7_rate_85 : decode cX7_rate 85 = .ok (.iload_n 1, 1) := by decide +kernel
theorem dX7_rate_86 : decode cX7_rate 86 = .ok (.iconst 2, 1) := by decide +kernel
theorem dX7_rate_87 : decode cX7_rate 87 = .ok (.if_icmp .ne 9, 3) := by decide +kernel
theorem dX7_rate_90 : decode cX7_rate 90 = .ok (.ldc2_w 209, 3) := by decide +kernel
theorem dX7_rate_93 : decode cX7_rate 93 = .ok (.goto 28, 3) := by decide +kernel
theorem dX7_rate_96 : decode cX7_rate 96 = .ok (.iload_n 1, 1) := by decide +kernel
theorem dX7_rate_97 : decode cX7_rate 97 = .ok (.iconst 3, 1) := by decide +kernel
theorem dX7_rate_98 : decode cX7_rate 98 = .ok (.if_icmp .ne 9, 3) := by decide +kernel
theorem dX7_rate_101 : decode cX7_rate 101 = .ok (.ldc2_w 211, 3) := by decide +kernel
theorem dX7_rate_104 : decode cX7_rate 104 = .ok (.goto 17, 3) := by decide +kernel
theorem dX7_rate_107 : decode cX7_rate 107 = .ok (.iload_n 1, 1) := by decide +kernel
theorem dX7_rate_108 : decode cX7_rate 108 = .ok (.iconst 4, 1) := by decide +kernel
theorem dX7_rate_109 : decode cX7_rate 109 = .ok (.if_icmp .ne 9, 3) := by decide +kernel
theorem dX7_rate_112 : decode cX7_rate 112 = .ok (.ldc2_w 213, 3) := by decide +kernel
theorem dX7_rate_115 : decode cX7_rate 115 = .ok (.goto 6, 3) := by decide +kernel
theorem dX7_rate_118 : decode cX7_rate 118 = .ok (.ldc2_w 215, 3) := by decide +kernel
theorem dX7_rate_121 : decode cX7_rate 121 = .ok (.ladd, 1) := by decide +kernel
theorem dX7_rate_122 : decode cX7_rate 122 = .ok (.putfield 203, 3) := by decide +kernel
theorem dX7_rate_125 : decode cX7_rate 125 = .ok (.iload 4, 2) := by decide +kernel
theorem dX7_rate_127 : decode cX7_rate 127 = .ok (.aload_n 0, 1) := by decide +kernel
theorem dX7_rate_128 : decode cX7_rate 128 = .ok (.getfield 25, 3) := by decide +kernel
theorem dX7_rate_131 : decode cX7_rate 131 = .ok (.bipush 72, 2) := by decide +kernel
theorem dX7_rate_133 : decode cX7_rate 133 = .ok (.iload_n 2, 1) := by decide +kernel
theorem dX7_rate_134 : decode cX7_rate 134 = .ok (.iadd, 1) := by decide +kernel
theorem dX7_rate_135 : decode cX7_rate 135 = .ok (.iaload, 1) := by decide +kernel
theorem dX7_rate_136 : decode cX7_rate 136 = .ok (.iadd, 1) := by decide +kernel
theorem dX7_rate_137 : decode cX7_rate 137 = .ok (.istore 5, 2) := by decide +kernel
theorem dX7_rate_139 : decode cX7_rate 139 = .ok (.iload 4, 2) := by decide +kernel
theorem dX7_rate_141 : decode cX7_rate 141 = .ok (.aload_n 0, 1) := by decide +kernel
theorem dX7_rate_142 : decode cX7_rate 142 = .ok (.iload_n 2, 1) := by decide +kernel
theorem dX7_rate_143 : decode cX7_rate 143 = .ok (.invokevirtual 144, 3) := by decide +kernel
theorem dX7_rate_146 : decode cX7_rate 146 = .ok (.isub, 1) := by decide +kernel
theorem dX7_rate_147 : decode cX7_rate 147 = .ok (.istore 6, 2) := by decide +kernel
theorem dX7_rate_149 : decode cX7_rate 149 = .ok (.iload_n 1, 1) := by decide +kernel
theorem dX7_rate_150 : decode cX7_rate 150 = .ok (.ifCond .ne 8, 3) := by decide +kernel
theorem dX7_rate_153 : decode cX7_rate 153 = .ok (.iload 4, 2) := by decide +kernel
theorem dX7_rate_155 : decode cX7_rate 155 = .ok (.goto 72, 3) := by decide +kernel
theorem dX7_rate_158 : decode cX7_rate 158 = .ok (.iload_n 1, 1) := by decide +kernel
theorem dX7_rate_159 : decode cX7_rate 159 = .ok (.iconst 1, 1) := by decide +kernel
theorem dX7_rate_160 : decode cX7_rate 160 = .ok (.if_icmp .ne 8, 3) := by decide +kernel
theorem dX7_rate_163 : decode cX7_rate 163 = .ok (.iload 5, 2) := by decide +kernel
theorem dX7_rate_165 : decode cX7_rate 165 = .ok (.goto 62, 3) := by decide +kernel
theorem dX7_rate_168 : decode cX7_rate 168 = .ok (.iload_n 1, 1) := by decide +kernel
theorem dX7_rate_169 : decode cX7_rate 169 = .ok (.iconst 2, 1) := by decide +kernel
theorem dX7_rate_170 : decode cX7_rate 170 = .ok (.if_icmp .ne 8, 3) := by decide +kernel
theorem dX7_rate_173 : decode cX7_rate 173 = .ok (.iload 6, 2) := by decide +kernel
theorem dX7_rate_175 : decode cX7_rate 175 = .ok (.goto 52, 3) := by decide +kernel
theorem dX7_rate_178 : decode cX7_rate 178 = .ok (.iload_n 1, 1) := by decide +kernel
theorem dX7_rate_179 : decode cX7_rate 179 = .ok (.iconst 3, 1) := by decide +kernel
theorem dX7_rate_180 : decode cX7_rate 180 = .ok (.if_icmp .ne 10, 3) := by decide +kernel
theorem dX7_rate_183 : decode cX7_rate 183 = .ok (.iconst 2, 1) := by decide +kernel
theorem dX7_rate_184 : decode cX7_rate 184 = .ok (.iload 5, 2) := by decide +kernel
theorem dX7_rate_186 : decode cX7_rate 186 = .ok (.imul, 1) := by decide +kernel
theorem dX7_rate_187 : decode cX7_rate 187 = .ok (.goto 40, 3) := by decide +kernel
theorem dX7_rate_190 : decode cX7_rate 190 = .ok (.iload_n 1, 1) := by decide +kernel
theorem dX7_rate_191 : decode cX7_rate 191 = .ok (.iconst 4, 1) := by decide +kernel
theorem dX7_rate_192 : decode cX7_rate 192 = .ok (.if_icmp .ne 10, 3) := by decide +kernel
theorem dX7_rate_195 : decode cX7_rate 195 = .ok (.iload 6, 2) := by decide +kernel
theorem dX7_rate_197 : decode cX7_rate 197 = .ok (.iload_n 2, 1) := by decide +kernel
theorem dX7_rate_198 : decode cX7_rate 198 = .ok (.iadd, 1) := by decide +kernel
theorem dX7_rate_199 : decode cX7_rate 199 = .ok (.goto 28, 3) := by decide +kernel
theorem dX7_rate_202 : decode cX7_rate 202 = .ok (.iload 4, 2) := by decide +kernel
theorem dX7_rate_204 : decode cX7_rate 204 = .ok (.aload_n 0, 1) := by decide +kernel
theorem dX7_rate_205 : decode cX7_rate 205 = .ok (.aload_n 0, 1) := by decide +kernel
theorem dX7_rate_206 : decode cX7_rate 206 = .ok (.getfield 19, 3) := by decide +kernel
theorem dX7_rate_209 : decode cX7_rate 209 = .ok (.iconst 2, 1) := by decide +kernel
theorem dX7_rate_210 : decode cX7_rate 210 = .ok (.iload_n 2, 1) := by decide +kernel
theorem dX7_rate_211 : decode cX7_rate 211 = .ok (.imul, 1) := by decide +kernel
theorem dX7_rate_212 : decode cX7_rate 212 = .ok (.iaload, 1) := by decide +kernel
theorem dX7_rate_213 : decode cX7_rate 213 = .ok (.aload_n 0, 1) := by decide +kernel
theorem dX7_rate_214 : decode cX7_rate 214 = .ok (.getfield 19, 3) := by decide +kernel
theorem dX7_rate_217 : decode cX7_rate 217 = .ok (.iconst 2, 1) := by decide +kernel
theorem dX7_rate_218 : decode cX7_rate 218 = .ok (.iload_n 2, 1) := by decide +kernel
theorem dX7_rate_219 : decode cX7_rate 219 = .ok (.imul, 1) := by decide +kernel
theorem dX7_rate_220 : decode cX7_rate 220 = .ok (.iconst 1, 1) := by decide +kernel
theorem dX7_rate_221 : decode cX7_rate 221 = .ok (.iadd, 1) := by decide +kernel
theorem dX7_rate_222 : decode cX7_rate 222 = .ok (.iaload, 1) := by decide +kernel
theorem dX7_rate_223 : decode cX7_rate 223 = .ok (.invokevirtual 178, 3) := by decide +kernel
theorem dX7_rate_226 : decode cX7_rate 226 = .ok (.iadd, 1) := by decide +kernel
theorem dX7_rate_227 : decode cX7_rate 227 = .ok (.ireturn, 1) := by decide +kernel
theorem dX7_keep_0 : decode cX7_keep 0 = .ok (.aload_n 0, 1) := by decide +kernel
theorem dX7_keep_1 : decode cX7_keep 1 = .ok (.iconst 0, 1) := by decide +kernel
theorem dX7_keep_2 : decode cX7_keep 2 = .ok (.putfield 47, 3) := by decide +kernel
theorem dX7_keep_5 : decode cX7_keep 5 = .ok (.iload_n 1, 1) := by decide +kernel
theorem dX7_keep_6 : decode cX7_keep 6 = .ok (.iconst 0, 1) := by decide +kernel
theorem dX7_keep_7 : decode cX7_keep 7 = .ok (.iconst 1, 1) := by decide +kernel
theorem dX7_keep_8 : decode cX7_keep 8 = .ok (.invokestatic 57, 3) := by decide +kernel
theorem dX7_keep_11 : decode cX7_keep 11 = .ok (.ifCond .ne 5, 3) := by decide +kernel
theorem dX7_keep_14 : decode cX7_keep 14 = .ok (.iconst (-1), 1) := by decide +kernel
theorem dX7_keep_15 : decode cX7_keep 15 = .ok (.ireturn, 1) := by decide +kernel
theorem dX7_keep_16 : decode cX7_keep 16 = .ok (.iconst 0, 1) := by decide +kernel
theorem dX7_keep_17 : decode cX7_keep 17 = .ok (.istore_n 2, 1) := by decide +kernel
theorem dX7_keep_18 : decode cX7_keep 18 = .ok (.iload_n 2, 1) := by decide +kernel
theorem dX7_keep_19 : decode cX7_keep 19 = .ok (.bipush 76, 2) := by decide +kernel
theorem dX7_keep_21 : decode cX7_keep 21 = .ok (.if_icmp .ge 26, 3) := by decide +kernel
theorem dX7_keep_24 : decode cX7_keep 24 = .ok (.aload_n 0, 1) := by decide +kernel
theorem dX7_keep_25 : decode cX7_keep 25 = .ok (.getfield 28, 3) := by decide +kernel
theorem dX7_keep_28 : decode cX7_keep 28 = .ok (.bipush 76, 2) := by decide +kernel
theorem dX7_keep_30 : decode cX7_keep 30 = .ok (.iload_n 1, 1) := by decide +kernel
theorem dX7_keep_31 : decode cX7_keep 31 = .ok (.imul, 1) := by decide +kernel
theorem dX7_keep_32 : decode cX7_keep 32 = .ok (.iload_n 2, 1) := by decide +kernel
theorem dX7_keep_33 : decode cX7_keep 33 = .ok (.iadd, 1) := by decide +kernel
theorem dX7_keep_34 : decode cX7_keep 34 = .ok (.aload_n 0, 1) := by decide +kernel
theorem dX7_keep_35 : decode cX7_keep 35 = .ok (.getfield 25, 3) := by decide +kernel
theorem dX7_keep_38 : decode cX7_keep 38 = .ok (.iload_n 2, 1) := by decide +kernel
theorem dX7_keep_39 : decode cX7_keep 39 = .ok (.iaload, 1) := by decide +kernel
theorem dX7_keep_40 : decode cX7_keep 40 = .ok (.iastore, 1) := by decide +kernel
theorem dX7_keep_41 : decode cX7_keep 41 = .ok (.iinc 2 1, 3) := by decide +kernel
theorem dX7_keep_44 : decode cX7_keep 44 = .ok (.goto (-26), 3) := by decide +kernel
theorem dX7_keep_47 : decode cX7_keep 47 = .ok (.aload_n 0, 1) := by decide +kernel
theorem dX7_keep_48 : decode cX7_keep 48 = .ok (.getfield 31, 3) := by decide +kernel
theorem dX7_keep_51 : decode cX7_keep 51 = .ok (.iload_n 1, 1) := by decide +kernel
theorem dX7_keep_52 : decode cX7_keep 52 = .ok (.iconst 1, 1) := by decide +kernel
theorem dX7_keep_53 : decode cX7_keep 53 = .ok (.bastore, 1) := by decide +kernel
theorem dX7_keep_54 : decode cX7_keep 54 = .ok (.aload_n 0, 1) := by decide +kernel
theorem dX7_keep_55 : decode cX7_keep 55 = .ok (.iconst 2, 1) := by decide +kernel
theorem dX7_keep_56 : decode cX7_keep 56 = .ok (.invokevirtual 172, 3) := by decide +kernel
theorem dX7_keep_59 : decode cX7_keep 59 = .ok (.ireturn, 1) := by decide +kernel
theorem dX7_back_0 : decode cX7_back 0 = .ok (.aload_n 0, 1) := by decide +kernel
theorem dX7_back_1 : decode cX7_back 1 = .ok (.iconst 0, 1) := by decide +kernel
theorem dX7_back_2 : decode cX7_back 2 = .ok (.putfield 47, 3) := by decide +kernel
theorem dX7_back_5 : decode cX7_back 5 = .ok (.iload_n 1, 1) := by decide +kernel
theorem dX7_back_6 : decode cX7_back 6 = .ok (.iconst 0, 1) := by decide +kernel
theorem dX7_back_7 : decode cX7_back 7 = .ok (.iconst 1, 1) := by decide +kernel
theorem dX7_back_8 : decode cX7_back 8 = .ok (.invokestatic 57, 3) := by decide +kernel
theorem dX7_back_11 : decode cX7_back 11 = .ok (.ifCond .ne 5, 3) := by decide +kernel
theorem dX7_back_14 : decode cX7_back 14 = .ok (.iconst (-1), 1) := by decide +kernel
theorem dX7_back_15 : decode cX7_back 15 = .ok (.ireturn, 1) := by decide +kernel
theorem dX7_back_16 : decode cX7_back 16 = .ok (.aload_n 0, 1) := by decide +kernel
theorem dX7_back_17 : decode cX7_back 17 = .ok (.getfield 31, 3) := by decide +kernel
theorem dX7_back_20 : decode cX7_back 20 = .ok (.iload_n 1, 1) := by decide +kernel
theorem dX7_back_21 : decode cX7_back 21 = .ok (.baload, 1) := by decide +kernel
theorem dX7_back_22 : decode cX7_back 22 = .ok (.ifCond .ne 6, 3) := by decide +kernel
theorem dX7_back_25 : decode cX7_back 25 = .ok (.bipush (-2), 2) := by decide +kernel
theorem dX7_back_27 : decode cX7_back 27 = .ok (.ireturn, 1) := by decide +kernel
theorem dX7_back_28 : decode cX7_back 28 = .ok (.iconst 0, 1) := by decide +kernel
theorem dX7_back_29 : decode cX7_back 29 = .ok (.istore_n 2, 1) := by decide +kernel
theorem dX7_back_30 : decode cX7_back 30 = .ok (.iload_n 2, 1) := by decide +kernel
theorem dX7_back_31 : decode cX7_back 31 = .ok (.bipush 76, 2) := by decide +kernel
theorem dX7_back_33 : decode cX7_back 33 = .ok (.if_icmp .ge 26, 3) := by decide +kernel
theorem dX7_back_36 : decode cX7_back 36 = .ok (.aload_n 0, 1) := by decide +kernel
theorem dX7_back_37 : decode cX7_back 37 = .ok (.getfield 25, 3) := by decide +kernel
theorem dX7_back_40 : decode cX7_back 40 = .ok (.iload_n 2, 1) := by decide +kernel
theorem dX7_back_41 : decode cX7_back 41 = .ok (.aload_n 0, 1) := by decide +kernel
theorem dX7_back_42 : decode cX7_back 42 = .ok (.getfield 28, 3) := by decide +kernel
theorem dX7_back_45 : decode cX7_back 45 = .ok (.bipush 76, 2) := by decide +kernel
theorem dX7_back_47 : decode cX7_back 47 = .ok (.iload_n 1, 1) := by decide +kernel
theorem dX7_back_48 : decode cX7_back 48 = .ok (.imul, 1) := by decide +kernel
theorem dX7_back_49 : decode cX7_back 49 = .ok (.iload_n 2, 1) := by decide +kernel
theorem dX7_back_50 : decode cX7_back 50 = .ok (.iadd, 1) := by decide +kernel
theorem dX7_back_51 : decode cX7_back 51 = .ok (.iaload, 1) := by decide +kernel
theorem dX7_back_52 : decode cX7_back 52 = .ok (.iastore, 1) := by decide +kernel
theorem dX7_back_53 : decode cX7_back 53 = .ok (.iinc 2 1, 3) := by decide +kernel
theorem dX7_back_56 : decode cX7_back 56 = .ok (.goto (-26), 3) := by decide +kernel
theorem dX7_back_59 : decode cX7_back 59 = .ok (.aload_n 0, 1) := by decide +kernel
theorem dX7_back_60 : decode cX7_back 60 = .ok (.iconst 2, 1) := by decide +kernel
theorem dX7_back_61 : decode cX7_back 61 = .ok (.invokevirtual 172, 3) := by decide +kernel
theorem dX7_back_64 : decode cX7_back 64 = .ok (.ireturn, 1) := by decide +kernel
theorem dX7_count_0 : decode cX7_count 0 = .ok (.aload_n 0, 1) := by decide +kernel
theorem dX7_count_1 : decode cX7_count 1 = .ok (.iconst 0, 1) := by decide +kernel
theorem dX7_count_2 : decode cX7_count 2 = .ok (.putfield 47, 3) := by decide +kernel
theorem dX7_count_5 : decode cX7_count 5 = .ok (.iload_n 1, 1) := by decide +kernel
theorem dX7_count_6 : decode cX7_count 6 = .ok (.ifCond .ne 10, 3) := by decide +kernel
theorem dX7_count_9 : decode cX7_count 9 = .ok (.aload_n 0, 1) := by decide +kernel
theorem dX7_count_10 : decode cX7_count 10 = .ok (.getfield 51, 3) := by decide +kernel
theorem dX7_count_13 : decode cX7_count 13 = .ok (.goto 52, 3) := by decide +kernel
theorem dX7_count_16 : decode cX7_count 16 = .ok (.iload_n 1, 1) := by decide +kernel
theorem dX7_count_17 : decode cX7_count 17 = .ok (.iconst 1, 1) := by decide +kernel
theorem dX7_count_18 : decode cX7_count 18 = .ok (.if_icmp .ne 10, 3) := by decide +kernel
theorem dX7_count_21 : decode cX7_count 21 = .ok (.aload_n 0, 1) := by decide +kernel
theorem dX7_count_22 : decode cX7_count 22 = .ok (.getfield 54, 3) := by decide +kernel
theorem dX7_count_25 : decode cX7_count 25 = .ok (.goto 40, 3) := by decide +kernel
theorem dX7_count_28 : decode cX7_count 28 = .ok (.iload_n 1, 1) := by decide +kernel
theorem dX7_count_29 : decode cX7_count 29 = .ok (.iconst 2, 1) := by decide +kernel
theorem dX7_count_30 : decode cX7_count 30 = .ok (.if_icmp .ne 10, 3) := by decide +kernel
theorem dX7_count_33 : decode cX7_count 33 = .ok (.aload_n 0, 1) := by decide +kernel
theorem dX7_count_34 : decode cX7_count 34 = .ok (.getfield 61, 3) := by decide +kernel
theorem dX7_count_37 : decode cX7_count 37 = .ok (.goto 28, 3) := by decide +kernel
theorem dX7_count_40 : decode cX7_count 40 = .ok (.iload_n 1, 1) := by decide +kernel
theorem dX7_count_41 : decode cX7_count 41 = .ok (.iconst 3, 1) := by decide +kernel
theorem dX7_count_42 : decode cX7_count 42 = .ok (.if_icmp .ne 10, 3) := by decide +kernel
theorem dX7_count_45 : decode cX7_count 45 = .ok (.aload_n 0, 1) := by decide +kernel
theorem dX7_count_46 : decode cX7_count 46 = .ok (.getfield 128, 3) := by decide +kernel
theorem dX7_count_49 : decode cX7_count 49 = .ok (.goto 16, 3) := by decide +kernel
theorem dX7_count_52 : decode cX7_count 52 = .ok (.iload_n 1, 1) := by decide +kernel
theorem dX7_count_53 : decode cX7_count 53 = .ok (.iconst 4, 1) := by decide +kernel
theorem dX7_count_54 : decode cX7_count 54 = .ok (.if_icmp .ne 10, 3) := by decide +kernel
theorem dX7_count_57 : decode cX7_count 57 = .ok (.aload_n 0, 1) := by decide +kernel
theorem dX7_count_58 : decode cX7_count 58 = .ok (.getfield 64, 3) := by decide +kernel
theorem dX7_count_61 : decode cX7_count 61 = .ok (.goto 4, 3) := by decide +kernel
theorem dX7_count_64 : decode cX7_count 64 = .ok (.iconst (-1), 1) := by decide +kernel
theorem dX7_count_65 : decode cX7_count 65 = .ok (.ireturn, 1) := by decide +kernel
theorem dX7_trace_0 : decode cX7_trace 0 = .ok (.aload_n 0, 1) := by decide +kernel
theorem dX7_trace_1 : decode cX7_trace 1 = .ok (.iconst 0, 1) := by decide +kernel
theorem dX7_trace_2 : decode cX7_trace 2 = .ok (.putfield 47, 3) := by decide +kernel
theorem dX7_trace_5 : decode cX7_trace 5 = .ok (.aload_n 0, 1) := by decide +kernel
theorem dX7_trace_6 : decode cX7_trace 6 = .ok (.getfield 203, 3) := by decide +kernel
theorem dX7_trace_9 : decode cX7_trace 9 = .ok (.lreturn, 1) := by decide +kernel
