theorem dX0_init_0 : decode cX0_init 0 = .ok (.aload_n 0, 1) := by decide +kernel
theorem dX0_init_1 : decode cX0_init 1 = .ok (.invokespecial 3, 3) := by decide +kernel
theorem dX0_init_4 : decode cX0_init 4 = .ok (.aload_n 0, 1) := by decide +kernel
theorem dX0_init_5 : decode cX0_init 5 = .ok (.bipush 24, 2) := by decide +kernel
theorem dX0_init_7 : decode cX0_init 7 = .ok (.newarray .int, 2) := by decide +kernel
theorem dX0_init_9 : decode cX0_init 9 = .ok (.putfield 9, 3) := by decide +kernel
theorem dX0_init_12 : decode cX0_init 12 = .ok (.aload_n 0, 1) := by decide +kernel
theorem dX0_init_13 : decode cX0_init 13 = .ok (.bipush 24, 2) := by decide +kernel
theorem dX0_init_15 : decode cX0_init 15 = .ok (.newarray .int, 2) := by decide +kernel
theorem dX0_init_17 : decode cX0_init 17 = .ok (.putfield 15, 3) := by decide +kernel
theorem dX0_init_20 : decode cX0_init 20 = .ok (.aload_n 0, 1) := by decide +kernel
theorem dX0_init_21 : decode cX0_init 21 = .ok (.iconst 4, 1) := by decide +kernel
theorem dX0_init_22 : decode cX0_init 22 = .ok (.newarray .int, 2) := by decide +kernel
theorem dX0_init_24 : decode cX0_init 24 = .ok (.putfield 18, 3) := by decide +kernel
theorem dX0_init_27 : decode cX0_init 27 = .ok (.return_, 1) := by decide +kernel
theorem dX0_beginAsTold_0 : decode cX0_beginAsTold 0 = .ok (.aload_n 0, 1) := by decide +kernel
theorem dX0_beginAsTold_1 : decode cX0_beginAsTold 1 = .ok (.aload_n 1, 1) := by decide +kernel
theorem dX0_beginAsTold_2 : decode cX0_beginAsTold 2 = .ok (.getfield 21, 3) := by decide +kernel
theorem dX0_beginAsTold_5 : decode cX0_beginAsTold 5 = .ok (.putfield 27, 3) := by decide +kernel
theorem dX0_beginAsTold_8 : decode cX0_beginAsTold 8 = .ok (.aload_n 0, 1) := by decide +kernel
theorem dX0_beginAsTold_9 : decode cX0_beginAsTold 9 = .ok (.aload_n 1, 1) := by decide +kernel
theorem dX0_beginAsTold_10 : decode cX0_beginAsTold 10 = .ok (.getfield 28, 3) := by decide +kernel
theorem dX0_beginAsTold_13 : decode cX0_beginAsTold 13 = .ok (.putfield 31, 3) := by decide +kernel
theorem dX0_beginAsTold_16 : decode cX0_beginAsTold 16 = .ok (.iconst 0, 1) := by decide +kernel
theorem dX0_beginAsTold_17 : decode cX0_beginAsTold 17 = .ok (.istore_n 2, 1) := by decide +kernel
theorem dX0_beginAsTold_18 : decode cX0_beginAsTold 18 = .ok (.iload_n 2, 1) := by decide +kernel
theorem dX0_beginAsTold_19 : decode cX0_beginAsTold 19 = .ok (.bipush 24, 2) := by decide +kernel
theorem dX0_beginAsTold_21 : decode cX0_beginAsTold 21 = .ok (.if_icmp .ge 46, 3) := by decide +kernel
theorem dX0_beginAsTold_24 : decode cX0_beginAsTold 24 = .ok (.aload_n 0, 1) := by decide +kernel
theorem dX0_beginAsTold_25 : decode cX0_beginAsTold 25 = .ok (.getfield 9, 3) := by decide +kernel
theorem dX0_beginAsTold_28 : decode cX0_beginAsTold 28 = .ok (.iload_n 2, 1) := by decide +kernel
theorem dX0_beginAsTold_29 : decode cX0_beginAsTold 29 = .ok (.aload_n 0, 1) := by decide +kernel
theorem dX0_beginAsTold_30 : decode cX0_beginAsTold 30 = .ok (.getfield 31, 3) := by decide +kernel
theorem dX0_beginAsTold_33 : decode cX0_beginAsTold 33 = .ok (.iload_n 2, 1) := by decide +kernel
theorem dX0_beginAsTold_34 : decode cX0_beginAsTold 34 = .ok (.invokestatic 32, 3) := by decide +kernel
theorem dX0_beginAsTold_37 : decode cX0_beginAsTold 37 = .ok (.ifCond .eq 10, 3) := by decide +kernel
theorem dX0_beginAsTold_40 : decode cX0_beginAsTold 40 = .ok (.aload_n 1, 1) := by decide +kernel
theorem dX0_beginAsTold_41 : decode cX0_beginAsTold 41 = .ok (.getfield 36, 3) := by decide +kernel
theorem dX0_beginAsTold_44 : decode cX0_beginAsTold 44 = .ok (.goto 4, 3) := by decide +kernel
theorem dX0_beginAsTold_47 : decode cX0_beginAsTold 47 = .ok (.iconst 0, 1) := by decide +kernel
theorem dX0_beginAsTold_48 : decode cX0_beginAsTold 48 = .ok (.invokestatic 39, 3) := by decide +kernel
theorem dX0_beginAsTold_51 : decode cX0_beginAsTold 51 = .ok (.aload_n 0, 1) := by decide +kernel
theorem dX0_beginAsTold_52 : decode cX0_beginAsTold 52 = .ok (.getfield 15, 3) := by decide +kernel
theorem dX0_beginAsTold_55 : decode cX0_beginAsTold 55 = .ok (.iload_n 2, 1) := by decide +kernel
theorem dX0_beginAsTold_56 : decode cX0_beginAsTold 56 = .ok (.bipush (-9), 2) := by decide +kernel
theorem dX0_beginAsTold_58 : decode cX0_beginAsTold 58 = .ok (.invokestatic 39, 3) := by decide +kernel
theorem dX0_beginAsTold_61 : decode cX0_beginAsTold 61 = .ok (.iinc 2 1, 3) := by decide +kernel
theorem dX0_beginAsTold_64 : decode cX0_beginAsTold 64 = .ok (.goto (-46), 3) := by decide +kernel
theorem dX0_beginAsTold_67 : decode cX0_beginAsTold 67 = .ok (.iconst 0, 1) := by decide +kernel
theorem dX0_beginAsTold_68 : decode cX0_beginAsTold 68 = .ok (.istore_n 2, 1) := by decide +kernel
theorem dX0_beginAsTold_69 : decode cX0_beginAsTold 69 = .ok (.iload_n 2, 1) := by decide +kernel
theorem dX0_beginAsTold_70 : decode cX0_beginAsTold 70 = .ok (.iconst 4, 1) := by decide +kernel
theorem dX0_beginAsTold_71 : decode cX0_beginAsTold 71 = .ok (.if_icmp .ge 18, 3) := by decide +kernel
theorem dX0_beginAsTold_74 : decode cX0_beginAsTold 74 = .ok (.aload_n 0, 1) := by decide +kernel
theorem dX0_beginAsTold_75 : decode cX0_beginAsTold 75 = .ok (.getfield 18, 3) := by decide +kernel
theorem dX0_beginAsTold_78 : decode cX0_beginAsTold 78 = .ok (.iload_n 2, 1) := by decide +kernel
theorem dX0_beginAsTold_79 : decode cX0_beginAsTold 79 = .ok (.iconst 0, 1) := by decide +kernel
theorem dX0_beginAsTold_80 : decode cX0_beginAsTold 80 = .ok (.invokestatic 39, 3) := by decide +kernel
theorem dX0_beginAsTold_83 : decode cX0_beginAsTold 83 = .ok (.iinc 2 1, 3) := by decide +kernel
theorem dX0_beginAsTold_86 : decode cX0_beginAsTold 86 = .ok (.goto (-17), 3) := by decide +kernel
theorem dX0_beginAsTold_89 : decode cX0_beginAsTold 89 = .ok (.return_, 1) := by decide +kernel
theorem dX0_copy_0 : decode cX0_copy 0 = .ok (.aload_n 0, 1) := by decide +kernel
theorem dX0_copy_1 : decode cX0_copy 1 = .ok (.aload_n 1, 1) := by decide +kernel
theorem dX0_copy_2 : decode cX0_copy 2 = .ok (.getfield 27, 3) := by decide +kernel
theorem dX0_copy_5 : decode cX0_copy 5 = .ok (.putfield 27, 3) := by decide +kernel
theorem dX0_copy_8 : decode cX0_copy 8 = .ok (.aload_n 0, 1) := by decide +kernel
theorem dX0_copy_9 : decode cX0_copy 9 = .ok (.aload_n 1, 1) := by decide +kernel
theorem dX0_copy_10 : decode cX0_copy 10 = .ok (.getfield 31, 3) := by decide +kernel
theorem dX0_copy_13 : decode cX0_copy 13 = .ok (.putfield 31, 3) := by decide +kernel
theorem dX0_copy_16 : decode cX0_copy 16 = .ok (.aload_n 1, 1) := by decide +kernel
theorem dX0_copy_17 : decode cX0_copy 17 = .ok (.getfield 9, 3) := by decide +kernel
theorem dX0_copy_20 : decode cX0_copy 20 = .ok (.aload_n 0, 1) := by decide +kernel
theorem dX0_copy_21 : decode cX0_copy 21 = .ok (.getfield 9, 3) := by decide +kernel
theorem dX0_copy_24 : decode cX0_copy 24 = .ok (.invokestatic 43, 3) := by decide +kernel
theorem dX0_copy_27 : decode cX0_copy 27 = .ok (.aload_n 1, 1) := by decide +kernel
theorem dX0_copy_28 : decode cX0_copy 28 = .ok (.getfield 15, 3) := by decide +kernel
theorem dX0_copy_31 : decode cX0_copy 31 = .ok (.aload_n 0, 1) := by decide +kernel
theorem dX0_copy_32 : decode cX0_copy 32 = .ok (.getfield 15, 3) := by decide +kernel
theorem dX0_copy_35 : decode cX0_copy 35 = .ok (.invokestatic 43, 3) := by decide +kernel
theorem dX0_copy_38 : decode cX0_copy 38 = .ok (.aload_n 1, 1) := by decide +kernel
theorem dX0_copy_39 : decode cX0_copy 39 = .ok (.getfield 18, 3) := by decide +kernel
theorem dX0_copy_42 : decode cX0_copy 42 = .ok (.aload_n 0, 1) := by decide +kernel
theorem dX0_copy_43 : decode cX0_copy 43 = .ok (.getfield 18, 3) := by decide +kernel
theorem dX0_copy_46 : decode cX0_copy 46 = .ok (.invokestatic 43, 3) := by decide +kernel
theorem dX0_copy_49 : decode cX0_copy 49 = .ok (.return_, 1) := by decide +kernel
theorem dX0_groundOf_0 : decode cX0_groundOf 0 = .ok (.aload_n 0, 1) := by decide +kernel
theorem dX0_groundOf_1 : decode cX0_groundOf 1 = .ok (.getfield 31, 3) := by decide +kernel
theorem dX0_groundOf_4 : decode cX0_groundOf 4 = .ok (.iload_n 1, 1) := by decide +kernel
theorem dX0_groundOf_5 : decode cX0_groundOf 5 = .ok (.invokestatic 32, 3) := by decide +kernel
theorem dX0_groundOf_8 : decode cX0_groundOf 8 = .ok (.ifCond .eq 5, 3) := by decide +kernel
theorem dX0_groundOf_11 : decode cX0_groundOf 11 = .ok (.iconst 2, 1) := by decide +kernel
theorem dX0_groundOf_12 : decode cX0_groundOf 12 = .ok (.ireturn, 1) := by decide +kernel
theorem dX0_groundOf_13 : decode cX0_groundOf 13 = .ok (.aload_n 0, 1) := by decide +kernel
theorem dX0_groundOf_14 : decode cX0_groundOf 14 = .ok (.getfield 27, 3) := by decide +kernel
theorem dX0_groundOf_17 : decode cX0_groundOf 17 = .ok (.iload_n 1, 1) := by decide +kernel
theorem dX0_groundOf_18 : decode cX0_groundOf 18 = .ok (.invokestatic 32, 3) := by decide +kernel
theorem dX0_groundOf_21 : decode cX0_groundOf 21 = .ok (.ifCond .eq 7, 3) := by decide +kernel
theorem dX0_groundOf_24 : decode cX0_groundOf 24 = .ok (.iconst 1, 1) := by decide +kernel
theorem dX0_groundOf_25 : decode cX0_groundOf 25 = .ok (.goto 4, 3) := by decide +kernel
theorem dX0_groundOf_28 : decode cX0_groundOf 28 = .ok (.iconst 0, 1) := by decide +kernel
theorem dX0_groundOf_29 : decode cX0_groundOf 29 = .ok (.ireturn, 1) := by decide +kernel
theorem dX0_laidBy_0 : decode cX0_laidBy 0 = .ok (.iconst 0, 1) := by decide +kernel
theorem dX0_laidBy_1 : decode cX0_laidBy 1 = .ok (.istore_n 2, 1) := by decide +kernel
theorem dX0_laidBy_2 : decode cX0_laidBy 2 = .ok (.iconst 0, 1) := by decide +kernel
theorem dX0_laidBy_3 : decode cX0_laidBy 3 = .ok (.istore_n 3, 1) := by decide +kernel
theorem dX0_laidBy_4 : decode cX0_laidBy 4 = .ok (.iload_n 3, 1) := by decide +kernel
theorem dX0_laidBy_5 : decode cX0_laidBy 5 = .ok (.bipush 24, 2) := by decide +kernel
theorem dX0_laidBy_7 : decode cX0_laidBy 7 = .ok (.if_icmp .ge 35, 3) := by decide +kernel
theorem dX0_laidBy_10 : decode cX0_laidBy 10 = .ok (.aload_n 0, 1) := by decide +kernel
theorem dX0_laidBy_11 : decode cX0_laidBy 11 = .ok (.getfield 31, 3) := by decide +kernel
theorem dX0_laidBy_14 : decode cX0_laidBy 14 = .ok (.iload_n 3, 1) := by decide +kernel
theorem dX0_laidBy_15 : decode cX0_laidBy 15 = .ok (.invokestatic 32, 3) := by decide +kernel
theorem dX0_laidBy_18 : decode cX0_laidBy 18 = .ok (.ifCond .eq 18, 3) := by decide +kernel
theorem dX0_laidBy_21 : decode cX0_laidBy 21 = .ok (.aload_n 0, 1) := by decide +kernel
theorem dX0_laidBy_22 : decode cX0_laidBy 22 = .ok (.getfield 15, 3) := by decide +kernel
theorem dX0_laidBy_25 : decode cX0_laidBy 25 = .ok (.iload_n 3, 1) := by decide +kernel
theorem dX0_laidBy_26 : decode cX0_laidBy 26 = .ok (.invokestatic 47, 3) := by decide +kernel
theorem dX0_laidBy_29 : decode cX0_laidBy 29 = .ok (.iload_n 1, 1) := by decide +kernel
theorem dX0_laidBy_30 : decode cX0_laidBy 30 = .ok (.if_icmp .ne 6, 3) := by decide +kernel
theorem dX0_laidBy_33 : decode cX0_laidBy 33 = .ok (.iinc 2 1, 3) := by decide +kernel
theorem dX0_laidBy_36 : decode cX0_laidBy 36 = .ok (.iinc 3 1, 3) := by decide +kernel
theorem dX0_laidBy_39 : decode cX0_laidBy 39 = .ok (.goto (-35), 3) := by decide +kernel
theorem dX0_laidBy_42 : decode cX0_laidBy 42 = .ok (.iload_n 2, 1) := by decide +kernel
theorem dX0_laidBy_43 : decode cX0_laidBy 43 = .ok (.ireturn, 1) := by decide +kernel
theorem dX0_passedByAll_0 : decode cX0_passedByAll 0 = .ok (.iconst 0, 1) := by decide +kernel
theorem dX0_passedByAll_1 : decode cX0_passedByAll 1 = .ok (.istore_n 1, 1) := by decide +kernel
theorem dX0_passedByAll_2 : decode cX0_passedByAll 2 = .ok (.iconst 0, 1) := by decide +kernel
theorem dX0_passedByAll_3 : decode cX0_passedByAll 3 = .ok (.istore_n 2, 1) := by decide +kernel
theorem dX0_passedByAll_4 : decode cX0_passedByAll 4 = .ok (.iload_n 2, 1) := by decide +kernel
theorem dX0_passedByAll_5 : decode cX0_passedByAll 5 = .ok (.iconst 4, 1) := by decide +kernel
theorem dX0_passedByAll_6 : decode cX0_passedByAll 6 = .ok (.if_icmp .ge 20, 3) := by decide +kernel
theorem dX0_passedByAll_9 : decode cX0_passedByAll 9 = .ok (.iload_n 1, 1) := by decide +kernel
theorem dX0_passedByAll_10 : decode cX0_passedByAll 10 = .ok (.aload_n 0, 1) := by decide +kernel
theorem dX0_passedByAll_11 : decode cX0_passedByAll 11 = .ok (.getfield 18, 3) := by decide +kernel
theorem dX0_passedByAll_14 : decode cX0_passedByAll 14 = .ok (.iload_n 2, 1) := by decide +kernel
theorem dX0_passedByAll_15 : decode cX0_passedByAll 15 = .ok (.invokestatic 47, 3) := by decide +kernel
theorem dX0_passedByAll_18 : decode cX0_passedByAll 18 = .ok (.iadd, 1) := by decide +kernel
theorem dX0_passedByAll_19 : decode cX0_passedByAll 19 = .ok (.istore_n 1, 1) := by decide +kernel
theorem dX0_passedByAll_20 : decode cX0_passedByAll 20 = .ok (.iinc 2 1, 3) := by decide +kernel
theorem dX0_passedByAll_23 : decode cX0_passedByAll 23 = .ok (.goto (-19), 3) := by decide +kernel
theorem dX0_passedByAll_26 : decode cX0_passedByAll 26 = .ok (.iload_n 1, 1) := by decide +kernel
theorem dX0_passedByAll_27 : decode cX0_passedByAll 27 = .ok (.ireturn, 1) := by decide +kernel
theorem dX0_stepOn_0 : decode cX0_stepOn 0 = .ok (.aload_n 0, 1) := by decide +kernel
theorem dX0_stepOn_1 : decode cX0_stepOn 1 = .ok (.getfield 9, 3) := by decide +kernel
theorem dX0_stepOn_4 : decode cX0_stepOn 4 = .ok (.iload_n 1, 1) := by decide +kernel
theorem dX0_stepOn_5 : decode cX0_stepOn 5 = .ok (.invokestatic 47, 3) := by decide +kernel
theorem dX0_stepOn_8 : decode cX0_stepOn 8 = .ok (.istore_n 2, 1) := by decide +kernel
theorem dX0_stepOn_9 : decode cX0_stepOn 9 = .ok (.aload_n 0, 1) := by decide +kernel
theorem dX0_stepOn_10 : decode cX0_stepOn 10 = .ok (.getfield 31, 3) := by decide +kernel
theorem dX0_stepOn_13 : decode cX0_stepOn 13 = .ok (.iload_n 1, 1) := by decide +kernel
theorem dX0_stepOn_14 : decode cX0_stepOn 14 = .ok (.invokestatic 32, 3) := by decide +kernel
theorem dX0_stepOn_17 : decode cX0_stepOn 17 = .ok (.ifCond .eq 7, 3) := by decide +kernel
theorem dX0_stepOn_20 : decode cX0_stepOn 20 = .ok (.iload_n 2, 1) := by decide +kernel
theorem dX0_stepOn_21 : decode cX0_stepOn 21 = .ok (.ifCond .ne 4, 3) := by decide +kernel
theorem dX0_stepOn_24 : decode cX0_stepOn 24 = .ok (.return_, 1) := by decide +kernel
theorem dX0_stepOn_25 : decode cX0_stepOn 25 = .ok (.aload_n 0, 1) := by decide +kernel
theorem dX0_stepOn_26 : decode cX0_stepOn 26 = .ok (.getfield 9, 3) := by decide +kernel
theorem dX0_stepOn_29 : decode cX0_stepOn 29 = .ok (.iload_n 1, 1) := by decide +kernel
theorem dX0_stepOn_30 : decode cX0_stepOn 30 = .ok (.iload_n 2, 1) := by decide +kernel
theorem dX0_stepOn_31 : decode cX0_stepOn 31 = .ok (.iconst 1, 1) := by decide +kernel
theorem dX0_stepOn_32 : decode cX0_stepOn 32 = .ok (.isub, 1) := by decide +kernel
theorem dX0_stepOn_33 : decode cX0_stepOn 33 = .ok (.invokestatic 39, 3) := by decide +kernel
theorem dX0_stepOn_36 : decode cX0_stepOn 36 = .ok (.iload_n 2, 1) := by decide +kernel
theorem dX0_stepOn_37 : decode cX0_stepOn 37 = .ok (.iconst 1, 1) := by decide +kernel
theorem dX0_stepOn_38 : decode cX0_stepOn 38 = .ok (.if_icmp .ne 39, 3) := by decide +kernel
theorem dX0_stepOn_41 : decode cX0_stepOn 41 = .ok (.aload_n 0, 1) := by decide +kernel
theorem dX0_stepOn_42 : decode cX0_stepOn 42 = .ok (.dup, 1) := by decide +kernel
theorem dX0_stepOn_43 : decode cX0_stepOn 43 = .ok (.getfield 31, 3) := by decide +kernel
theorem dX0_stepOn_46 : decode cX0_stepOn 46 = .ok (.iconst 1, 1) := by decide +kernel
theorem dX0_stepOn_47 : decode cX0_stepOn 47 = .ok (.iload_n 1, 1) := by decide +kernel
theorem dX0_stepOn_48 : decode cX0_stepOn 48 = .ok (.ishl, 1) := by decide +kernel
theorem dX0_stepOn_49 : decode cX0_stepOn 49 = .ok (.iconst (-1), 1) := by decide +kernel
theorem dX0_stepOn_50 : decode cX0_stepOn 50 = .ok (.ixor, 1) := by decide +kernel
theorem dX0_stepOn_51 : decode cX0_stepOn 51 = .ok (.iand, 1) := by decide +kernel
theorem dX0_stepOn_52 : decode cX0_stepOn 52 = .ok (.putfield 31, 3) := by decide +kernel
theorem dX0_stepOn_55 : decode cX0_stepOn 55 = .ok (.aload_n 0, 1) := by decide +kernel
theorem dX0_stepOn_56 : decode cX0_stepOn 56 = .ok (.dup, 1) := by decide +kernel
theorem dX0_stepOn_57 : decode cX0_stepOn 57 = .ok (.getfield 27, 3) := by decide +kernel
theorem dX0_stepOn_60 : decode cX0_stepOn 60 = .ok (.iconst 1, 1) := by decide +kernel
theorem dX0_stepOn_61 : decode cX0_stepOn 61 = .ok (.iload_n 1, 1) := by decide +kernel
theorem dX0_stepOn_62 : decode cX0_stepOn 62 = .ok (.ishl, 1) := by decide +kernel
theorem dX0_stepOn_63 : decode cX0_stepOn 63 = .ok (.ior, 1) := by decide +kernel
theorem dX0_stepOn_64 : decode cX0_stepOn 64 = .ok (.putfield 27, 3) := by decide +kernel
theorem dX0_stepOn_67 : decode cX0_stepOn 67 = .ok (.aload_n 0, 1) := by decide +kernel
theorem dX0_stepOn_68 : decode cX0_stepOn 68 = .ok (.getfield 15, 3) := by decide +kernel
theorem dX0_stepOn_71 : decode cX0_stepOn 71 = .ok (.iload_n 1, 1) := by decide +kernel
theorem dX0_stepOn_72 : decode cX0_stepOn 72 = .ok (.bipush (-9), 2) := by decide +kernel
theorem dX0_stepOn_74 : decode cX0_stepOn 74 = .ok (.invokestatic 39, 3) := by decide +kernel
theorem dX0_stepOn_77 : decode cX0_stepOn 77 = .ok (.return_, 1) := by decide +kernel
theorem dX0_lay_0 : decode cX0_lay 0 = .ok (.aload_n 0, 1) := by decide +kernel
theorem dX0_lay_1 : decode cX0_lay 1 = .ok (.dup, 1) := by decide +kernel
theorem dX0_lay_2 : decode cX0_lay 2 = .ok (.getfield 27, 3) := by decide +kernel
theorem dX0_lay_5 : decode cX0_lay 5 = .ok (.iconst 1, 1) := by decide +kernel
theorem dX0_lay_6 : decode cX0_lay 6 = .ok (.iload_n 2, 1) := by decide +kernel
theorem dX0_lay_7 : decode cX0_lay 7 = .ok (.ishl, 1) := by decide +kernel
theorem dX0_lay_8 : decode cX0_lay 8 = .ok (.iconst (-1), 1) := by decide +kernel
theorem dX0_lay_9 : decode cX0_lay 9 = .ok (.ixor, 1) := by decide +kernel
theorem dX0_lay_10 : decode cX0_lay 10 = .ok (.iand, 1) := by decide +kernel
theorem dX0_lay_11 : decode cX0_lay 11 = .ok (.putfield 27, 3) := by decide +kernel
theorem dX0_lay_14 : decode cX0_lay 14 = .ok (.aload_n 0, 1) := by decide +kernel
theorem dX0_lay_15 : decode cX0_lay 15 = .ok (.dup, 1) := by decide +kernel
theorem dX0_lay_16 : decode cX0_lay 16 = .ok (.getfield 31, 3) := by decide +kernel
theorem dX0_lay_19 : decode cX0_lay 19 = .ok (.iconst 1, 1) := by decide +kernel
theorem dX0_lay_20 : decode cX0_lay 20 = .ok (.iload_n 2, 1) := by decide +kernel
theorem dX0_lay_21 : decode cX0_lay 21 = .ok (.ishl, 1) := by decide +kernel
theorem dX0_lay_22 : decode cX0_lay 22 = .ok (.ior, 1) := by decide +kernel
theorem dX0_lay_23 : decode cX0_lay 23 = .ok (.putfield 31, 3) := by decide +kernel
theorem dX0_lay_26 : decode cX0_lay 26 = .ok (.aload_n 0, 1) := by decide +kernel
theorem dX0_lay_27 : decode cX0_lay 27 = .ok (.getfield 9, 3) := by decide +kernel
theorem dX0_lay_30 : decode cX0_lay 30 = .ok (.iload_n 2, 1) := by decide +kernel
theorem dX0_lay_31 : decode cX0_lay 31 = .ok (.iload_n 3, 1) := by decide +kernel
theorem dX0_lay_32 : decode cX0_lay 32 = .ok (.invokestatic 39, 3) := by decide +kernel
theorem dX0_lay_35 : decode cX0_lay 35 = .ok (.aload_n 0, 1) := by decide +kernel
theorem dX0_lay_36 : decode cX0_lay 36 = .ok (.getfield 15, 3) := by decide +kernel
theorem dX0_lay_39 : decode cX0_lay 39 = .ok (.iload_n 2, 1) := by decide +kernel
theorem dX0_lay_40 : decode cX0_lay 40 = .ok (.iload_n 1, 1) := by decide +kernel
theorem dX0_lay_41 : decode cX0_lay 41 = .ok (.invokestatic 39, 3) := by decide +kernel
theorem dX0_lay_44 : decode cX0_lay 44 = .ok (.aload_n 0, 1) := by decide +kernel
theorem dX0_lay_45 : decode cX0_lay 45 = .ok (.getfield 18, 3) := by decide +kernel
theorem dX0_lay_48 : decode cX0_lay 48 = .ok (.iload_n 1, 1) := by decide +kernel
theorem dX0_lay_49 : decode cX0_lay 49 = .ok (.aload_n 0, 1) := by decide +kernel
theorem dX0_lay_50 : decode cX0_lay 50 = .ok (.getfield 18, 3) := by decide +kernel
theorem dX0_lay_53 : decode cX0_lay 53 = .ok (.iload_n 1, 1) := by decide +kernel
theorem dX0_lay_54 : decode cX0_lay 54 = .ok (.invokestatic 47, 3) := by decide +kernel
theorem dX0_lay_57 : decode cX0_lay 57 = .ok (.iconst 1, 1) := by decide +kernel
theorem dX0_lay_58 : decode cX0_lay 58 = .ok (.iadd, 1) := by decide +kernel
theorem dX0_lay_59 : decode cX0_lay 59 = .ok (.invokestatic 39, 3) := by decide +kernel
theorem dX0_lay_62 : decode cX0_lay 62 = .ok (.return_, 1) := by decide +kernel
theorem dX1_init_0 : decode cX1_init 0 = .ok (.aload_n 0, 1) := by decide +kernel
theorem dX1_init_1 : decode cX1_init 1 = .ok (.invokespecial 3, 3) := by decide +kernel
theorem dX1_init_4 : decode cX1_init 4 = .ok (.aload_n 0, 1) := by decide +kernel
theorem dX1_init_5 : decode cX1_init 5 = .ok (.new 9, 3) := by decide +kernel
theorem dX1_init_8 : decode cX1_init 8 = .ok (.dup, 1) := by decide +kernel
theorem dX1_init_9 : decode cX1_init 9 = .ok (.invokespecial 11, 3) := by decide +kernel
theorem dX1_init_12 : decode cX1_init 12 = .ok (.putfield 12, 3) := by decide +kernel
theorem dX1_init_15 : decode cX1_init 15 = .ok (.aload_n 0, 1) := by decide +kernel
theorem dX1_init_16 : decode cX1_init 16 = .ok (.sipush 256, 3) := by decide +kernel
theorem dX1_init_19 : decode cX1_init 19 = .ok (.newarray .int, 2) := by decide +kernel
theorem dX1_init_21 : decode cX1_init 21 = .ok (.putfield 18, 3) := by decide +kernel
theorem dX1_init_24 : decode cX1_init 24 = .ok (.return_, 1) := by decide +kernel
theorem dX1_bestToLay_0 : decode cX1_bestToLay 0 = .ok (.bipush (-9), 2) := by decide +kernel
theorem dX1_bestToLay_2 : decode cX1_bestToLay 2 = .ok (.istore 5, 2) := by decide +kernel
theorem dX1_bestToLay_4 : decode cX1_bestToLay 4 = .ok (.bipush 25, 2) := by decide +kernel
theorem dX1_bestToLay_6 : decode cX1_bestToLay 6 = .ok (.istore 6, 2) := by decide +kernel
theorem dX1_bestToLay_8 : decode cX1_bestToLay 8 = .ok (.iconst 0, 1) := by decide +kernel
theorem dX1_bestToLay_9 : decode cX1_bestToLay 9 = .ok (.istore 7, 2) := by decide +kernel
theorem dX1_bestToLay_11 : decode cX1_bestToLay 11 = .ok (.iload 7, 2) := by decide +kernel
theorem dX1_bestToLay_13 : decode cX1_bestToLay 13 = .ok (.bipush 24, 2) := by decide +kernel
theorem dX1_bestToLay_15 : decode cX1_bestToLay 15 = .ok (.if_icmp .ge 67, 3) := by decide +kernel
theorem dX1_bestToLay_18 : decode cX1_bestToLay 18 = .ok (.iload 4, 2) := by decide +kernel
theorem dX1_bestToLay_20 : decode cX1_bestToLay 20 = .ok (.iload 7, 2) := by decide +kernel
theorem dX1_bestToLay_22 : decode cX1_bestToLay 22 = .ok (.invokestatic 22, 3) := by decide +kernel
theorem dX1_bestToLay_25 : decode cX1_bestToLay 25 = .ok (.ifCond .eq 51, 3) := by decide +kernel
theorem dX1_bestToLay_28 : decode cX1_bestToLay 28 = .ok (.aload_n 0, 1) := by decide +kernel
theorem dX1_bestToLay_29 : decode cX1_bestToLay 29 = .ok (.getfield 12, 3) := by decide +kernel
theorem dX1_bestToLay_32 : decode cX1_bestToLay 32 = .ok (.iload_n 1, 1) := by decide +kernel
theorem dX1_bestToLay_33 : decode cX1_bestToLay 33 = .ok (.iload_n 2, 1) := by decide +kernel
theorem dX1_bestToLay_34 : decode cX1_bestToLay 34 = .ok (.iload_n 3, 1) := by decide +kernel
theorem dX1_bestToLay_35 : decode cX1_bestToLay 35 = .ok (.iconst 1, 1) := by decide +kernel
theorem dX1_bestToLay_36 : decode cX1_bestToLay 36 = .ok (.iload 7, 2) := by decide +kernel
theorem dX1_bestToLay_38 : decode cX1_bestToLay 38 = .ok (.ishl, 1) := by decide +kernel
theorem dX1_bestToLay_39 : decode cX1_bestToLay 39 = .ok (.ior, 1) := by decide +kernel
theorem dX1_bestToLay_40 : decode cX1_bestToLay 40 = .ok (.invokevirtual 26, 3) := by decide +kernel
theorem dX1_bestToLay_43 : decode cX1_bestToLay 43 = .ok (.istore 8, 2) := by decide +kernel
theorem dX1_bestToLay_45 : decode cX1_bestToLay 45 = .ok (.iload 8, 2) := by decide +kernel
theorem dX1_bestToLay_47 : decode cX1_bestToLay 47 = .ok (.bipush (-9), 2) := by decide +kernel
theorem dX1_bestToLay_49 : decode cX1_bestToLay 49 = .ok (.if_icmp .ne 8, 3) := by decide +kernel
theorem dX1_bestToLay_52 : decode cX1_bestToLay 52 = .ok (.bipush 24, 2) := by decide +kernel
theorem dX1_bestToLay_54 : decode cX1_bestToLay 54 = .ok (.goto 5, 3) := by decide +kernel
theorem dX1_bestToLay_57 : decode cX1_bestToLay 57 = .ok (.iload 8, 2) := by decide +kernel
theorem dX1_bestToLay_59 : decode cX1_bestToLay 59 = .ok (.istore 9, 2) := by decide +kernel
theorem dX1_bestToLay_61 : decode cX1_bestToLay 61 = .ok (.iload 9, 2) := by decide +kernel
theorem dX1_bestToLay_63 : decode cX1_bestToLay 63 = .ok (.iload 6, 2) := by decide +kernel
theorem dX1_bestToLay_65 : decode cX1_bestToLay 65 = .ok (.if_icmp .ge 11, 3) := by decide +kernel
theorem dX1_bestToLay_68 : decode cX1_bestToLay 68 = .ok (.iload 9, 2) := by decide +kernel
theorem dX1_bestToLay_70 : decode cX1_bestToLay 70 = .ok (.istore 6, 2) := by decide +kernel
theorem dX1_bestToLay_72 : decode cX1_bestToLay 72 = .ok (.iload 7, 2) := by decide +kernel
theorem dX1_bestToLay_74 : decode cX1_bestToLay 74 = .ok (.istore 5, 2) := by decide +kernel
theorem dX1_bestToLay_76 : decode cX1_bestToLay 76 = .ok (.iinc 7 1, 3) := by decide +kernel
theorem dX1_bestToLay_79 : decode cX1_bestToLay 79 = .ok (.goto (-68), 3) := by decide +kernel
theorem dX1_bestToLay_82 : decode cX1_bestToLay 82 = .ok (.iload 5, 2) := by decide +kernel
theorem dX1_bestToLay_84 : decode cX1_bestToLay 84 = .ok (.ireturn, 1) := by decide +kernel
theorem dX1_leastJoining_0 : decode cX1_leastJoining 0 = .ok (.iconst 1, 1) := by decide +kernel
theorem dX1_leastJoining_1 : decode cX1_leastJoining 1 = .ok (.iload_n 3, 1) := by decide +kernel
theorem dX1_leastJoining_2 : decode cX1_leastJoining 2 = .ok (.invokestatic 30, 3) := by decide +kernel
theorem dX1_leastJoining_5 : decode cX1_leastJoining 5 = .ok (.ishl, 1) := by decide +kernel
theorem dX1_leastJoining_6 : decode cX1_leastJoining 6 = .ok (.istore 4, 2) := by decide +kernel
theorem dX1_leastJoining_8 : decode cX1_leastJoining 8 = .ok (.iload_n 3, 1) := by decide +kernel
theorem dX1_leastJoining_9 : decode cX1_leastJoining 9 = .ok (.istore 5, 2) := by decide +kernel
theorem dX1_leastJoining_11 : decode cX1_leastJoining 11 = .ok (.iconst 0, 1) := by decide +kernel
theorem dX1_leastJoining_12 : decode cX1_leastJoining 12 = .ok (.istore 6, 2) := by decide +kernel
theorem dX1_leastJoining_14 : decode cX1_leastJoining 14 = .ok (.iconst 0, 1) := by decide +kernel
theorem dX1_leastJoining_15 : decode cX1_leastJoining 15 = .ok (.istore 7, 2) := by decide +kernel
theorem dX1_leastJoining_17 : decode cX1_leastJoining 17 = .ok (.iload 7, 2) := by decide +kernel
theorem dX1_leastJoining_19 : decode cX1_leastJoining 19 = .ok (.iload 4, 2) := by decide +kernel
theorem dX1_leastJoining_21 : decode cX1_leastJoining 21 = .ok (.if_icmp .ge 46, 3) := by decide +kernel
theorem dX1_leastJoining_24 : decode cX1_leastJoining 24 = .ok (.iload 6, 2) := by decide +kernel
theorem dX1_leastJoining_26 : decode cX1_leastJoining 26 = .ok (.invokestatic 30, 3) := by decide +kernel
theorem dX1_leastJoining_29 : decode cX1_leastJoining 29 = .ok (.iload 5, 2) := by decide +kernel
theorem dX1_leastJoining_31 : decode cX1_leastJoining 31 = .ok (.invokestatic 30, 3) := by decide +kernel
theorem dX1_leastJoining_34 : decode cX1_leastJoining 34 = .ok (.if_icmp .ge 19, 3) := by decide +kernel
theorem dX1_leastJoining_37 : decode cX1_leastJoining 37 = .ok (.aload_n 0, 1) := by decide +kernel
theorem dX1_leastJoining_38 : decode cX1_leastJoining 38 = .ok (.iload_n 1, 1) := by decide +kernel
theorem dX1_leastJoining_39 : decode cX1_leastJoining 39 = .ok (.iload_n 2, 1) := by decide +kernel
theorem dX1_leastJoining_40 : decode cX1_leastJoining 40 = .ok (.iload 6, 2) := by decide +kernel
theorem dX1_leastJoining_42 : decode cX1_leastJoining 42 = .ok (.ior, 1) := by decide +kernel
theorem dX1_leastJoining_43 : decode cX1_leastJoining 43 = .ok (.invokevirtual 36, 3) := by decide +kernel
theorem dX1_leastJoining_46 : decode cX1_leastJoining 46 = .ok (.ifCond .eq 7, 3) := by decide +kernel
theorem dX1_leastJoining_49 : decode cX1_leastJoining 49 = .ok (.iload 6, 2) := by decide +kernel
theorem dX1_leastJoining_51 : decode cX1_leastJoining 51 = .ok (.istore 5, 2) := by decide +kernel
theorem dX1_leastJoining_53 : decode cX1_leastJoining 53 = .ok (.iload 6, 2) := by decide +kernel
theorem dX1_leastJoining_55 : decode cX1_leastJoining 55 = .ok (.iload_n 3, 1) := by decide +kernel
theorem dX1_leastJoining_56 : decode cX1_leastJoining 56 = .ok (.isub, 1) := by decide +kernel
theorem dX1_leastJoining_57 : decode cX1_leastJoining 57 = .ok (.iload_n 3, 1) := by decide +kernel
theorem dX1_leastJoining_58 : decode cX1_leastJoining 58 = .ok (.iand, 1) := by decide +kernel
theorem dX1_leastJoining_59 : decode cX1_leastJoining 59 = .ok (.istore 6, 2) := by decide +kernel
theorem dX1_leastJoining_61 : decode cX1_leastJoining 61 = .ok (.iinc 7 1, 3) := by decide +kernel
theorem dX1_leastJoining_64 : decode cX1_leastJoining 64 = .ok (.goto (-47), 3) := by decide +kernel
theorem dX1_leastJoining_67 : decode cX1_leastJoining 67 = .ok (.iload 5, 2) := by decide +kernel
theorem dX1_leastJoining_69 : decode cX1_leastJoining 69 = .ok (.ireturn, 1) := by decide +kernel
theorem dX1_joinsAll_0 : decode cX1_joinsAll 0 = .ok (.iload_n 1, 1) := by decide +kernel
theorem dX1_joinsAll_1 : decode cX1_joinsAll 1 = .ok (.iload_n 1, 1) := by decide +kernel
theorem dX1_joinsAll_2 : decode cX1_joinsAll 2 = .ok (.ineg, 1) := by decide +kernel
theorem dX1_joinsAll_3 : decode cX1_joinsAll 3 = .ok (.iand, 1) := by decide +kernel
theorem dX1_joinsAll_4 : decode cX1_joinsAll 4 = .ok (.istore_n 3, 1) := by decide +kernel
theorem dX1_joinsAll_5 : decode cX1_joinsAll 5 = .ok (.iload_n 1, 1) := by decide +kernel
theorem dX1_joinsAll_6 : decode cX1_joinsAll 6 = .ok (.iload_n 2, 1) := by decide +kernel
theorem dX1_joinsAll_7 : decode cX1_joinsAll 7 = .ok (.iconst (-1), 1) := by decide +kernel
theorem dX1_joinsAll_8 : decode cX1_joinsAll 8 = .ok (.ixor, 1) := by decide +kernel
theorem dX1_joinsAll_9 : decode cX1_joinsAll 9 = .ok (.iand, 1) := by decide +kernel
theorem dX1_joinsAll_10 : decode cX1_joinsAll 10 = .ok (.ifCond .ne 23, 3) := by decide +kernel
theorem dX1_joinsAll_13 : decode cX1_joinsAll 13 = .ok (.iload_n 1, 1) := by decide +kernel
theorem dX1_joinsAll_14 : decode cX1_joinsAll 14 = .ok (.aload_n 0, 1) := by decide +kernel
theorem dX1_joinsAll_15 : decode cX1_joinsAll 15 = .ok (.getfield 12, 3) := by decide +kernel
theorem dX1_joinsAll_18 : decode cX1_joinsAll 18 = .ok (.iload_n 3, 1) := by decide +kernel
theorem dX1_joinsAll_19 : decode cX1_joinsAll 19 = .ok (.iload_n 2, 1) := by decide +kernel
theorem dX1_joinsAll_20 : decode cX1_joinsAll 20 = .ok (.invokevirtual 39, 3) := by decide +kernel
theorem dX1_joinsAll_23 : decode cX1_joinsAll 23 = .ok (.iconst (-1), 1) := by decide +kernel
theorem dX1_joinsAll_24 : decode cX1_joinsAll 24 = .ok (.ixor, 1) := by decide +kernel
theorem dX1_joinsAll_25 : decode cX1_joinsAll 25 = .ok (.iand, 1) := by decide +kernel
theorem dX1_joinsAll_26 : decode cX1_joinsAll 26 = .ok (.ifCond .ne 7, 3) := by decide +kernel
theorem dX1_joinsAll_29 : decode cX1_joinsAll 29 = .ok (.iconst 1, 1) := by decide +kernel
theorem dX1_joinsAll_30 : decode cX1_joinsAll 30 = .ok (.goto 4, 3) := by decide +kernel
theorem dX1_joinsAll_33 : decode cX1_joinsAll 33 = .ok (.iconst 0, 1) := by decide +kernel
theorem dX1_joinsAll_34 : decode cX1_joinsAll 34 = .ok (.ireturn, 1) := by decide +kernel
theorem dX1_laidByTurns_0 : decode cX1_laidByTurns 0 = .ok (.iload 4, 2) := by decide +kernel
theorem dX1_laidByTurns_2 : decode cX1_laidByTurns 2 = .ok (.invokestatic 30, 3) := by decide +kernel
theorem dX1_laidByTurns_5 : decode cX1_laidByTurns 5 = .ok (.istore 5, 2) := by decide +kernel
theorem dX1_laidByTurns_7 : decode cX1_laidByTurns 7 = .ok (.iload 4, 2) := by decide +kernel
theorem dX1_laidByTurns_9 : decode cX1_laidByTurns 9 = .ok (.istore 6, 2) := by decide +kernel
theorem dX1_laidByTurns_11 : decode cX1_laidByTurns 11 = .ok (.iconst 1, 1) := by decide +kernel
theorem dX1_laidByTurns_12 : decode cX1_laidByTurns 12 = .ok (.iload 5, 2) := by decide +kernel
theorem dX1_laidByTurns_14 : decode cX1_laidByTurns 14 = .ok (.ishl, 1) := by decide +kernel
theorem dX1_laidByTurns_15 : decode cX1_laidByTurns 15 = .ok (.iconst 1, 1) := by decide +kernel
theorem dX1_laidByTurns_16 : decode cX1_laidByTurns 16 = .ok (.isub, 1) := by decide +kernel
theorem dX1_laidByTurns_17 : decode cX1_laidByTurns 17 = .ok (.istore 7, 2) := by decide +kernel
theorem dX1_laidByTurns_19 : decode cX1_laidByTurns 19 = .ok (.iload 7, 2) := by decide +kernel
theorem dX1_laidByTurns_21 : decode cX1_laidByTurns 21 = .ok (.ifCond .lt 61, 3) := by decide +kernel
theorem dX1_laidByTurns_24 : decode cX1_laidByTurns 24 = .ok (.aload_n 0, 1) := by decide +kernel
theorem dX1_laidByTurns_25 : decode cX1_laidByTurns 25 = .ok (.getfield 12, 3) := by decide +kernel
theorem dX1_laidByTurns_28 : decode cX1_laidByTurns 28 = .ok (.iload_n 1, 1) := by decide +kernel
theorem dX1_laidByTurns_29 : decode cX1_laidByTurns 29 = .ok (.iload_n 2, 1) := by decide +kernel
theorem dX1_laidByTurns_30 : decode cX1_laidByTurns 30 = .ok (.iload_n 3, 1) := by decide +kernel
theorem dX1_laidByTurns_31 : decode cX1_laidByTurns 31 = .ok (.iload 6, 2) := by decide +kernel
theorem dX1_laidByTurns_33 : decode cX1_laidByTurns 33 = .ok (.ior, 1) := by decide +kernel
theorem dX1_laidByTurns_34 : decode cX1_laidByTurns 34 = .ok (.invokevirtual 43, 3) := by decide +kernel
theorem dX1_laidByTurns_37 : decode cX1_laidByTurns 37 = .ok (.istore 8, 2) := by decide +kernel
theorem dX1_laidByTurns_39 : decode cX1_laidByTurns 39 = .ok (.aload_n 0, 1) := by decide +kernel
theorem dX1_laidByTurns_40 : decode cX1_laidByTurns 40 = .ok (.getfield 18, 3) := by decide +kernel
theorem dX1_laidByTurns_43 : decode cX1_laidByTurns 43 = .ok (.iload 7, 2) := by decide +kernel
theorem dX1_laidByTurns_45 : decode cX1_laidByTurns 45 = .ok (.iload 8, 2) := by decide +kernel
theorem dX1_laidByTurns_47 : decode cX1_laidByTurns 47 = .ok (.ifCond .eq 7, 3) := by decide +kernel
theorem dX1_laidByTurns_50 : decode cX1_laidByTurns 50 = .ok (.iconst 0, 1) := by decide +kernel
theorem dX1_laidByTurns_51 : decode cX1_laidByTurns 51 = .ok (.goto 13, 3) := by decide +kernel
theorem dX1_laidByTurns_54 : decode cX1_laidByTurns 54 = .ok (.iconst 1, 1) := by decide +kernel
theorem dX1_laidByTurns_55 : decode cX1_laidByTurns 55 = .ok (.aload_n 0, 1) := by decide +kernel
theorem dX1_laidByTurns_56 : decode cX1_laidByTurns 56 = .ok (.iload 7, 2) := by decide +kernel
theorem dX1_laidByTurns_58 : decode cX1_laidByTurns 58 = .ok (.iload 5, 2) := by decide +kernel
theorem dX1_laidByTurns_60 : decode cX1_laidByTurns 60 = .ok (.invokevirtual 47, 3) := by decide +kernel
theorem dX1_laidByTurns_63 : decode cX1_laidByTurns 63 = .ok (.iadd, 1) := by decide +kernel
theorem dX1_laidByTurns_64 : decode cX1_laidByTurns 64 = .ok (.invokestatic 50, 3) := by decide +kernel
theorem dX1_laidByTurns_67 : decode cX1_laidByTurns 67 = .ok (.iload 6, 2) := by decide +kernel
theorem dX1_laidByTurns_69 : decode cX1_laidByTurns 69 = .ok (.iconst 1, 1) := by decide +kernel
theorem dX1_laidByTurns_70 : decode cX1_laidByTurns 70 = .ok (.isub, 1) := by decide +kernel
theorem dX1_laidByTurns_71 : decode cX1_laidByTurns 71 = .ok (.iload 4, 2) := by decide +kernel
theorem dX1_laidByTurns_73 : decode cX1_laidByTurns 73 = .ok (.iand, 1) := by decide +kernel
theorem dX1_laidByTurns_74 : decode cX1_laidByTurns 74 = .ok (.istore 6, 2) := by decide +kernel
theorem dX1_laidByTurns_76 : decode cX1_laidByTurns 76 = .ok (.iinc 7 (-1), 3) := by decide +kernel
theorem dX1_laidByTurns_79 : decode cX1_laidByTurns 79 = .ok (.goto (-60), 3) := by decide +kernel
theorem dX1_laidByTurns_82 : decode cX1_laidByTurns 82 = .ok (.aload_n 0, 1) := by decide +kernel
theorem dX1_laidByTurns_83 : decode cX1_laidByTurns 83 = .ok (.getfield 18, 3) := by decide +kernel
theorem dX1_laidByTurns_86 : decode cX1_laidByTurns 86 = .ok (.iconst 0, 1) := by decide +kernel
theorem dX1_laidByTurns_87 : decode cX1_laidByTurns 87 = .ok (.invokestatic 54, 3) := by decide +kernel
theorem dX1_laidByTurns_90 : decode cX1_laidByTurns 90 = .ok (.ireturn, 1) := by decide +kernel
theorem dX1_bestOfNext_0 : decode cX1_bestOfNext 0 = .ok (.iload_n 1, 1) := by decide +kernel
theorem dX1_bestOfNext_1 : decode cX1_bestOfNext 1 = .ok (.invokestatic 30, 3) := by decide +kernel
theorem dX1_bestOfNext_4 : decode cX1_bestOfNext 4 = .ok (.iconst 2, 1) := by decide +kernel
theorem dX1_bestOfNext_5 : decode cX1_bestOfNext 5 = .ok (.irem, 1) := by decide +kernel
theorem dX1_bestOfNext_6 : decode cX1_bestOfNext 6 = .ok (.ifCond .ne 7, 3) := by decide +kernel
theorem dX1_bestOfNext_9 : decode cX1_bestOfNext 9 = .ok (.iconst 1, 1) := by decide +kernel
theorem dX1_bestOfNext_10 : decode cX1_bestOfNext 10 = .ok (.goto 4, 3) := by decide +kernel
theorem dX1_bestOfNext_13 : decode cX1_bestOfNext 13 = .ok (.iconst 0, 1) := by decide +kernel
theorem dX1_bestOfNext_14 : decode cX1_bestOfNext 14 = .ok (.istore_n 3, 1) := by decide +kernel
theorem dX1_bestOfNext_15 : decode cX1_bestOfNext 15 = .ok (.iload_n 3, 1) := by decide +kernel
theorem dX1_bestOfNext_16 : decode cX1_bestOfNext 16 = .ok (.ifCond .eq 8, 3) := by decide +kernel
theorem dX1_bestOfNext_19 : decode cX1_bestOfNext 19 = .ok (.bipush 24, 2) := by decide +kernel
theorem dX1_bestOfNext_21 : decode cX1_bestOfNext 21 = .ok (.goto 4, 3) := by decide +kernel
theorem dX1_bestOfNext_24 : decode cX1_bestOfNext 24 = .ok (.iconst 0, 1) := by decide +kernel
theorem dX1_bestOfNext_25 : decode cX1_bestOfNext 25 = .ok (.istore 4, 2) := by decide +kernel
theorem dX1_bestOfNext_27 : decode cX1_bestOfNext 27 = .ok (.iconst 0, 1) := by decide +kernel
theorem dX1_bestOfNext_28 : decode cX1_bestOfNext 28 = .ok (.istore 5, 2) := by decide +kernel
theorem dX1_bestOfNext_30 : decode cX1_bestOfNext 30 = .ok (.iload 5, 2) := by decide +kernel
theorem dX1_bestOfNext_32 : decode cX1_bestOfNext 32 = .ok (.iload_n 2, 1) := by decide +kernel
theorem dX1_bestOfNext_33 : decode cX1_bestOfNext 33 = .ok (.if_icmp .ge 56, 3) := by decide +kernel
theorem dX1_bestOfNext_36 : decode cX1_bestOfNext 36 = .ok (.iload_n 1, 1) := by decide +kernel
theorem dX1_bestOfNext_37 : decode cX1_bestOfNext 37 = .ok (.iload 5, 2) := by decide +kernel
theorem dX1_bestOfNext_39 : decode cX1_bestOfNext 39 = .ok (.invokestatic 22, 3) := by decide +kernel
theorem dX1_bestOfNext_42 : decode cX1_bestOfNext 42 = .ok (.ifCond .ne 41, 3) := by decide +kernel
theorem dX1_bestOfNext_45 : decode cX1_bestOfNext 45 = .ok (.aload_n 0, 1) := by decide +kernel
theorem dX1_bestOfNext_46 : decode cX1_bestOfNext 46 = .ok (.getfield 18, 3) := by decide +kernel
theorem dX1_bestOfNext_49 : decode cX1_bestOfNext 49 = .ok (.iload_n 1, 1) := by decide +kernel
theorem dX1_bestOfNext_50 : decode cX1_bestOfNext 50 = .ok (.iconst 1, 1) := by decide +kernel
theorem dX1_bestOfNext_51 : decode cX1_bestOfNext 51 = .ok (.iload 5, 2) := by decide +kernel
theorem dX1_bestOfNext_53 : decode cX1_bestOfNext 53 = .ok (.ishl, 1) := by decide +kernel
theorem dX1_bestOfNext_54 : decode cX1_bestOfNext 54 = .ok (.ior, 1) := by decide +kernel
theorem dX1_bestOfNext_55 : decode cX1_bestOfNext 55 = .ok (.invokestatic 54, 3) := by decide +kernel
theorem dX1_bestOfNext_58 : decode cX1_bestOfNext 58 = .ok (.istore 6, 2) := by decide +kernel
theorem dX1_bestOfNext_60 : decode cX1_bestOfNext 60 = .ok (.iload_n 3, 1) := by decide +kernel
theorem dX1_bestOfNext_61 : decode cX1_bestOfNext 61 = .ok (.ifCond .eq 13, 3) := by decide +kernel
theorem dX1_bestOfNext_64 : decode cX1_bestOfNext 64 = .ok (.iload 4, 2) := by decide +kernel
theorem dX1_bestOfNext_66 : decode cX1_bestOfNext 66 = .ok (.iload 6, 2) := by decide +kernel
theorem dX1_bestOfNext_68 : decode cX1_bestOfNext 68 = .ok (.invokestatic 58, 3) := by decide +kernel
theorem dX1_bestOfNext_71 : decode cX1_bestOfNext 71 = .ok (.goto 10, 3) := by decide +kernel
theorem dX1_bestOfNext_74 : decode cX1_bestOfNext 74 = .ok (.iload 4, 2) := by decide +kernel
theorem dX1_bestOfNext_76 : decode cX1_bestOfNext 76 = .ok (.iload 6, 2) := by decide +kernel
theorem dX1_bestOfNext_78 : decode cX1_bestOfNext 78 = .ok (.invokestatic 63, 3) := by decide +kernel
theorem dX1_bestOfNext_81 : decode cX1_bestOfNext 81 = .ok (.istore 4, 2) := by decide +kernel
theorem dX1_bestOfNext_83 : decode cX1_bestOfNext 83 = .ok (.iinc 5 1, 3) := by decide +kernel
theorem dX1_bestOfNext_86 : decode cX1_bestOfNext 86 = .ok (.goto (-56), 3) := by decide +kernel
theorem dX1_bestOfNext_89 : decode cX1_bestOfNext 89 = .ok (.iload 4, 2) := by decide +kernel
theorem dX1_bestOfNext_91 : decode cX1_bestOfNext 91 = .ok (.ireturn, 1) := by decide +kernel
theorem dX1_fewestApart_0 : decode cX1_fewestApart 0 = .ok (.iconst 1, 1) := by decide +kernel
theorem dX1_fewestApart_1 : decode cX1_fewestApart 1 = .ok (.iload_n 3, 1) := by decide +kernel
theorem dX1_fewestApart_2 : decode cX1_fewestApart 2 = .ok (.invokestatic 30, 3) := by decide +kernel
theorem dX1_fewestApart_5 : decode cX1_fewestApart 5 = .ok (.ishl, 1) := by decide +kernel
theorem dX1_fewestApart_6 : decode cX1_fewestApart 6 = .ok (.istore 4, 2) := by decide +kernel
theorem dX1_fewestApart_8 : decode cX1_fewestApart 8 = .ok (.aload_n 0, 1) := by decide +kernel
theorem dX1_fewestApart_9 : decode cX1_fewestApart 9 = .ok (.getfield 12, 3) := by decide +kernel
theorem dX1_fewestApart_12 : decode cX1_fewestApart 12 = .ok (.iconst 1, 1) := by decide +kernel
theorem dX1_fewestApart_13 : decode cX1_fewestApart 13 = .ok (.iload_n 1, 1) := by decide +kernel
theorem dX1_fewestApart_14 : decode cX1_fewestApart 14 = .ok (.ishl, 1) := by decide +kernel
theorem dX1_fewestApart_15 : decode cX1_fewestApart 15 = .ok (.invokevirtual 66, 3) := by decide +kernel
theorem dX1_fewestApart_18 : decode cX1_fewestApart 18 = .ok (.iload_n 3, 1) := by decide +kernel
theorem dX1_fewestApart_19 : decode cX1_fewestApart 19 = .ok (.iand, 1) := by decide +kernel
theorem dX1_fewestApart_20 : decode cX1_fewestApart 20 = .ok (.invokestatic 30, 3) := by decide +kernel
theorem dX1_fewestApart_23 : decode cX1_fewestApart 23 = .ok (.istore 5, 2) := by decide +kernel
theorem dX1_fewestApart_25 : decode cX1_fewestApart 25 = .ok (.iconst 1, 1) := by decide +kernel
theorem dX1_fewestApart_26 : decode cX1_fewestApart 26 = .ok (.iload_n 1, 1) := by decide +kernel
theorem dX1_fewestApart_27 : decode cX1_fewestApart 27 = .ok (.ishl, 1) := by decide +kernel
theorem dX1_fewestApart_28 : decode cX1_fewestApart 28 = .ok (.iconst 1, 1) := by decide +kernel
theorem dX1_fewestApart_29 : decode cX1_fewestApart 29 = .ok (.iload_n 2, 1) := by decide +kernel
theorem dX1_fewestApart_30 : decode cX1_fewestApart 30 = .ok (.ishl, 1) := by decide +kernel
theorem dX1_fewestApart_31 : decode cX1_fewestApart 31 = .ok (.ior, 1) := by decide +kernel
theorem dX1_fewestApart_32 : decode cX1_fewestApart 32 = .ok (.istore 6, 2) := by decide +kernel
theorem dX1_fewestApart_34 : decode cX1_fewestApart 34 = .ok (.iconst 0, 1) := by decide +kernel
theorem dX1_fewestApart_35 : decode cX1_fewestApart 35 = .ok (.istore 7, 2) := by decide +kernel
theorem dX1_fewestApart_37 : decode cX1_fewestApart 37 = .ok (.iconst 0, 1) := by decide +kernel
theorem dX1_fewestApart_38 : decode cX1_fewestApart 38 = .ok (.istore 8, 2) := by decide +kernel
theorem dX1_fewestApart_40 : decode cX1_fewestApart 40 = .ok (.iload 8, 2) := by decide +kernel
theorem dX1_fewestApart_42 : decode cX1_fewestApart 42 = .ok (.iload 4, 2) := by decide +kernel
theorem dX1_fewestApart_44 : decode cX1_fewestApart 44 = .ok (.if_icmp .ge 55, 3) := by decide +kernel
theorem dX1_fewestApart_47 : decode cX1_fewestApart 47 = .ok (.iload 7, 2) := by decide +kernel
theorem dX1_fewestApart_49 : decode cX1_fewestApart 49 = .ok (.invokestatic 30, 3) := by decide +kernel
theorem dX1_fewestApart_52 : decode cX1_fewestApart 52 = .ok (.iload 5, 2) := by decide +kernel
theorem dX1_fewestApart_54 : decode cX1_fewestApart 54 = .ok (.if_icmp .ge 31, 3) := by decide +kernel
theorem dX1_fewestApart_57 : decode cX1_fewestApart 57 = .ok (.aload_n 0, 1) := by decide +kernel
theorem dX1_fewestApart_58 : decode cX1_fewestApart 58 = .ok (.getfield 12, 3) := by decide +kernel
theorem dX1_fewestApart_61 : decode cX1_fewestApart 61 = .ok (.iload_n 1, 1) := by decide +kernel
theorem dX1_fewestApart_62 : decode cX1_fewestApart 62 = .ok (.iload_n 2, 1) := by decide +kernel
theorem dX1_fewestApart_63 : decode cX1_fewestApart 63 = .ok (.iload 6, 2) := by decide +kernel
theorem dX1_fewestApart_65 : decode cX1_fewestApart 65 = .ok (.iload_n 3, 1) := by decide +kernel
theorem dX1_fewestApart_66 : decode cX1_fewestApart 66 = .ok (.iload 7, 2) := by decide +kernel
theorem dX1_fewestApart_68 : decode cX1_fewestApart 68 = .ok (.iconst (-1), 1) := by decide +kernel
theorem dX1_fewestApart_69 : decode cX1_fewestApart 69 = .ok (.ixor, 1) := by decide +kernel
theorem dX1_fewestApart_70 : decode cX1_fewestApart 70 = .ok (.iand, 1) := by decide +kernel
theorem dX1_fewestApart_71 : decode cX1_fewestApart 71 = .ok (.ior, 1) := by decide +kernel
theorem dX1_fewestApart_72 : decode cX1_fewestApart 72 = .ok (.invokevirtual 43, 3) := by decide +kernel
theorem dX1_fewestApart_75 : decode cX1_fewestApart 75 = .ok (.ifCond .ne 10, 3) := by decide +kernel
theorem dX1_fewestApart_78 : decode cX1_fewestApart 78 = .ok (.iload 7, 2) := by decide +kernel
theorem dX1_fewestApart_80 : decode cX1_fewestApart 80 = .ok (.invokestatic 30, 3) := by decide +kernel
theorem dX1_fewestApart_83 : decode cX1_fewestApart 83 = .ok (.istore 5, 2) := by decide +kernel
theorem dX1_fewestApart_85 : decode cX1_fewestApart 85 = .ok (.iload 7, 2) := by decide +kernel
theorem dX1_fewestApart_87 : decode cX1_fewestApart 87 = .ok (.iload_n 3, 1) := by decide +kernel
theorem dX1_fewestApart_88 : decode cX1_fewestApart 88 = .ok (.isub, 1) := by decide +kernel
theorem dX1_fewestApart_89 : decode cX1_fewestApart 89 = .ok (.iload_n 3, 1) := by decide +kernel
theorem dX1_fewestApart_90 : decode cX1_fewestApart 90 = .ok (.iand, 1) := by decide +kernel
theorem dX1_fewestApart_91 : decode cX1_fewestApart 91 = .ok (.istore 7, 2) := by decide +kernel
theorem dX1_fewestApart_93 : decode cX1_fewestApart 93 = .ok (.iinc 8 1, 3) := by decide +kernel
theorem dX1_fewestApart_96 : decode cX1_fewestApart 96 = .ok (.goto (-56), 3) := by decide +kernel
theorem dX1_fewestApart_99 : decode cX1_fewestApart 99 = .ok (.iload 5, 2) := by decide +kernel
theorem dX1_fewestApart_101 : decode cX1_fewestApart 101 = .ok (.ireturn, 1) := by decide +kernel
theorem dX2_init_0 : decode cX2_init 0 = .ok (.aload_n 0, 1) := by decide +kernel
theorem dX2_init_1 : decode cX2_init 1 = .ok (.invokespecial 3, 3) := by decide +kernel
theorem dX2_init_4 : decode cX2_init 4 = .ok (.aload_n 0, 1) := by decide +kernel
theorem dX2_init_5 : decode cX2_init 5 = .ok (.new 9, 3) := by decide +kernel
theorem dX2_init_8 : decode cX2_init 8 = .ok (.dup, 1) := by decide +kernel
theorem dX2_init_9 : decode cX2_init 9 = .ok (.invokespecial 11, 3) := by decide +kernel
theorem dX2_init_12 : decode cX2_init 12 = .ok (.putfield 12, 3) := by decide +kernel
theorem dX2_init_15 : decode cX2_init 15 = .ok (.return_, 1) := by decide +kernel
theorem dX2_readInto_0 : decode cX2_readInto 0 = .ok (.aload_n 1, 1) := by decide +kernel
theorem dX2_readInto_1 : decode cX2_readInto 1 = .ok (.invokevirtual 18, 3) := by decide +kernel
theorem dX2_readInto_4 : decode cX2_readInto 4 = .ok (.aload_n 0, 1) := by decide +kernel
theorem dX2_readInto_5 : decode cX2_readInto 5 = .ok (.iconst 0, 1) := by decide +kernel
theorem dX2_readInto_6 : decode cX2_readInto 6 = .ok (.putfield 23, 3) := by decide +kernel
theorem dX2_readInto_9 : decode cX2_readInto 9 = .ok (.iconst 0, 1) := by decide +kernel
theorem dX2_readInto_10 : decode cX2_readInto 10 = .ok (.istore_n 2, 1) := by decide +kernel
theorem dX2_readInto_11 : decode cX2_readInto 11 = .ok (.aload_n 0, 1) := by decide +kernel
theorem dX2_readInto_12 : decode cX2_readInto 12 = .ok (.invokevirtual 27, 3) := by decide +kernel
theorem dX2_readInto_15 : decode cX2_readInto 15 = .ok (.aload_n 0, 1) := by decide +kernel
theorem dX2_readInto_16 : decode cX2_readInto 16 = .ok (.getfield 30, 3) := by decide +kernel
theorem dX2_readInto_19 : decode cX2_readInto 19 = .ok (.ifCond .eq 36, 3) := by decide +kernel
theorem dX2_readInto_22 : decode cX2_readInto 22 = .ok (.iload_n 2, 1) := by decide +kernel
theorem dX2_readInto_23 : decode cX2_readInto 23 = .ok (.sipush 300, 3) := by decide +kernel
theorem dX2_readInto_26 : decode cX2_readInto 26 = .ok (.if_icmp .ge 29, 3) := by decide +kernel
theorem dX2_readInto_29 : decode cX2_readInto 29 = .ok (.aload_n 0, 1) := by decide +kernel
theorem dX2_readInto_30 : decode cX2_readInto 30 = .ok (.aload_n 1, 1) := by decide +kernel
theorem dX2_readInto_31 : decode cX2_readInto 31 = .ok (.invokevirtual 33, 3) := by decide +kernel
theorem dX2_readInto_34 : decode cX2_readInto 34 = .ok (.ifCond .ne 11, 3) := by decide +kernel
theorem dX2_readInto_37 : decode cX2_readInto 37 = .ok (.bipush (-10), 2) := by decide +kernel
theorem dX2_readInto_39 : decode cX2_readInto 39 = .ok (.aload_n 0, 1) := by decide +kernel
theorem dX2_readInto_40 : decode cX2_readInto 40 = .ok (.getfield 37, 3) := by decide +kernel
theorem dX2_readInto_43 : decode cX2_readInto 43 = .ok (.isub, 1) := by decide +kernel
theorem dX2_readInto_44 : decode cX2_readInto 44 = .ok (.ireturn, 1) := by decide +kernel
theorem dX2_readInto_45 : decode cX2_readInto 45 = .ok (.iinc 2 1, 3) := by decide +kernel
theorem dX2_readInto_48 : decode cX2_readInto 48 = .ok (.aload_n 0, 1) := by decide +kernel
theorem dX2_readInto_49 : decode cX2_readInto 49 = .ok (.invokevirtual 27, 3) := by decide +kernel
theorem dX2_readInto_52 : decode cX2_readInto 52 = .ok (.goto (-37), 3) := by decide +kernel
theorem dX2_readInto_55 : decode cX2_readInto 55 = .ok (.iload_n 2, 1) := by decide +kernel
theorem dX2_readInto_56 : decode cX2_readInto 56 = .ok (.ireturn, 1) := by decide +kernel
theorem dX2_readItem_0 : decode cX2_readItem 0 = .ok (.iconst 0, 1) := by decide +kernel
theorem dX2_readItem_1 : decode cX2_readItem 1 = .ok (.istore_n 2, 1) := by decide +kernel
theorem dX2_readItem_2 : decode cX2_readItem 2 = .ok (.aload_n 0, 1) := by decide +kernel
theorem dX2_readItem_3 : decode cX2_readItem 3 = .ok (.ldc 40, 2) := by decide +kernel
theorem dX2_readItem_5 : decode cX2_readItem 5 = .ok (.invokevirtual 42, 3) := by decide +kernel
theorem dX2_readItem_8 : decode cX2_readItem 8 = .ok (.ifCond .eq 12, 3) := by decide +kernel
theorem dX2_readItem_11 : decode cX2_readItem 11 = .ok (.aload_n 0, 1) := by decide +kernel
theorem dX2_readItem_12 : decode cX2_readItem 12 = .ok (.aload_n 1, 1) := by decide +kernel
theorem dX2_readItem_13 : decode cX2_readItem 13 = .ok (.invokevirtual 46, 3) := by decide +kernel
theorem dX2_readItem_16 : decode cX2_readItem 16 = .ok (.istore_n 2, 1) := by decide +kernel
theorem dX2_readItem_17 : decode cX2_readItem 17 = .ok (.goto 36, 3) := by decide +kernel
theorem dX2_readItem_20 : decode cX2_readItem 20 = .ok (.aload_n 0, 1) := by decide +kernel
theorem dX2_readItem_21 : decode cX2_readItem 21 = .ok (.ldc 49, 2) := by decide +kernel
theorem dX2_readItem_23 : decode cX2_readItem 23 = .ok (.invokevirtual 42, 3) := by decide +kernel
theorem dX2_readItem_26 : decode cX2_readItem 26 = .ok (.ifCond .eq 12, 3) := by decide +kernel
theorem dX2_readItem_29 : decode cX2_readItem 29 = .ok (.aload_n 0, 1) := by decide +kernel
theorem dX2_readItem_30 : decode cX2_readItem 30 = .ok (.aload_n 1, 1) := by decide +kernel
theorem dX2_readItem_31 : decode cX2_readItem 31 = .ok (.invokevirtual 51, 3) := by decide +kernel
theorem dX2_readItem_34 : decode cX2_readItem 34 = .ok (.istore_n 2, 1) := by decide +kernel
theorem dX2_readItem_35 : decode cX2_readItem 35 = .ok (.goto 18, 3) := by decide +kernel
theorem dX2_readItem_38 : decode cX2_readItem 38 = .ok (.aload_n 0, 1) := by decide +kernel
theorem dX2_readItem_39 : decode cX2_readItem 39 = .ok (.ldc 54, 2) := by decide +kernel
theorem dX2_readItem_41 : decode cX2_readItem 41 = .ok (.invokevirtual 42, 3) := by decide +kernel
theorem dX2_readItem_44 : decode cX2_readItem 44 = .ok (.ifCond .eq 9, 3) := by decide +kernel
theorem dX2_readItem_47 : decode cX2_readItem 47 = .ok (.aload_n 0, 1) := by decide +kernel
theorem dX2_readItem_48 : decode cX2_readItem 48 = .ok (.aload_n 1, 1) := by decide +kernel
theorem dX2_readItem_49 : decode cX2_readItem 49 = .ok (.invokevirtual 56, 3) := by decide +kernel
theorem dX2_readItem_52 : decode cX2_readItem 52 = .ok (.istore_n 2, 1) := by decide +kernel
theorem dX2_readItem_53 : decode cX2_readItem 53 = .ok (.iload_n 2, 1) := by decide +kernel
theorem dX2_readItem_54 : decode cX2_readItem 54 = .ok (.ifCond .ne 5, 3) := by decide +kernel
theorem dX2_readItem_57 : decode cX2_readItem 57 = .ok (.iconst 0, 1) := by decide +kernel
theorem dX2_readItem_58 : decode cX2_readItem 58 = .ok (.ireturn, 1) := by decide +kernel
theorem dX2_readItem_59 : decode cX2_readItem 59 = .ok (.aload_n 0, 1) := by decide +kernel
theorem dX2_readItem_60 : decode cX2_readItem 60 = .ok (.invokevirtual 27, 3) := by decide +kernel
theorem dX2_readItem_63 : decode cX2_readItem 63 = .ok (.aload_n 0, 1) := by decide +kernel
theorem dX2_readItem_64 : decode cX2_readItem 64 = .ok (.getfield 30, 3) := by decide +kernel
theorem dX2_readItem_67 : decode cX2_readItem 67 = .ok (.iconst 3, 1) := by decide +kernel
theorem dX2_readItem_68 : decode cX2_readItem 68 = .ok (.if_icmp .ne 7, 3) := by decide +kernel
theorem dX2_readItem_71 : decode cX2_readItem 71 = .ok (.iconst 1, 1) := by decide +kernel
theorem dX2_readItem_72 : decode cX2_readItem 72 = .ok (.goto 4, 3) := by decide +kernel
theorem dX2_readItem_75 : decode cX2_readItem 75 = .ok (.iconst 0, 1) := by decide +kernel
theorem dX2_readItem_76 : decode cX2_readItem 76 = .ok (.ireturn, 1) := by decide +kernel
theorem dX2_readRow_0 : decode cX2_readRow 0 = .ok (.aload_n 1, 1) := by decide +kernel
theorem dX2_readRow_1 : decode cX2_readRow 1 = .ok (.invokevirtual 59, 3) := by decide +kernel
theorem dX2_readRow_4 : decode cX2_readRow 4 = .ok (.ifCond .ne 5, 3) := by decide +kernel
theorem dX2_readRow_7 : decode cX2_readRow 7 = .ok (.iconst 0, 1) := by decide +kernel
theorem dX2_readRow_8 : decode cX2_readRow 8 = .ok (.ireturn, 1) := by decide +kernel
theorem dX2_readRow_9 : decode cX2_readRow 9 = .ok (.aload_n 0, 1) := by decide +kernel
theorem dX2_readRow_10 : decode cX2_readRow 10 = .ok (.invokevirtual 27, 3) := by decide +kernel
theorem dX2_readRow_13 : decode cX2_readRow 13 = .ok (.aload_n 0, 1) := by decide +kernel
theorem dX2_readRow_14 : decode cX2_readRow 14 = .ok (.getfield 30, 3) := by decide +kernel
theorem dX2_readRow_17 : decode cX2_readRow 17 = .ok (.iconst 1, 1) := by decide +kernel
theorem dX2_readRow_18 : decode cX2_readRow 18 = .ok (.if_icmp .ne 19, 3) := by decide +kernel
theorem dX2_readRow_21 : decode cX2_readRow 21 = .ok (.aload_n 1, 1) := by decide +kernel
theorem dX2_readRow_22 : decode cX2_readRow 22 = .ok (.aload_n 0, 1) := by decide +kernel
theorem dX2_readRow_23 : decode cX2_readRow 23 = .ok (.getfield 23, 3) := by decide +kernel
theorem dX2_readRow_26 : decode cX2_readRow 26 = .ok (.aload_n 0, 1) := by decide +kernel
theorem dX2_readRow_27 : decode cX2_readRow 27 = .ok (.getfield 37, 3) := by decide +kernel
theorem dX2_readRow_30 : decode cX2_readRow 30 = .ok (.isub, 1) := by decide +kernel
theorem dX2_readRow_31 : decode cX2_readRow 31 = .ok (.invokevirtual 63, 3) := by decide +kernel
theorem dX2_readRow_34 : decode cX2_readRow 34 = .ok (.ifCond .ne 5, 3) := by decide +kernel
theorem dX2_readRow_37 : decode cX2_readRow 37 = .ok (.iconst 0, 1) := by decide +kernel
theorem dX2_readRow_38 : decode cX2_readRow 38 = .ok (.ireturn, 1) := by decide +kernel
theorem dX2_readRow_39 : decode cX2_readRow 39 = .ok (.aload_n 0, 1) := by decide +kernel
theorem dX2_readRow_40 : decode cX2_readRow 40 = .ok (.getfield 37, 3) := by decide +kernel
theorem dX2_readRow_43 : decode cX2_readRow 43 = .ok (.istore_n 2, 1) := by decide +kernel
theorem dX2_readRow_44 : decode cX2_readRow 44 = .ok (.iload_n 2, 1) := by decide +kernel
theorem dX2_readRow_45 : decode cX2_readRow 45 = .ok (.aload_n 0, 1) := by decide +kernel
theorem dX2_readRow_46 : decode cX2_readRow 46 = .ok (.getfield 23, 3) := by decide +kernel
theorem dX2_readRow_49 : decode cX2_readRow 49 = .ok (.if_icmp .ge 26, 3) := by decide +kernel
theorem dX2_readRow_52 : decode cX2_readRow 52 = .ok (.aload_n 1, 1) := by decide +kernel
theorem dX2_readRow_53 : decode cX2_readRow 53 = .ok (.aload_n 0, 1) := by decide +kernel
theorem dX2_readRow_54 : decode cX2_readRow 54 = .ok (.getfield 12, 3) := by decide +kernel
theorem dX2_readRow_57 : decode cX2_readRow 57 = .ok (.iload_n 2, 1) := by decide +kernel
theorem dX2_readRow_58 : decode cX2_readRow 58 = .ok (.invokevirtual 67, 3) := by decide +kernel
theorem dX2_readRow_61 : decode cX2_readRow 61 = .ok (.invokevirtual 71, 3) := by decide +kernel
theorem dX2_readRow_64 : decode cX2_readRow 64 = .ok (.ifCond .ne 5, 3) := by decide +kernel
theorem dX2_readRow_67 : decode cX2_readRow 67 = .ok (.iconst 0, 1) := by decide +kernel
theorem dX2_readRow_68 : decode cX2_readRow 68 = .ok (.ireturn, 1) := by decide +kernel
theorem dX2_readRow_69 : decode cX2_readRow 69 = .ok (.iinc 2 1, 3) := by decide +kernel
theorem dX2_readRow_72 : decode cX2_readRow 72 = .ok (.goto (-28), 3) := by decide +kernel
theorem dX2_readRow_75 : decode cX2_readRow 75 = .ok (.iconst 1, 1) := by decide +kernel
theorem dX2_readRow_76 : decode cX2_readRow 76 = .ok (.ireturn, 1) := by decide +kernel
theorem dX2_readWalker_0 : decode cX2_readWalker 0 = .ok (.aload_n 1, 1) := by decide +kernel
theorem dX2_readWalker_1 : decode cX2_readWalker 1 = .ok (.getfield 74, 3) := by decide +kernel
theorem dX2_readWalker_4 : decode cX2_readWalker 4 = .ok (.iconst 4, 1) := by decide +kernel
theorem dX2_readWalker_5 : decode cX2_readWalker 5 = .ok (.if_icmp .lt 5, 3) := by decide +kernel
theorem dX2_readWalker_8 : decode cX2_readWalker 8 = .ok (.iconst 0, 1) := by decide +kernel
theorem dX2_readWalker_9 : decode cX2_readWalker 9 = .ok (.ireturn, 1) := by decide +kernel
theorem dX2_readWalker_10 : decode cX2_readWalker 10 = .ok (.aload_n 0, 1) := by decide +kernel
theorem dX2_readWalker_11 : decode cX2_readWalker 11 = .ok (.invokevirtual 27, 3) := by decide +kernel
theorem dX2_readWalker_14 : decode cX2_readWalker 14 = .ok (.aload_n 0, 1) := by decide +kernel
theorem dX2_readWalker_15 : decode cX2_readWalker 15 = .ok (.aload_n 1, 1) := by decide +kernel
theorem dX2_readWalker_16 : decode cX2_readWalker 16 = .ok (.getfield 77, 3) := by decide +kernel
theorem dX2_readWalker_19 : decode cX2_readWalker 19 = .ok (.iconst 1, 1) := by decide +kernel
theorem dX2_readWalker_20 : decode cX2_readWalker 20 = .ok (.isub, 1) := by decide +kernel
theorem dX2_readWalker_21 : decode cX2_readWalker 21 = .ok (.invokevirtual 80, 3) := by decide +kernel
theorem dX2_readWalker_24 : decode cX2_readWalker 24 = .ok (.ifCond .ne 5, 3) := by decide +kernel
theorem dX2_readWalker_27 : decode cX2_readWalker 27 = .ok (.iconst 0, 1) := by decide +kernel
theorem dX2_readWalker_28 : decode cX2_readWalker 28 = .ok (.ireturn, 1) := by decide +kernel
theorem dX2_readWalker_29 : decode cX2_readWalker 29 = .ok (.aload_n 0, 1) := by decide +kernel
theorem dX2_readWalker_30 : decode cX2_readWalker 30 = .ok (.getfield 83, 3) := by decide +kernel
theorem dX2_readWalker_33 : decode cX2_readWalker 33 = .ok (.istore_n 2, 1) := by decide +kernel
theorem dX2_readWalker_34 : decode cX2_readWalker 34 = .ok (.aload_n 0, 1) := by decide +kernel
theorem dX2_readWalker_35 : decode cX2_readWalker 35 = .ok (.invokevirtual 27, 3) := by decide +kernel
theorem dX2_readWalker_38 : decode cX2_readWalker 38 = .ok (.aload_n 0, 1) := by decide +kernel
theorem dX2_readWalker_39 : decode cX2_readWalker 39 = .ok (.aload_n 1, 1) := by decide +kernel
theorem dX2_readWalker_40 : decode cX2_readWalker 40 = .ok (.getfield 77, 3) := by decide +kernel
theorem dX2_readWalker_43 : decode cX2_readWalker 43 = .ok (.iconst 1, 1) := by decide +kernel
theorem dX2_readWalker_44 : decode cX2_readWalker 44 = .ok (.isub, 1) := by decide +kernel
theorem dX2_readWalker_45 : decode cX2_readWalker 45 = .ok (.invokevirtual 80, 3) := by decide +kernel
theorem dX2_readWalker_48 : decode cX2_readWalker 48 = .ok (.ifCond .eq 11, 3) := by decide +kernel
theorem dX2_readWalker_51 : decode cX2_readWalker 51 = .ok (.aload_n 0, 1) := by decide +kernel
theorem dX2_readWalker_52 : decode cX2_readWalker 52 = .ok (.getfield 83, 3) := by decide +kernel
theorem dX2_readWalker_55 : decode cX2_readWalker 55 = .ok (.iload_n 2, 1) := by decide +kernel
theorem dX2_readWalker_56 : decode cX2_readWalker 56 = .ok (.if_icmp .ne 5, 3) := by decide +kernel
theorem dX2_readWalker_59 : decode cX2_readWalker 59 = .ok (.iconst 0, 1) := by decide +kernel
theorem dX2_readWalker_60 : decode cX2_readWalker 60 = .ok (.ireturn, 1) := by decide +kernel
theorem dX2_readWalker_61 : decode cX2_readWalker 61 = .ok (.aload_n 1, 1) := by decide +kernel
theorem dX2_readWalker_62 : decode cX2_readWalker 62 = .ok (.iload_n 2, 1) := by decide +kernel
theorem dX2_readWalker_63 : decode cX2_readWalker 63 = .ok (.aload_n 0, 1) := by decide +kernel
theorem dX2_readWalker_64 : decode cX2_readWalker 64 = .ok (.getfield 83, 3) := by decide +kernel
theorem dX2_readWalker_67 : decode cX2_readWalker 67 = .ok (.invokevirtual 86, 3) := by decide +kernel
theorem dX2_readWalker_70 : decode cX2_readWalker 70 = .ok (.iconst 1, 1) := by decide +kernel
theorem dX2_readWalker_71 : decode cX2_readWalker 71 = .ok (.ireturn, 1) := by decide +kernel
theorem dX2_readSink_0 : decode cX2_readSink 0 = .ok (.aload_n 1, 1) := by decide +kernel
theorem dX2_readSink_1 : decode cX2_readSink 1 = .ok (.getfield 90, 3) := by decide +kernel
theorem dX2_readSink_4 : decode cX2_readSink 4 = .ok (.ifCond .eq 5, 3) := by decide +kernel
theorem dX2_readSink_7 : decode cX2_readSink 7 = .ok (.iconst 0, 1) := by decide +kernel
theorem dX2_readSink_8 : decode cX2_readSink 8 = .ok (.ireturn, 1) := by decide +kernel
theorem dX2_readSink_9 : decode cX2_readSink 9 = .ok (.aload_n 0, 1) := by decide +kernel
theorem dX2_readSink_10 : decode cX2_readSink 10 = .ok (.invokevirtual 27, 3) := by decide +kernel
theorem dX2_readSink_13 : decode cX2_readSink 13 = .ok (.aload_n 0, 1) := by decide +kernel
theorem dX2_readSink_14 : decode cX2_readSink 14 = .ok (.bipush 9, 2) := by decide +kernel
theorem dX2_readSink_16 : decode cX2_readSink 16 = .ok (.invokevirtual 80, 3) := by decide +kernel
theorem dX2_readSink_19 : decode cX2_readSink 19 = .ok (.ifCond .ne 5, 3) := by decide +kernel
theorem dX2_readSink_22 : decode cX2_readSink 22 = .ok (.iconst 0, 1) := by decide +kernel
theorem dX2_readSink_23 : decode cX2_readSink 23 = .ok (.ireturn, 1) := by decide +kernel
theorem dX2_readSink_24 : decode cX2_readSink 24 = .ok (.aload_n 1, 1) := by decide +kernel
theorem dX2_readSink_25 : decode cX2_readSink 25 = .ok (.aload_n 0, 1) := by decide +kernel
theorem dX2_readSink_26 : decode cX2_readSink 26 = .ok (.getfield 83, 3) := by decide +kernel
theorem dX2_readSink_29 : decode cX2_readSink 29 = .ok (.putfield 94, 3) := by decide +kernel
theorem dX2_readSink_32 : decode cX2_readSink 32 = .ok (.aload_n 1, 1) := by decide +kernel
theorem dX2_readSink_33 : decode cX2_readSink 33 = .ok (.iconst 1, 1) := by decide +kernel
theorem dX2_readSink_34 : decode cX2_readSink 34 = .ok (.putfield 90, 3) := by decide +kernel
theorem dX2_readSink_37 : decode cX2_readSink 37 = .ok (.iconst 1, 1) := by decide +kernel
theorem dX2_readSink_38 : decode cX2_readSink 38 = .ok (.ireturn, 1) := by decide +kernel
theorem dX2_isNumberTo_0 : decode cX2_isNumberTo 0 = .ok (.aload_n 0, 1) := by decide +kernel
theorem dX2_isNumberTo_1 : decode cX2_isNumberTo 1 = .ok (.getfield 30, 3) := by decide +kernel
theorem dX2_isNumberTo_4 : decode cX2_isNumberTo 4 = .ok (.iconst 2, 1) := by decide +kernel
theorem dX2_isNumberTo_5 : decode cX2_isNumberTo 5 = .ok (.if_icmp .ne 15, 3) := by decide +kernel
theorem dX2_isNumberTo_8 : decode cX2_isNumberTo 8 = .ok (.aload_n 0, 1) := by decide +kernel
theorem dX2_isNumberTo_9 : decode cX2_isNumberTo 9 = .ok (.getfield 83, 3) := by decide +kernel
theorem dX2_isNumberTo_12 : decode cX2_isNumberTo 12 = .ok (.iload_n 1, 1) := by decide +kernel
theorem dX2_isNumberTo_13 : decode cX2_isNumberTo 13 = .ok (.if_icmp .gt 7, 3) := by decide +kernel
theorem dX2_isNumberTo_16 : decode cX2_isNumberTo 16 = .ok (.iconst 1, 1) := by decide +kernel
theorem dX2_isNumberTo_17 : decode cX2_isNumberTo 17 = .ok (.goto 4, 3) := by decide +kernel
theorem dX2_isNumberTo_20 : decode cX2_isNumberTo 20 = .ok (.iconst 0, 1) := by decide +kernel
theorem dX2_isNumberTo_21 : decode cX2_isNumberTo 21 = .ok (.ireturn, 1) := by decide +kernel
theorem dX2_isWord_0 : decode cX2_isWord 0 = .ok (.aload_n 0, 1) := by decide +kernel
theorem dX2_isWord_1 : decode cX2_isWord 1 = .ok (.getfield 30, 3) := by decide +kernel
theorem dX2_isWord_4 : decode cX2_isWord 4 = .ok (.iconst 1, 1) := by decide +kernel
theorem dX2_isWord_5 : decode cX2_isWord 5 = .ok (.if_icmp .ne 19, 3) := by decide +kernel
theorem dX2_isWord_8 : decode cX2_isWord 8 = .ok (.aload_n 0, 1) := by decide +kernel
theorem dX2_isWord_9 : decode cX2_isWord 9 = .ok (.getfield 23, 3) := by decide +kernel
theorem dX2_isWord_12 : decode cX2_isWord 12 = .ok (.aload_n 0, 1) := by decide +kernel
theorem dX2_isWord_13 : decode cX2_isWord 13 = .ok (.getfield 37, 3) := by decide +kernel
theorem dX2_isWord_16 : decode cX2_isWord 16 = .ok (.isub, 1) := by decide +kernel
theorem dX2_isWord_17 : decode cX2_isWord 17 = .ok (.aload_n 1, 1) := by decide +kernel
theorem dX2_isWord_18 : decode cX2_isWord 18 = .ok (.invokevirtual 96, 3) := by decide +kernel
theorem dX2_isWord_21 : decode cX2_isWord 21 = .ok (.if_icmp .eq 5, 3) := by decide +kernel
theorem dX2_isWord_24 : decode cX2_isWord 24 = .ok (.iconst 0, 1) := by decide +kernel
theorem dX2_isWord_25 : decode cX2_isWord 25 = .ok (.ireturn, 1) := by decide +kernel
theorem dX2_isWord_26 : decode cX2_isWord 26 = .ok (.iconst 0, 1) := by decide +kernel
theorem dX2_isWord_27 : decode cX2_isWord 27 = .ok (.istore_n 2, 1) := by decide +kernel
theorem dX2_isWord_28 : decode cX2_isWord 28 = .ok (.iload_n 2, 1) := by decide +kernel
theorem dX2_isWord_29 : decode cX2_isWord 29 = .ok (.aload_n 1, 1) := by decide +kernel
theorem dX2_isWord_30 : decode cX2_isWord 30 = .ok (.invokevirtual 96, 3) := by decide +kernel
theorem dX2_isWord_33 : decode cX2_isWord 33 = .ok (.if_icmp .ge 32, 3) := by decide +kernel
theorem dX2_isWord_36 : decode cX2_isWord 36 = .ok (.aload_n 0, 1) := by decide +kernel
theorem dX2_isWord_37 : decode cX2_isWord 37 = .ok (.getfield 12, 3) := by decide +kernel
theorem dX2_isWord_40 : decode cX2_isWord 40 = .ok (.aload_n 0, 1) := by decide +kernel
theorem dX2_isWord_41 : decode cX2_isWord 41 = .ok (.getfield 37, 3) := by decide +kernel
theorem dX2_isWord_44 : decode cX2_isWord 44 = .ok (.iload_n 2, 1) := by decide +kernel
theorem dX2_isWord_45 : decode cX2_isWord 45 = .ok (.iadd, 1) := by decide +kernel
theorem dX2_isWord_46 : decode cX2_isWord 46 = .ok (.invokevirtual 67, 3) := by decide +kernel
theorem dX2_isWord_49 : decode cX2_isWord 49 = .ok (.aload_n 1, 1) := by decide +kernel
theorem dX2_isWord_50 : decode cX2_isWord 50 = .ok (.iload_n 2, 1) := by decide +kernel
theorem dX2_isWord_51 : decode cX2_isWord 51 = .ok (.invokevirtual 102, 3) := by decide +kernel
theorem dX2_isWord_54 : decode cX2_isWord 54 = .ok (.if_icmp .eq 5, 3) := by decide +kernel
theorem dX2_isWord_57 : decode cX2_isWord 57 = .ok (.iconst 0, 1) := by decide +kernel
theorem dX2_isWord_58 : decode cX2_isWord 58 = .ok (.ireturn, 1) := by decide +kernel
theorem dX2_isWord_59 : decode cX2_isWord 59 = .ok (.iinc 2 1, 3) := by decide +kernel
theorem dX2_isWord_62 : decode cX2_isWord 62 = .ok (.goto (-34), 3) := by decide +kernel
theorem dX2_isWord_65 : decode cX2_isWord 65 = .ok (.iconst 1, 1) := by decide +kernel
theorem dX2_isWord_66 : decode cX2_isWord 66 = .ok (.ireturn, 1) := by decide +kernel
theorem dX2_toNextToken_0 : decode cX2_toNextToken 0 = .ok (.aload_n 0, 1) := by decide +kernel
theorem dX2_toNextToken_1 : decode cX2_toNextToken 1 = .ok (.aload_n 0, 1) := by decide +kernel
theorem dX2_toNextToken_2 : decode cX2_toNextToken 2 = .ok (.getfield 12, 3) := by decide +kernel
theorem dX2_toNextToken_5 : decode cX2_toNextToken 5 = .ok (.aload_n 0, 1) := by decide +kernel
theorem dX2_toNextToken_6 : decode cX2_toNextToken 6 = .ok (.getfield 23, 3) := by decide +kernel
theorem dX2_toNextToken_9 : decode cX2_toNextToken 9 = .ok (.bipush 32, 2) := by decide +kernel
theorem dX2_toNextToken_11 : decode cX2_toNextToken 11 = .ok (.bipush 32, 2) := by decide +kernel
theorem dX2_toNextToken_13 : decode cX2_toNextToken 13 = .ok (.invokevirtual 106, 3) := by decide +kernel
theorem dX2_toNextToken_16 : decode cX2_toNextToken 16 = .ok (.putfield 37, 3) := by decide +kernel
theorem dX2_toNextToken_19 : decode cX2_toNextToken 19 = .ok (.aload_n 0, 1) := by decide +kernel
theorem dX2_toNextToken_20 : decode cX2_toNextToken 20 = .ok (.getfield 12, 3) := by decide +kernel
theorem dX2_toNextToken_23 : decode cX2_toNextToken 23 = .ok (.aload_n 0, 1) := by decide +kernel
theorem dX2_toNextToken_24 : decode cX2_toNextToken 24 = .ok (.getfield 37, 3) := by decide +kernel
theorem dX2_toNextToken_27 : decode cX2_toNextToken 27 = .ok (.invokevirtual 67, 3) := by decide +kernel
theorem dX2_toNextToken_30 : decode cX2_toNextToken 30 = .ok (.istore_n 1, 1) := by decide +kernel
theorem dX2_toNextToken_31 : decode cX2_toNextToken 31 = .ok (.iload_n 1, 1) := by decide +kernel
theorem dX2_toNextToken_32 : decode cX2_toNextToken 32 = .ok (.ifCond .ge 19, 3) := by decide +kernel
theorem dX2_toNextToken_35 : decode cX2_toNextToken 35 = .ok (.aload_n 0, 1) := by decide +kernel
theorem dX2_toNextToken_36 : decode cX2_toNextToken 36 = .ok (.aload_n 0, 1) := by decide +kernel
theorem dX2_toNextToken_37 : decode cX2_toNextToken 37 = .ok (.getfield 37, 3) := by decide +kernel
theorem dX2_toNextToken_40 : decode cX2_toNextToken 40 = .ok (.putfield 23, 3) := by decide +kernel
theorem dX2_toNextToken_43 : decode cX2_toNextToken 43 = .ok (.aload_n 0, 1) := by decide +kernel
theorem dX2_toNextToken_44 : decode cX2_toNextToken 44 = .ok (.iconst 0, 1) := by decide +kernel
theorem dX2_toNextToken_45 : decode cX2_toNextToken 45 = .ok (.putfield 30, 3) := by decide +kernel
theorem dX2_toNextToken_48 : decode cX2_toNextToken 48 = .ok (.goto 110, 3) := by decide +kernel
theorem dX2_toNextToken_51 : decode cX2_toNextToken 51 = .ok (.iload_n 1, 1) := by decide +kernel
theorem dX2_toNextToken_52 : decode cX2_toNextToken 52 = .ok (.bipush 97, 2) := by decide +kernel
theorem dX2_toNextToken_54 : decode cX2_toNextToken 54 = .ok (.if_icmp .lt 36, 3) := by decide +kernel
theorem dX2_toNextToken_57 : decode cX2_toNextToken 57 = .ok (.iload_n 1, 1) := by decide +kernel
theorem dX2_toNextToken_58 : decode cX2_toNextToken 58 = .ok (.bipush 122, 2) := by decide +kernel
theorem dX2_toNextToken_60 : decode cX2_toNextToken 60 = .ok (.if_icmp .gt 30, 3) := by decide +kernel
theorem dX2_toNextToken_63 : decode cX2_toNextToken 63 = .ok (.aload_n 0, 1) := by decide +kernel
theorem dX2_toNextToken_64 : decode cX2_toNextToken 64 = .ok (.aload_n 0, 1) := by decide +kernel
theorem dX2_toNextToken_65 : decode cX2_toNextToken 65 = .ok (.getfield 12, 3) := by decide +kernel
theorem dX2_toNextToken_68 : decode cX2_toNextToken 68 = .ok (.aload_n 0, 1) := by decide +kernel
theorem dX2_toNextToken_69 : decode cX2_toNextToken 69 = .ok (.getfield 37, 3) := by decide +kernel
theorem dX2_toNextToken_72 : decode cX2_toNextToken 72 = .ok (.bipush 97, 2) := by decide +kernel
theorem dX2_toNextToken_74 : decode cX2_toNextToken 74 = .ok (.bipush 122, 2) := by decide +kernel
theorem dX2_toNextToken_76 : decode cX2_toNextToken 76 = .ok (.invokevirtual 106, 3) := by decide +kernel
theorem dX2_toNextToken_79 : decode cX2_toNextToken 79 = .ok (.putfield 23, 3) := by decide +kernel
theorem dX2_toNextToken_82 : decode cX2_toNextToken 82 = .ok (.aload_n 0, 1) := by decide +kernel
theorem dX2_toNextToken_83 : decode cX2_toNextToken 83 = .ok (.iconst 1, 1) := by decide +kernel
theorem dX2_toNextToken_84 : decode cX2_toNextToken 84 = .ok (.putfield 30, 3) := by decide +kernel
theorem dX2_toNextToken_87 : decode cX2_toNextToken 87 = .ok (.goto 71, 3) := by decide +kernel
theorem dX2_toNextToken_90 : decode cX2_toNextToken 90 = .ok (.iload_n 1, 1) := by decide +kernel
theorem dX2_toNextToken_91 : decode cX2_toNextToken 91 = .ok (.bipush 48, 2) := by decide +kernel
theorem dX2_toNextToken_93 : decode cX2_toNextToken 93 = .ok (.if_icmp .lt 40, 3) := by decide +kernel
theorem dX2_toNextToken_96 : decode cX2_toNextToken 96 = .ok (.iload_n 1, 1) := by decide +kernel
theorem dX2_toNextToken_97 : decode cX2_toNextToken 97 = .ok (.bipush 57, 2) := by decide +kernel
theorem dX2_toNextToken_99 : decode cX2_toNextToken 99 = .ok (.if_icmp .gt 34, 3) := by decide +kernel
theorem dX2_toNextToken_102 : decode cX2_toNextToken 102 = .ok (.aload_n 0, 1) := by decide +kernel
theorem dX2_toNextToken_103 : decode cX2_toNextToken 103 = .ok (.aload_n 0, 1) := by decide +kernel
theorem dX2_toNextToken_104 : decode cX2_toNextToken 104 = .ok (.getfield 12, 3) := by decide +kernel
theorem dX2_toNextToken_107 : decode cX2_toNextToken 107 = .ok (.aload_n 0, 1) := by decide +kernel
theorem dX2_toNextToken_108 : decode cX2_toNextToken 108 = .ok (.getfield 37, 3) := by decide +kernel
theorem dX2_toNextToken_111 : decode cX2_toNextToken 111 = .ok (.bipush 48, 2) := by decide +kernel
theorem dX2_toNextToken_113 : decode cX2_toNextToken 113 = .ok (.bipush 57, 2) := by decide +kernel
theorem dX2_toNextToken_115 : decode cX2_toNextToken 115 = .ok (.invokevirtual 106, 3) := by decide +kernel
theorem dX2_toNextToken_118 : decode cX2_toNextToken 118 = .ok (.putfield 23, 3) := by decide +kernel
theorem dX2_toNextToken_121 : decode cX2_toNextToken 121 = .ok (.aload_n 0, 1) := by decide +kernel
theorem dX2_toNextToken_122 : decode cX2_toNextToken 122 = .ok (.aload_n 0, 1) := by decide +kernel
theorem dX2_toNextToken_123 : decode cX2_toNextToken 123 = .ok (.iload_n 1, 1) := by decide +kernel
theorem dX2_toNextToken_124 : decode cX2_toNextToken 124 = .ok (.invokevirtual 110, 3) := by decide +kernel
theorem dX2_toNextToken_127 : decode cX2_toNextToken 127 = .ok (.putfield 30, 3) := by decide +kernel
theorem dX2_toNextToken_130 : decode cX2_toNextToken 130 = .ok (.goto 28, 3) := by decide +kernel
theorem dX2_toNextToken_133 : decode cX2_toNextToken 133 = .ok (.aload_n 0, 1) := by decide +kernel
theorem dX2_toNextToken_134 : decode cX2_toNextToken 134 = .ok (.aload_n 0, 1) := by decide +kernel
theorem dX2_toNextToken_135 : decode cX2_toNextToken 135 = .ok (.getfield 37, 3) := by decide +kernel
theorem dX2_toNextToken_138 : decode cX2_toNextToken 138 = .ok (.iconst 1, 1) := by decide +kernel
theorem dX2_toNextToken_139 : decode cX2_toNextToken 139 = .ok (.iadd, 1) := by decide +kernel
theorem dX2_toNextToken_140 : decode cX2_toNextToken 140 = .ok (.putfield 23, 3) := by decide +kernel
theorem dX2_toNextToken_143 : decode cX2_toNextToken 143 = .ok (.aload_n 0, 1) := by decide +kernel
theorem dX2_toNextToken_144 : decode cX2_toNextToken 144 = .ok (.iload_n 1, 1) := by decide +kernel
theorem dX2_toNextToken_145 : decode cX2_toNextToken 145 = .ok (.bipush 59, 2) := by decide +kernel
theorem dX2_toNextToken_147 : decode cX2_toNextToken 147 = .ok (.if_icmp .ne 7, 3) := by decide +kernel
theorem dX2_toNextToken_150 : decode cX2_toNextToken 150 = .ok (.iconst 3, 1) := by decide +kernel
theorem dX2_toNextToken_151 : decode cX2_toNextToken 151 = .ok (.goto 4, 3) := by decide +kernel
theorem dX2_toNextToken_154 : decode cX2_toNextToken 154 = .ok (.iconst 4, 1) := by decide +kernel
theorem dX2_toNextToken_155 : decode cX2_toNextToken 155 = .ok (.putfield 30, 3) := by decide +kernel
theorem dX2_toNextToken_158 : decode cX2_toNextToken 158 = .ok (.return_, 1) := by decide +kernel
theorem dX2_sortOfDigits_0 : decode cX2_sortOfDigits 0 = .ok (.aload_n 0, 1) := by decide +kernel
theorem dX2_sortOfDigits_1 : decode cX2_sortOfDigits 1 = .ok (.getfield 23, 3) := by decide +kernel
theorem dX2_sortOfDigits_4 : decode cX2_sortOfDigits 4 = .ok (.aload_n 0, 1) := by decide +kernel
theorem dX2_sortOfDigits_5 : decode cX2_sortOfDigits 5 = .ok (.getfield 37, 3) := by decide +kernel
theorem dX2_sortOfDigits_8 : decode cX2_sortOfDigits 8 = .ok (.isub, 1) := by decide +kernel
theorem dX2_sortOfDigits_9 : decode cX2_sortOfDigits 9 = .ok (.istore_n 2, 1) := by decide +kernel
theorem dX2_sortOfDigits_10 : decode cX2_sortOfDigits 10 = .ok (.iload_n 2, 1) := by decide +kernel
theorem dX2_sortOfDigits_11 : decode cX2_sortOfDigits 11 = .ok (.iconst 2, 1) := by decide +kernel
theorem dX2_sortOfDigits_12 : decode cX2_sortOfDigits 12 = .ok (.if_icmp .gt 14, 3) := by decide +kernel
theorem dX2_sortOfDigits_15 : decode cX2_sortOfDigits 15 = .ok (.iload_n 2, 1) := by decide +kernel
theorem dX2_sortOfDigits_16 : decode cX2_sortOfDigits 16 = .ok (.iconst 2, 1) := by decide +kernel
theorem dX2_sortOfDigits_17 : decode cX2_sortOfDigits 17 = .ok (.if_icmp .ne 11, 3) := by decide +kernel
theorem dX2_sortOfDigits_20 : decode cX2_sortOfDigits 20 = .ok (.iload_n 1, 1) := by decide +kernel
theorem dX2_sortOfDigits_21 : decode cX2_sortOfDigits 21 = .ok (.bipush 48, 2) := by decide +kernel
theorem dX2_sortOfDigits_23 : decode cX2_sortOfDigits 23 = .ok (.if_icmp .ne 5, 3) := by decide +kernel
theorem dX2_sortOfDigits_26 : decode cX2_sortOfDigits 26 = .ok (.iconst 4, 1) := by decide +kernel
theorem dX2_sortOfDigits_27 : decode cX2_sortOfDigits 27 = .ok (.ireturn, 1) := by decide +kernel
theorem dX2_sortOfDigits_28 : decode cX2_sortOfDigits 28 = .ok (.aload_n 0, 1) := by decide +kernel
theorem dX2_sortOfDigits_29 : decode cX2_sortOfDigits 29 = .ok (.iload_n 1, 1) := by decide +kernel
theorem dX2_sortOfDigits_30 : decode cX2_sortOfDigits 30 = .ok (.bipush 48, 2) := by decide +kernel
theorem dX2_sortOfDigits_32 : decode cX2_sortOfDigits 32 = .ok (.isub, 1) := by decide +kernel
theorem dX2_sortOfDigits_33 : decode cX2_sortOfDigits 33 = .ok (.putfield 83, 3) := by decide +kernel
theorem dX2_sortOfDigits_36 : decode cX2_sortOfDigits 36 = .ok (.iload_n 2, 1) := by decide +kernel
theorem dX2_sortOfDigits_37 : decode cX2_sortOfDigits 37 = .ok (.iconst 2, 1) := by decide +kernel
theorem dX2_sortOfDigits_38 : decode cX2_sortOfDigits 38 = .ok (.if_icmp .ne 31, 3) := by decide +kernel
theorem dX2_sortOfDigits_41 : decode cX2_sortOfDigits 41 = .ok (.aload_n 0, 1) := by decide +kernel
theorem dX2_sortOfDigits_42 : decode cX2_sortOfDigits 42 = .ok (.bipush 10, 2) := by decide +kernel
theorem dX2_sortOfDigits_44 : decode cX2_sortOfDigits 44 = .ok (.aload_n 0, 1) := by decide +kernel
theorem dX2_sortOfDigits_45 : decode cX2_sortOfDigits 45 = .ok (.getfield 83, 3) := by decide +kernel
theorem dX2_sortOfDigits_48 : decode cX2_sortOfDigits 48 = .ok (.imul, 1) := by decide +kernel
theorem dX2_sortOfDigits_49 : decode cX2_sortOfDigits 49 = .ok (.aload_n 0, 1) := by decide +kernel
theorem dX2_sortOfDigits_50 : decode cX2_sortOfDigits 50 = .ok (.getfield 12, 3) := by decide +kernel
theorem dX2_sortOfDigits_53 : decode cX2_sortOfDigits 53 = .ok (.aload_n 0, 1) := by decide +kernel
theorem dX2_sortOfDigits_54 : decode cX2_sortOfDigits 54 = .ok (.getfield 37, 3) := by decide +kernel
theorem dX2_sortOfDigits_57 : decode cX2_sortOfDigits 57 = .ok (.iconst 1, 1) := by decide +kernel
theorem dX2_sortOfDigits_58 : decode cX2_sortOfDigits 58 = .ok (.iadd, 1) := by decide +kernel
theorem dX2_sortOfDigits_59 : decode cX2_sortOfDigits 59 = .ok (.invokevirtual 67, 3) := by decide +kernel
theorem dX2_sortOfDigits_62 : decode cX2_sortOfDigits 62 = .ok (.iadd, 1) := by decide +kernel
theorem dX2_sortOfDigits_63 : decode cX2_sortOfDigits 63 = .ok (.bipush 48, 2) := by decide +kernel
theorem dX2_sortOfDigits_65 : decode cX2_sortOfDigits 65 = .ok (.isub, 1) := by decide +kernel
theorem dX2_sortOfDigits_66 : decode cX2_sortOfDigits 66 = .ok (.putfield 83, 3) := by decide +kernel
theorem dX2_sortOfDigits_69 : decode cX2_sortOfDigits 69 = .ok (.iconst 2, 1) := by decide +kernel
theorem dX2_sortOfDigits_70 : decode cX2_sortOfDigits 70 = .ok (.ireturn, 1) := by decide +kernel
theorem dX3_init_0 : decode cX3_init 0 = .ok (.aload_n 0, 1) := by decide +kernel
theorem dX3_init_1 : decode cX3_init 1 = .ok (.invokespecial 3, 3) := by decide +kernel
theorem dX3_init_4 : decode cX3_init 4 = .ok (.aload_n 0, 1) := by decide +kernel
theorem dX3_init_5 : decode cX3_init 5 = .ok (.sipush 300, 3) := by decide +kernel
theorem dX3_init_8 : decode cX3_init 8 = .ok (.newarray .int, 2) := by decide +kernel
theorem dX3_init_10 : decode cX3_init 10 = .ok (.putfield 9, 3) := by decide +kernel
theorem dX3_init_13 : decode cX3_init 13 = .ok (.aload_n 0, 1) := by decide +kernel
theorem dX3_init_14 : decode cX3_init 14 = .ok (.iconst 0, 1) := by decide +kernel
theorem dX3_init_15 : decode cX3_init 15 = .ok (.putfield 15, 3) := by decide +kernel
theorem dX3_init_18 : decode cX3_init 18 = .ok (.return_, 1) := by decide +kernel
theorem dX3_add_0 : decode cX3_add 0 = .ok (.aload_n 0, 1) := by decide +kernel
theorem dX3_add_1 : decode cX3_add 1 = .ok (.getfield 15, 3) := by decide +kernel
theorem dX3_add_4 : decode cX3_add 4 = .ok (.sipush 300, 3) := by decide +kernel
theorem dX3_add_7 : decode cX3_add 7 = .ok (.if_icmp .ge 25, 3) := by decide +kernel
theorem dX3_add_10 : decode cX3_add 10 = .ok (.aload_n 0, 1) := by decide +kernel
theorem dX3_add_11 : decode cX3_add 11 = .ok (.getfield 9, 3) := by decide +kernel
theorem dX3_add_14 : decode cX3_add 14 = .ok (.aload_n 0, 1) := by decide +kernel
theorem dX3_add_15 : decode cX3_add 15 = .ok (.getfield 15, 3) := by decide +kernel
theorem dX3_add_18 : decode cX3_add 18 = .ok (.iload_n 1, 1) := by decide +kernel
theorem dX3_add_19 : decode cX3_add 19 = .ok (.invokestatic 19, 3) := by decide +kernel
theorem dX3_add_22 : decode cX3_add 22 = .ok (.aload_n 0, 1) := by decide +kernel
theorem dX3_add_23 : decode cX3_add 23 = .ok (.dup, 1) := by decide +kernel
theorem dX3_add_24 : decode cX3_add 24 = .ok (.getfield 15, 3) := by decide +kernel
theorem dX3_add_27 : decode cX3_add 27 = .ok (.iconst 1, 1) := by decide +kernel
theorem dX3_add_28 : decode cX3_add 28 = .ok (.iadd, 1) := by decide +kernel
theorem dX3_add_29 : decode cX3_add 29 = .ok (.putfield 15, 3) := by decide +kernel
theorem dX3_add_32 : decode cX3_add 32 = .ok (.return_, 1) := by decide +kernel
theorem dX3_empty_0 : decode cX3_empty 0 = .ok (.aload_n 0, 1) := by decide +kernel
theorem dX3_empty_1 : decode cX3_empty 1 = .ok (.getfield 15, 3) := by decide +kernel
theorem dX3_empty_4 : decode cX3_empty 4 = .ok (.istore_n 1, 1) := by decide +kernel
theorem dX3_empty_5 : decode cX3_empty 5 = .ok (.aload_n 0, 1) := by decide +kernel
theorem dX3_empty_6 : decode cX3_empty 6 = .ok (.iconst 0, 1) := by decide +kernel
theorem dX3_empty_7 : decode cX3_empty 7 = .ok (.putfield 15, 3) := by decide +kernel
theorem dX3_empty_10 : decode cX3_empty 10 = .ok (.iload_n 1, 1) := by decide +kernel
theorem dX3_empty_11 : decode cX3_empty 11 = .ok (.ireturn, 1) := by decide +kernel
theorem dX3_byteAt_0 : decode cX3_byteAt 0 = .ok (.iload_n 1, 1) := by decide +kernel
theorem dX3_byteAt_1 : decode cX3_byteAt 1 = .ok (.ifCond .lt 29, 3) := by decide +kernel
theorem dX3_byteAt_4 : decode cX3_byteAt 4 = .ok (.iload_n 1, 1) := by decide +kernel
theorem dX3_byteAt_5 : decode cX3_byteAt 5 = .ok (.aload_n 0, 1) := by decide +kernel
theorem dX3_byteAt_6 : decode cX3_byteAt 6 = .ok (.getfield 15, 3) := by decide +kernel
theorem dX3_byteAt_9 : decode cX3_byteAt 9 = .ok (.if_icmp .ge 21, 3) := by decide +kernel
theorem dX3_byteAt_12 : decode cX3_byteAt 12 = .ok (.iload_n 1, 1) := by decide +kernel
theorem dX3_byteAt_13 : decode cX3_byteAt 13 = .ok (.aload_n 0, 1) := by decide +kernel
theorem dX3_byteAt_14 : decode cX3_byteAt 14 = .ok (.getfield 9, 3) := by decide +kernel
theorem dX3_byteAt_17 : decode cX3_byteAt 17 = .ok (.arraylength, 1) := by decide +kernel
theorem dX3_byteAt_18 : decode cX3_byteAt 18 = .ok (.if_icmp .ge 12, 3) := by decide +kernel
theorem dX3_byteAt_21 : decode cX3_byteAt 21 = .ok (.aload_n 0, 1) := by decide +kernel
theorem dX3_byteAt_22 : decode cX3_byteAt 22 = .ok (.getfield 9, 3) := by decide +kernel
theorem dX3_byteAt_25 : decode cX3_byteAt 25 = .ok (.iload_n 1, 1) := by decide +kernel
theorem dX3_byteAt_26 : decode cX3_byteAt 26 = .ok (.iaload, 1) := by decide +kernel
theorem dX3_byteAt_27 : decode cX3_byteAt 27 = .ok (.goto 4, 3) := by decide +kernel
theorem dX3_byteAt_30 : decode cX3_byteAt 30 = .ok (.iconst (-1), 1) := by decide +kernel
theorem dX3_byteAt_31 : decode cX3_byteAt 31 = .ok (.ireturn, 1) := by decide +kernel
theorem dX3_behindRun_0 : decode cX3_behindRun 0 = .ok (.iload_n 1, 1) := by decide +kernel
theorem dX3_behindRun_1 : decode cX3_behindRun 1 = .ok (.istore 4, 2) := by decide +kernel
theorem dX3_behindRun_3 : decode cX3_behindRun 3 = .ok (.iload 4, 2) := by decide +kernel
theorem dX3_behindRun_5 : decode cX3_behindRun 5 = .ok (.aload_n 0, 1) := by decide +kernel
theorem dX3_behindRun_6 : decode cX3_behindRun 6 = .ok (.getfield 15, 3) := by decide +kernel
theorem dX3_behindRun_9 : decode cX3_behindRun 9 = .ok (.if_icmp .ge 29, 3) := by decide +kernel
theorem dX3_behindRun_12 : decode cX3_behindRun 12 = .ok (.aload_n 0, 1) := by decide +kernel
theorem dX3_behindRun_13 : decode cX3_behindRun 13 = .ok (.iload 4, 2) := by decide +kernel
theorem dX3_behindRun_15 : decode cX3_behindRun 15 = .ok (.invokevirtual 23, 3) := by decide +kernel
theorem dX3_behindRun_18 : decode cX3_behindRun 18 = .ok (.iload_n 2, 1) := by decide +kernel
theorem dX3_behindRun_19 : decode cX3_behindRun 19 = .ok (.if_icmp .lt 19, 3) := by decide +kernel
theorem dX3_behindRun_22 : decode cX3_behindRun 22 = .ok (.aload_n 0, 1) := by decide +kernel
theorem dX3_behindRun_23 : decode cX3_behindRun 23 = .ok (.iload 4, 2) := by decide +kernel
theorem dX3_behindRun_25 : decode cX3_behindRun 25 = .ok (.invokevirtual 23, 3) := by decide +kernel
theorem dX3_behindRun_28 : decode cX3_behindRun 28 = .ok (.iload_n 3, 1) := by decide +kernel
theorem dX3_behindRun_29 : decode cX3_behindRun 29 = .ok (.if_icmp .gt 9, 3) := by decide +kernel
theorem dX3_behindRun_32 : decode cX3_behindRun 32 = .ok (.iinc 4 1, 3) := by decide +kernel
theorem dX3_behindRun_35 : decode cX3_behindRun 35 = .ok (.goto (-32), 3) := by decide +kernel
theorem dX3_behindRun_38 : decode cX3_behindRun 38 = .ok (.iload 4, 2) := by decide +kernel
theorem dX3_behindRun_40 : decode cX3_behindRun 40 = .ok (.ireturn, 1) := by decide +kernel
theorem dX4_init_0 : decode cX4_init 0 = .ok (.aload_n 0, 1) := by decide +kernel
theorem dX4_init_1 : decode cX4_init 1 = .ok (.invokespecial 3, 3) := by decide +kernel
theorem dX4_init_4 : decode cX4_init 4 = .ok (.aload_n 0, 1) := by decide +kernel
theorem dX4_init_5 : decode cX4_init 5 = .ok (.iconst 4, 1) := by decide +kernel
theorem dX4_init_6 : decode cX4_init 6 = .ok (.newarray .int, 2) := by decide +kernel
theorem dX4_init_8 : decode cX4_init 8 = .ok (.putfield 9, 3) := by decide +kernel
theorem dX4_init_11 : decode cX4_init 11 = .ok (.aload_n 0, 1) := by decide +kernel
theorem dX4_init_12 : decode cX4_init 12 = .ok (.iconst 4, 1) := by decide +kernel
theorem dX4_init_13 : decode cX4_init 13 = .ok (.newarray .int, 2) := by decide +kernel
theorem dX4_init_15 : decode cX4_init 15 = .ok (.putfield 15, 3) := by decide +kernel
theorem dX4_init_18 : decode cX4_init 18 = .ok (.return_, 1) := by decide +kernel
theorem dX4_empty_0 : decode cX4_empty 0 = .ok (.aload_n 0, 1) := by decide +kernel
theorem dX4_empty_1 : decode cX4_empty 1 = .ok (.iconst 0, 1) := by decide +kernel
theorem dX4_empty_2 : decode cX4_empty 2 = .ok (.putfield 18, 3) := by decide +kernel
theorem dX4_empty_5 : decode cX4_empty 5 = .ok (.aload_n 0, 1) := by decide +kernel
theorem dX4_empty_6 : decode cX4_empty 6 = .ok (.iconst 0, 1) := by decide +kernel
theorem dX4_empty_7 : decode cX4_empty 7 = .ok (.putfield 22, 3) := by decide +kernel
theorem dX4_empty_10 : decode cX4_empty 10 = .ok (.aload_n 0, 1) := by decide +kernel
theorem dX4_empty_11 : decode cX4_empty 11 = .ok (.iconst 0, 1) := by decide +kernel
theorem dX4_empty_12 : decode cX4_empty 12 = .ok (.putfield 25, 3) := by decide +kernel
theorem dX4_empty_15 : decode cX4_empty 15 = .ok (.aload_n 0, 1) := by decide +kernel
theorem dX4_empty_16 : decode cX4_empty 16 = .ok (.iconst 0, 1) := by decide +kernel
theorem dX4_empty_17 : decode cX4_empty 17 = .ok (.putfield 28, 3) := by decide +kernel
theorem dX4_empty_20 : decode cX4_empty 20 = .ok (.aload_n 0, 1) := by decide +kernel
theorem dX4_empty_21 : decode cX4_empty 21 = .ok (.iconst 0, 1) := by decide +kernel
theorem dX4_empty_22 : decode cX4_empty 22 = .ok (.putfield 31, 3) := by decide +kernel
theorem dX4_empty_25 : decode cX4_empty 25 = .ok (.aload_n 0, 1) := by decide +kernel
theorem dX4_empty_26 : decode cX4_empty 26 = .ok (.iconst 0, 1) := by decide +kernel
theorem dX4_empty_27 : decode cX4_empty 27 = .ok (.putfield 34, 3) := by decide +kernel
theorem dX4_empty_30 : decode cX4_empty 30 = .ok (.aload_n 0, 1) := by decide +kernel
theorem dX4_empty_31 : decode cX4_empty 31 = .ok (.iconst 0, 1) := by decide +kernel
theorem dX4_empty_32 : decode cX4_empty 32 = .ok (.putfield 37, 3) := by decide +kernel
theorem dX4_empty_35 : decode cX4_empty 35 = .ok (.aload_n 0, 1) := by decide +kernel
theorem dX4_empty_36 : decode cX4_empty 36 = .ok (.iconst 0, 1) := by decide +kernel
theorem dX4_empty_37 : decode cX4_empty 37 = .ok (.putfield 41, 3) := by decide +kernel
theorem dX4_empty_40 : decode cX4_empty 40 = .ok (.return_, 1) := by decide +kernel
theorem dX4_copy_0 : decode cX4_copy 0 = .ok (.aload_n 0, 1) := by decide +kernel
theorem dX4_copy_1 : decode cX4_copy 1 = .ok (.aload_n 1, 1) := by decide +kernel
theorem dX4_copy_2 : decode cX4_copy 2 = .ok (.getfield 18, 3) := by decide +kernel
theorem dX4_copy_5 : decode cX4_copy 5 = .ok (.putfield 18, 3) := by decide +kernel
theorem dX4_copy_8 : decode cX4_copy 8 = .ok (.aload_n 0, 1) := by decide +kernel
theorem dX4_copy_9 : decode cX4_copy 9 = .ok (.aload_n 1, 1) := by decide +kernel
theorem dX4_copy_10 : decode cX4_copy 10 = .ok (.getfield 22, 3) := by decide +kernel
theorem dX4_copy_13 : decode cX4_copy 13 = .ok (.putfield 22, 3) := by decide +kernel
theorem dX4_copy_16 : decode cX4_copy 16 = .ok (.aload_n 0, 1) := by decide +kernel
theorem dX4_copy_17 : decode cX4_copy 17 = .ok (.aload_n 1, 1) := by decide +kernel
theorem dX4_copy_18 : decode cX4_copy 18 = .ok (.getfield 25, 3) := by decide +kernel
theorem dX4_copy_21 : decode cX4_copy 21 = .ok (.putfield 25, 3) := by decide +kernel
theorem dX4_copy_24 : decode cX4_copy 24 = .ok (.aload_n 0, 1) := by decide +kernel
theorem dX4_copy_25 : decode cX4_copy 25 = .ok (.aload_n 1, 1) := by decide +kernel
theorem dX4_copy_26 : decode cX4_copy 26 = .ok (.getfield 28, 3) := by decide +kernel
theorem dX4_copy_29 : decode cX4_copy 29 = .ok (.putfield 28, 3) := by decide +kernel
theorem dX4_copy_32 : decode cX4_copy 32 = .ok (.aload_n 0, 1) := by decide +kernel
theorem dX4_copy_33 : decode cX4_copy 33 = .ok (.aload_n 1, 1) := by decide +kernel
theorem dX4_copy_34 : decode cX4_copy 34 = .ok (.getfield 31, 3) := by decide +kernel
theorem dX4_copy_37 : decode cX4_copy 37 = .ok (.putfield 31, 3) := by decide +kernel
theorem dX4_copy_40 : decode cX4_copy 40 = .ok (.aload_n 0, 1) := by decide +kernel
theorem dX4_copy_41 : decode cX4_copy 41 = .ok (.aload_n 1, 1) := by decide +kernel
theorem dX4_copy_42 : decode cX4_copy 42 = .ok (.getfield 34, 3) := by decide +kernel
theorem dX4_copy_45 : decode cX4_copy 45 = .ok (.putfield 34, 3) := by decide +kernel
theorem dX4_copy_48 : decode cX4_copy 48 = .ok (.aload_n 0, 1) := by decide +kernel
theorem dX4_copy_49 : decode cX4_copy 49 = .ok (.aload_n 1, 1) := by decide +kernel
theorem dX4_copy_50 : decode cX4_copy 50 = .ok (.getfield 37, 3) := by decide +kernel
theorem dX4_copy_53 : decode cX4_copy 53 = .ok (.putfield 37, 3) := by decide +kernel
theorem dX4_copy_56 : decode cX4_copy 56 = .ok (.aload_n 0, 1) := by decide +kernel
theorem dX4_copy_57 : decode cX4_copy 57 = .ok (.aload_n 1, 1) := by decide +kernel
theorem dX4_copy_58 : decode cX4_copy 58 = .ok (.getfield 41, 3) := by decide +kernel
theorem dX4_copy_61 : decode cX4_copy 61 = .ok (.putfield 41, 3) := by decide +kernel
theorem dX4_copy_64 : decode cX4_copy 64 = .ok (.aload_n 1, 1) := by decide +kernel
theorem dX4_copy_65 : decode cX4_copy 65 = .ok (.getfield 9, 3) := by decide +kernel
theorem dX4_copy_68 : decode cX4_copy 68 = .ok (.aload_n 0, 1) := by decide +kernel
theorem dX4_copy_69 : decode cX4_copy 69 = .ok (.getfield 9, 3) := by decide +kernel
theorem dX4_copy_72 : decode cX4_copy 72 = .ok (.invokestatic 44, 3) := by decide +kernel
theorem dX4_copy_75 : decode cX4_copy 75 = .ok (.aload_n 1, 1) := by decide +kernel
theorem dX4_copy_76 : decode cX4_copy 76 = .ok (.getfield 15, 3) := by decide +kernel
theorem dX4_copy_79 : decode cX4_copy 79 = .ok (.aload_n 0, 1) := by decide +kernel
theorem dX4_copy_80 : decode cX4_copy 80 = .ok (.getfield 15, 3) := by decide +kernel
theorem dX4_copy_83 : decode cX4_copy 83 = .ok (.invokestatic 44, 3) := by decide +kernel
theorem dX4_copy_86 : decode cX4_copy 86 = .ok (.return_, 1) := by decide +kernel
theorem dX4_takesRow_0 : decode cX4_takesRow 0 = .ok (.aload_n 0, 1) := by decide +kernel
theorem dX4_takesRow_1 : decode cX4_takesRow 1 = .ok (.getfield 22, 3) := by decide +kernel
theorem dX4_takesRow_4 : decode cX4_takesRow 4 = .ok (.iconst 4, 1) := by decide +kernel
theorem dX4_takesRow_5 : decode cX4_takesRow 5 = .ok (.if_icmp .ge 14, 3) := by decide +kernel
theorem dX4_takesRow_8 : decode cX4_takesRow 8 = .ok (.aload_n 0, 1) := by decide +kernel
theorem dX4_takesRow_9 : decode cX4_takesRow 9 = .ok (.getfield 41, 3) := by decide +kernel
theorem dX4_takesRow_12 : decode cX4_takesRow 12 = .ok (.ifCond .ne 7, 3) := by decide +kernel
theorem dX4_takesRow_15 : decode cX4_takesRow 15 = .ok (.iconst 1, 1) := by decide +kernel
theorem dX4_takesRow_16 : decode cX4_takesRow 16 = .ok (.goto 4, 3) := by decide +kernel
theorem dX4_takesRow_19 : decode cX4_takesRow 19 = .ok (.iconst 0, 1) := by decide +kernel
theorem dX4_takesRow_20 : decode cX4_takesRow 20 = .ok (.ireturn, 1) := by decide +kernel
theorem dX4_beginRow_0 : decode cX4_beginRow 0 = .ok (.aload_n 0, 1) := by decide +kernel
theorem dX4_beginRow_1 : decode cX4_beginRow 1 = .ok (.getfield 22, 3) := by decide +kernel
theorem dX4_beginRow_4 : decode cX4_beginRow 4 = .ok (.ifCond .ne 12, 3) := by decide +kernel
theorem dX4_beginRow_7 : decode cX4_beginRow 7 = .ok (.iload_n 1, 1) := by decide +kernel
theorem dX4_beginRow_8 : decode cX4_beginRow 8 = .ok (.bipush 6, 2) := by decide +kernel
theorem dX4_beginRow_10 : decode cX4_beginRow 10 = .ok (.if_icmp .le 16, 3) := by decide +kernel
theorem dX4_beginRow_13 : decode cX4_beginRow 13 = .ok (.goto 11, 3) := by decide +kernel
theorem dX4_beginRow_16 : decode cX4_beginRow 16 = .ok (.iload_n 1, 1) := by decide +kernel
theorem dX4_beginRow_17 : decode cX4_beginRow 17 = .ok (.aload_n 0, 1) := by decide +kernel
theorem dX4_beginRow_18 : decode cX4_beginRow 18 = .ok (.getfield 18, 3) := by decide +kernel
theorem dX4_beginRow_21 : decode cX4_beginRow 21 = .ok (.if_icmp .eq 5, 3) := by decide +kernel
theorem dX4_beginRow_24 : decode cX4_beginRow 24 = .ok (.iconst 0, 1) := by decide +kernel
theorem dX4_beginRow_25 : decode cX4_beginRow 25 = .ok (.ireturn, 1) := by decide +kernel
theorem dX4_beginRow_26 : decode cX4_beginRow 26 = .ok (.aload_n 0, 1) := by decide +kernel
theorem dX4_beginRow_27 : decode cX4_beginRow 27 = .ok (.iload_n 1, 1) := by decide +kernel
theorem dX4_beginRow_28 : decode cX4_beginRow 28 = .ok (.putfield 18, 3) := by decide +kernel
theorem dX4_beginRow_31 : decode cX4_beginRow 31 = .ok (.aload_n 0, 1) := by decide +kernel
theorem dX4_beginRow_32 : decode cX4_beginRow 32 = .ok (.dup, 1) := by decide +kernel
theorem dX4_beginRow_33 : decode cX4_beginRow 33 = .ok (.getfield 22, 3) := by decide +kernel
theorem dX4_beginRow_36 : decode cX4_beginRow 36 = .ok (.iconst 1, 1) := by decide +kernel
theorem dX4_beginRow_37 : decode cX4_beginRow 37 = .ok (.iadd, 1) := by decide +kernel
theorem dX4_beginRow_38 : decode cX4_beginRow 38 = .ok (.putfield 22, 3) := by decide +kernel
theorem dX4_beginRow_41 : decode cX4_beginRow 41 = .ok (.iconst 1, 1) := by decide +kernel
theorem dX4_beginRow_42 : decode cX4_beginRow 42 = .ok (.ireturn, 1) := by decide +kernel
theorem dX4_addCell_0 : decode cX4_addCell 0 = .ok (.iload_n 1, 1) := by decide +kernel
theorem dX4_addCell_1 : decode cX4_addCell 1 = .ok (.bipush 104, 2) := by decide +kernel
theorem dX4_addCell_3 : decode cX4_addCell 3 = .ok (.if_icmp .eq 17, 3) := by decide +kernel
theorem dX4_addCell_6 : decode cX4_addCell 6 = .ok (.iload_n 1, 1) := by decide +kernel
theorem dX4_addCell_7 : decode cX4_addCell 7 = .ok (.bipush 98, 2) := by decide +kernel
theorem dX4_addCell_9 : decode cX4_addCell 9 = .ok (.if_icmp .eq 11, 3) := by decide +kernel
theorem dX4_addCell_12 : decode cX4_addCell 12 = .ok (.iload_n 1, 1) := by decide +kernel
theorem dX4_addCell_13 : decode cX4_addCell 13 = .ok (.bipush 115, 2) := by decide +kernel
theorem dX4_addCell_15 : decode cX4_addCell 15 = .ok (.if_icmp .eq 5, 3) := by decide +kernel
theorem dX4_addCell_18 : decode cX4_addCell 18 = .ok (.iconst 0, 1) := by decide +kernel
theorem dX4_addCell_19 : decode cX4_addCell 19 = .ok (.ireturn, 1) := by decide +kernel
theorem dX4_addCell_20 : decode cX4_addCell 20 = .ok (.iload_n 1, 1) := by decide +kernel
theorem dX4_addCell_21 : decode cX4_addCell 21 = .ok (.bipush 98, 2) := by decide +kernel
theorem dX4_addCell_23 : decode cX4_addCell 23 = .ok (.if_icmp .ne 18, 3) := by decide +kernel
theorem dX4_addCell_26 : decode cX4_addCell 26 = .ok (.aload_n 0, 1) := by decide +kernel
theorem dX4_addCell_27 : decode cX4_addCell 27 = .ok (.dup, 1) := by decide +kernel
theorem dX4_addCell_28 : decode cX4_addCell 28 = .ok (.getfield 28, 3) := by decide +kernel
theorem dX4_addCell_31 : decode cX4_addCell 31 = .ok (.iconst 1, 1) := by decide +kernel
theorem dX4_addCell_32 : decode cX4_addCell 32 = .ok (.aload_n 0, 1) := by decide +kernel
theorem dX4_addCell_33 : decode cX4_addCell 33 = .ok (.getfield 25, 3) := by decide +kernel
theorem dX4_addCell_36 : decode cX4_addCell 36 = .ok (.ishl, 1) := by decide +kernel
theorem dX4_addCell_37 : decode cX4_addCell 37 = .ok (.ior, 1) := by decide +kernel
theorem dX4_addCell_38 : decode cX4_addCell 38 = .ok (.putfield 28, 3) := by decide +kernel
theorem dX4_addCell_41 : decode cX4_addCell 41 = .ok (.iload_n 1, 1) := by decide +kernel
theorem dX4_addCell_42 : decode cX4_addCell 42 = .ok (.bipush 115, 2) := by decide +kernel
theorem dX4_addCell_44 : decode cX4_addCell 44 = .ok (.if_icmp .ne 18, 3) := by decide +kernel
theorem dX4_addCell_47 : decode cX4_addCell 47 = .ok (.aload_n 0, 1) := by decide +kernel
theorem dX4_addCell_48 : decode cX4_addCell 48 = .ok (.dup, 1) := by decide +kernel
theorem dX4_addCell_49 : decode cX4_addCell 49 = .ok (.getfield 31, 3) := by decide +kernel
theorem dX4_addCell_52 : decode cX4_addCell 52 = .ok (.iconst 1, 1) := by decide +kernel
theorem dX4_addCell_53 : decode cX4_addCell 53 = .ok (.aload_n 0, 1) := by decide +kernel
theorem dX4_addCell_54 : decode cX4_addCell 54 = .ok (.getfield 25, 3) := by decide +kernel
theorem dX4_addCell_57 : decode cX4_addCell 57 = .ok (.ishl, 1) := by decide +kernel
theorem dX4_addCell_58 : decode cX4_addCell 58 = .ok (.ior, 1) := by decide +kernel
theorem dX4_addCell_59 : decode cX4_addCell 59 = .ok (.putfield 31, 3) := by decide +kernel
theorem dX4_addCell_62 : decode cX4_addCell 62 = .ok (.aload_n 0, 1) := by decide +kernel
theorem dX4_addCell_63 : decode cX4_addCell 63 = .ok (.dup, 1) := by decide +kernel
theorem dX4_addCell_64 : decode cX4_addCell 64 = .ok (.getfield 25, 3) := by decide +kernel
theorem dX4_addCell_67 : decode cX4_addCell 67 = .ok (.iconst 1, 1) := by decide +kernel
theorem dX4_addCell_68 : decode cX4_addCell 68 = .ok (.iadd, 1) := by decide +kernel
theorem dX4_addCell_69 : decode cX4_addCell 69 = .ok (.putfield 25, 3) := by decide +kernel
theorem dX4_addCell_72 : decode cX4_addCell 72 = .ok (.iconst 1, 1) := by decide +kernel
theorem dX4_addCell_73 : decode cX4_addCell 73 = .ok (.ireturn, 1) := by decide +kernel
theorem dX4_addWalker_0 : decode cX4_addWalker 0 = .ok (.aload_n 0, 1) := by decide +kernel
theorem dX4_addWalker_1 : decode cX4_addWalker 1 = .ok (.getfield 9, 3) := by decide +kernel
theorem dX4_addWalker_4 : decode cX4_addWalker 4 = .ok (.aload_n 0, 1) := by decide +kernel
theorem dX4_addWalker_5 : decode cX4_addWalker 5 = .ok (.getfield 41, 3) := by decide +kernel
theorem dX4_addWalker_8 : decode cX4_addWalker 8 = .ok (.iload_n 1, 1) := by decide +kernel
theorem dX4_addWalker_9 : decode cX4_addWalker 9 = .ok (.invokestatic 48, 3) := by decide +kernel
theorem dX4_addWalker_12 : decode cX4_addWalker 12 = .ok (.aload_n 0, 1) := by decide +kernel
theorem dX4_addWalker_13 : decode cX4_addWalker 13 = .ok (.getfield 15, 3) := by decide +kernel
theorem dX4_addWalker_16 : decode cX4_addWalker 16 = .ok (.aload_n 0, 1) := by decide +kernel
theorem dX4_addWalker_17 : decode cX4_addWalker 17 = .ok (.getfield 41, 3) := by decide +kernel
theorem dX4_addWalker_20 : decode cX4_addWalker 20 = .ok (.iload_n 2, 1) := by decide +kernel
theorem dX4_addWalker_21 : decode cX4_addWalker 21 = .ok (.invokestatic 48, 3) := by decide +kernel
theorem dX4_addWalker_24 : decode cX4_addWalker 24 = .ok (.aload_n 0, 1) := by decide +kernel
theorem dX4_addWalker_25 : decode cX4_addWalker 25 = .ok (.dup, 1) := by decide +kernel
theorem dX4_addWalker_26 : decode cX4_addWalker 26 = .ok (.getfield 41, 3) := by decide +kernel
theorem dX4_addWalker_29 : decode cX4_addWalker 29 = .ok (.iconst 1, 1) := by decide +kernel
theorem dX4_addWalker_30 : decode cX4_addWalker 30 = .ok (.iadd, 1) := by decide +kernel
theorem dX4_addWalker_31 : decode cX4_addWalker 31 = .ok (.putfield 41, 3) := by decide +kernel
theorem dX4_addWalker_34 : decode cX4_addWalker 34 = .ok (.return_, 1) := by decide +kernel
theorem dX5_init_0 : decode cX5_init 0 = .ok (.aload_n 0, 1) := by decide +kernel
theorem dX5_init_1 : decode cX5_init 1 = .ok (.invokespecial 3, 3) := by decide +kernel
theorem dX5_init_4 : decode cX5_init 4 = .ok (.return_, 1) := by decide +kernel
theorem dX5_measure_0 : decode cX5_measure 0 = .ok (.aload_n 0, 1) := by decide +kernel
theorem dX5_measure_1 : decode cX5_measure 1 = .ok (.iload_n 1, 1) := by decide +kernel
theorem dX5_measure_2 : decode cX5_measure 2 = .ok (.putfield 9, 3) := by decide +kernel
theorem dX5_measure_5 : decode cX5_measure 5 = .ok (.aload_n 0, 1) := by decide +kernel
theorem dX5_measure_6 : decode cX5_measure 6 = .ok (.iconst 1, 1) := by decide +kernel
theorem dX5_measure_7 : decode cX5_measure 7 = .ok (.iload_n 1, 1) := by decide +kernel
theorem dX5_measure_8 : decode cX5_measure 8 = .ok (.iload_n 2, 1) := by decide +kernel
theorem dX5_measure_9 : decode cX5_measure 9 = .ok (.imul, 1) := by decide +kernel
theorem dX5_measure_10 : decode cX5_measure 10 = .ok (.ishl, 1) := by decide +kernel
theorem dX5_measure_11 : decode cX5_measure 11 = .ok (.iconst 1, 1) := by decide +kernel
theorem dX5_measure_12 : decode cX5_measure 12 = .ok (.isub, 1) := by decide +kernel
theorem dX5_measure_13 : decode cX5_measure 13 = .ok (.putfield 15, 3) := by decide +kernel
theorem dX5_measure_16 : decode cX5_measure 16 = .ok (.aload_n 0, 1) := by decide +kernel
theorem dX5_measure_17 : decode cX5_measure 17 = .ok (.iconst 0, 1) := by decide +kernel
theorem dX5_measure_18 : decode cX5_measure 18 = .ok (.putfield 18, 3) := by decide +kernel
theorem dX5_measure_21 : decode cX5_measure 21 = .ok (.aload_n 0, 1) := by decide +kernel
theorem dX5_measure_22 : decode cX5_measure 22 = .ok (.iconst 0, 1) := by decide +kernel
theorem dX5_measure_23 : decode cX5_measure 23 = .ok (.putfield 21, 3) := by decide +kernel
theorem dX5_measure_26 : decode cX5_measure 26 = .ok (.iconst 0, 1) := by decide +kernel
theorem dX5_measure_27 : decode cX5_measure 27 = .ok (.istore_n 3, 1) := by decide +kernel
theorem dX5_measure_28 : decode cX5_measure 28 = .ok (.iload_n 3, 1) := by decide +kernel
theorem dX5_measure_29 : decode cX5_measure 29 = .ok (.iload_n 2, 1) := by decide +kernel
theorem dX5_measure_30 : decode cX5_measure 30 = .ok (.if_icmp .ge 41, 3) := by decide +kernel
theorem dX5_measure_33 : decode cX5_measure 33 = .ok (.aload_n 0, 1) := by decide +kernel
theorem dX5_measure_34 : decode cX5_measure 34 = .ok (.dup, 1) := by decide +kernel
theorem dX5_measure_35 : decode cX5_measure 35 = .ok (.getfield 18, 3) := by decide +kernel
theorem dX5_measure_38 : decode cX5_measure 38 = .ok (.iconst 1, 1) := by decide +kernel
theorem dX5_measure_39 : decode cX5_measure 39 = .ok (.iload_n 3, 1) := by decide +kernel
theorem dX5_measure_40 : decode cX5_measure 40 = .ok (.iload_n 1, 1) := by decide +kernel
theorem dX5_measure_41 : decode cX5_measure 41 = .ok (.imul, 1) := by decide +kernel
theorem dX5_measure_42 : decode cX5_measure 42 = .ok (.ishl, 1) := by decide +kernel
theorem dX5_measure_43 : decode cX5_measure 43 = .ok (.ior, 1) := by decide +kernel
theorem dX5_measure_44 : decode cX5_measure 44 = .ok (.putfield 18, 3) := by decide +kernel
theorem dX5_measure_47 : decode cX5_measure 47 = .ok (.aload_n 0, 1) := by decide +kernel
theorem dX5_measure_48 : decode cX5_measure 48 = .ok (.dup, 1) := by decide +kernel
theorem dX5_measure_49 : decode cX5_measure 49 = .ok (.getfield 21, 3) := by decide +kernel
theorem dX5_measure_52 : decode cX5_measure 52 = .ok (.iconst 1, 1) := by decide +kernel
theorem dX5_measure_53 : decode cX5_measure 53 = .ok (.iload_n 3, 1) := by decide +kernel
theorem dX5_measure_54 : decode cX5_measure 54 = .ok (.iload_n 1, 1) := by decide +kernel
theorem dX5_measure_55 : decode cX5_measure 55 = .ok (.imul, 1) := by decide +kernel
theorem dX5_measure_56 : decode cX5_measure 56 = .ok (.iload_n 1, 1) := by decide +kernel
theorem dX5_measure_57 : decode cX5_measure 57 = .ok (.iadd, 1) := by decide +kernel
theorem dX5_measure_58 : decode cX5_measure 58 = .ok (.iconst 1, 1) := by decide +kernel
theorem dX5_measure_59 : decode cX5_measure 59 = .ok (.isub, 1) := by decide +kernel
theorem dX5_measure_60 : decode cX5_measure 60 = .ok (.ishl, 1) := by decide +kernel
theorem dX5_measure_61 : decode cX5_measure 61 = .ok (.ior, 1) := by decide +kernel
theorem dX5_measure_62 : decode cX5_measure 62 = .ok (.putfield 21, 3) := by decide +kernel
theorem dX5_measure_65 : decode cX5_measure 65 = .ok (.iinc 3 1, 3) := by decide +kernel
theorem dX5_measure_68 : decode cX5_measure 68 = .ok (.goto (-40), 3) := by decide +kernel
theorem dX5_measure_71 : decode cX5_measure 71 = .ok (.return_, 1) := by decide +kernel
theorem dX5_near_0 : decode cX5_near 0 = .ok (.iload_n 1, 1) := by decide +kernel
theorem dX5_near_1 : decode cX5_near 1 = .ok (.aload_n 0, 1) := by decide +kernel
theorem dX5_near_2 : decode cX5_near 2 = .ok (.getfield 21, 3) := by decide +kernel
theorem dX5_near_5 : decode cX5_near 5 = .ok (.iconst (-1), 1) := by decide +kernel
theorem dX5_near_6 : decode cX5_near 6 = .ok (.ixor, 1) := by decide +kernel
theorem dX5_near_7 : decode cX5_near 7 = .ok (.iand, 1) := by decide +kernel
theorem dX5_near_8 : decode cX5_near 8 = .ok (.iconst 1, 1) := by decide +kernel
theorem dX5_near_9 : decode cX5_near 9 = .ok (.ishl, 1) := by decide +kernel
theorem dX5_near_10 : decode cX5_near 10 = .ok (.istore_n 2, 1) := by decide +kernel
theorem dX5_near_11 : decode cX5_near 11 = .ok (.iload_n 1, 1) := by decide +kernel
theorem dX5_near_12 : decode cX5_near 12 = .ok (.aload_n 0, 1) := by decide +kernel
theorem dX5_near_13 : decode cX5_near 13 = .ok (.getfield 18, 3) := by decide +kernel
theorem dX5_near_16 : decode cX5_near 16 = .ok (.iconst (-1), 1) := by decide +kernel
theorem dX5_near_17 : decode cX5_near 17 = .ok (.ixor, 1) := by decide +kernel
theorem dX5_near_18 : decode cX5_near 18 = .ok (.iand, 1) := by decide +kernel
theorem dX5_near_19 : decode cX5_near 19 = .ok (.iconst 1, 1) := by decide +kernel
theorem dX5_near_20 : decode cX5_near 20 = .ok (.iushr, 1) := by decide +kernel
theorem dX5_near_21 : decode cX5_near 21 = .ok (.istore_n 3, 1) := by decide +kernel
theorem dX5_near_22 : decode cX5_near 22 = .ok (.iload_n 1, 1) := by decide +kernel
theorem dX5_near_23 : decode cX5_near 23 = .ok (.aload_n 0, 1) := by decide +kernel
theorem dX5_near_24 : decode cX5_near 24 = .ok (.getfield 9, 3) := by decide +kernel
theorem dX5_near_27 : decode cX5_near 27 = .ok (.ishl, 1) := by decide +kernel
theorem dX5_near_28 : decode cX5_near 28 = .ok (.aload_n 0, 1) := by decide +kernel
theorem dX5_near_29 : decode cX5_near 29 = .ok (.getfield 15, 3) := by decide +kernel
theorem dX5_near_32 : decode cX5_near 32 = .ok (.iand, 1) := by decide +kernel
theorem dX5_near_33 : decode cX5_near 33 = .ok (.istore 4, 2) := by decide +kernel
theorem dX5_near_35 : decode cX5_near 35 = .ok (.iload_n 1, 1) := by decide +kernel
theorem dX5_near_36 : decode cX5_near 36 = .ok (.aload_n 0, 1) := by decide +kernel
theorem dX5_near_37 : decode cX5_near 37 = .ok (.getfield 9, 3) := by decide +kernel
theorem dX5_near_40 : decode cX5_near 40 = .ok (.iushr, 1) := by decide +kernel
theorem dX5_near_41 : decode cX5_near 41 = .ok (.istore 5, 2) := by decide +kernel
theorem dX5_near_43 : decode cX5_near 43 = .ok (.iload_n 2, 1) := by decide +kernel
theorem dX5_near_44 : decode cX5_near 44 = .ok (.iload_n 3, 1) := by decide +kernel
theorem dX5_near_45 : decode cX5_near 45 = .ok (.ior, 1) := by decide +kernel
theorem dX5_near_46 : decode cX5_near 46 = .ok (.iload 4, 2) := by decide +kernel
theorem dX5_near_48 : decode cX5_near 48 = .ok (.ior, 1) := by decide +kernel
theorem dX5_near_49 : decode cX5_near 49 = .ok (.iload 5, 2) := by decide +kernel
theorem dX5_near_51 : decode cX5_near 51 = .ok (.ior, 1) := by decide +kernel
theorem dX5_near_52 : decode cX5_near 52 = .ok (.istore 6, 2) := by decide +kernel
theorem dX5_near_54 : decode cX5_near 54 = .ok (.iload_n 2, 1) := by decide +kernel
theorem dX5_near_55 : decode cX5_near 55 = .ok (.aload_n 0, 1) := by decide +kernel
theorem dX5_near_56 : decode cX5_near 56 = .ok (.getfield 21, 3) := by decide +kernel
theorem dX5_near_59 : decode cX5_near 59 = .ok (.iconst (-1), 1) := by decide +kernel
theorem dX5_near_60 : decode cX5_near 60 = .ok (.ixor, 1) := by decide +kernel
theorem dX5_near_61 : decode cX5_near 61 = .ok (.iand, 1) := by decide +kernel
theorem dX5_near_62 : decode cX5_near 62 = .ok (.iconst 1, 1) := by decide +kernel
theorem dX5_near_63 : decode cX5_near 63 = .ok (.ishl, 1) := by decide +kernel
theorem dX5_near_64 : decode cX5_near 64 = .ok (.iload_n 3, 1) := by decide +kernel
theorem dX5_near_65 : decode cX5_near 65 = .ok (.aload_n 0, 1) := by decide +kernel
theorem dX5_near_66 : decode cX5_near 66 = .ok (.getfield 18, 3) := by decide +kernel
theorem dX5_near_69 : decode cX5_near 69 = .ok (.iconst (-1), 1) := by decide +kernel
theorem dX5_near_70 : decode cX5_near 70 = .ok (.ixor, 1) := by decide +kernel
theorem dX5_near_71 : decode cX5_near 71 = .ok (.iand, 1) := by decide +kernel
theorem dX5_near_72 : decode cX5_near 72 = .ok (.iconst 1, 1) := by decide +kernel
theorem dX5_near_73 : decode cX5_near 73 = .ok (.iushr, 1) := by decide +kernel
theorem dX5_near_74 : decode cX5_near 74 = .ok (.ior, 1) := by decide +kernel
theorem dX5_near_75 : decode cX5_near 75 = .ok (.iload 4, 2) := by decide +kernel
theorem dX5_near_77 : decode cX5_near 77 = .ok (.aload_n 0, 1) := by decide +kernel
theorem dX5_near_78 : decode cX5_near 78 = .ok (.getfield 9, 3) := by decide +kernel
theorem dX5_near_81 : decode cX5_near 81 = .ok (.ishl, 1) := by decide +kernel
theorem dX5_near_82 : decode cX5_near 82 = .ok (.aload_n 0, 1) := by decide +kernel
theorem dX5_near_83 : decode cX5_near 83 = .ok (.getfield 15, 3) := by decide +kernel
theorem dX5_near_86 : decode cX5_near 86 = .ok (.iand, 1) := by decide +kernel
theorem dX5_near_87 : decode cX5_near 87 = .ok (.ior, 1) := by decide +kernel
theorem dX5_near_88 : decode cX5_near 88 = .ok (.iload 5, 2) := by decide +kernel
theorem dX5_near_90 : decode cX5_near 90 = .ok (.aload_n 0, 1) := by decide +kernel
theorem dX5_near_91 : decode cX5_near 91 = .ok (.getfield 9, 3) := by decide +kernel
theorem dX5_near_94 : decode cX5_near 94 = .ok (.iushr, 1) := by decide +kernel
theorem dX5_near_95 : decode cX5_near 95 = .ok (.ior, 1) := by decide +kernel
theorem dX5_near_96 : decode cX5_near 96 = .ok (.istore 7, 2) := by decide +kernel
theorem dX5_near_98 : decode cX5_near 98 = .ok (.iload 6, 2) := by decide +kernel
theorem dX5_near_100 : decode cX5_near 100 = .ok (.iload 7, 2) := by decide +kernel
theorem dX5_near_102 : decode cX5_near 102 = .ok (.ior, 1) := by decide +kernel
theorem dX5_near_103 : decode cX5_near 103 = .ok (.ireturn, 1) := by decide +kernel
theorem dX5_spread_0 : decode cX5_spread 0 = .ok (.iload_n 1, 1) := by decide +kernel
theorem dX5_spread_1 : decode cX5_spread 1 = .ok (.istore_n 3, 1) := by decide +kernel
theorem dX5_spread_2 : decode cX5_spread 2 = .ok (.iconst 0, 1) := by decide +kernel
theorem dX5_spread_3 : decode cX5_spread 3 = .ok (.istore 4, 2) := by decide +kernel
theorem dX5_spread_5 : decode cX5_spread 5 = .ok (.iload 4, 2) := by decide +kernel
theorem dX5_spread_7 : decode cX5_spread 7 = .ok (.bipush 24, 2) := by decide +kernel
theorem dX5_spread_9 : decode cX5_spread 9 = .ok (.if_icmp .ge 31, 3) := by decide +kernel
theorem dX5_spread_12 : decode cX5_spread 12 = .ok (.iload_n 3, 1) := by decide +kernel
theorem dX5_spread_13 : decode cX5_spread 13 = .ok (.aload_n 0, 1) := by decide +kernel
theorem dX5_spread_14 : decode cX5_spread 14 = .ok (.iload_n 3, 1) := by decide +kernel
theorem dX5_spread_15 : decode cX5_spread 15 = .ok (.invokevirtual 24, 3) := by decide +kernel
theorem dX5_spread_18 : decode cX5_spread 18 = .ok (.iload_n 2, 1) := by decide +kernel
theorem dX5_spread_19 : decode cX5_spread 19 = .ok (.iand, 1) := by decide +kernel
theorem dX5_spread_20 : decode cX5_spread 20 = .ok (.ior, 1) := by decide +kernel
theorem dX5_spread_21 : decode cX5_spread 21 = .ok (.istore 5, 2) := by decide +kernel
theorem dX5_spread_23 : decode cX5_spread 23 = .ok (.iload 5, 2) := by decide +kernel
theorem dX5_spread_25 : decode cX5_spread 25 = .ok (.iload_n 3, 1) := by decide +kernel
theorem dX5_spread_26 : decode cX5_spread 26 = .ok (.if_icmp .ne 5, 3) := by decide +kernel
theorem dX5_spread_29 : decode cX5_spread 29 = .ok (.iload_n 3, 1) := by decide +kernel
theorem dX5_spread_30 : decode cX5_spread 30 = .ok (.ireturn, 1) := by decide +kernel
theorem dX5_spread_31 : decode cX5_spread 31 = .ok (.iload 5, 2) := by decide +kernel
theorem dX5_spread_33 : decode cX5_spread 33 = .ok (.istore_n 3, 1) := by decide +kernel
theorem dX5_spread_34 : decode cX5_spread 34 = .ok (.iinc 4 1, 3) := by decide +kernel
theorem dX5_spread_37 : decode cX5_spread 37 = .ok (.goto (-32), 3) := by decide +kernel
theorem dX5_spread_40 : decode cX5_spread 40 = .ok (.iload_n 3, 1) := by decide +kernel
theorem dX5_spread_41 : decode cX5_spread 41 = .ok (.ireturn, 1) := by decide +kernel
theorem dX5_joins_0 : decode cX5_joins 0 = .ok (.iload_n 3, 1) := by decide +kernel
theorem dX5_joins_1 : decode cX5_joins 1 = .ok (.iload_n 1, 1) := by decide +kernel
theorem dX5_joins_2 : decode cX5_joins 2 = .ok (.invokestatic 28, 3) := by decide +kernel
theorem dX5_joins_5 : decode cX5_joins 5 = .ok (.ifCond .eq 30, 3) := by decide +kernel
theorem dX5_joins_8 : decode cX5_joins 8 = .ok (.iload_n 3, 1) := by decide +kernel
theorem dX5_joins_9 : decode cX5_joins 9 = .ok (.iload_n 2, 1) := by decide +kernel
theorem dX5_joins_10 : decode cX5_joins 10 = .ok (.invokestatic 28, 3) := by decide +kernel
theorem dX5_joins_13 : decode cX5_joins 13 = .ok (.ifCond .eq 22, 3) := by decide +kernel
theorem dX5_joins_16 : decode cX5_joins 16 = .ok (.aload_n 0, 1) := by decide +kernel
theorem dX5_joins_17 : decode cX5_joins 17 = .ok (.iconst 1, 1) := by decide +kernel
theorem dX5_joins_18 : decode cX5_joins 18 = .ok (.iload_n 1, 1) := by decide +kernel
theorem dX5_joins_19 : decode cX5_joins 19 = .ok (.ishl, 1) := by decide +kernel
theorem dX5_joins_20 : decode cX5_joins 20 = .ok (.iload_n 3, 1) := by decide +kernel
theorem dX5_joins_21 : decode cX5_joins 21 = .ok (.invokevirtual 32, 3) := by decide +kernel
theorem dX5_joins_24 : decode cX5_joins 24 = .ok (.iload_n 2, 1) := by decide +kernel
theorem dX5_joins_25 : decode cX5_joins 25 = .ok (.invokestatic 28, 3) := by decide +kernel
theorem dX5_joins_28 : decode cX5_joins 28 = .ok (.ifCond .eq 7, 3) := by decide +kernel
theorem dX5_joins_31 : decode cX5_joins 31 = .ok (.iconst 1, 1) := by decide +kernel
theorem dX5_joins_32 : decode cX5_joins 32 = .ok (.goto 4, 3) := by decide +kernel
theorem dX5_joins_35 : decode cX5_joins 35 = .ok (.iconst 0, 1) := by decide +kernel
theorem dX5_joins_36 : decode cX5_joins 36 = .ok (.ireturn, 1) := by decide +kernel
theorem dX5_fewestSteps_0 : decode cX5_fewestSteps 0 = .ok (.iload_n 3, 1) := by decide +kernel
theorem dX5_fewestSteps_1 : decode cX5_fewestSteps 1 = .ok (.iload_n 1, 1) := by decide +kernel
theorem dX5_fewestSteps_2 : decode cX5_fewestSteps 2 = .ok (.invokestatic 28, 3) := by decide +kernel
theorem dX5_fewestSteps_5 : decode cX5_fewestSteps 5 = .ok (.ifCond .eq 11, 3) := by decide +kernel
theorem dX5_fewestSteps_8 : decode cX5_fewestSteps 8 = .ok (.iload_n 3, 1) := by decide +kernel
theorem dX5_fewestSteps_9 : decode cX5_fewestSteps 9 = .ok (.iload_n 2, 1) := by decide +kernel
theorem dX5_fewestSteps_10 : decode cX5_fewestSteps 10 = .ok (.invokestatic 28, 3) := by decide +kernel
theorem dX5_fewestSteps_13 : decode cX5_fewestSteps 13 = .ok (.ifCond .ne 6, 3) := by decide +kernel
theorem dX5_fewestSteps_16 : decode cX5_fewestSteps 16 = .ok (.bipush (-9), 2) := by decide +kernel
theorem dX5_fewestSteps_18 : decode cX5_fewestSteps 18 = .ok (.ireturn, 1) := by decide +kernel
theorem dX5_fewestSteps_19 : decode cX5_fewestSteps 19 = .ok (.iconst 1, 1) := by decide +kernel
theorem dX5_fewestSteps_20 : decode cX5_fewestSteps 20 = .ok (.iload_n 1, 1) := by decide +kernel
theorem dX5_fewestSteps_21 : decode cX5_fewestSteps 21 = .ok (.ishl, 1) := by decide +kernel
theorem dX5_fewestSteps_22 : decode cX5_fewestSteps 22 = .ok (.istore 4, 2) := by decide +kernel
theorem dX5_fewestSteps_24 : decode cX5_fewestSteps 24 = .ok (.iconst 0, 1) := by decide +kernel
theorem dX5_fewestSteps_25 : decode cX5_fewestSteps 25 = .ok (.istore 5, 2) := by decide +kernel
theorem dX5_fewestSteps_27 : decode cX5_fewestSteps 27 = .ok (.iload 5, 2) := by decide +kernel
theorem dX5_fewestSteps_29 : decode cX5_fewestSteps 29 = .ok (.bipush 24, 2) := by decide +kernel
theorem dX5_fewestSteps_31 : decode cX5_fewestSteps 31 = .ok (.if_icmp .ge 48, 3) := by decide +kernel
theorem dX5_fewestSteps_34 : decode cX5_fewestSteps 34 = .ok (.iload 4, 2) := by decide +kernel
theorem dX5_fewestSteps_36 : decode cX5_fewestSteps 36 = .ok (.iload_n 2, 1) := by decide +kernel
theorem dX5_fewestSteps_37 : decode cX5_fewestSteps 37 = .ok (.invokestatic 28, 3) := by decide +kernel
theorem dX5_fewestSteps_40 : decode cX5_fewestSteps 40 = .ok (.ifCond .eq 6, 3) := by decide +kernel
theorem dX5_fewestSteps_43 : decode cX5_fewestSteps 43 = .ok (.iload 5, 2) := by decide +kernel
theorem dX5_fewestSteps_45 : decode cX5_fewestSteps 45 = .ok (.ireturn, 1) := by decide +kernel
theorem dX5_fewestSteps_46 : decode cX5_fewestSteps 46 = .ok (.iload 4, 2) := by decide +kernel
theorem dX5_fewestSteps_48 : decode cX5_fewestSteps 48 = .ok (.aload_n 0, 1) := by decide +kernel
theorem dX5_fewestSteps_49 : decode cX5_fewestSteps 49 = .ok (.iload 4, 2) := by decide +kernel
theorem dX5_fewestSteps_51 : decode cX5_fewestSteps 51 = .ok (.invokevirtual 24, 3) := by decide +kernel
theorem dX5_fewestSteps_54 : decode cX5_fewestSteps 54 = .ok (.iload_n 3, 1) := by decide +kernel
theorem dX5_fewestSteps_55 : decode cX5_fewestSteps 55 = .ok (.iand, 1) := by decide +kernel
theorem dX5_fewestSteps_56 : decode cX5_fewestSteps 56 = .ok (.ior, 1) := by decide +kernel
theorem dX5_fewestSteps_57 : decode cX5_fewestSteps 57 = .ok (.istore 6, 2) := by decide +kernel
theorem dX5_fewestSteps_59 : decode cX5_fewestSteps 59 = .ok (.iload 6, 2) := by decide +kernel
theorem dX5_fewestSteps_61 : decode cX5_fewestSteps 61 = .ok (.iload 4, 2) := by decide +kernel
theorem dX5_fewestSteps_63 : decode cX5_fewestSteps 63 = .ok (.if_icmp .ne 6, 3) := by decide +kernel
theorem dX5_fewestSteps_66 : decode cX5_fewestSteps 66 = .ok (.bipush (-9), 2) := by decide +kernel
theorem dX5_fewestSteps_68 : decode cX5_fewestSteps 68 = .ok (.ireturn, 1) := by decide +kernel
theorem dX5_fewestSteps_69 : decode cX5_fewestSteps 69 = .ok (.iload 6, 2) := by decide +kernel
theorem dX5_fewestSteps_71 : decode cX5_fewestSteps 71 = .ok (.istore 4, 2) := by decide +kernel
theorem dX5_fewestSteps_73 : decode cX5_fewestSteps 73 = .ok (.iinc 5 1, 3) := by decide +kernel
theorem dX5_fewestSteps_76 : decode cX5_fewestSteps 76 = .ok (.goto (-49), 3) := by decide +kernel
theorem dX5_fewestSteps_79 : decode cX5_fewestSteps 79 = .ok (.bipush (-9), 2) := by decide +kernel
theorem dX5_fewestSteps_81 : decode cX5_fewestSteps 81 = .ok (.ireturn, 1) := by decide +kernel
theorem dX5_nextCell_0 : decode cX5_nextCell 0 = .ok (.aload_n 0, 1) := by decide +kernel
theorem dX5_nextCell_1 : decode cX5_nextCell 1 = .ok (.iload_n 1, 1) := by decide +kernel
theorem dX5_nextCell_2 : decode cX5_nextCell 2 = .ok (.iload_n 2, 1) := by decide +kernel
theorem dX5_nextCell_3 : decode cX5_nextCell 3 = .ok (.iload_n 3, 1) := by decide +kernel
theorem dX5_nextCell_4 : decode cX5_nextCell 4 = .ok (.invokevirtual 36, 3) := by decide +kernel
theorem dX5_nextCell_7 : decode cX5_nextCell 7 = .ok (.istore 4, 2) := by decide +kernel
theorem dX5_nextCell_9 : decode cX5_nextCell 9 = .ok (.aload_n 0, 1) := by decide +kernel
theorem dX5_nextCell_10 : decode cX5_nextCell 10 = .ok (.iconst 1, 1) := by decide +kernel
theorem dX5_nextCell_11 : decode cX5_nextCell 11 = .ok (.iload_n 1, 1) := by decide +kernel
theorem dX5_nextCell_12 : decode cX5_nextCell 12 = .ok (.ishl, 1) := by decide +kernel
theorem dX5_nextCell_13 : decode cX5_nextCell 13 = .ok (.invokevirtual 24, 3) := by decide +kernel
theorem dX5_nextCell_16 : decode cX5_nextCell 16 = .ok (.iload_n 3, 1) := by decide +kernel
theorem dX5_nextCell_17 : decode cX5_nextCell 17 = .ok (.iand, 1) := by decide +kernel
theorem dX5_nextCell_18 : decode cX5_nextCell 18 = .ok (.istore 5, 2) := by decide +kernel
theorem dX5_nextCell_20 : decode cX5_nextCell 20 = .ok (.iconst 0, 1) := by decide +kernel
theorem dX5_nextCell_21 : decode cX5_nextCell 21 = .ok (.istore 6, 2) := by decide +kernel
theorem dX5_nextCell_23 : decode cX5_nextCell 23 = .ok (.iload 6, 2) := by decide +kernel
theorem dX5_nextCell_25 : decode cX5_nextCell 25 = .ok (.bipush 24, 2) := by decide +kernel
theorem dX5_nextCell_27 : decode cX5_nextCell 27 = .ok (.if_icmp .ge 37, 3) := by decide +kernel
theorem dX5_nextCell_30 : decode cX5_nextCell 30 = .ok (.iload 5, 2) := by decide +kernel
theorem dX5_nextCell_32 : decode cX5_nextCell 32 = .ok (.iload 6, 2) := by decide +kernel
theorem dX5_nextCell_34 : decode cX5_nextCell 34 = .ok (.invokestatic 28, 3) := by decide +kernel
theorem dX5_nextCell_37 : decode cX5_nextCell 37 = .ok (.ifCond .eq 21, 3) := by decide +kernel
theorem dX5_nextCell_40 : decode cX5_nextCell 40 = .ok (.aload_n 0, 1) := by decide +kernel
theorem dX5_nextCell_41 : decode cX5_nextCell 41 = .ok (.iload 6, 2) := by decide +kernel
theorem dX5_nextCell_43 : decode cX5_nextCell 43 = .ok (.iload_n 2, 1) := by decide +kernel
theorem dX5_nextCell_44 : decode cX5_nextCell 44 = .ok (.iload_n 3, 1) := by decide +kernel
theorem dX5_nextCell_45 : decode cX5_nextCell 45 = .ok (.invokevirtual 36, 3) := by decide +kernel
theorem dX5_nextCell_48 : decode cX5_nextCell 48 = .ok (.iload 4, 2) := by decide +kernel
theorem dX5_nextCell_50 : decode cX5_nextCell 50 = .ok (.iconst 1, 1) := by decide +kernel
theorem dX5_nextCell_51 : decode cX5_nextCell 51 = .ok (.isub, 1) := by decide +kernel
theorem dX5_nextCell_52 : decode cX5_nextCell 52 = .ok (.if_icmp .ne 6, 3) := by decide +kernel
theorem dX5_nextCell_55 : decode cX5_nextCell 55 = .ok (.iload 6, 2) := by decide +kernel
theorem dX5_nextCell_57 : decode cX5_nextCell 57 = .ok (.ireturn, 1) := by decide +kernel
theorem dX5_nextCell_58 : decode cX5_nextCell 58 = .ok (.iinc 6 1, 3) := by decide +kernel
theorem dX5_nextCell_61 : decode cX5_nextCell 61 = .ok (.goto (-38), 3) := by decide +kernel
theorem dX5_nextCell_64 : decode cX5_nextCell 64 = .ok (.iload_n 1, 1) := by decide +kernel
theorem dX5_nextCell_65 : decode cX5_nextCell 65 = .ok (.ireturn, 1) := by decide +kernel
theorem dX5_fewestStones_0 : decode cX5_fewestStones 0 = .ok (.iload_n 3, 1) := by decide +kernel
theorem dX5_fewestStones_1 : decode cX5_fewestStones 1 = .ok (.iload_n 1, 1) := by decide +kernel
theorem dX5_fewestStones_2 : decode cX5_fewestStones 2 = .ok (.invokestatic 28, 3) := by decide +kernel
theorem dX5_fewestStones_5 : decode cX5_fewestStones 5 = .ok (.ifCond .eq 7, 3) := by decide +kernel
theorem dX5_fewestStones_8 : decode cX5_fewestStones 8 = .ok (.iconst 0, 1) := by decide +kernel
theorem dX5_fewestStones_9 : decode cX5_fewestStones 9 = .ok (.goto 4, 3) := by decide +kernel
theorem dX5_fewestStones_12 : decode cX5_fewestStones 12 = .ok (.iconst 1, 1) := by decide +kernel
theorem dX5_fewestStones_13 : decode cX5_fewestStones 13 = .ok (.istore 4, 2) := by decide +kernel
theorem dX5_fewestStones_15 : decode cX5_fewestStones 15 = .ok (.aload_n 0, 1) := by decide +kernel
theorem dX5_fewestStones_16 : decode cX5_fewestStones 16 = .ok (.iconst 1, 1) := by decide +kernel
theorem dX5_fewestStones_17 : decode cX5_fewestStones 17 = .ok (.iload_n 1, 1) := by decide +kernel
theorem dX5_fewestStones_18 : decode cX5_fewestStones 18 = .ok (.ishl, 1) := by decide +kernel
theorem dX5_fewestStones_19 : decode cX5_fewestStones 19 = .ok (.iload_n 3, 1) := by decide +kernel
theorem dX5_fewestStones_20 : decode cX5_fewestStones 20 = .ok (.invokevirtual 32, 3) := by decide +kernel
theorem dX5_fewestStones_23 : decode cX5_fewestStones 23 = .ok (.istore 5, 2) := by decide +kernel
theorem dX5_fewestStones_25 : decode cX5_fewestStones 25 = .ok (.iload 5, 2) := by decide +kernel
theorem dX5_fewestStones_27 : decode cX5_fewestStones 27 = .ok (.iload_n 2, 1) := by decide +kernel
theorem dX5_fewestStones_28 : decode cX5_fewestStones 28 = .ok (.invokestatic 28, 3) := by decide +kernel
theorem dX5_fewestStones_31 : decode cX5_fewestStones 31 = .ok (.ifCond .ne 32, 3) := by decide +kernel
theorem dX5_fewestStones_34 : decode cX5_fewestStones 34 = .ok (.iload 4, 2) := by decide +kernel
theorem dX5_fewestStones_36 : decode cX5_fewestStones 36 = .ok (.bipush 24, 2) := by decide +kernel
theorem dX5_fewestStones_38 : decode cX5_fewestStones 38 = .ok (.if_icmp .ge 25, 3) := by decide +kernel
theorem dX5_fewestStones_41 : decode cX5_fewestStones 41 = .ok (.aload_n 0, 1) := by decide +kernel
theorem dX5_fewestStones_42 : decode cX5_fewestStones 42 = .ok (.iload 5, 2) := by decide +kernel
theorem dX5_fewestStones_44 : decode cX5_fewestStones 44 = .ok (.aload_n 0, 1) := by decide +kernel
theorem dX5_fewestStones_45 : decode cX5_fewestStones 45 = .ok (.iload 5, 2) := by decide +kernel
theorem dX5_fewestStones_47 : decode cX5_fewestStones 47 = .ok (.invokevirtual 24, 3) := by decide +kernel
theorem dX5_fewestStones_50 : decode cX5_fewestStones 50 = .ok (.ior, 1) := by decide +kernel
theorem dX5_fewestStones_51 : decode cX5_fewestStones 51 = .ok (.iload_n 3, 1) := by decide +kernel
theorem dX5_fewestStones_52 : decode cX5_fewestStones 52 = .ok (.invokevirtual 32, 3) := by decide +kernel
theorem dX5_fewestStones_55 : decode cX5_fewestStones 55 = .ok (.istore 5, 2) := by decide +kernel
theorem dX5_fewestStones_57 : decode cX5_fewestStones 57 = .ok (.iinc 4 1, 3) := by decide +kernel
theorem dX5_fewestStones_60 : decode cX5_fewestStones 60 = .ok (.goto (-35), 3) := by decide +kernel
theorem dX5_fewestStones_63 : decode cX5_fewestStones 63 = .ok (.iload 4, 2) := by decide +kernel
theorem dX5_fewestStones_65 : decode cX5_fewestStones 65 = .ok (.ireturn, 1) := by decide +kernel
theorem dX6_init_0 : decode cX6_init 0 = .ok (.aload_n 0, 1) := by decide +kernel
theorem dX6_init_1 : decode cX6_init 1 = .ok (.invokespecial 1, 3) := by decide +kernel
theorem dX6_init_4 : decode cX6_init 4 = .ok (.aload_n 0, 1) := by decide +kernel
theorem dX6_init_5 : decode cX6_init 5 = .ok (.new 7, 3) := by decide +kernel
theorem dX6_init_8 : decode cX6_init 8 = .ok (.dup, 1) := by decide +kernel
theorem dX6_init_9 : decode cX6_init 9 = .ok (.invokespecial 9, 3) := by decide +kernel
theorem dX6_init_12 : decode cX6_init 12 = .ok (.putfield 10, 3) := by decide +kernel
theorem dX6_init_15 : decode cX6_init 15 = .ok (.aload_n 0, 1) := by decide +kernel
theorem dX6_init_16 : decode cX6_init 16 = .ok (.aload_n 0, 1) := by decide +kernel
theorem dX6_init_17 : decode cX6_init 17 = .ok (.getfield 10, 3) := by decide +kernel
theorem dX6_init_20 : decode cX6_init 20 = .ok (.getfield 16, 3) := by decide +kernel
theorem dX6_init_23 : decode cX6_init 23 = .ok (.putfield 20, 3) := by decide +kernel
theorem dX6_init_26 : decode cX6_init 26 = .ok (.aload_n 0, 1) := by decide +kernel
theorem dX6_init_27 : decode cX6_init 27 = .ok (.new 21, 3) := by decide +kernel
theorem dX6_init_30 : decode cX6_init 30 = .ok (.dup, 1) := by decide +kernel
theorem dX6_init_31 : decode cX6_init 31 = .ok (.invokespecial 23, 3) := by decide +kernel
theorem dX6_init_34 : decode cX6_init 34 = .ok (.putfield 24, 3) := by decide +kernel
theorem dX6_init_37 : decode cX6_init 37 = .ok (.aload_n 0, 1) := by decide +kernel
theorem dX6_init_38 : decode cX6_init 38 = .ok (.new 21, 3) := by decide +kernel
theorem dX6_init_41 : decode cX6_init 41 = .ok (.dup, 1) := by decide +kernel
theorem dX6_init_42 : decode cX6_init 42 = .ok (.invokespecial 23, 3) := by decide +kernel
theorem dX6_init_45 : decode cX6_init 45 = .ok (.putfield 28, 3) := by decide +kernel
theorem dX6_init_48 : decode cX6_init 48 = .ok (.aload_n 0, 1) := by decide +kernel
theorem dX6_init_49 : decode cX6_init 49 = .ok (.new 31, 3) := by decide +kernel
theorem dX6_init_52 : decode cX6_init 52 = .ok (.dup, 1) := by decide +kernel
theorem dX6_init_53 : decode cX6_init 53 = .ok (.invokespecial 33, 3) := by decide +kernel
theorem dX6_init_56 : decode cX6_init 56 = .ok (.putfield 34, 3) := by decide +kernel
theorem dX6_init_59 : decode cX6_init 59 = .ok (.aload_n 0, 1) := by decide +kernel
theorem dX6_init_60 : decode cX6_init 60 = .ok (.aload_n 0, 1) := by decide +kernel
theorem dX6_init_61 : decode cX6_init 61 = .ok (.getfield 34, 3) := by decide +kernel
theorem dX6_init_64 : decode cX6_init 64 = .ok (.getfield 38, 3) := by decide +kernel
theorem dX6_init_67 : decode cX6_init 67 = .ok (.putfield 42, 3) := by decide +kernel
theorem dX6_init_70 : decode cX6_init 70 = .ok (.aload_n 0, 1) := by decide +kernel
theorem dX6_init_71 : decode cX6_init 71 = .ok (.new 43, 3) := by decide +kernel
theorem dX6_init_74 : decode cX6_init 74 = .ok (.dup, 1) := by decide +kernel
theorem dX6_init_75 : decode cX6_init 75 = .ok (.invokespecial 45, 3) := by decide +kernel
theorem dX6_init_78 : decode cX6_init 78 = .ok (.putfield 46, 3) := by decide +kernel
theorem dX6_init_81 : decode cX6_init 81 = .ok (.aload_n 0, 1) := by decide +kernel
theorem dX6_init_82 : decode cX6_init 82 = .ok (.new 43, 3) := by decide +kernel
theorem dX6_init_85 : decode cX6_init 85 = .ok (.dup, 1) := by decide +kernel
theorem dX6_init_86 : decode cX6_init 86 = .ok (.invokespecial 45, 3) := by decide +kernel
theorem dX6_init_89 : decode cX6_init 89 = .ok (.putfield 50, 3) := by decide +kernel
theorem dX6_init_92 : decode cX6_init 92 = .ok (.aload_n 0, 1) := by decide +kernel
theorem dX6_init_93 : decode cX6_init 93 = .ok (.new 43, 3) := by decide +kernel
theorem dX6_init_96 : decode cX6_init 96 = .ok (.dup, 1) := by decide +kernel
theorem dX6_init_97 : decode cX6_init 97 = .ok (.invokespecial 45, 3) := by decide +kernel
theorem dX6_init_100 : decode cX6_init 100 = .ok (.putfield 53, 3) := by decide +kernel
theorem dX6_init_103 : decode cX6_init 103 = .ok (.aload_n 0, 1) := by decide +kernel
theorem dX6_init_104 : decode cX6_init 104 = .ok (.lconst 0, 1) := by decide +kernel
theorem dX6_init_105 : decode cX6_init 105 = .ok (.putfield 56, 3) := by decide +kernel
theorem dX6_init_108 : decode cX6_init 108 = .ok (.return_, 1) := by decide +kernel
theorem dX6_type_0 : decode cX6_type 0 = .ok (.iload_n 3, 1) := by decide +kernel
theorem dX6_type_1 : decode cX6_type 1 = .ok (.iconst 1, 1) := by decide +kernel
theorem dX6_type_2 : decode cX6_type 2 = .ok (.if_icmp .lt 9, 3) := by decide +kernel
theorem dX6_type_5 : decode cX6_type 5 = .ok (.iload_n 3, 1) := by decide +kernel
theorem dX6_type_6 : decode cX6_type 6 = .ok (.bipush 8, 2) := by decide +kernel
theorem dX6_type_8 : decode cX6_type 8 = .ok (.if_icmp .le 5, 3) := by decide +kernel
theorem dX6_type_11 : decode cX6_type 11 = .ok (.iconst (-1), 1) := by decide +kernel
theorem dX6_type_12 : decode cX6_type 12 = .ok (.ireturn, 1) := by decide +kernel
theorem dX6_type_13 : decode cX6_type 13 = .ok (.aload_n 0, 1) := by decide +kernel
theorem dX6_type_14 : decode cX6_type 14 = .ok (.getfield 20, 3) := by decide +kernel
theorem dX6_type_17 : decode cX6_type 17 = .ok (.getfield 60, 3) := by decide +kernel
theorem dX6_type_20 : decode cX6_type 20 = .ok (.iload_n 3, 1) := by decide +kernel
theorem dX6_type_21 : decode cX6_type 21 = .ok (.iadd, 1) := by decide +kernel
theorem dX6_type_22 : decode cX6_type 22 = .ok (.sipush 300, 3) := by decide +kernel
theorem dX6_type_25 : decode cX6_type 25 = .ok (.if_icmp .le 6, 3) := by decide +kernel
theorem dX6_type_28 : decode cX6_type 28 = .ok (.bipush (-3), 2) := by decide +kernel
theorem dX6_type_30 : decode cX6_type 30 = .ok (.ireturn, 1) := by decide +kernel
theorem dX6_type_31 : decode cX6_type 31 = .ok (.iload_n 3, 1) := by decide +kernel
theorem dX6_type_32 : decode cX6_type 32 = .ok (.iconst 1, 1) := by decide +kernel
theorem dX6_type_33 : decode cX6_type 33 = .ok (.isub, 1) := by decide +kernel
theorem dX6_type_34 : decode cX6_type 34 = .ok (.istore 4, 2) := by decide +kernel
theorem dX6_type_36 : decode cX6_type 36 = .ok (.iload 4, 2) := by decide +kernel
theorem dX6_type_38 : decode cX6_type 38 = .ok (.ifCond .lt 28, 3) := by decide +kernel
theorem dX6_type_41 : decode cX6_type 41 = .ok (.aload_n 0, 1) := by decide +kernel
theorem dX6_type_42 : decode cX6_type 42 = .ok (.getfield 20, 3) := by decide +kernel
theorem dX6_type_45 : decode cX6_type 45 = .ok (.lload_n 1, 1) := by decide +kernel
theorem dX6_type_46 : decode cX6_type 46 = .ok (.bipush 8, 2) := by decide +kernel
theorem dX6_type_48 : decode cX6_type 48 = .ok (.iload 4, 2) := by decide +kernel
theorem dX6_type_50 : decode cX6_type 50 = .ok (.imul, 1) := by decide +kernel
theorem dX6_type_51 : decode cX6_type 51 = .ok (.lushr, 1) := by decide +kernel
theorem dX6_type_52 : decode cX6_type 52 = .ok (.l2i, 1) := by decide +kernel
theorem dX6_type_53 : decode cX6_type 53 = .ok (.sipush 255, 3) := by decide +kernel
theorem dX6_type_56 : decode cX6_type 56 = .ok (.iand, 1) := by decide +kernel
theorem dX6_type_57 : decode cX6_type 57 = .ok (.invokevirtual 66, 3) := by decide +kernel
theorem dX6_type_60 : decode cX6_type 60 = .ok (.iinc 4 (-1), 3) := by decide +kernel
theorem dX6_type_63 : decode cX6_type 63 = .ok (.goto (-27), 3) := by decide +kernel
theorem dX6_type_66 : decode cX6_type 66 = .ok (.aload_n 0, 1) := by decide +kernel
theorem dX6_type_67 : decode cX6_type 67 = .ok (.getfield 20, 3) := by decide +kernel
theorem dX6_type_70 : decode cX6_type 70 = .ok (.getfield 60, 3) := by decide +kernel
theorem dX6_type_73 : decode cX6_type 73 = .ok (.ireturn, 1) := by decide +kernel
theorem dX6_clear_0 : decode cX6_clear 0 = .ok (.aload_n 0, 1) := by decide +kernel
theorem dX6_clear_1 : decode cX6_clear 1 = .ok (.getfield 20, 3) := by decide +kernel
theorem dX6_clear_4 : decode cX6_clear 4 = .ok (.invokevirtual 70, 3) := by decide +kernel
theorem dX6_clear_7 : decode cX6_clear 7 = .ok (.ireturn, 1) := by decide +kernel
theorem dX6_moor_0 : decode cX6_moor 0 = .ok (.aload_n 0, 1) := by decide +kernel
theorem dX6_moor_1 : decode cX6_moor 1 = .ok (.getfield 10, 3) := by decide +kernel
theorem dX6_moor_4 : decode cX6_moor 4 = .ok (.aload_n 0, 1) := by decide +kernel
theorem dX6_moor_5 : decode cX6_moor 5 = .ok (.getfield 28, 3) := by decide +kernel
theorem dX6_moor_8 : decode cX6_moor 8 = .ok (.invokevirtual 74, 3) := by decide +kernel
theorem dX6_moor_11 : decode cX6_moor 11 = .ok (.istore_n 1, 1) := by decide +kernel
theorem dX6_moor_12 : decode cX6_moor 12 = .ok (.iload_n 1, 1) := by decide +kernel
theorem dX6_moor_13 : decode cX6_moor 13 = .ok (.ifCond .ge 5, 3) := by decide +kernel
theorem dX6_moor_16 : decode cX6_moor 16 = .ok (.iload_n 1, 1) := by decide +kernel
theorem dX6_moor_17 : decode cX6_moor 17 = .ok (.ireturn, 1) := by decide +kernel
theorem dX6_moor_18 : decode cX6_moor 18 = .ok (.aload_n 0, 1) := by decide +kernel
theorem dX6_moor_19 : decode cX6_moor 19 = .ok (.getfield 20, 3) := by decide +kernel
theorem dX6_moor_22 : decode cX6_moor 22 = .ok (.invokevirtual 70, 3) := by decide +kernel
theorem dX6_moor_25 : decode cX6_moor 25 = .ok (.pop, 1) := by decide +kernel
theorem dX6_moor_26 : decode cX6_moor 26 = .ok (.aload_n 0, 1) := by decide +kernel
theorem dX6_moor_27 : decode cX6_moor 27 = .ok (.getfield 24, 3) := by decide +kernel
theorem dX6_moor_30 : decode cX6_moor 30 = .ok (.aload_n 0, 1) := by decide +kernel
theorem dX6_moor_31 : decode cX6_moor 31 = .ok (.getfield 28, 3) := by decide +kernel
theorem dX6_moor_34 : decode cX6_moor 34 = .ok (.invokevirtual 78, 3) := by decide +kernel
theorem dX6_moor_37 : decode cX6_moor 37 = .ok (.aload_n 0, 1) := by decide +kernel
theorem dX6_moor_38 : decode cX6_moor 38 = .ok (.getfield 42, 3) := by decide +kernel
theorem dX6_moor_41 : decode cX6_moor 41 = .ok (.aload_n 0, 1) := by decide +kernel
theorem dX6_moor_42 : decode cX6_moor 42 = .ok (.getfield 24, 3) := by decide +kernel
theorem dX6_moor_45 : decode cX6_moor 45 = .ok (.getfield 82, 3) := by decide +kernel
theorem dX6_moor_48 : decode cX6_moor 48 = .ok (.aload_n 0, 1) := by decide +kernel
theorem dX6_moor_49 : decode cX6_moor 49 = .ok (.getfield 24, 3) := by decide +kernel
theorem dX6_moor_52 : decode cX6_moor 52 = .ok (.getfield 85, 3) := by decide +kernel
theorem dX6_moor_55 : decode cX6_moor 55 = .ok (.invokevirtual 88, 3) := by decide +kernel
theorem dX6_moor_58 : decode cX6_moor 58 = .ok (.aload_n 0, 1) := by decide +kernel
theorem dX6_moor_59 : decode cX6_moor 59 = .ok (.getfield 46, 3) := by decide +kernel
theorem dX6_moor_62 : decode cX6_moor 62 = .ok (.aload_n 0, 1) := by decide +kernel
theorem dX6_moor_63 : decode cX6_moor 63 = .ok (.getfield 24, 3) := by decide +kernel
theorem dX6_moor_66 : decode cX6_moor 66 = .ok (.invokevirtual 94, 3) := by decide +kernel
theorem dX6_moor_69 : decode cX6_moor 69 = .ok (.aload_n 0, 1) := by decide +kernel
theorem dX6_moor_70 : decode cX6_moor 70 = .ok (.getfield 50, 3) := by decide +kernel
theorem dX6_moor_73 : decode cX6_moor 73 = .ok (.iconst 0, 1) := by decide +kernel
theorem dX6_moor_74 : decode cX6_moor 74 = .ok (.putfield 97, 3) := by decide +kernel
theorem dX6_moor_77 : decode cX6_moor 77 = .ok (.aload_n 0, 1) := by decide +kernel
theorem dX6_moor_78 : decode cX6_moor 78 = .ok (.getfield 53, 3) := by decide +kernel
theorem dX6_moor_81 : decode cX6_moor 81 = .ok (.iconst 0, 1) := by decide +kernel
theorem dX6_moor_82 : decode cX6_moor 82 = .ok (.putfield 97, 3) := by decide +kernel
theorem dX6_moor_85 : decode cX6_moor 85 = .ok (.iload_n 1, 1) := by decide +kernel
theorem dX6_moor_86 : decode cX6_moor 86 = .ok (.ireturn, 1) := by decide +kernel
theorem dX6_cell_0 : decode cX6_cell 0 = .ok (.aload_n 0, 1) := by decide +kernel
theorem dX6_cell_1 : decode cX6_cell 1 = .ok (.iload_n 1, 1) := by decide +kernel
theorem dX6_cell_2 : decode cX6_cell 2 = .ok (.invokevirtual 101, 3) := by decide +kernel
theorem dX6_cell_5 : decode cX6_cell 5 = .ok (.ifCond .ne 5, 3) := by decide +kernel
theorem dX6_cell_8 : decode cX6_cell 8 = .ok (.iconst (-1), 1) := by decide +kernel
theorem dX6_cell_9 : decode cX6_cell 9 = .ok (.ireturn, 1) := by decide +kernel
theorem dX6_cell_10 : decode cX6_cell 10 = .ok (.iload_n 2, 1) := by decide +kernel
theorem dX6_cell_11 : decode cX6_cell 11 = .ok (.tableswitch 58 0 2 #[25, 34, 46], 25) := by decide +kernel
theorem dX6_cell_36 : decode cX6_cell 36 = .ok (.aload_n 0, 1) := by decide +kernel
theorem dX6_cell_37 : decode cX6_cell 37 = .ok (.getfield 46, 3) := by decide +kernel
theorem dX6_cell_40 : decode cX6_cell 40 = .ok (.iload_n 1, 1) := by decide +kernel
theorem dX6_cell_41 : decode cX6_cell 41 = .ok (.invokevirtual 105, 3) := by decide +kernel
theorem dX6_cell_44 : decode cX6_cell 44 = .ok (.ireturn, 1) := by decide +kernel
theorem dX6_cell_45 : decode cX6_cell 45 = .ok (.aload_n 0, 1) := by decide +kernel
theorem dX6_cell_46 : decode cX6_cell 46 = .ok (.getfield 46, 3) := by decide +kernel
theorem dX6_cell_49 : decode cX6_cell 49 = .ok (.getfield 109, 3) := by decide +kernel
theorem dX6_cell_52 : decode cX6_cell 52 = .ok (.iload_n 1, 1) := by decide +kernel
theorem dX6_cell_53 : decode cX6_cell 53 = .ok (.invokestatic 113, 3) := by decide +kernel
theorem dX6_cell_56 : decode cX6_cell 56 = .ok (.ireturn, 1) := by decide +kernel
theorem dX6_cell_57 : decode cX6_cell 57 = .ok (.aload_n 0, 1) := by decide +kernel
theorem dX6_cell_58 : decode cX6_cell 58 = .ok (.getfield 46, 3) := by decide +kernel
theorem dX6_cell_61 : decode cX6_cell 61 = .ok (.getfield 117, 3) := by decide +kernel
theorem dX6_cell_64 : decode cX6_cell 64 = .ok (.iload_n 1, 1) := by decide +kernel
theorem dX6_cell_65 : decode cX6_cell 65 = .ok (.invokestatic 113, 3) := by decide +kernel
theorem dX6_cell_68 : decode cX6_cell 68 = .ok (.ireturn, 1) := by decide +kernel
theorem dX6_cell_69 : decode cX6_cell 69 = .ok (.iconst (-1), 1) := by decide +kernel
theorem dX6_cell_70 : decode cX6_cell 70 = .ok (.ireturn, 1) := by decide +kernel
theorem dX6_walker_0 : decode cX6_walker 0 = .ok (.aload_n 0, 1) := by decide +kernel
theorem dX6_walker_1 : decode cX6_walker 1 = .ok (.iload_n 1, 1) := by decide +kernel
theorem dX6_walker_2 : decode cX6_walker 2 = .ok (.invokevirtual 120, 3) := by decide +kernel
theorem dX6_walker_5 : decode cX6_walker 5 = .ok (.ifCond .ne 5, 3) := by decide +kernel
theorem dX6_walker_8 : decode cX6_walker 8 = .ok (.iconst (-1), 1) := by decide +kernel
theorem dX6_walker_9 : decode cX6_walker 9 = .ok (.ireturn, 1) := by decide +kernel
theorem dX6_walker_10 : decode cX6_walker 10 = .ok (.iload_n 2, 1) := by decide +kernel
theorem dX6_walker_11 : decode cX6_walker 11 = .ok (.tableswitch 74 0 3 #[29, 41, 53, 65], 29) := by decide +kernel
theorem dX6_walker_40 : decode cX6_walker 40 = .ok (.aload_n 0, 1) := by decide +kernel
theorem dX6_walker_41 : decode cX6_walker 41 = .ok (.getfield 24, 3) := by decide +kernel
theorem dX6_walker_44 : decode cX6_walker 44 = .ok (.getfield 123, 3) := by decide +kernel
theorem dX6_walker_47 : decode cX6_walker 47 = .ok (.iload_n 1, 1) := by decide +kernel
theorem dX6_walker_48 : decode cX6_walker 48 = .ok (.invokestatic 113, 3) := by decide +kernel
theorem dX6_walker_51 : decode cX6_walker 51 = .ok (.ireturn, 1) := by decide +kernel
theorem dX6_walker_52 : decode cX6_walker 52 = .ok (.aload_n 0, 1) := by decide +kernel
theorem dX6_walker_53 : decode cX6_walker 53 = .ok (.getfield 24, 3) := by decide +kernel
theorem dX6_walker_56 : decode cX6_walker 56 = .ok (.getfield 126, 3) := by decide +kernel
theorem dX6_walker_59 : decode cX6_walker 59 = .ok (.iload_n 1, 1) := by decide +kernel
theorem dX6_walker_60 : decode cX6_walker 60 = .ok (.invokestatic 113, 3) := by decide +kernel
theorem dX6_walker_63 : decode cX6_walker 63 = .ok (.ireturn, 1) := by decide +kernel
theorem dX6_walker_64 : decode cX6_walker 64 = .ok (.aload_n 0, 1) := by decide +kernel
theorem dX6_walker_65 : decode cX6_walker 65 = .ok (.getfield 46, 3) := by decide +kernel
theorem dX6_walker_68 : decode cX6_walker 68 = .ok (.getfield 129, 3) := by decide +kernel
theorem dX6_walker_71 : decode cX6_walker 71 = .ok (.iload_n 1, 1) := by decide +kernel
theorem dX6_walker_72 : decode cX6_walker 72 = .ok (.invokestatic 113, 3) := by decide +kernel
theorem dX6_walker_75 : decode cX6_walker 75 = .ok (.ireturn, 1) := by decide +kernel
theorem dX6_walker_76 : decode cX6_walker 76 = .ok (.aload_n 0, 1) := by decide +kernel
theorem dX6_walker_77 : decode cX6_walker 77 = .ok (.getfield 46, 3) := by decide +kernel
theorem dX6_walker_80 : decode cX6_walker 80 = .ok (.iload_n 1, 1) := by decide +kernel
theorem dX6_walker_81 : decode cX6_walker 81 = .ok (.invokevirtual 132, 3) := by decide +kernel
theorem dX6_walker_84 : decode cX6_walker 84 = .ok (.ireturn, 1) := by decide +kernel
theorem dX6_walker_85 : decode cX6_walker 85 = .ok (.iconst (-1), 1) := by decide +kernel
theorem dX6_walker_86 : decode cX6_walker 86 = .ok (.ireturn, 1) := by decide +kernel
theorem dX6_passes_0 : decode cX6_passes 0 = .ok (.aload_n 0, 1) := by decide +kernel
theorem dX6_passes_1 : decode cX6_passes 1 = .ok (.iload_n 1, 1) := by decide +kernel
theorem dX6_passes_2 : decode cX6_passes 2 = .ok (.invokevirtual 120, 3) := by decide +kernel
theorem dX6_passes_5 : decode cX6_passes 5 = .ok (.ifCond .eq 11, 3) := by decide +kernel
theorem dX6_passes_8 : decode cX6_passes 8 = .ok (.aload_n 0, 1) := by decide +kernel
theorem dX6_passes_9 : decode cX6_passes 9 = .ok (.iload_n 2, 1) := by decide +kernel
theorem dX6_passes_10 : decode cX6_passes 10 = .ok (.invokevirtual 101, 3) := by decide +kernel
theorem dX6_passes_13 : decode cX6_passes 13 = .ok (.ifCond .ne 5, 3) := by decide +kernel
theorem dX6_passes_16 : decode cX6_passes 16 = .ok (.iconst (-1), 1) := by decide +kernel
theorem dX6_passes_17 : decode cX6_passes 17 = .ok (.ireturn, 1) := by decide +kernel
theorem dX6_passes_18 : decode cX6_passes 18 = .ok (.aload_n 0, 1) := by decide +kernel
theorem dX6_passes_19 : decode cX6_passes 19 = .ok (.iload_n 1, 1) := by decide +kernel
theorem dX6_passes_20 : decode cX6_passes 20 = .ok (.invokevirtual 135, 3) := by decide +kernel
theorem dX6_passes_23 : decode cX6_passes 23 = .ok (.bipush (-9), 2) := by decide +kernel
theorem dX6_passes_25 : decode cX6_passes 25 = .ok (.if_icmp .eq 17, 3) := by decide +kernel
theorem dX6_passes_28 : decode cX6_passes 28 = .ok (.aload_n 0, 1) := by decide +kernel
theorem dX6_passes_29 : decode cX6_passes 29 = .ok (.getfield 46, 3) := by decide +kernel
theorem dX6_passes_32 : decode cX6_passes 32 = .ok (.getfield 138, 3) := by decide +kernel
theorem dX6_passes_35 : decode cX6_passes 35 = .ok (.iload_n 2, 1) := by decide +kernel
theorem dX6_passes_36 : decode cX6_passes 36 = .ok (.invokestatic 141, 3) := by decide +kernel
theorem dX6_passes_39 : decode cX6_passes 39 = .ok (.ifCond .ne 6, 3) := by decide +kernel
theorem dX6_passes_42 : decode cX6_passes 42 = .ok (.bipush (-2), 2) := by decide +kernel
theorem dX6_passes_44 : decode cX6_passes 44 = .ok (.ireturn, 1) := by decide +kernel
theorem dX6_passes_45 : decode cX6_passes 45 = .ok (.aload_n 0, 1) := by decide +kernel
theorem dX6_passes_46 : decode cX6_passes 46 = .ok (.iload_n 1, 1) := by decide +kernel
theorem dX6_passes_47 : decode cX6_passes 47 = .ok (.iload_n 2, 1) := by decide +kernel
theorem dX6_passes_48 : decode cX6_passes 48 = .ok (.invokevirtual 145, 3) := by decide +kernel
theorem dX6_passes_51 : decode cX6_passes 51 = .ok (.ireturn, 1) := by decide +kernel
theorem dX6_days_0 : decode cX6_days 0 = .ok (.iload_n 1, 1) := by decide +kernel
theorem dX6_days_1 : decode cX6_days 1 = .ok (.iconst 1, 1) := by decide +kernel
theorem dX6_days_2 : decode cX6_days 2 = .ok (.if_icmp .lt 9, 3) := by decide +kernel
theorem dX6_days_5 : decode cX6_days 5 = .ok (.iload_n 1, 1) := by decide +kernel
theorem dX6_days_6 : decode cX6_days 6 = .ok (.bipush 9, 2) := by decide +kernel
theorem dX6_days_8 : decode cX6_days 8 = .ok (.if_icmp .le 5, 3) := by decide +kernel
theorem dX6_days_11 : decode cX6_days 11 = .ok (.iconst (-1), 1) := by decide +kernel
theorem dX6_days_12 : decode cX6_days 12 = .ok (.ireturn, 1) := by decide +kernel
theorem dX6_days_13 : decode cX6_days 13 = .ok (.iconst 0, 1) := by decide +kernel
theorem dX6_days_14 : decode cX6_days 14 = .ok (.istore_n 2, 1) := by decide +kernel
theorem dX6_days_15 : decode cX6_days 15 = .ok (.iconst 0, 1) := by decide +kernel
theorem dX6_days_16 : decode cX6_days 16 = .ok (.istore_n 3, 1) := by decide +kernel
theorem dX6_days_17 : decode cX6_days 17 = .ok (.iload_n 3, 1) := by decide +kernel
theorem dX6_days_18 : decode cX6_days 18 = .ok (.iload_n 1, 1) := by decide +kernel
theorem dX6_days_19 : decode cX6_days 19 = .ok (.if_icmp .ge 70, 3) := by decide +kernel
theorem dX6_days_22 : decode cX6_days 22 = .ok (.iconst 0, 1) := by decide +kernel
theorem dX6_days_23 : decode cX6_days 23 = .ok (.istore 4, 2) := by decide +kernel
theorem dX6_days_25 : decode cX6_days 25 = .ok (.iload 4, 2) := by decide +kernel
theorem dX6_days_27 : decode cX6_days 27 = .ok (.aload_n 0, 1) := by decide +kernel
theorem dX6_days_28 : decode cX6_days 28 = .ok (.getfield 24, 3) := by decide +kernel
theorem dX6_days_31 : decode cX6_days 31 = .ok (.getfield 149, 3) := by decide +kernel
theorem dX6_days_34 : decode cX6_days 34 = .ok (.if_icmp .ge 49, 3) := by decide +kernel
theorem dX6_days_37 : decode cX6_days 37 = .ok (.aload_n 0, 1) := by decide +kernel
theorem dX6_days_38 : decode cX6_days 38 = .ok (.iload 4, 2) := by decide +kernel
theorem dX6_days_40 : decode cX6_days 40 = .ok (.invokevirtual 135, 3) := by decide +kernel
theorem dX6_days_43 : decode cX6_days 43 = .ok (.bipush (-9), 2) := by decide +kernel
theorem dX6_days_45 : decode cX6_days 45 = .ok (.if_icmp .eq 13, 3) := by decide +kernel
theorem dX6_days_48 : decode cX6_days 48 = .ok (.aload_n 0, 1) := by decide +kernel
theorem dX6_days_49 : decode cX6_days 49 = .ok (.getfield 46, 3) := by decide +kernel
theorem dX6_days_52 : decode cX6_days 52 = .ok (.getfield 138, 3) := by decide +kernel
theorem dX6_days_55 : decode cX6_days 55 = .ok (.ifCond .ne 9, 3) := by decide +kernel
theorem dX6_days_58 : decode cX6_days 58 = .ok (.iinc 2 1, 3) := by decide +kernel
theorem dX6_days_61 : decode cX6_days 61 = .ok (.goto 16, 3) := by decide +kernel
theorem dX6_days_64 : decode cX6_days 64 = .ok (.aload_n 0, 1) := by decide +kernel
theorem dX6_days_65 : decode cX6_days 65 = .ok (.iload 4, 2) := by decide +kernel
theorem dX6_days_67 : decode cX6_days 67 = .ok (.aload_n 0, 1) := by decide +kernel
theorem dX6_days_68 : decode cX6_days 68 = .ok (.iload 4, 2) := by decide +kernel
theorem dX6_days_70 : decode cX6_days 70 = .ok (.invokevirtual 152, 3) := by decide +kernel
theorem dX6_days_73 : decode cX6_days 73 = .ok (.invokevirtual 145, 3) := by decide +kernel
theorem dX6_days_76 : decode cX6_days 76 = .ok (.pop, 1) := by decide +kernel
theorem dX6_days_77 : decode cX6_days 77 = .ok (.iinc 4 1, 3) := by decide +kernel
theorem dX6_days_80 : decode cX6_days 80 = .ok (.goto (-55), 3) := by decide +kernel
theorem dX6_days_83 : decode cX6_days 83 = .ok (.iinc 3 1, 3) := by decide +kernel
theorem dX6_days_86 : decode cX6_days 86 = .ok (.goto (-69), 3) := by decide +kernel
theorem dX6_days_89 : decode cX6_days 89 = .ok (.iload_n 2, 1) := by decide +kernel
theorem dX6_days_90 : decode cX6_days 90 = .ok (.ireturn, 1) := by decide +kernel
theorem dX6_now_0 : decode cX6_now 0 = .ok (.iload_n 1, 1) := by decide +kernel
theorem dX6_now_1 : decode cX6_now 1 = .ok (.tableswitch 92 0 3 #[31, 62, 73, 84], 31) := by decide +kernel
theorem dX6_now_32 : decode cX6_now 32 = .ok (.aload_n 0, 1) := by decide +kernel
theorem dX6_now_33 : decode cX6_now 33 = .ok (.getfield 42, 3) := by decide +kernel
theorem dX6_now_36 : decode cX6_now 36 = .ok (.getfield 155, 3) := by decide +kernel
theorem dX6_now_39 : decode cX6_now 39 = .ok (.aload_n 0, 1) := by decide +kernel
theorem dX6_now_40 : decode cX6_now 40 = .ok (.getfield 46, 3) := by decide +kernel
theorem dX6_now_43 : decode cX6_now 43 = .ok (.getfield 138, 3) := by decide +kernel
theorem dX6_now_46 : decode cX6_now 46 = .ok (.iconst (-1), 1) := by decide +kernel
theorem dX6_now_47 : decode cX6_now 47 = .ok (.ixor, 1) := by decide +kernel
theorem dX6_now_48 : decode cX6_now 48 = .ok (.iand, 1) := by decide +kernel
theorem dX6_now_49 : decode cX6_now 49 = .ok (.aload_n 0, 1) := by decide +kernel
theorem dX6_now_50 : decode cX6_now 50 = .ok (.getfield 46, 3) := by decide +kernel
theorem dX6_now_53 : decode cX6_now 53 = .ok (.getfield 158, 3) := by decide +kernel
theorem dX6_now_56 : decode cX6_now 56 = .ok (.iconst (-1), 1) := by decide +kernel
theorem dX6_now_57 : decode cX6_now 57 = .ok (.ixor, 1) := by decide +kernel
theorem dX6_now_58 : decode cX6_now 58 = .ok (.iand, 1) := by decide +kernel
theorem dX6_now_59 : decode cX6_now 59 = .ok (.invokestatic 161, 3) := by decide +kernel
theorem dX6_now_62 : decode cX6_now 62 = .ok (.ireturn, 1) := by decide +kernel
theorem dX6_now_63 : decode cX6_now 63 = .ok (.aload_n 0, 1) := by decide +kernel
theorem dX6_now_64 : decode cX6_now 64 = .ok (.getfield 46, 3) := by decide +kernel
theorem dX6_now_67 : decode cX6_now 67 = .ok (.getfield 138, 3) := by decide +kernel
theorem dX6_now_70 : decode cX6_now 70 = .ok (.invokestatic 161, 3) := by decide +kernel
theorem dX6_now_73 : decode cX6_now 73 = .ok (.ireturn, 1) := by decide +kernel
theorem dX6_now_74 : decode cX6_now 74 = .ok (.aload_n 0, 1) := by decide +kernel
theorem dX6_now_75 : decode cX6_now 75 = .ok (.getfield 46, 3) := by decide +kernel
theorem dX6_now_78 : decode cX6_now 78 = .ok (.getfield 158, 3) := by decide +kernel
theorem dX6_now_81 : decode cX6_now 81 = .ok (.invokestatic 161, 3) := by decide +kernel
theorem dX6_now_84 : decode cX6_now 84 = .ok (.ireturn, 1) := by decide +kernel
theorem dX6_now_85 : decode cX6_now 85 = .ok (.aload_n 0, 1) := by decide +kernel
theorem dX6_now_86 : decode cX6_now 86 = .ok (.getfield 46, 3) := by decide +kernel
theorem dX6_now_89 : decode cX6_now 89 = .ok (.invokevirtual 166, 3) := by decide +kernel
theorem dX6_now_92 : decode cX6_now 92 = .ok (.ireturn, 1) := by decide +kernel
theorem dX6_now_93 : decode cX6_now 93 = .ok (.iconst (-1), 1) := by decide +kernel
theorem dX6_now_94 : decode cX6_now 94 = .ok (.ireturn, 1) := by decide +kernel
theorem dX6_anew_0 : decode cX6_anew 0 = .ok (.aload_n 0, 1) := by decide +kernel
theorem dX6_anew_1 : decode cX6_anew 1 = .ok (.getfield 46, 3) := by decide +kernel
theorem dX6_anew_4 : decode cX6_anew 4 = .ok (.invokevirtual 166, 3) := by decide +kernel
theorem dX6_anew_7 : decode cX6_anew 7 = .ok (.istore_n 1, 1) := by decide +kernel
theorem dX6_anew_8 : decode cX6_anew 8 = .ok (.aload_n 0, 1) := by decide +kernel
theorem dX6_anew_9 : decode cX6_anew 9 = .ok (.getfield 46, 3) := by decide +kernel
theorem dX6_anew_12 : decode cX6_anew 12 = .ok (.aload_n 0, 1) := by decide +kernel
theorem dX6_anew_13 : decode cX6_anew 13 = .ok (.getfield 24, 3) := by decide +kernel
theorem dX6_anew_16 : decode cX6_anew 16 = .ok (.invokevirtual 94, 3) := by decide +kernel
theorem dX6_anew_19 : decode cX6_anew 19 = .ok (.iload_n 1, 1) := by decide +kernel
theorem dX6_anew_20 : decode cX6_anew 20 = .ok (.ireturn, 1) := by decide +kernel
theorem dX6_steps_0 : decode cX6_steps 0 = .ok (.aload_n 0, 1) := by decide +kernel
theorem dX6_steps_1 : decode cX6_steps 1 = .ok (.iload_n 1, 1) := by decide +kernel
theorem dX6_steps_2 : decode cX6_steps 2 = .ok (.invokevirtual 101, 3) := by decide +kernel
theorem dX6_steps_5 : decode cX6_steps 5 = .ok (.ifCond .eq 11, 3) := by decide +kernel
theorem dX6_steps_8 : decode cX6_steps 8 = .ok (.aload_n 0, 1) := by decide +kernel
theorem dX6_steps_9 : decode cX6_steps 9 = .ok (.iload_n 2, 1) := by decide +kernel
theorem dX6_steps_10 : decode cX6_steps 10 = .ok (.invokevirtual 101, 3) := by decide +kernel
theorem dX6_steps_13 : decode cX6_steps 13 = .ok (.ifCond .ne 5, 3) := by decide +kernel
theorem dX6_steps_16 : decode cX6_steps 16 = .ok (.iconst (-1), 1) := by decide +kernel
theorem dX6_steps_17 : decode cX6_steps 17 = .ok (.ireturn, 1) := by decide +kernel
theorem dX6_steps_18 : decode cX6_steps 18 = .ok (.aload_n 0, 1) := by decide +kernel
theorem dX6_steps_19 : decode cX6_steps 19 = .ok (.getfield 42, 3) := by decide +kernel
theorem dX6_steps_22 : decode cX6_steps 22 = .ok (.iload_n 1, 1) := by decide +kernel
theorem dX6_steps_23 : decode cX6_steps 23 = .ok (.iload_n 2, 1) := by decide +kernel
theorem dX6_steps_24 : decode cX6_steps 24 = .ok (.aload_n 0, 1) := by decide +kernel
theorem dX6_steps_25 : decode cX6_steps 25 = .ok (.invokevirtual 169, 3) := by decide +kernel
theorem dX6_steps_28 : decode cX6_steps 28 = .ok (.invokevirtual 172, 3) := by decide +kernel
theorem dX6_steps_31 : decode cX6_steps 31 = .ok (.ireturn, 1) := by decide +kernel
theorem dX6_way_0 : decode cX6_way 0 = .ok (.aload_n 0, 1) := by decide +kernel
theorem dX6_way_1 : decode cX6_way 1 = .ok (.iload_n 1, 1) := by decide +kernel
theorem dX6_way_2 : decode cX6_way 2 = .ok (.invokevirtual 101, 3) := by decide +kernel
theorem dX6_way_5 : decode cX6_way 5 = .ok (.ifCond .eq 15, 3) := by decide +kernel
theorem dX6_way_8 : decode cX6_way 8 = .ok (.aload_n 0, 1) := by decide +kernel
theorem dX6_way_9 : decode cX6_way 9 = .ok (.iload_n 2, 1) := by decide +kernel
theorem dX6_way_10 : decode cX6_way 10 = .ok (.invokevirtual 101, 3) := by decide +kernel
theorem dX6_way_13 : decode cX6_way 13 = .ok (.ifCond .eq 7, 3) := by decide +kernel
theorem dX6_way_16 : decode cX6_way 16 = .ok (.iload_n 3, 1) := by decide +kernel
theorem dX6_way_17 : decode cX6_way 17 = .ok (.ifCond .ge 5, 3) := by decide +kernel
theorem dX6_way_20 : decode cX6_way 20 = .ok (.iconst (-1), 1) := by decide +kernel
theorem dX6_way_21 : decode cX6_way 21 = .ok (.ireturn, 1) := by decide +kernel
theorem dX6_way_22 : decode cX6_way 22 = .ok (.aload_n 0, 1) := by decide +kernel
theorem dX6_way_23 : decode cX6_way 23 = .ok (.getfield 42, 3) := by decide +kernel
theorem dX6_way_26 : decode cX6_way 26 = .ok (.iload_n 1, 1) := by decide +kernel
theorem dX6_way_27 : decode cX6_way 27 = .ok (.iload_n 2, 1) := by decide +kernel
theorem dX6_way_28 : decode cX6_way 28 = .ok (.aload_n 0, 1) := by decide +kernel
theorem dX6_way_29 : decode cX6_way 29 = .ok (.invokevirtual 169, 3) := by decide +kernel
theorem dX6_way_32 : decode cX6_way 32 = .ok (.invokevirtual 172, 3) := by decide +kernel
theorem dX6_way_35 : decode cX6_way 35 = .ok (.istore 4, 2) := by decide +kernel
theorem dX6_way_37 : decode cX6_way 37 = .ok (.iload 4, 2) := by decide +kernel
theorem dX6_way_39 : decode cX6_way 39 = .ok (.bipush (-9), 2) := by decide +kernel
theorem dX6_way_41 : decode cX6_way 41 = .ok (.if_icmp .ne 6, 3) := by decide +kernel
theorem dX6_way_44 : decode cX6_way 44 = .ok (.bipush (-9), 2) := by decide +kernel
theorem dX6_way_46 : decode cX6_way 46 = .ok (.ireturn, 1) := by decide +kernel
theorem dX6_way_47 : decode cX6_way 47 = .ok (.iload_n 3, 1) := by decide +kernel
theorem dX6_way_48 : decode cX6_way 48 = .ok (.iload 4, 2) := by decide +kernel
theorem dX6_way_50 : decode cX6_way 50 = .ok (.if_icmp .le 6, 3) := by decide +kernel
theorem dX6_way_53 : decode cX6_way 53 = .ok (.bipush (-5), 2) := by decide +kernel
theorem dX6_way_55 : decode cX6_way 55 = .ok (.ireturn, 1) := by decide +kernel
theorem dX6_way_56 : decode cX6_way 56 = .ok (.iload_n 1, 1) := by decide +kernel
theorem dX6_way_57 : decode cX6_way 57 = .ok (.istore 5, 2) := by decide +kernel
theorem dX6_way_59 : decode cX6_way 59 = .ok (.iconst 0, 1) := by decide +kernel
theorem dX6_way_60 : decode cX6_way 60 = .ok (.istore 6, 2) := by decide +kernel
theorem dX6_way_62 : decode cX6_way 62 = .ok (.iload 6, 2) := by decide +kernel
theorem dX6_way_64 : decode cX6_way 64 = .ok (.iload_n 3, 1) := by decide +kernel
theorem dX6_way_65 : decode cX6_way 65 = .ok (.if_icmp .ge 25, 3) := by decide +kernel
theorem dX6_way_68 : decode cX6_way 68 = .ok (.aload_n 0, 1) := by decide +kernel
theorem dX6_way_69 : decode cX6_way 69 = .ok (.getfield 42, 3) := by decide +kernel
theorem dX6_way_72 : decode cX6_way 72 = .ok (.iload 5, 2) := by decide +kernel
theorem dX6_way_74 : decode cX6_way 74 = .ok (.iload_n 2, 1) := by decide +kernel
theorem dX6_way_75 : decode cX6_way 75 = .ok (.aload_n 0, 1) := by decide +kernel
theorem dX6_way_76 : decode cX6_way 76 = .ok (.invokevirtual 169, 3) := by decide +kernel
theorem dX6_way_79 : decode cX6_way 79 = .ok (.invokevirtual 176, 3) := by decide +kernel
theorem dX6_way_82 : decode cX6_way 82 = .ok (.istore 5, 2) := by decide +kernel
theorem dX6_way_84 : decode cX6_way 84 = .ok (.iinc 6 1, 3) := by decide +kernel
theorem dX6_way_87 : decode cX6_way 87 = .ok (.goto (-25), 3) := by decide +kernel
theorem dX6_way_90 : decode cX6_way 90 = .ok (.iload 5, 2) := by decide +kernel
theorem dX6_way_92 : decode cX6_way 92 = .ok (.ireturn, 1) := by decide +kernel
theorem dX6_stones_0 : decode cX6_stones 0 = .ok (.aload_n 0, 1) := by decide +kernel
theorem dX6_stones_1 : decode cX6_stones 1 = .ok (.iload_n 1, 1) := by decide +kernel
theorem dX6_stones_2 : decode cX6_stones 2 = .ok (.invokevirtual 101, 3) := by decide +kernel
theorem dX6_stones_5 : decode cX6_stones 5 = .ok (.ifCond .eq 11, 3) := by decide +kernel
theorem dX6_stones_8 : decode cX6_stones 8 = .ok (.aload_n 0, 1) := by decide +kernel
theorem dX6_stones_9 : decode cX6_stones 9 = .ok (.iload_n 2, 1) := by decide +kernel
theorem dX6_stones_10 : decode cX6_stones 10 = .ok (.invokevirtual 101, 3) := by decide +kernel
theorem dX6_stones_13 : decode cX6_stones 13 = .ok (.ifCond .ne 5, 3) := by decide +kernel
theorem dX6_stones_16 : decode cX6_stones 16 = .ok (.iconst (-1), 1) := by decide +kernel
theorem dX6_stones_17 : decode cX6_stones 17 = .ok (.ireturn, 1) := by decide +kernel
theorem dX6_stones_18 : decode cX6_stones 18 = .ok (.aload_n 0, 1) := by decide +kernel
theorem dX6_stones_19 : decode cX6_stones 19 = .ok (.getfield 42, 3) := by decide +kernel
theorem dX6_stones_22 : decode cX6_stones 22 = .ok (.iload_n 1, 1) := by decide +kernel
theorem dX6_stones_23 : decode cX6_stones 23 = .ok (.iload_n 2, 1) := by decide +kernel
theorem dX6_stones_24 : decode cX6_stones 24 = .ok (.aload_n 0, 1) := by decide +kernel
theorem dX6_stones_25 : decode cX6_stones 25 = .ok (.invokevirtual 169, 3) := by decide +kernel
theorem dX6_stones_28 : decode cX6_stones 28 = .ok (.invokevirtual 179, 3) := by decide +kernel
theorem dX6_stones_31 : decode cX6_stones 31 = .ok (.ireturn, 1) := by decide +kernel
theorem dX6_joined_0 : decode cX6_joined 0 = .ok (.iload_n 2, 1) := by decide +kernel
theorem dX6_joined_1 : decode cX6_joined 1 = .ok (.ifCond .lt 8, 3) := by decide +kernel
theorem dX6_joined_4 : decode cX6_joined 4 = .ok (.iload_n 2, 1) := by decide +kernel
theorem dX6_joined_5 : decode cX6_joined 5 = .ok (.iconst 1, 1) := by decide +kernel
theorem dX6_joined_6 : decode cX6_joined 6 = .ok (.if_icmp .le 5, 3) := by decide +kernel
theorem dX6_joined_9 : decode cX6_joined 9 = .ok (.iconst (-1), 1) := by decide +kernel
theorem dX6_joined_10 : decode cX6_joined 10 = .ok (.ireturn, 1) := by decide +kernel
theorem dX6_joined_11 : decode cX6_joined 11 = .ok (.aload_n 0, 1) := by decide +kernel
theorem dX6_joined_12 : decode cX6_joined 12 = .ok (.getfield 46, 3) := by decide +kernel
theorem dX6_joined_15 : decode cX6_joined 15 = .ok (.getfield 138, 3) := by decide +kernel
theorem dX6_joined_18 : decode cX6_joined 18 = .ok (.invokestatic 161, 3) := by decide +kernel
theorem dX6_joined_21 : decode cX6_joined 21 = .ok (.bipush 10, 2) := by decide +kernel
theorem dX6_joined_23 : decode cX6_joined 23 = .ok (.if_icmp .le 6, 3) := by decide +kernel
theorem dX6_joined_26 : decode cX6_joined 26 = .ok (.bipush (-2), 2) := by decide +kernel
theorem dX6_joined_28 : decode cX6_joined 28 = .ok (.ireturn, 1) := by decide +kernel
theorem dX6_joined_29 : decode cX6_joined 29 = .ok (.aload_n 0, 1) := by decide +kernel
theorem dX6_joined_30 : decode cX6_joined 30 = .ok (.getfield 34, 3) := by decide +kernel
theorem dX6_joined_33 : decode cX6_joined 33 = .ok (.iload_n 1, 1) := by decide +kernel
theorem dX6_joined_34 : decode cX6_joined 34 = .ok (.aload_n 0, 1) := by decide +kernel
theorem dX6_joined_35 : decode cX6_joined 35 = .ok (.getfield 42, 3) := by decide +kernel
theorem dX6_joined_38 : decode cX6_joined 38 = .ok (.getfield 155, 3) := by decide +kernel
theorem dX6_joined_41 : decode cX6_joined 41 = .ok (.iand, 1) := by decide +kernel
theorem dX6_joined_42 : decode cX6_joined 42 = .ok (.aload_n 0, 1) := by decide +kernel
theorem dX6_joined_43 : decode cX6_joined 43 = .ok (.invokevirtual 169, 3) := by decide +kernel
theorem dX6_joined_46 : decode cX6_joined 46 = .ok (.aload_n 0, 1) := by decide +kernel
theorem dX6_joined_47 : decode cX6_joined 47 = .ok (.getfield 46, 3) := by decide +kernel
theorem dX6_joined_50 : decode cX6_joined 50 = .ok (.getfield 138, 3) := by decide +kernel
theorem dX6_joined_53 : decode cX6_joined 53 = .ok (.invokevirtual 182, 3) := by decide +kernel
theorem dX6_joined_56 : decode cX6_joined 56 = .ok (.istore_n 3, 1) := by decide +kernel
theorem dX6_joined_57 : decode cX6_joined 57 = .ok (.iload_n 2, 1) := by decide +kernel
theorem dX6_joined_58 : decode cX6_joined 58 = .ok (.ifCond .ne 10, 3) := by decide +kernel
theorem dX6_joined_61 : decode cX6_joined 61 = .ok (.iload_n 3, 1) := by decide +kernel
theorem dX6_joined_62 : decode cX6_joined 62 = .ok (.invokestatic 161, 3) := by decide +kernel
theorem dX6_joined_65 : decode cX6_joined 65 = .ok (.goto 4, 3) := by decide +kernel
theorem dX6_joined_68 : decode cX6_joined 68 = .ok (.iload_n 3, 1) := by decide +kernel
theorem dX6_joined_69 : decode cX6_joined 69 = .ok (.ireturn, 1) := by decide +kernel
theorem dX6_likes_0 : decode cX6_likes 0 = .ok (.aload_n 0, 1) := by decide +kernel
theorem dX6_likes_1 : decode cX6_likes 1 = .ok (.iload_n 1, 1) := by decide +kernel
theorem dX6_likes_2 : decode cX6_likes 2 = .ok (.invokevirtual 120, 3) := by decide +kernel
theorem dX6_likes_5 : decode cX6_likes 5 = .ok (.ifCond .ne 5, 3) := by decide +kernel
theorem dX6_likes_8 : decode cX6_likes 8 = .ok (.iconst (-1), 1) := by decide +kernel
theorem dX6_likes_9 : decode cX6_likes 9 = .ok (.ireturn, 1) := by decide +kernel
theorem dX6_likes_10 : decode cX6_likes 10 = .ok (.aload_n 0, 1) := by decide +kernel
theorem dX6_likes_11 : decode cX6_likes 11 = .ok (.iload_n 1, 1) := by decide +kernel
theorem dX6_likes_12 : decode cX6_likes 12 = .ok (.invokevirtual 152, 3) := by decide +kernel
theorem dX6_likes_15 : decode cX6_likes 15 = .ok (.ireturn, 1) := by decide +kernel
theorem dX6_byTurns_0 : decode cX6_byTurns 0 = .ok (.aload_n 0, 1) := by decide +kernel
theorem dX6_byTurns_1 : decode cX6_byTurns 1 = .ok (.iload_n 1, 1) := by decide +kernel
theorem dX6_byTurns_2 : decode cX6_byTurns 2 = .ok (.invokevirtual 101, 3) := by decide +kernel
theorem dX6_byTurns_5 : decode cX6_byTurns 5 = .ok (.ifCond .eq 11, 3) := by decide +kernel
theorem dX6_byTurns_8 : decode cX6_byTurns 8 = .ok (.aload_n 0, 1) := by decide +kernel
theorem dX6_byTurns_9 : decode cX6_byTurns 9 = .ok (.iload_n 2, 1) := by decide +kernel
theorem dX6_byTurns_10 : decode cX6_byTurns 10 = .ok (.invokevirtual 101, 3) := by decide +kernel
theorem dX6_byTurns_13 : decode cX6_byTurns 13 = .ok (.ifCond .ne 5, 3) := by decide +kernel
theorem dX6_byTurns_16 : decode cX6_byTurns 16 = .ok (.iconst (-1), 1) := by decide +kernel
theorem dX6_byTurns_17 : decode cX6_byTurns 17 = .ok (.ireturn, 1) := by decide +kernel
theorem dX6_byTurns_18 : decode cX6_byTurns 18 = .ok (.aload_n 0, 1) := by decide +kernel
theorem dX6_byTurns_19 : decode cX6_byTurns 19 = .ok (.getfield 46, 3) := by decide +kernel
theorem dX6_byTurns_22 : decode cX6_byTurns 22 = .ok (.getfield 138, 3) := by decide +kernel
theorem dX6_byTurns_25 : decode cX6_byTurns 25 = .ok (.invokestatic 161, 3) := by decide +kernel
theorem dX6_byTurns_28 : decode cX6_byTurns 28 = .ok (.bipush 8, 2) := by decide +kernel
theorem dX6_byTurns_30 : decode cX6_byTurns 30 = .ok (.if_icmp .le 6, 3) := by decide +kernel
theorem dX6_byTurns_33 : decode cX6_byTurns 33 = .ok (.bipush (-2), 2) := by decide +kernel
theorem dX6_byTurns_35 : decode cX6_byTurns 35 = .ok (.ireturn, 1) := by decide +kernel
theorem dX6_byTurns_36 : decode cX6_byTurns 36 = .ok (.aload_n 0, 1) := by decide +kernel
theorem dX6_byTurns_37 : decode cX6_byTurns 37 = .ok (.getfield 34, 3) := by decide +kernel
theorem dX6_byTurns_40 : decode cX6_byTurns 40 = .ok (.iload_n 1, 1) := by decide +kernel
theorem dX6_byTurns_41 : decode cX6_byTurns 41 = .ok (.iload_n 2, 1) := by decide +kernel
theorem dX6_byTurns_42 : decode cX6_byTurns 42 = .ok (.aload_n 0, 1) := by decide +kernel
theorem dX6_byTurns_43 : decode cX6_byTurns 43 = .ok (.invokevirtual 169, 3) := by decide +kernel
theorem dX6_byTurns_46 : decode cX6_byTurns 46 = .ok (.aload_n 0, 1) := by decide +kernel
theorem dX6_byTurns_47 : decode cX6_byTurns 47 = .ok (.getfield 46, 3) := by decide +kernel
theorem dX6_byTurns_50 : decode cX6_byTurns 50 = .ok (.getfield 138, 3) := by decide +kernel
theorem dX6_byTurns_53 : decode cX6_byTurns 53 = .ok (.invokevirtual 185, 3) := by decide +kernel
theorem dX6_byTurns_56 : decode cX6_byTurns 56 = .ok (.ireturn, 1) := by decide +kernel
theorem dX6_apart_0 : decode cX6_apart 0 = .ok (.aload_n 0, 1) := by decide +kernel
theorem dX6_apart_1 : decode cX6_apart 1 = .ok (.iload_n 1, 1) := by decide +kernel
theorem dX6_apart_2 : decode cX6_apart 2 = .ok (.invokevirtual 101, 3) := by decide +kernel
theorem dX6_apart_5 : decode cX6_apart 5 = .ok (.ifCond .eq 16, 3) := by decide +kernel
theorem dX6_apart_8 : decode cX6_apart 8 = .ok (.aload_n 0, 1) := by decide +kernel
theorem dX6_apart_9 : decode cX6_apart 9 = .ok (.iload_n 2, 1) := by decide +kernel
theorem dX6_apart_10 : decode cX6_apart 10 = .ok (.invokevirtual 101, 3) := by decide +kernel
theorem dX6_apart_13 : decode cX6_apart 13 = .ok (.ifCond .eq 8, 3) := by decide +kernel
theorem dX6_apart_16 : decode cX6_apart 16 = .ok (.iload_n 1, 1) := by decide +kernel
theorem dX6_apart_17 : decode cX6_apart 17 = .ok (.iload_n 2, 1) := by decide +kernel
theorem dX6_apart_18 : decode cX6_apart 18 = .ok (.if_icmp .ne 5, 3) := by decide +kernel
theorem dX6_apart_21 : decode cX6_apart 21 = .ok (.iconst (-1), 1) := by decide +kernel
theorem dX6_apart_22 : decode cX6_apart 22 = .ok (.ireturn, 1) := by decide +kernel
theorem dX6_apart_23 : decode cX6_apart 23 = .ok (.aload_n 0, 1) := by decide +kernel
theorem dX6_apart_24 : decode cX6_apart 24 = .ok (.invokevirtual 169, 3) := by decide +kernel
theorem dX6_apart_27 : decode cX6_apart 27 = .ok (.iconst 1, 1) := by decide +kernel
theorem dX6_apart_28 : decode cX6_apart 28 = .ok (.iload_n 1, 1) := by decide +kernel
theorem dX6_apart_29 : decode cX6_apart 29 = .ok (.ishl, 1) := by decide +kernel
theorem dX6_apart_30 : decode cX6_apart 30 = .ok (.iconst (-1), 1) := by decide +kernel
theorem dX6_apart_31 : decode cX6_apart 31 = .ok (.ixor, 1) := by decide +kernel
theorem dX6_apart_32 : decode cX6_apart 32 = .ok (.iand, 1) := by decide +kernel
theorem dX6_apart_33 : decode cX6_apart 33 = .ok (.iconst 1, 1) := by decide +kernel
theorem dX6_apart_34 : decode cX6_apart 34 = .ok (.iload_n 2, 1) := by decide +kernel
theorem dX6_apart_35 : decode cX6_apart 35 = .ok (.ishl, 1) := by decide +kernel
theorem dX6_apart_36 : decode cX6_apart 36 = .ok (.iconst (-1), 1) := by decide +kernel
theorem dX6_apart_37 : decode cX6_apart 37 = .ok (.ixor, 1) := by decide +kernel
theorem dX6_apart_38 : decode cX6_apart 38 = .ok (.iand, 1) := by decide +kernel
theorem dX6_apart_39 : decode cX6_apart 39 = .ok (.istore_n 3, 1) := by decide +kernel
theorem dX6_apart_40 : decode cX6_apart 40 = .ok (.iload_n 3, 1) := by decide +kernel
theorem dX6_apart_41 : decode cX6_apart 41 = .ok (.invokestatic 161, 3) := by decide +kernel
theorem dX6_apart_44 : decode cX6_apart 44 = .ok (.bipush 12, 2) := by decide +kernel
theorem dX6_apart_46 : decode cX6_apart 46 = .ok (.if_icmp .le 6, 3) := by decide +kernel
theorem dX6_apart_49 : decode cX6_apart 49 = .ok (.bipush (-2), 2) := by decide +kernel
theorem dX6_apart_51 : decode cX6_apart 51 = .ok (.ireturn, 1) := by decide +kernel
theorem dX6_apart_52 : decode cX6_apart 52 = .ok (.aload_n 0, 1) := by decide +kernel
theorem dX6_apart_53 : decode cX6_apart 53 = .ok (.invokevirtual 169, 3) := by decide +kernel
theorem dX6_apart_56 : decode cX6_apart 56 = .ok (.iload_n 1, 1) := by decide +kernel
theorem dX6_apart_57 : decode cX6_apart 57 = .ok (.invokestatic 141, 3) := by decide +kernel
theorem dX6_apart_60 : decode cX6_apart 60 = .ok (.ifCond .eq 31, 3) := by decide +kernel
theorem dX6_apart_63 : decode cX6_apart 63 = .ok (.aload_n 0, 1) := by decide +kernel
theorem dX6_apart_64 : decode cX6_apart 64 = .ok (.invokevirtual 169, 3) := by decide +kernel
theorem dX6_apart_67 : decode cX6_apart 67 = .ok (.iload_n 2, 1) := by decide +kernel
theorem dX6_apart_68 : decode cX6_apart 68 = .ok (.invokestatic 141, 3) := by decide +kernel
theorem dX6_apart_71 : decode cX6_apart 71 = .ok (.ifCond .eq 20, 3) := by decide +kernel
theorem dX6_apart_74 : decode cX6_apart 74 = .ok (.aload_n 0, 1) := by decide +kernel
theorem dX6_apart_75 : decode cX6_apart 75 = .ok (.getfield 42, 3) := by decide +kernel
theorem dX6_apart_78 : decode cX6_apart 78 = .ok (.iconst 1, 1) := by decide +kernel
theorem dX6_apart_79 : decode cX6_apart 79 = .ok (.iload_n 1, 1) := by decide +kernel
theorem dX6_apart_80 : decode cX6_apart 80 = .ok (.ishl, 1) := by decide +kernel
theorem dX6_apart_81 : decode cX6_apart 81 = .ok (.invokevirtual 189, 3) := by decide +kernel
theorem dX6_apart_84 : decode cX6_apart 84 = .ok (.iload_n 2, 1) := by decide +kernel
theorem dX6_apart_85 : decode cX6_apart 85 = .ok (.invokestatic 141, 3) := by decide +kernel
theorem dX6_apart_88 : decode cX6_apart 88 = .ok (.ifCond .eq 6, 3) := by decide +kernel
theorem dX6_apart_91 : decode cX6_apart 91 = .ok (.bipush (-9), 2) := by decide +kernel
theorem dX6_apart_93 : decode cX6_apart 93 = .ok (.ireturn, 1) := by decide +kernel
theorem dX6_apart_94 : decode cX6_apart 94 = .ok (.aload_n 0, 1) := by decide +kernel
theorem dX6_apart_95 : decode cX6_apart 95 = .ok (.getfield 34, 3) := by decide +kernel
theorem dX6_apart_98 : decode cX6_apart 98 = .ok (.iload_n 1, 1) := by decide +kernel
theorem dX6_apart_99 : decode cX6_apart 99 = .ok (.iload_n 2, 1) := by decide +kernel
theorem dX6_apart_100 : decode cX6_apart 100 = .ok (.iload_n 3, 1) := by decide +kernel
theorem dX6_apart_101 : decode cX6_apart 101 = .ok (.invokevirtual 192, 3) := by decide +kernel
theorem dX6_apart_104 : decode cX6_apart 104 = .ok (.ireturn, 1) := by decide +kernel
theorem dX6_rate_0 : decode cX6_rate 0 = .ok (.aload_n 0, 1) := by decide +kernel
theorem dX6_rate_1 : decode cX6_rate 1 = .ok (.iload_n 2, 1) := by decide +kernel
theorem dX6_rate_2 : decode cX6_rate 2 = .ok (.invokevirtual 120, 3) := by decide +kernel
theorem dX6_rate_5 : decode cX6_rate 5 = .ok (.ifCond .ne 6, 3) := by decide +kernel
theorem dX6_rate_8 : decode cX6_rate 8 = .ok (.ldc 195, 2) := by decide +kernel
theorem dX6_rate_10 : decode cX6_rate 10 = .ok (.ireturn, 1) := by decide +kernel
theorem dX6_rate_11 : decode cX6_rate 11 = .ok (.iload_n 1, 1) := by decide +kernel
theorem dX6_rate_12 : decode cX6_rate 12 = .ok (.tableswitch 76 0 5 #[40, 46, 52, 58, 64, 70], 40) := by decide +kernel
theorem dX6_rate_52 : decode cX6_rate 52 = .ok (.aload_n 0, 1) := by decide +kernel
theorem dX6_rate_53 : decode cX6_rate 53 = .ok (.iload_n 2, 1) := by decide +kernel
theorem dX6_rate_54 : decode cX6_rate 54 = .ok (.invokevirtual 196, 3) := by decide +kernel
theorem dX6_rate_57 : decode cX6_rate 57 = .ok (.ireturn, 1) := by decide +kernel
theorem dX6_rate_58 : decode cX6_rate 58 = .ok (.aload_n 0, 1) := by decide +kernel
theorem dX6_rate_59 : decode cX6_rate 59 = .ok (.iload_n 2, 1) := by decide +kernel
theorem dX6_rate_60 : decode cX6_rate 60 = .ok (.invokevirtual 199, 3) := by decide +kernel
theorem dX6_rate_63 : decode cX6_rate 63 = .ok (.ireturn, 1) := by decide +kernel
theorem dX6_rate_64 : decode cX6_rate 64 = .ok (.aload_n 0, 1) := by decide +kernel
theorem dX6_rate_65 : decode cX6_rate 65 = .ok (.iload_n 2, 1) := by decide +kernel
theorem dX6_rate_66 : decode cX6_rate 66 = .ok (.invokevirtual 202, 3) := by decide +kernel
theorem dX6_rate_69 : decode cX6_rate 69 = .ok (.ireturn, 1) := by decide +kernel
theorem dX6_rate_70 : decode cX6_rate 70 = .ok (.aload_n 0, 1) := by decide +kernel
theorem dX6_rate_71 : decode cX6_rate 71 = .ok (.iload_n 2, 1) := by decide +kernel
theorem dX6_rate_72 : decode cX6_rate 72 = .ok (.invokevirtual 205, 3) := by decide +kernel
theorem dX6_rate_75 : decode cX6_rate 75 = .ok (.ireturn, 1) := by decide +kernel
theorem dX6_rate_76 : decode cX6_rate 76 = .ok (.aload_n 0, 1) := by decide +kernel
theorem dX6_rate_77 : decode cX6_rate 77 = .ok (.iload_n 2, 1) := by decide +kernel
theorem dX6_rate_78 : decode cX6_rate 78 = .ok (.invokevirtual 208, 3) := by decide +kernel
theorem dX6_rate_81 : decode cX6_rate 81 = .ok (.ireturn, 1) := by decide +kernel
theorem dX6_rate_82 : decode cX6_rate 82 = .ok (.aload_n 0, 1) := by decide +kernel
theorem dX6_rate_83 : decode cX6_rate 83 = .ok (.iload_n 2, 1) := by decide +kernel
theorem dX6_rate_84 : decode cX6_rate 84 = .ok (.invokevirtual 211, 3) := by decide +kernel
theorem dX6_rate_87 : decode cX6_rate 87 = .ok (.ireturn, 1) := by decide +kernel
theorem dX6_rate_88 : decode cX6_rate 88 = .ok (.ldc 195, 2) := by decide +kernel
theorem dX6_rate_90 : decode cX6_rate 90 = .ok (.ireturn, 1) := by decide +kernel
theorem dX6_keep_0 : decode cX6_keep 0 = .ok (.iload_n 1, 1) := by decide +kernel
theorem dX6_keep_1 : decode cX6_keep 1 = .ok (.ifCond .lt 8, 3) := by decide +kernel
theorem dX6_keep_4 : decode cX6_keep 4 = .ok (.iload_n 1, 1) := by decide +kernel
theorem dX6_keep_5 : decode cX6_keep 5 = .ok (.iconst 1, 1) := by decide +kernel
theorem dX6_keep_6 : decode cX6_keep 6 = .ok (.if_icmp .le 5, 3) := by decide +kernel
theorem dX6_keep_9 : decode cX6_keep 9 = .ok (.iconst (-1), 1) := by decide +kernel
theorem dX6_keep_10 : decode cX6_keep 10 = .ok (.ireturn, 1) := by decide +kernel
theorem dX6_keep_11 : decode cX6_keep 11 = .ok (.aload_n 0, 1) := by decide +kernel
theorem dX6_keep_12 : decode cX6_keep 12 = .ok (.iload_n 1, 1) := by decide +kernel
theorem dX6_keep_13 : decode cX6_keep 13 = .ok (.invokevirtual 214, 3) := by decide +kernel
theorem dX6_keep_16 : decode cX6_keep 16 = .ok (.astore_n 2, 1) := by decide +kernel
theorem dX6_keep_17 : decode cX6_keep 17 = .ok (.aload_n 2, 1) := by decide +kernel
theorem dX6_keep_18 : decode cX6_keep 18 = .ok (.aload_n 0, 1) := by decide +kernel
theorem dX6_keep_19 : decode cX6_keep 19 = .ok (.getfield 46, 3) := by decide +kernel
theorem dX6_keep_22 : decode cX6_keep 22 = .ok (.invokevirtual 218, 3) := by decide +kernel
theorem dX6_keep_25 : decode cX6_keep 25 = .ok (.aload_n 2, 1) := by decide +kernel
theorem dX6_keep_26 : decode cX6_keep 26 = .ok (.iconst 1, 1) := by decide +kernel
theorem dX6_keep_27 : decode cX6_keep 27 = .ok (.putfield 97, 3) := by decide +kernel
theorem dX6_keep_30 : decode cX6_keep 30 = .ok (.aload_n 0, 1) := by decide +kernel
theorem dX6_keep_31 : decode cX6_keep 31 = .ok (.getfield 46, 3) := by decide +kernel
theorem dX6_keep_34 : decode cX6_keep 34 = .ok (.getfield 158, 3) := by decide +kernel
theorem dX6_keep_37 : decode cX6_keep 37 = .ok (.invokestatic 161, 3) := by decide +kernel
theorem dX6_keep_40 : decode cX6_keep 40 = .ok (.ireturn, 1) := by decide +kernel
theorem dX6_back_0 : decode cX6_back 0 = .ok (.iload_n 1, 1) := by decide +kernel
theorem dX6_back_1 : decode cX6_back 1 = .ok (.ifCond .lt 8, 3) := by decide +kernel
theorem dX6_back_4 : decode cX6_back 4 = .ok (.iload_n 1, 1) := by decide +kernel
theorem dX6_back_5 : decode cX6_back 5 = .ok (.iconst 1, 1) := by decide +kernel
theorem dX6_back_6 : decode cX6_back 6 = .ok (.if_icmp .le 5, 3) := by decide +kernel
theorem dX6_back_9 : decode cX6_back 9 = .ok (.iconst (-1), 1) := by decide +kernel
theorem dX6_back_10 : decode cX6_back 10 = .ok (.ireturn, 1) := by decide +kernel
theorem dX6_back_11 : decode cX6_back 11 = .ok (.aload_n 0, 1) := by decide +kernel
theorem dX6_back_12 : decode cX6_back 12 = .ok (.iload_n 1, 1) := by decide +kernel
theorem dX6_back_13 : decode cX6_back 13 = .ok (.invokevirtual 214, 3) := by decide +kernel
theorem dX6_back_16 : decode cX6_back 16 = .ok (.astore_n 2, 1) := by decide +kernel
theorem dX6_back_17 : decode cX6_back 17 = .ok (.aload_n 2, 1) := by decide +kernel
theorem dX6_back_18 : decode cX6_back 18 = .ok (.getfield 97, 3) := by decide +kernel
theorem dX6_back_21 : decode cX6_back 21 = .ok (.ifCond .ne 6, 3) := by decide +kernel
theorem dX6_back_24 : decode cX6_back 24 = .ok (.bipush (-2), 2) := by decide +kernel
theorem dX6_back_26 : decode cX6_back 26 = .ok (.ireturn, 1) := by decide +kernel
theorem dX6_back_27 : decode cX6_back 27 = .ok (.aload_n 0, 1) := by decide +kernel
theorem dX6_back_28 : decode cX6_back 28 = .ok (.getfield 46, 3) := by decide +kernel
theorem dX6_back_31 : decode cX6_back 31 = .ok (.aload_n 2, 1) := by decide +kernel
theorem dX6_back_32 : decode cX6_back 32 = .ok (.invokevirtual 218, 3) := by decide +kernel
theorem dX6_back_35 : decode cX6_back 35 = .ok (.aload_n 0, 1) := by decide +kernel
theorem dX6_back_36 : decode cX6_back 36 = .ok (.getfield 46, 3) := by decide +kernel
theorem dX6_back_39 : decode cX6_back 39 = .ok (.getfield 158, 3) := by decide +kernel
theorem dX6_back_42 : decode cX6_back 42 = .ok (.invokestatic 161, 3) := by decide +kernel
theorem dX6_back_45 : decode cX6_back 45 = .ok (.ireturn, 1) := by decide +kernel
theorem dX6_count_0 : decode cX6_count 0 = .ok (.iload_n 1, 1) := by decide +kernel
theorem dX6_count_1 : decode cX6_count 1 = .ok (.tableswitch 75 0 4 #[35, 43, 51, 59, 67], 35) := by decide +kernel
theorem dX6_count_36 : decode cX6_count 36 = .ok (.aload_n 0, 1) := by decide +kernel
theorem dX6_count_37 : decode cX6_count 37 = .ok (.getfield 24, 3) := by decide +kernel
theorem dX6_count_40 : decode cX6_count 40 = .ok (.getfield 82, 3) := by decide +kernel
theorem dX6_count_43 : decode cX6_count 43 = .ok (.ireturn, 1) := by decide +kernel
theorem dX6_count_44 : decode cX6_count 44 = .ok (.aload_n 0, 1) := by decide +kernel
theorem dX6_count_45 : decode cX6_count 45 = .ok (.getfield 24, 3) := by decide +kernel
theorem dX6_count_48 : decode cX6_count 48 = .ok (.getfield 85, 3) := by decide +kernel
theorem dX6_count_51 : decode cX6_count 51 = .ok (.ireturn, 1) := by decide +kernel
theorem dX6_count_52 : decode cX6_count 52 = .ok (.aload_n 0, 1) := by decide +kernel
theorem dX6_count_53 : decode cX6_count 53 = .ok (.getfield 24, 3) := by decide +kernel
theorem dX6_count_56 : decode cX6_count 56 = .ok (.getfield 149, 3) := by decide +kernel
theorem dX6_count_59 : decode cX6_count 59 = .ok (.ireturn, 1) := by decide +kernel
theorem dX6_count_60 : decode cX6_count 60 = .ok (.aload_n 0, 1) := by decide +kernel
theorem dX6_count_61 : decode cX6_count 61 = .ok (.getfield 24, 3) := by decide +kernel
theorem dX6_count_64 : decode cX6_count 64 = .ok (.getfield 221, 3) := by decide +kernel
theorem dX6_count_67 : decode cX6_count 67 = .ok (.ireturn, 1) := by decide +kernel
theorem dX6_count_68 : decode cX6_count 68 = .ok (.aload_n 0, 1) := by decide +kernel
theorem dX6_count_69 : decode cX6_count 69 = .ok (.getfield 20, 3) := by decide +kernel
theorem dX6_count_72 : decode cX6_count 72 = .ok (.getfield 60, 3) := by decide +kernel
theorem dX6_count_75 : decode cX6_count 75 = .ok (.ireturn, 1) := by decide +kernel
theorem dX6_count_76 : decode cX6_count 76 = .ok (.iconst (-1), 1) := by decide +kernel
theorem dX6_count_77 : decode cX6_count 77 = .ok (.ireturn, 1) := by decide +kernel
theorem dX6_trace_0 : decode cX6_trace 0 = .ok (.aload_n 0, 1) := by decide +kernel
theorem dX6_trace_1 : decode cX6_trace 1 = .ok (.getfield 56, 3) := by decide +kernel
theorem dX6_trace_4 : decode cX6_trace 4 = .ok (.lreturn, 1) := by decide +kernel
theorem dX6_isCell_0 : decode cX6_isCell 0 = .ok (.iload_n 1, 1) := by decide +kernel
theorem dX6_isCell_1 : decode cX6_isCell 1 = .ok (.ifCond .lt 18, 3) := by decide +kernel
theorem dX6_isCell_4 : decode cX6_isCell 4 = .ok (.iload_n 1, 1) := by decide +kernel
theorem dX6_isCell_5 : decode cX6_isCell 5 = .ok (.aload_n 0, 1) := by decide +kernel
theorem dX6_isCell_6 : decode cX6_isCell 6 = .ok (.getfield 24, 3) := by decide +kernel
theorem dX6_isCell_9 : decode cX6_isCell 9 = .ok (.getfield 224, 3) := by decide +kernel
theorem dX6_isCell_12 : decode cX6_isCell 12 = .ok (.if_icmp .ge 7, 3) := by decide +kernel
theorem dX6_isCell_15 : decode cX6_isCell 15 = .ok (.iconst 1, 1) := by decide +kernel
theorem dX6_isCell_16 : decode cX6_isCell 16 = .ok (.goto 4, 3) := by decide +kernel
theorem dX6_isCell_19 : decode cX6_isCell 19 = .ok (.iconst 0, 1) := by decide +kernel
theorem dX6_isCell_20 : decode cX6_isCell 20 = .ok (.ireturn, 1) := by decide +kernel
theorem dX6_isWalker_0 : decode cX6_isWalker 0 = .ok (.iload_n 1, 1) := by decide +kernel
theorem dX6_isWalker_1 : decode cX6_isWalker 1 = .ok (.ifCond .lt 18, 3) := by decide +kernel
theorem dX6_isWalker_4 : decode cX6_isWalker 4 = .ok (.iload_n 1, 1) := by decide +kernel
theorem dX6_isWalker_5 : decode cX6_isWalker 5 = .ok (.aload_n 0, 1) := by decide +kernel
theorem dX6_isWalker_6 : decode cX6_isWalker 6 = .ok (.getfield 24, 3) := by decide +kernel
theorem dX6_isWalker_9 : decode cX6_isWalker 9 = .ok (.getfield 149, 3) := by decide +kernel
theorem dX6_isWalker_12 : decode cX6_isWalker 12 = .ok (.if_icmp .ge 7, 3) := by decide +kernel
theorem dX6_isWalker_15 : decode cX6_isWalker 15 = .ok (.iconst 1, 1) := by decide +kernel
theorem dX6_isWalker_16 : decode cX6_isWalker 16 = .ok (.goto 4, 3) := by decide +kernel
theorem dX6_isWalker_19 : decode cX6_isWalker 19 = .ok (.iconst 0, 1) := by decide +kernel
theorem dX6_isWalker_20 : decode cX6_isWalker 20 = .ok (.ireturn, 1) := by decide +kernel
theorem dX6_imageOf_0 : decode cX6_imageOf 0 = .ok (.iload_n 1, 1) := by decide +kernel
theorem dX6_imageOf_1 : decode cX6_imageOf 1 = .ok (.ifCond .ne 10, 3) := by decide +kernel
theorem dX6_imageOf_4 : decode cX6_imageOf 4 = .ok (.aload_n 0, 1) := by decide +kernel
theorem dX6_imageOf_5 : decode cX6_imageOf 5 = .ok (.getfield 50, 3) := by decide +kernel
theorem dX6_imageOf_8 : decode cX6_imageOf 8 = .ok (.goto 7, 3) := by decide +kernel
theorem dX6_imageOf_11 : decode cX6_imageOf 11 = .ok (.aload_n 0, 1) := by decide +kernel
theorem dX6_imageOf_12 : decode cX6_imageOf 12 = .ok (.getfield 53, 3) := by decide +kernel
theorem dX6_imageOf_15 : decode cX6_imageOf 15 = .ok (.areturn, 1) := by decide +kernel
theorem dX6_bearing_0 : decode cX6_bearing 0 = .ok (.aload_n 0, 1) := by decide +kernel
theorem dX6_bearing_1 : decode cX6_bearing 1 = .ok (.getfield 42, 3) := by decide +kernel
theorem dX6_bearing_4 : decode cX6_bearing 4 = .ok (.getfield 155, 3) := by decide +kernel
theorem dX6_bearing_7 : decode cX6_bearing 7 = .ok (.aload_n 0, 1) := by decide +kernel
theorem dX6_bearing_8 : decode cX6_bearing 8 = .ok (.getfield 46, 3) := by decide +kernel
theorem dX6_bearing_11 : decode cX6_bearing 11 = .ok (.getfield 138, 3) := by decide +kernel
theorem dX6_bearing_14 : decode cX6_bearing 14 = .ok (.iconst (-1), 1) := by decide +kernel
theorem dX6_bearing_15 : decode cX6_bearing 15 = .ok (.ixor, 1) := by decide +kernel
theorem dX6_bearing_16 : decode cX6_bearing 16 = .ok (.iand, 1) := by decide +kernel
theorem dX6_bearing_17 : decode cX6_bearing 17 = .ok (.ireturn, 1) := by decide +kernel
theorem dX6_stepsOf_0 : decode cX6_stepsOf 0 = .ok (.aload_n 0, 1) := by decide +kernel
theorem dX6_stepsOf_1 : decode cX6_stepsOf 1 = .ok (.getfield 42, 3) := by decide +kernel
theorem dX6_stepsOf_4 : decode cX6_stepsOf 4 = .ok (.aload_n 0, 1) := by decide +kernel
theorem dX6_stepsOf_5 : decode cX6_stepsOf 5 = .ok (.getfield 24, 3) := by decide +kernel
theorem dX6_stepsOf_8 : decode cX6_stepsOf 8 = .ok (.getfield 123, 3) := by decide +kernel
theorem dX6_stepsOf_11 : decode cX6_stepsOf 11 = .ok (.iload_n 1, 1) := by decide +kernel
theorem dX6_stepsOf_12 : decode cX6_stepsOf 12 = .ok (.invokestatic 113, 3) := by decide +kernel
theorem dX6_stepsOf_15 : decode cX6_stepsOf 15 = .ok (.aload_n 0, 1) := by decide +kernel
theorem dX6_stepsOf_16 : decode cX6_stepsOf 16 = .ok (.getfield 24, 3) := by decide +kernel
theorem dX6_stepsOf_19 : decode cX6_stepsOf 19 = .ok (.getfield 126, 3) := by decide +kernel
theorem dX6_stepsOf_22 : decode cX6_stepsOf 22 = .ok (.iload_n 1, 1) := by decide +kernel
theorem dX6_stepsOf_23 : decode cX6_stepsOf 23 = .ok (.invokestatic 113, 3) := by decide +kernel
theorem dX6_stepsOf_26 : decode cX6_stepsOf 26 = .ok (.aload_n 0, 1) := by decide +kernel
theorem dX6_stepsOf_27 : decode cX6_stepsOf 27 = .ok (.invokevirtual 169, 3) := by decide +kernel
theorem dX6_stepsOf_30 : decode cX6_stepsOf 30 = .ok (.invokevirtual 172, 3) := by decide +kernel
theorem dX6_stepsOf_33 : decode cX6_stepsOf 33 = .ok (.ireturn, 1) := by decide +kernel
theorem dX6_likedBy_0 : decode cX6_likedBy 0 = .ok (.aload_n 0, 1) := by decide +kernel
theorem dX6_likedBy_1 : decode cX6_likedBy 1 = .ok (.getfield 34, 3) := by decide +kernel
theorem dX6_likedBy_4 : decode cX6_likedBy 4 = .ok (.aload_n 0, 1) := by decide +kernel
theorem dX6_likedBy_5 : decode cX6_likedBy 5 = .ok (.getfield 24, 3) := by decide +kernel
theorem dX6_likedBy_8 : decode cX6_likedBy 8 = .ok (.getfield 123, 3) := by decide +kernel
theorem dX6_likedBy_11 : decode cX6_likedBy 11 = .ok (.iload_n 1, 1) := by decide +kernel
theorem dX6_likedBy_12 : decode cX6_likedBy 12 = .ok (.invokestatic 113, 3) := by decide +kernel
theorem dX6_likedBy_15 : decode cX6_likedBy 15 = .ok (.aload_n 0, 1) := by decide +kernel
theorem dX6_likedBy_16 : decode cX6_likedBy 16 = .ok (.getfield 24, 3) := by decide +kernel
theorem dX6_likedBy_19 : decode cX6_likedBy 19 = .ok (.getfield 126, 3) := by decide +kernel
theorem dX6_likedBy_22 : decode cX6_likedBy 22 = .ok (.iload_n 1, 1) := by decide +kernel
theorem dX6_likedBy_23 : decode cX6_likedBy 23 = .ok (.invokestatic 113, 3) := by decide +kernel
theorem dX6_likedBy_26 : decode cX6_likedBy 26 = .ok (.aload_n 0, 1) := by decide +kernel
theorem dX6_likedBy_27 : decode cX6_likedBy 27 = .ok (.invokevirtual 169, 3) := by decide +kernel
theorem dX6_likedBy_30 : decode cX6_likedBy 30 = .ok (.aload_n 0, 1) := by decide +kernel
theorem dX6_likedBy_31 : decode cX6_likedBy 31 = .ok (.getfield 46, 3) := by decide +kernel
theorem dX6_likedBy_34 : decode cX6_likedBy 34 = .ok (.getfield 138, 3) := by decide +kernel
theorem dX6_likedBy_37 : decode cX6_likedBy 37 = .ok (.invokevirtual 227, 3) := by decide +kernel
theorem dX6_likedBy_40 : decode cX6_likedBy 40 = .ok (.ireturn, 1) := by decide +kernel
theorem dX6_goAndLay_0 : decode cX6_goAndLay 0 = .ok (.aload_n 0, 1) := by decide +kernel
theorem dX6_goAndLay_1 : decode cX6_goAndLay 1 = .ok (.invokevirtual 169, 3) := by decide +kernel
theorem dX6_goAndLay_4 : decode cX6_goAndLay 4 = .ok (.istore_n 3, 1) := by decide +kernel
theorem dX6_goAndLay_5 : decode cX6_goAndLay 5 = .ok (.aload_n 0, 1) := by decide +kernel
theorem dX6_goAndLay_6 : decode cX6_goAndLay 6 = .ok (.getfield 24, 3) := by decide +kernel
theorem dX6_goAndLay_9 : decode cX6_goAndLay 9 = .ok (.getfield 123, 3) := by decide +kernel
theorem dX6_goAndLay_12 : decode cX6_goAndLay 12 = .ok (.iload_n 1, 1) := by decide +kernel
theorem dX6_goAndLay_13 : decode cX6_goAndLay 13 = .ok (.invokestatic 113, 3) := by decide +kernel
theorem dX6_goAndLay_16 : decode cX6_goAndLay 16 = .ok (.istore 4, 2) := by decide +kernel
theorem dX6_goAndLay_18 : decode cX6_goAndLay 18 = .ok (.aload_n 0, 1) := by decide +kernel
theorem dX6_goAndLay_19 : decode cX6_goAndLay 19 = .ok (.getfield 24, 3) := by decide +kernel
theorem dX6_goAndLay_22 : decode cX6_goAndLay 22 = .ok (.getfield 126, 3) := by decide +kernel
theorem dX6_goAndLay_25 : decode cX6_goAndLay 25 = .ok (.iload_n 1, 1) := by decide +kernel
theorem dX6_goAndLay_26 : decode cX6_goAndLay 26 = .ok (.invokestatic 113, 3) := by decide +kernel
theorem dX6_goAndLay_29 : decode cX6_goAndLay 29 = .ok (.istore 5, 2) := by decide +kernel
theorem dX6_goAndLay_31 : decode cX6_goAndLay 31 = .ok (.aload_n 0, 1) := by decide +kernel
theorem dX6_goAndLay_32 : decode cX6_goAndLay 32 = .ok (.getfield 42, 3) := by decide +kernel
theorem dX6_goAndLay_35 : decode cX6_goAndLay 35 = .ok (.iload 4, 2) := by decide +kernel
theorem dX6_goAndLay_37 : decode cX6_goAndLay 37 = .ok (.iload 5, 2) := by decide +kernel
theorem dX6_goAndLay_39 : decode cX6_goAndLay 39 = .ok (.iload_n 3, 1) := by decide +kernel
theorem dX6_goAndLay_40 : decode cX6_goAndLay 40 = .ok (.invokevirtual 172, 3) := by decide +kernel
theorem dX6_goAndLay_43 : decode cX6_goAndLay 43 = .ok (.istore 6, 2) := by decide +kernel
theorem dX6_goAndLay_45 : decode cX6_goAndLay 45 = .ok (.iconst 0, 1) := by decide +kernel
theorem dX6_goAndLay_46 : decode cX6_goAndLay 46 = .ok (.istore 7, 2) := by decide +kernel
theorem dX6_goAndLay_48 : decode cX6_goAndLay 48 = .ok (.iload 7, 2) := by decide +kernel
theorem dX6_goAndLay_50 : decode cX6_goAndLay 50 = .ok (.iload 6, 2) := by decide +kernel
theorem dX6_goAndLay_52 : decode cX6_goAndLay 52 = .ok (.if_icmp .ge 32, 3) := by decide +kernel
theorem dX6_goAndLay_55 : decode cX6_goAndLay 55 = .ok (.aload_n 0, 1) := by decide +kernel
theorem dX6_goAndLay_56 : decode cX6_goAndLay 56 = .ok (.getfield 42, 3) := by decide +kernel
theorem dX6_goAndLay_59 : decode cX6_goAndLay 59 = .ok (.iload 4, 2) := by decide +kernel
theorem dX6_goAndLay_61 : decode cX6_goAndLay 61 = .ok (.iload 5, 2) := by decide +kernel
theorem dX6_goAndLay_63 : decode cX6_goAndLay 63 = .ok (.iload_n 3, 1) := by decide +kernel
theorem dX6_goAndLay_64 : decode cX6_goAndLay 64 = .ok (.invokevirtual 176, 3) := by decide +kernel
theorem dX6_goAndLay_67 : decode cX6_goAndLay 67 = .ok (.istore 4, 2) := by decide +kernel
theorem dX6_goAndLay_69 : decode cX6_goAndLay 69 = .ok (.aload_n 0, 1) := by decide +kernel
theorem dX6_goAndLay_70 : decode cX6_goAndLay 70 = .ok (.getfield 46, 3) := by decide +kernel
theorem dX6_goAndLay_73 : decode cX6_goAndLay 73 = .ok (.iload 4, 2) := by decide +kernel
theorem dX6_goAndLay_75 : decode cX6_goAndLay 75 = .ok (.invokevirtual 230, 3) := by decide +kernel
theorem dX6_goAndLay_78 : decode cX6_goAndLay 78 = .ok (.iinc 7 1, 3) := by decide +kernel
theorem dX6_goAndLay_81 : decode cX6_goAndLay 81 = .ok (.goto (-33), 3) := by decide +kernel
theorem dX6_goAndLay_84 : decode cX6_goAndLay 84 = .ok (.aload_n 0, 1) := by decide +kernel
theorem dX6_goAndLay_85 : decode cX6_goAndLay 85 = .ok (.getfield 46, 3) := by decide +kernel
theorem dX6_goAndLay_88 : decode cX6_goAndLay 88 = .ok (.iload_n 1, 1) := by decide +kernel
theorem dX6_goAndLay_89 : decode cX6_goAndLay 89 = .ok (.iload_n 2, 1) := by decide +kernel
theorem dX6_goAndLay_90 : decode cX6_goAndLay 90 = .ok (.aload_n 0, 1) := by decide +kernel
theorem dX6_goAndLay_91 : decode cX6_goAndLay 91 = .ok (.getfield 24, 3) := by decide +kernel
theorem dX6_goAndLay_94 : decode cX6_goAndLay 94 = .ok (.getfield 221, 3) := by decide +kernel
theorem dX6_goAndLay_97 : decode cX6_goAndLay 97 = .ok (.invokevirtual 233, 3) := by decide +kernel
theorem dX6_goAndLay_100 : decode cX6_goAndLay 100 = .ok (.iload 6, 2) := by decide +kernel
theorem dX6_goAndLay_102 : decode cX6_goAndLay 102 = .ok (.ireturn, 1) := by decide +kernel
theorem dX6_rateWalker_0 : decode cX6_rateWalker 0 = .ok (.aload_n 0, 1) := by decide +kernel
theorem dX6_rateWalker_1 : decode cX6_rateWalker 1 = .ok (.dup, 1) := by decide +kernel
theorem dX6_rateWalker_2 : decode cX6_rateWalker 2 = .ok (.getfield 56, 3) := by decide +kernel
theorem dX6_rateWalker_5 : decode cX6_rateWalker 5 = .ok (.lconst 1, 1) := by decide +kernel
theorem dX6_rateWalker_6 : decode cX6_rateWalker 6 = .ok (.ladd, 1) := by decide +kernel
theorem dX6_rateWalker_7 : decode cX6_rateWalker 7 = .ok (.putfield 56, 3) := by decide +kernel
theorem dX6_rateWalker_10 : decode cX6_rateWalker 10 = .ok (.aload_n 0, 1) := by decide +kernel
theorem dX6_rateWalker_11 : decode cX6_rateWalker 11 = .ok (.iload_n 1, 1) := by decide +kernel
theorem dX6_rateWalker_12 : decode cX6_rateWalker 12 = .ok (.invokevirtual 135, 3) := by decide +kernel
theorem dX6_rateWalker_15 : decode cX6_rateWalker 15 = .ok (.iconst 0, 1) := by decide +kernel
theorem dX6_rateWalker_16 : decode cX6_rateWalker 16 = .ok (.invokestatic 237, 3) := by decide +kernel
theorem dX6_rateWalker_19 : decode cX6_rateWalker 19 = .ok (.ireturn, 1) := by decide +kernel
theorem dX6_ratePilgrim_0 : decode cX6_ratePilgrim 0 = .ok (.aload_n 0, 1) := by decide +kernel
theorem dX6_ratePilgrim_1 : decode cX6_ratePilgrim 1 = .ok (.dup, 1) := by decide +kernel
theorem dX6_ratePilgrim_2 : decode cX6_ratePilgrim 2 = .ok (.getfield 56, 3) := by decide +kernel
theorem dX6_ratePilgrim_5 : decode cX6_ratePilgrim 5 = .ok (.ldc2_w 242, 3) := by decide +kernel
theorem dX6_ratePilgrim_8 : decode cX6_ratePilgrim 8 = .ok (.ladd, 1) := by decide +kernel
theorem dX6_ratePilgrim_9 : decode cX6_ratePilgrim 9 = .ok (.putfield 56, 3) := by decide +kernel
theorem dX6_ratePilgrim_12 : decode cX6_ratePilgrim 12 = .ok (.aload_n 0, 1) := by decide +kernel
theorem dX6_ratePilgrim_13 : decode cX6_ratePilgrim 13 = .ok (.iload_n 1, 1) := by decide +kernel
theorem dX6_ratePilgrim_14 : decode cX6_ratePilgrim 14 = .ok (.invokevirtual 196, 3) := by decide +kernel
theorem dX6_ratePilgrim_17 : decode cX6_ratePilgrim 17 = .ok (.aload_n 0, 1) := by decide +kernel
theorem dX6_ratePilgrim_18 : decode cX6_ratePilgrim 18 = .ok (.getfield 46, 3) := by decide +kernel
theorem dX6_ratePilgrim_21 : decode cX6_ratePilgrim 21 = .ok (.getfield 129, 3) := by decide +kernel
theorem dX6_ratePilgrim_24 : decode cX6_ratePilgrim 24 = .ok (.iload_n 1, 1) := by decide +kernel
theorem dX6_ratePilgrim_25 : decode cX6_ratePilgrim 25 = .ok (.invokestatic 113, 3) := by decide +kernel
theorem dX6_ratePilgrim_28 : decode cX6_ratePilgrim 28 = .ok (.iadd, 1) := by decide +kernel
theorem dX6_ratePilgrim_29 : decode cX6_ratePilgrim 29 = .ok (.ireturn, 1) := by decide +kernel
theorem dX6_rateShepherd_0 : decode cX6_rateShepherd 0 = .ok (.aload_n 0, 1) := by decide +kernel
theorem dX6_rateShepherd_1 : decode cX6_rateShepherd 1 = .ok (.dup, 1) := by decide +kernel
theorem dX6_rateShepherd_2 : decode cX6_rateShepherd 2 = .ok (.getfield 56, 3) := by decide +kernel
theorem dX6_rateShepherd_5 : decode cX6_rateShepherd 5 = .ok (.ldc2_w 244, 3) := by decide +kernel
theorem dX6_rateShepherd_8 : decode cX6_rateShepherd 8 = .ok (.ladd, 1) := by decide +kernel
theorem dX6_rateShepherd_9 : decode cX6_rateShepherd 9 = .ok (.putfield 56, 3) := by decide +kernel
theorem dX6_rateShepherd_12 : decode cX6_rateShepherd 12 = .ok (.aload_n 0, 1) := by decide +kernel
theorem dX6_rateShepherd_13 : decode cX6_rateShepherd 13 = .ok (.iload_n 1, 1) := by decide +kernel
theorem dX6_rateShepherd_14 : decode cX6_rateShepherd 14 = .ok (.invokevirtual 196, 3) := by decide +kernel
theorem dX6_rateShepherd_17 : decode cX6_rateShepherd 17 = .ok (.aload_n 0, 1) := by decide +kernel
theorem dX6_rateShepherd_18 : decode cX6_rateShepherd 18 = .ok (.getfield 46, 3) := by decide +kernel
theorem dX6_rateShepherd_21 : decode cX6_rateShepherd 21 = .ok (.iload_n 1, 1) := by decide +kernel
theorem dX6_rateShepherd_22 : decode cX6_rateShepherd 22 = .ok (.invokevirtual 132, 3) := by decide +kernel
theorem dX6_rateShepherd_25 : decode cX6_rateShepherd 25 = .ok (.isub, 1) := by decide +kernel
theorem dX6_rateShepherd_26 : decode cX6_rateShepherd 26 = .ok (.ireturn, 1) := by decide +kernel
theorem dX6_rateMonk_0 : decode cX6_rateMonk 0 = .ok (.aload_n 0, 1) := by decide +kernel
theorem dX6_rateMonk_1 : decode cX6_rateMonk 1 = .ok (.dup, 1) := by decide +kernel
theorem dX6_rateMonk_2 : decode cX6_rateMonk 2 = .ok (.getfield 56, 3) := by decide +kernel
theorem dX6_rateMonk_5 : decode cX6_rateMonk 5 = .ok (.ldc2_w 246, 3) := by decide +kernel
theorem dX6_rateMonk_8 : decode cX6_rateMonk 8 = .ok (.ladd, 1) := by decide +kernel
theorem dX6_rateMonk_9 : decode cX6_rateMonk 9 = .ok (.putfield 56, 3) := by decide +kernel
theorem dX6_rateMonk_12 : decode cX6_rateMonk 12 = .ok (.iconst 2, 1) := by decide +kernel
theorem dX6_rateMonk_13 : decode cX6_rateMonk 13 = .ok (.aload_n 0, 1) := by decide +kernel
theorem dX6_rateMonk_14 : decode cX6_rateMonk 14 = .ok (.iload_n 1, 1) := by decide +kernel
theorem dX6_rateMonk_15 : decode cX6_rateMonk 15 = .ok (.invokevirtual 199, 3) := by decide +kernel
theorem dX6_rateMonk_18 : decode cX6_rateMonk 18 = .ok (.imul, 1) := by decide +kernel
theorem dX6_rateMonk_19 : decode cX6_rateMonk 19 = .ok (.ireturn, 1) := by decide +kernel
theorem dX6_rateThief_0 : decode cX6_rateThief 0 = .ok (.aload_n 0, 1) := by decide +kernel
theorem dX6_rateThief_1 : decode cX6_rateThief 1 = .ok (.dup, 1) := by decide +kernel
theorem dX6_rateThief_2 : decode cX6_rateThief 2 = .ok (.getfield 56, 3) := by decide +kernel
theorem dX6_rateThief_5 : decode cX6_rateThief 5 = .ok (.ldc2_w 248, 3) := by decide +kernel
theorem dX6_rateThief_8 : decode cX6_rateThief 8 = .ok (.ladd, 1) := by decide +kernel
theorem dX6_rateThief_9 : decode cX6_rateThief 9 = .ok (.putfield 56, 3) := by decide +kernel
theorem dX6_rateThief_12 : decode cX6_rateThief 12 = .ok (.aload_n 0, 1) := by decide +kernel
theorem dX6_rateThief_13 : decode cX6_rateThief 13 = .ok (.iload_n 1, 1) := by decide +kernel
theorem dX6_rateThief_14 : decode cX6_rateThief 14 = .ok (.invokevirtual 202, 3) := by decide +kernel
theorem dX6_rateThief_17 : decode cX6_rateThief 17 = .ok (.iload_n 1, 1) := by decide +kernel
theorem dX6_rateThief_18 : decode cX6_rateThief 18 = .ok (.iadd, 1) := by decide +kernel
theorem dX6_rateThief_19 : decode cX6_rateThief 19 = .ok (.ireturn, 1) := by decide +kernel
theorem dX6_rateChild_0 : decode cX6_rateChild 0 = .ok (.aload_n 0, 1) := by decide +kernel
theorem dX6_rateChild_1 : decode cX6_rateChild 1 = .ok (.dup, 1) := by decide +kernel
theorem dX6_rateChild_2 : decode cX6_rateChild 2 = .ok (.getfield 56, 3) := by decide +kernel
theorem dX6_rateChild_5 : decode cX6_rateChild 5 = .ok (.ldc2_w 250, 3) := by decide +kernel
theorem dX6_rateChild_8 : decode cX6_rateChild 8 = .ok (.ladd, 1) := by decide +kernel
theorem dX6_rateChild_9 : decode cX6_rateChild 9 = .ok (.putfield 56, 3) := by decide +kernel
theorem dX6_rateChild_12 : decode cX6_rateChild 12 = .ok (.aload_n 0, 1) := by decide +kernel
theorem dX6_rateChild_13 : decode cX6_rateChild 13 = .ok (.iload_n 1, 1) := by decide +kernel
theorem dX6_rateChild_14 : decode cX6_rateChild 14 = .ok (.invokevirtual 196, 3) := by decide +kernel
theorem dX6_rateChild_17 : decode cX6_rateChild 17 = .ok (.aload_n 0, 1) := by decide +kernel
theorem dX6_rateChild_18 : decode cX6_rateChild 18 = .ok (.getfield 42, 3) := by decide +kernel
theorem dX6_rateChild_21 : decode cX6_rateChild 21 = .ok (.aload_n 0, 1) := by decide +kernel
theorem dX6_rateChild_22 : decode cX6_rateChild 22 = .ok (.getfield 24, 3) := by decide +kernel
theorem dX6_rateChild_25 : decode cX6_rateChild 25 = .ok (.getfield 123, 3) := by decide +kernel
theorem dX6_rateChild_28 : decode cX6_rateChild 28 = .ok (.iload_n 1, 1) := by decide +kernel
theorem dX6_rateChild_29 : decode cX6_rateChild 29 = .ok (.invokestatic 113, 3) := by decide +kernel
theorem dX6_rateChild_32 : decode cX6_rateChild 32 = .ok (.aload_n 0, 1) := by decide +kernel
theorem dX6_rateChild_33 : decode cX6_rateChild 33 = .ok (.getfield 24, 3) := by decide +kernel
theorem dX6_rateChild_36 : decode cX6_rateChild 36 = .ok (.getfield 126, 3) := by decide +kernel
theorem dX6_rateChild_39 : decode cX6_rateChild 39 = .ok (.iload_n 1, 1) := by decide +kernel
theorem dX6_rateChild_40 : decode cX6_rateChild 40 = .ok (.invokestatic 113, 3) := by decide +kernel
theorem dX6_rateChild_43 : decode cX6_rateChild 43 = .ok (.aload_n 0, 1) := by decide +kernel
theorem dX6_rateChild_44 : decode cX6_rateChild 44 = .ok (.invokevirtual 169, 3) := by decide +kernel
theorem dX6_rateChild_47 : decode cX6_rateChild 47 = .ok (.invokevirtual 179, 3) := by decide +kernel
theorem dX6_rateChild_50 : decode cX6_rateChild 50 = .ok (.iadd, 1) := by decide +kernel
theorem dX6_rateChild_51 : decode cX6_rateChild 51 = .ok (.ireturn, 1) := by decide +kernel
theorem dX6_at_0 : decode cX6_at 0 = .ok (.iload_n 1, 1) := by decide +kernel
theorem dX6_at_1 : decode cX6_at 1 = .ok (.ifCond .lt 15, 3) := by decide +kernel
theorem dX6_at_4 : decode cX6_at 4 = .ok (.iload_n 1, 1) := by decide +kernel
theorem dX6_at_5 : decode cX6_at 5 = .ok (.aload_n 0, 1) := by decide +kernel
theorem dX6_at_6 : decode cX6_at 6 = .ok (.arraylength, 1) := by decide +kernel
theorem dX6_at_7 : decode cX6_at 7 = .ok (.if_icmp .ge 9, 3) := by decide +kernel
theorem dX6_at_10 : decode cX6_at 10 = .ok (.aload_n 0, 1) := by decide +kernel
theorem dX6_at_11 : decode cX6_at 11 = .ok (.iload_n 1, 1) := by decide +kernel
theorem dX6_at_12 : decode cX6_at 12 = .ok (.iaload, 1) := by decide +kernel
theorem dX6_at_13 : decode cX6_at 13 = .ok (.goto 4, 3) := by decide +kernel
theorem dX6_at_16 : decode cX6_at 16 = .ok (.iconst 0, 1) := by decide +kernel
theorem dX6_at_17 : decode cX6_at 17 = .ok (.ireturn, 1) := by decide +kernel
theorem dX6_put_0 : decode cX6_put 0 = .ok (.iload_n 1, 1) := by decide +kernel
theorem dX6_put_1 : decode cX6_put 1 = .ok (.ifCond .lt 13, 3) := by decide +kernel
theorem dX6_put_4 : decode cX6_put 4 = .ok (.iload_n 1, 1) := by decide +kernel
theorem dX6_put_5 : decode cX6_put 5 = .ok (.aload_n 0, 1) := by decide +kernel
theorem dX6_put_6 : decode cX6_put 6 = .ok (.arraylength, 1) := by decide +kernel
theorem dX6_put_7 : decode cX6_put 7 = .ok (.if_icmp .ge 7, 3) := by decide +kernel
theorem dX6_put_10 : decode cX6_put 10 = .ok (.aload_n 0, 1) := by decide +kernel
theorem dX6_put_11 : decode cX6_put 11 = .ok (.iload_n 1, 1) := by decide +kernel
theorem dX6_put_12 : decode cX6_put 12 = .ok (.iload_n 2, 1) := by decide +kernel
theorem dX6_put_13 : decode cX6_put 13 = .ok (.iastore, 1) := by decide +kernel
theorem dX6_put_14 : decode cX6_put 14 = .ok (.return_, 1) := by decide +kernel
theorem dX6_copyRow_0 : decode cX6_copyRow 0 = .ok (.aload_n 0, 1) := by decide +kernel
theorem dX6_copyRow_1 : decode cX6_copyRow 1 = .ok (.iconst 0, 1) := by decide +kernel
theorem dX6_copyRow_2 : decode cX6_copyRow 2 = .ok (.aload_n 1, 1) := by decide +kernel
theorem dX6_copyRow_3 : decode cX6_copyRow 3 = .ok (.iconst 0, 1) := by decide +kernel
theorem dX6_copyRow_4 : decode cX6_copyRow 4 = .ok (.aload_n 0, 1) := by decide +kernel
theorem dX6_copyRow_5 : decode cX6_copyRow 5 = .ok (.arraylength, 1) := by decide +kernel
theorem dX6_copyRow_6 : decode cX6_copyRow 6 = .ok (.aload_n 1, 1) := by decide +kernel
theorem dX6_copyRow_7 : decode cX6_copyRow 7 = .ok (.arraylength, 1) := by decide +kernel
theorem dX6_copyRow_8 : decode cX6_copyRow 8 = .ok (.invokestatic 252, 3) := by decide +kernel
theorem dX6_copyRow_11 : decode cX6_copyRow 11 = .ok (.invokestatic 255, 3) := by decide +kernel
theorem dX6_copyRow_14 : decode cX6_copyRow 14 = .ok (.return_, 1) := by decide +kernel
theorem dX6_has_0 : decode cX6_has 0 = .ok (.iload_n 0, 1) := by decide +kernel
theorem dX6_has_1 : decode cX6_has 1 = .ok (.iconst 1, 1) := by decide +kernel
theorem dX6_has_2 : decode cX6_has 2 = .ok (.iload_n 1, 1) := by decide +kernel
theorem dX6_has_3 : decode cX6_has 3 = .ok (.ishl, 1) := by decide +kernel
theorem dX6_has_4 : decode cX6_has 4 = .ok (.iand, 1) := by decide +kernel
theorem dX6_has_5 : decode cX6_has 5 = .ok (.ifCond .eq 7, 3) := by decide +kernel
theorem dX6_has_8 : decode cX6_has 8 = .ok (.iconst 1, 1) := by decide +kernel
theorem dX6_has_9 : decode cX6_has 9 = .ok (.goto 4, 3) := by decide +kernel
theorem dX6_has_12 : decode cX6_has 12 = .ok (.iconst 0, 1) := by decide +kernel
theorem dX6_has_13 : decode cX6_has 13 = .ok (.ireturn, 1) := by decide +kernel
theorem dJ6_bitCount_0f7a4_0 : decode cJ6_bitCount_0f7a4 0 = .ok (.iload_n 0, 1) := by decide +kernel
theorem dJ6_bitCount_0f7a4_1 : decode cJ6_bitCount_0f7a4 1 = .ok (.iload_n 0, 1) := by decide +kernel
theorem dJ6_bitCount_0f7a4_2 : decode cJ6_bitCount_0f7a4 2 = .ok (.iconst 1, 1) := by decide +kernel
theorem dJ6_bitCount_0f7a4_3 : decode cJ6_bitCount_0f7a4 3 = .ok (.iushr, 1) := by decide +kernel
theorem dJ6_bitCount_0f7a4_4 : decode cJ6_bitCount_0f7a4 4 = .ok (.ldc_w 265, 3) := by decide +kernel
theorem dJ6_bitCount_0f7a4_7 : decode cJ6_bitCount_0f7a4 7 = .ok (.iand, 1) := by decide +kernel
theorem dJ6_bitCount_0f7a4_8 : decode cJ6_bitCount_0f7a4 8 = .ok (.isub, 1) := by decide +kernel
theorem dJ6_bitCount_0f7a4_9 : decode cJ6_bitCount_0f7a4 9 = .ok (.istore_n 0, 1) := by decide +kernel
theorem dJ6_bitCount_0f7a4_10 : decode cJ6_bitCount_0f7a4 10 = .ok (.iload_n 0, 1) := by decide +kernel
theorem dJ6_bitCount_0f7a4_11 : decode cJ6_bitCount_0f7a4 11 = .ok (.ldc_w 266, 3) := by decide +kernel
theorem dJ6_bitCount_0f7a4_14 : decode cJ6_bitCount_0f7a4 14 = .ok (.iand, 1) := by decide +kernel
theorem dJ6_bitCount_0f7a4_15 : decode cJ6_bitCount_0f7a4 15 = .ok (.iload_n 0, 1) := by decide +kernel
theorem dJ6_bitCount_0f7a4_16 : decode cJ6_bitCount_0f7a4 16 = .ok (.iconst 2, 1) := by decide +kernel
theorem dJ6_bitCount_0f7a4_17 : decode cJ6_bitCount_0f7a4 17 = .ok (.iushr, 1) := by decide +kernel
theorem dJ6_bitCount_0f7a4_18 : decode cJ6_bitCount_0f7a4 18 = .ok (.ldc_w 266, 3) := by decide +kernel
theorem dJ6_bitCount_0f7a4_21 : decode cJ6_bitCount_0f7a4 21 = .ok (.iand, 1) := by decide +kernel
theorem dJ6_bitCount_0f7a4_22 : decode cJ6_bitCount_0f7a4 22 = .ok (.iadd, 1) := by decide +kernel
theorem dJ6_bitCount_0f7a4_23 : decode cJ6_bitCount_0f7a4 23 = .ok (.istore_n 0, 1) := by decide +kernel
theorem dJ6_bitCount_0f7a4_24 : decode cJ6_bitCount_0f7a4 24 = .ok (.iload_n 0, 1) := by decide +kernel
theorem dJ6_bitCount_0f7a4_25 : decode cJ6_bitCount_0f7a4 25 = .ok (.iload_n 0, 1) := by decide +kernel
theorem dJ6_bitCount_0f7a4_26 : decode cJ6_bitCount_0f7a4 26 = .ok (.iconst 4, 1) := by decide +kernel
theorem dJ6_bitCount_0f7a4_27 : decode cJ6_bitCount_0f7a4 27 = .ok (.iushr, 1) := by decide +kernel
theorem dJ6_bitCount_0f7a4_28 : decode cJ6_bitCount_0f7a4 28 = .ok (.iadd, 1) := by decide +kernel
theorem dJ6_bitCount_0f7a4_29 : decode cJ6_bitCount_0f7a4 29 = .ok (.ldc_w 267, 3) := by decide +kernel
theorem dJ6_bitCount_0f7a4_32 : decode cJ6_bitCount_0f7a4 32 = .ok (.iand, 1) := by decide +kernel
theorem dJ6_bitCount_0f7a4_33 : decode cJ6_bitCount_0f7a4 33 = .ok (.istore_n 0, 1) := by decide +kernel
theorem dJ6_bitCount_0f7a4_34 : decode cJ6_bitCount_0f7a4 34 = .ok (.iload_n 0, 1) := by decide +kernel
theorem dJ6_bitCount_0f7a4_35 : decode cJ6_bitCount_0f7a4 35 = .ok (.iload_n 0, 1) := by decide +kernel
theorem dJ6_bitCount_0f7a4_36 : decode cJ6_bitCount_0f7a4 36 = .ok (.bipush 8, 2) := by decide +kernel
theorem dJ6_bitCount_0f7a4_38 : decode cJ6_bitCount_0f7a4 38 = .ok (.iushr, 1) := by decide +kernel
theorem dJ6_bitCount_0f7a4_39 : decode cJ6_bitCount_0f7a4 39 = .ok (.iadd, 1) := by decide +kernel
theorem dJ6_bitCount_0f7a4_40 : decode cJ6_bitCount_0f7a4 40 = .ok (.istore_n 0, 1) := by decide +kernel
theorem dJ6_bitCount_0f7a4_41 : decode cJ6_bitCount_0f7a4 41 = .ok (.iload_n 0, 1) := by decide +kernel
theorem dJ6_bitCount_0f7a4_42 : decode cJ6_bitCount_0f7a4 42 = .ok (.iload_n 0, 1) := by decide +kernel
theorem dJ6_bitCount_0f7a4_43 : decode cJ6_bitCount_0f7a4 43 = .ok (.bipush 16, 2) := by decide +kernel
theorem dJ6_bitCount_0f7a4_45 : decode cJ6_bitCount_0f7a4 45 = .ok (.iushr, 1) := by decide +kernel
theorem dJ6_bitCount_0f7a4_46 : decode cJ6_bitCount_0f7a4 46 = .ok (.iadd, 1) := by decide +kernel
theorem dJ6_bitCount_0f7a4_47 : decode cJ6_bitCount_0f7a4 47 = .ok (.istore_n 0, 1) := by decide +kernel
theorem dJ6_bitCount_0f7a4_48 : decode cJ6_bitCount_0f7a4 48 = .ok (.iload_n 0, 1) := by decide +kernel
theorem dJ6_bitCount_0f7a4_49 : decode cJ6_bitCount_0f7a4 49 = .ok (.bipush 63, 2) := by decide +kernel
theorem dJ6_bitCount_0f7a4_51 : decode cJ6_bitCount_0f7a4 51 = .ok (.iand, 1) := by decide +kernel
theorem dJ6_bitCount_0f7a4_52 : decode cJ6_bitCount_0f7a4 52 = .ok (.ireturn, 1) := by decide +kernel
theorem dJ9_max_7cf53_0 : decode cJ9_max_7cf53 0 = .ok (.iload_n 0, 1) := by decide +kernel
theorem dJ9_max_7cf53_1 : decode cJ9_max_7cf53 1 = .ok (.iload_n 1, 1) := by decide +kernel
theorem dJ9_max_7cf53_2 : decode cJ9_max_7cf53 2 = .ok (.if_icmp .lt 7, 3) := by decide +kernel
theorem dJ9_max_7cf53_5 : decode cJ9_max_7cf53 5 = .ok (.iload_n 0, 1) := by decide +kernel
theorem dJ9_max_7cf53_6 : decode cJ9_max_7cf53 6 = .ok (.goto 4, 3) := by decide +kernel
theorem dJ9_max_7cf53_9 : decode cJ9_max_7cf53 9 = .ok (.iload_n 1, 1) := by decide +kernel
theorem dJ9_max_7cf53_10 : decode cJ9_max_7cf53 10 = .ok (.ireturn, 1) := by decide +kernel
theorem dJ9_min_7cf53_0 : decode cJ9_min_7cf53 0 = .ok (.iload_n 0, 1) := by decide +kernel
theorem dJ9_min_7cf53_1 : decode cJ9_min_7cf53 1 = .ok (.iload_n 1, 1) := by decide +kernel
theorem dJ9_min_7cf53_2 : decode cJ9_min_7cf53 2 = .ok (.if_icmp .gt 7, 3) := by decide +kernel
theorem dJ9_min_7cf53_5 : decode cJ9_min_7cf53 5 = .ok (.iload_n 0, 1) := by decide +kernel
theorem dJ9_min_7cf53_6 : decode cJ9_min_7cf53 6 = .ok (.goto 4, 3) := by decide +kernel
theorem dJ9_min_7cf53_9 : decode cJ9_min_7cf53 9 = .ok (.iload_n 1, 1) := by decide +kernel
theorem dJ9_min_7cf53_10 : decode cJ9_min_7cf53 10 = .ok (.ireturn, 1) := by decide +kernel
theorem dJ0_length_8abf5_0 : decode cJ0_length_8abf5 0 = .ok (.aload_n 0, 1) := by decide +kernel
theorem dJ0_length_8abf5_1 : decode cJ0_length_8abf5 1 = .ok (.getfield 9, 3) := by decide +kernel
theorem dJ0_length_8abf5_4 : decode cJ0_length_8abf5 4 = .ok (.arraylength, 1) := by decide +kernel
theorem dJ0_length_8abf5_5 : decode cJ0_length_8abf5 5 = .ok (.aload_n 0, 1) := by decide +kernel
theorem dJ0_length_8abf5_6 : decode cJ0_length_8abf5 6 = .ok (.invokevirtual 335, 3) := by decide +kernel
theorem dJ0_length_8abf5_9 : decode cJ0_length_8abf5 9 = .ok (.ishr, 1) := by decide +kernel
theorem dJ0_length_8abf5_10 : decode cJ0_length_8abf5 10 = .ok (.ireturn, 1) := by decide +kernel
theorem dJ0_charAt_5068e_0 : decode cJ0_charAt_5068e 0 = .ok (.aload_n 0, 1) := by decide +kernel
theorem dJ0_charAt_5068e_1 : decode cJ0_charAt_5068e 1 = .ok (.invokevirtual 492, 3) := by decide +kernel
theorem dJ0_charAt_5068e_4 : decode cJ0_charAt_5068e 4 = .ok (.ifCond .eq 12, 3) := by decide +kernel
theorem dJ0_charAt_5068e_7 : decode cJ0_charAt_5068e 7 = .ok (.aload_n 0, 1) := by decide +kernel
theorem dJ0_charAt_5068e_8 : decode cJ0_charAt_5068e 8 = .ok (.getfield 9, 3) := by decide +kernel
theorem dJ0_charAt_5068e_11 : decode cJ0_charAt_5068e 11 = .ok (.iload_n 1, 1) := by decide +kernel
theorem dJ0_charAt_5068e_12 : decode cJ0_charAt_5068e 12 = .ok (.invokestatic 495, 3) := by decide +kernel
theorem dJ0_charAt_5068e_15 : decode cJ0_charAt_5068e 15 = .ok (.ireturn, 1) := by decide +kernel
theorem dJ0_charAt_5068e_16 : decode cJ0_charAt_5068e 16 = .ok (.aload_n 0, 1) := by decide +kernel
theorem dJ0_charAt_5068e_17 : decode cJ0_charAt_5068e 17 = .ok (.getfield 9, 3) := by decide +kernel
theorem dJ0_charAt_5068e_20 : decode cJ0_charAt_5068e 20 = .ok (.iload_n 1, 1) := by decide +kernel
theorem dJ0_charAt_5068e_21 : decode cJ0_charAt_5068e 21 = .ok (.invokestatic 498, 3) := by decide +kernel
theorem dJ0_charAt_5068e_24 : decode cJ0_charAt_5068e 24 = .ok (.ireturn, 1) := by decide +kernel
theorem dJ0_coder_7d493_0 : decode cJ0_coder_7d493 0 = .ok (.getstatic 38, 3) := by decide +kernel
theorem dJ0_coder_7d493_3 : decode cJ0_coder_7d493 3 = .ok (.ifCond .eq 10, 3) := by decide +kernel
theorem dJ0_coder_7d493_6 : decode cJ0_coder_7d493 6 = .ok (.aload_n 0, 1) := by decide +kernel
theorem dJ0_coder_7d493_7 : decode cJ0_coder_7d493 7 = .ok (.getfield 15, 3) := by decide +kernel
theorem dJ0_coder_7d493_10 : decode cJ0_coder_7d493 10 = .ok (.goto 4, 3) := by decide +kernel
theorem dJ0_coder_7d493_13 : decode cJ0_coder_7d493 13 = .ok (.iconst 1, 1) := by decide +kernel
theorem dJ0_coder_7d493_14 : decode cJ0_coder_7d493 14 = .ok (.ireturn, 1) := by decide +kernel
theorem dJ0_isLatin1_aae02_0 : decode cJ0_isLatin1_aae02 0 = .ok (.getstatic 38, 3) := by decide +kernel
theorem dJ0_isLatin1_aae02_3 : decode cJ0_isLatin1_aae02 3 = .ok (.ifCond .eq 14, 3) := by decide +kernel
theorem dJ0_isLatin1_aae02_6 : decode cJ0_isLatin1_aae02 6 = .ok (.aload_n 0, 1) := by decide +kernel
theorem dJ0_isLatin1_aae02_7 : decode cJ0_isLatin1_aae02 7 = .ok (.getfield 15, 3) := by decide +kernel
theorem dJ0_isLatin1_aae02_10 : decode cJ0_isLatin1_aae02 10 = .ok (.ifCond .ne 7, 3) := by decide +kernel
theorem dJ0_isLatin1_aae02_13 : decode cJ0_isLatin1_aae02 13 = .ok (.iconst 1, 1) := by decide +kernel
theorem dJ0_isLatin1_aae02_14 : decode cJ0_isLatin1_aae02 14 = .ok (.goto 4, 3) := by decide +kernel
theorem dJ0_isLatin1_aae02_17 : decode cJ0_isLatin1_aae02 17 = .ok (.iconst 0, 1) := by decide +kernel
theorem dJ0_isLatin1_aae02_18 : decode cJ0_isLatin1_aae02 18 = .ok (.ireturn, 1) := by decide +kernel
theorem dJ0_checkIndex_df160_0 : decode cJ0_checkIndex_df160 0 = .ok (.iload_n 0, 1) := by decide +kernel
theorem dJ0_checkIndex_df160_1 : decode cJ0_checkIndex_df160 1 = .ok (.iload_n 1, 1) := by decide +kernel
theorem dJ0_checkIndex_df160_2 : decode cJ0_checkIndex_df160 2 = .ok (.getstatic 1053, 3) := by decide +kernel
theorem dJ0_checkIndex_df160_5 : decode cJ0_checkIndex_df160 5 = .ok (.invokestatic 1059, 3) := by decide +kernel
theorem dJ0_checkIndex_df160_8 : decode cJ0_checkIndex_df160 8 = .ok (.pop, 1) := by decide +kernel
theorem dJ0_checkIndex_df160_9 : decode cJ0_checkIndex_df160 9 = .ok (.return_, 1) := by decide +kernel
theorem dJ1_charAt_3b067_0 : decode cJ1_charAt_3b067 0 = .ok (.iload_n 1, 1) := by decide +kernel
theorem dJ1_charAt_3b067_1 : decode cJ1_charAt_3b067 1 = .ok (.aload_n 0, 1) := by decide +kernel
theorem dJ1_charAt_3b067_2 : decode cJ1_charAt_3b067 2 = .ok (.arraylength, 1) := by decide +kernel
theorem dJ1_charAt_3b067_3 : decode cJ1_charAt_3b067 3 = .ok (.invokestatic 9, 3) := by decide +kernel
theorem dJ1_charAt_3b067_6 : decode cJ1_charAt_3b067 6 = .ok (.aload_n 0, 1) := by decide +kernel
theorem dJ1_charAt_3b067_7 : decode cJ1_charAt_3b067 7 = .ok (.iload_n 1, 1) := by decide +kernel
theorem dJ1_charAt_3b067_8 : decode cJ1_charAt_3b067 8 = .ok (.baload, 1) := by decide +kernel
theorem dJ1_charAt_3b067_9 : decode cJ1_charAt_3b067 9 = .ok (.sipush 255, 3) := by decide +kernel
theorem dJ1_charAt_3b067_12 : decode cJ1_charAt_3b067 12 = .ok (.iand, 1) := by decide +kernel
theorem dJ1_charAt_3b067_13 : decode cJ1_charAt_3b067 13 = .ok (.i2c, 1) := by decide +kernel
theorem dJ1_charAt_3b067_14 : decode cJ1_charAt_3b067 14 = .ok (.ireturn, 1) := by decide +kernel
theorem dJ2_getChar_3b067_0 : decode cJ2_getChar_3b067 0 = .ok (.getstatic 44, 3) := by decide +kernel
theorem dJ2_getChar_3b067_3 : decode cJ2_getChar_3b067 3 = .ok (.ifCond .ne 25, 3) := by decide +kernel
theorem dJ2_getChar_3b067_6 : decode cJ2_getChar_3b067 6 = .ok (.iload_n 1, 1) := by decide +kernel
theorem dJ2_getChar_3b067_7 : decode cJ2_getChar_3b067 7 = .ok (.ifCond .lt 11, 3) := by decide +kernel
theorem dJ2_getChar_3b067_10 : decode cJ2_getChar_3b067 10 = .ok (.iload_n 1, 1) := by decide +kernel
theorem dJ2_getChar_3b067_11 : decode cJ2_getChar_3b067 11 = .ok (.aload_n 0, 1) := by decide +kernel
theorem dJ2_getChar_3b067_12 : decode cJ2_getChar_3b067 12 = .ok (.invokestatic 48, 3) := by decide +kernel
theorem dJ2_getChar_3b067_15 : decode cJ2_getChar_3b067 15 = .ok (.if_icmp .lt 13, 3) := by decide +kernel
theorem dJ2_getChar_3b067_18 : decode cJ2_getChar_3b067 18 = .ok (.new 52, 3) := by decide +kernel
theorem dJ2_getChar_3b067_21 : decode cJ2_getChar_3b067 21 = .ok (.dup, 1) := by decide +kernel
theorem dJ2_getChar_3b067_22 : decode cJ2_getChar_3b067 22 = .ok (.ldc 54, 2) := by decide +kernel
theorem dJ2_getChar_3b067_24 : decode cJ2_getChar_3b067 24 = .ok (.invokespecial 56, 3) := by decide +kernel
theorem dJ2_getChar_3b067_27 : decode cJ2_getChar_3b067 27 = .ok (.athrow, 1) := by decide +kernel
theorem dJ2_getChar_3b067_28 : decode cJ2_getChar_3b067 28 = .ok (.iload_n 1, 1) := by decide +kernel
theorem dJ2_getChar_3b067_29 : decode cJ2_getChar_3b067 29 = .ok (.iconst 1, 1) := by decide +kernel
theorem dJ2_getChar_3b067_30 : decode cJ2_getChar_3b067 30 = .ok (.ishl, 1) := by decide +kernel
theorem dJ2_getChar_3b067_31 : decode cJ2_getChar_3b067 31 = .ok (.istore_n 1, 1) := by decide +kernel
theorem dJ2_getChar_3b067_32 : decode cJ2_getChar_3b067 32 = .ok (.aload_n 0, 1) := by decide +kernel
theorem dJ2_getChar_3b067_33 : decode cJ2_getChar_3b067 33 = .ok (.iload_n 1, 1) := by decide +kernel
theorem dJ2_getChar_3b067_34 : decode cJ2_getChar_3b067 34 = .ok (.iinc 1 1, 3) := by decide +kernel
theorem dJ2_getChar_3b067_37 : decode cJ2_getChar_3b067 37 = .ok (.baload, 1) := by decide +kernel
theorem dJ2_getChar_3b067_38 : decode cJ2_getChar_3b067 38 = .ok (.sipush 255, 3) := by decide +kernel
theorem dJ2_getChar_3b067_41 : decode cJ2_getChar_3b067 41 = .ok (.iand, 1) := by decide +kernel
theorem dJ2_getChar_3b067_42 : decode cJ2_getChar_3b067 42 = .ok (.getstatic 59, 3) := by decide +kernel
theorem dJ2_getChar_3b067_45 : decode cJ2_getChar_3b067 45 = .ok (.ishl, 1) := by decide +kernel
theorem dJ2_getChar_3b067_46 : decode cJ2_getChar_3b067 46 = .ok (.aload_n 0, 1) := by decide +kernel
theorem dJ2_getChar_3b067_47 : decode cJ2_getChar_3b067 47 = .ok (.iload_n 1, 1) := by decide +kernel
theorem dJ2_getChar_3b067_48 : decode cJ2_getChar_3b067 48 = .ok (.baload, 1) := by decide +kernel
theorem dJ2_getChar_3b067_49 : decode cJ2_getChar_3b067 49 = .ok (.sipush 255, 3) := by decide +kernel
theorem dJ2_getChar_3b067_52 : decode cJ2_getChar_3b067 52 = .ok (.iand, 1) := by decide +kernel
theorem dJ2_getChar_3b067_53 : decode cJ2_getChar_3b067 53 = .ok (.getstatic 63, 3) := by decide +kernel
theorem dJ2_getChar_3b067_56 : decode cJ2_getChar_3b067 56 = .ok (.ishl, 1) := by decide +kernel
theorem dJ2_getChar_3b067_57 : decode cJ2_getChar_3b067 57 = .ok (.ior, 1) := by decide +kernel
theorem dJ2_getChar_3b067_58 : decode cJ2_getChar_3b067 58 = .ok (.i2c, 1) := by decide +kernel
theorem dJ2_getChar_3b067_59 : decode cJ2_getChar_3b067 59 = .ok (.ireturn, 1) := by decide +kernel
theorem dJ2_length_9d52b_0 : decode cJ2_length_9d52b 0 = .ok (.aload_n 0, 1) := by decide +kernel
theorem dJ2_length_9d52b_1 : decode cJ2_length_9d52b 1 = .ok (.arraylength, 1) := by decide +kernel
theorem dJ2_length_9d52b_2 : decode cJ2_length_9d52b 2 = .ok (.iconst 1, 1) := by decide +kernel
theorem dJ2_length_9d52b_3 : decode cJ2_length_9d52b 3 = .ok (.ishr, 1) := by decide +kernel
theorem dJ2_length_9d52b_4 : decode cJ2_length_9d52b 4 = .ok (.ireturn, 1) := by decide +kernel
theorem dJ2_charAt_3b067_0 : decode cJ2_charAt_3b067 0 = .ok (.iload_n 1, 1) := by decide +kernel
theorem dJ2_charAt_3b067_1 : decode cJ2_charAt_3b067 1 = .ok (.aload_n 0, 1) := by decide +kernel
theorem dJ2_charAt_3b067_2 : decode cJ2_charAt_3b067 2 = .ok (.invokestatic 67, 3) := by decide +kernel
theorem dJ2_charAt_3b067_5 : decode cJ2_charAt_3b067 5 = .ok (.aload_n 0, 1) := by decide +kernel
theorem dJ2_charAt_3b067_6 : decode cJ2_charAt_3b067 6 = .ok (.iload_n 1, 1) := by decide +kernel
theorem dJ2_charAt_3b067_7 : decode cJ2_charAt_3b067 7 = .ok (.invokestatic 71, 3) := by decide +kernel
theorem dJ2_charAt_3b067_10 : decode cJ2_charAt_3b067 10 = .ok (.ireturn, 1) := by decide +kernel
theorem dJ2_checkIndex_2214a_0 : decode cJ2_checkIndex_2214a 0 = .ok (.iload_n 0, 1) := by decide +kernel
theorem dJ2_checkIndex_2214a_1 : decode cJ2_checkIndex_2214a 1 = .ok (.aload_n 1, 1) := by decide +kernel
theorem dJ2_checkIndex_2214a_2 : decode cJ2_checkIndex_2214a 2 = .ok (.invokestatic 48, 3) := by decide +kernel
theorem dJ2_checkIndex_2214a_5 : decode cJ2_checkIndex_2214a 5 = .ok (.invokestatic 414, 3) := by decide +kernel
theorem dJ2_checkIndex_2214a_8 : decode cJ2_checkIndex_2214a 8 = .ok (.return_, 1) := by decide +kernel
theorem dJ3_checkIndex_8e157_0 : decode cJ3_checkIndex_8e157 0 = .ok (.iload_n 0, 1) := by decide +kernel
theorem dJ3_checkIndex_8e157_1 : decode cJ3_checkIndex_8e157 1 = .ok (.ifCond .lt 8, 3) := by decide +kernel
theorem dJ3_checkIndex_8e157_4 : decode cJ3_checkIndex_8e157 4 = .ok (.iload_n 0, 1) := by decide +kernel
theorem dJ3_checkIndex_8e157_5 : decode cJ3_checkIndex_8e157 5 = .ok (.iload_n 1, 1) := by decide +kernel
theorem dJ3_checkIndex_8e157_6 : decode cJ3_checkIndex_8e157 6 = .ok (.if_icmp .lt 10, 3) := by decide +kernel
theorem dJ3_checkIndex_8e157_9 : decode cJ3_checkIndex_8e157 9 = .ok (.aload_n 2, 1) := by decide +kernel
theorem dJ3_checkIndex_8e157_10 : decode cJ3_checkIndex_8e157 10 = .ok (.iload_n 0, 1) := by decide +kernel
theorem dJ3_checkIndex_8e157_11 : decode cJ3_checkIndex_8e157 11 = .ok (.iload_n 1, 1) := by decide +kernel
theorem dJ3_checkIndex_8e157_12 : decode cJ3_checkIndex_8e157 12 = .ok (.invokestatic 95, 3) := by decide +kernel
theorem dJ3_checkIndex_8e157_15 : decode cJ3_checkIndex_8e157 15 = .ok (.athrow, 1) := by decide +kernel
theorem dJ3_checkIndex_8e157_16 : decode cJ3_checkIndex_8e157 16 = .ok (.iload_n 0, 1) := by decide +kernel
theorem dJ3_checkIndex_8e157_17 : decode cJ3_checkIndex_8e157 17 = .ok (.ireturn, 1) := by decide +kernel
