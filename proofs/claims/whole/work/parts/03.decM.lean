theorem dX4_init_0 : decode cX4_init 0 = .ok (.aload_n 0, 1) := by decide +kernel
theorem dX4_init_1 : decode cX4_init 1 = .ok (.invokespecial 1, 3) := by decide +kernel
theorem dX4_init_4 : decode cX4_init 4 = .ok (.aload_n 0, 1) := by decide +kernel
theorem dX4_init_5 : decode cX4_init 5 = .ok (.bipush 32, 2) := by decide +kernel
theorem dX4_init_7 : decode cX4_init 7 = .ok (.newarray .int, 2) := by decide +kernel
theorem dX4_init_9 : decode cX4_init 9 = .ok (.putfield 7, 3) := by decide +kernel
theorem dX4_init_12 : decode cX4_init 12 = .ok (.aload_n 0, 1) := by decide +kernel
theorem dX4_init_13 : decode cX4_init 13 = .ok (.bipush 36, 2) := by decide +kernel
theorem dX4_init_15 : decode cX4_init 15 = .ok (.newarray .int, 2) := by decide +kernel
theorem dX4_init_17 : decode cX4_init 17 = .ok (.putfield 13, 3) := by decide +kernel
theorem dX4_init_20 : decode cX4_init 20 = .ok (.aload_n 0, 1) := by decide +kernel
theorem dX4_init_21 : decode cX4_init 21 = .ok (.bipush 54, 2) := by decide +kernel
theorem dX4_init_23 : decode cX4_init 23 = .ok (.newarray .int, 2) := by decide +kernel
theorem dX4_init_25 : decode cX4_init 25 = .ok (.putfield 16, 3) := by decide +kernel
theorem dX4_init_28 : decode cX4_init 28 = .ok (.aload_n 0, 1) := by decide +kernel
theorem dX4_init_29 : decode cX4_init 29 = .ok (.bipush 6, 2) := by decide +kernel
theorem dX4_init_31 : decode cX4_init 31 = .ok (.newarray .int, 2) := by decide +kernel
theorem dX4_init_33 : decode cX4_init 33 = .ok (.putfield 19, 3) := by decide +kernel
theorem dX4_init_36 : decode cX4_init 36 = .ok (.aload_n 0, 1) := by decide +kernel
theorem dX4_init_37 : decode cX4_init 37 = .ok (.bipush 16, 2) := by decide +kernel
theorem dX4_init_39 : decode cX4_init 39 = .ok (.newarray .int, 2) := by decide +kernel
theorem dX4_init_41 : decode cX4_init 41 = .ok (.putfield 22, 3) := by decide +kernel
theorem dX4_init_44 : decode cX4_init 44 = .ok (.aload_n 0, 1) := by decide +kernel
theorem dX4_init_45 : decode cX4_init 45 = .ok (.bipush 16, 2) := by decide +kernel
theorem dX4_init_47 : decode cX4_init 47 = .ok (.newarray .int, 2) := by decide +kernel
theorem dX4_init_49 : decode cX4_init 49 = .ok (.putfield 25, 3) := by decide +kernel
theorem dX4_init_52 : decode cX4_init 52 = .ok (.aload_n 0, 1) := by decide +kernel
theorem dX4_init_53 : decode cX4_init 53 = .ok (.bipush 54, 2) := by decide +kernel
theorem dX4_init_55 : decode cX4_init 55 = .ok (.newarray .int, 2) := by decide +kernel
theorem dX4_init_57 : decode cX4_init 57 = .ok (.putfield 28, 3) := by decide +kernel
theorem dX4_init_60 : decode cX4_init 60 = .ok (.aload_n 0, 1) := by decide +kernel
theorem dX4_init_61 : decode cX4_init 61 = .ok (.bipush 54, 2) := by decide +kernel
theorem dX4_init_63 : decode cX4_init 63 = .ok (.newarray .int, 2) := by decide +kernel
theorem dX4_init_65 : decode cX4_init 65 = .ok (.putfield 31, 3) := by decide +kernel
theorem dX4_init_68 : decode cX4_init 68 = .ok (.aload_n 0, 1) := by decide +kernel
theorem dX4_init_69 : decode cX4_init 69 = .ok (.bipush 16, 2) := by decide +kernel
theorem dX4_init_71 : decode cX4_init 71 = .ok (.newarray .int, 2) := by decide +kernel
theorem dX4_init_73 : decode cX4_init 73 = .ok (.putfield 34, 3) := by decide +kernel
theorem dX4_init_76 : decode cX4_init 76 = .ok (.aload_n 0, 1) := by decide +kernel
theorem dX4_init_77 : decode cX4_init 77 = .ok (.iconst (-1), 1) := by decide +kernel
theorem dX4_init_78 : decode cX4_init 78 = .ok (.putfield 37, 3) := by decide +kernel
theorem dX4_init_81 : decode cX4_init 81 = .ok (.return_, 1) := by decide +kernel
theorem dX4_in_0 : decode cX4_in 0 = .ok (.lload_n 0, 1) := by decide +kernel
theorem dX4_in_1 : decode cX4_in 1 = .ok (.lload_n 2, 1) := by decide +kernel
theorem dX4_in_2 : decode cX4_in 2 = .ok (.lcmp, 1) := by decide +kernel
theorem dX4_in_3 : decode cX4_in 3 = .ok (.ifCond .lt 14, 3) := by decide +kernel
theorem dX4_in_6 : decode cX4_in 6 = .ok (.lload_n 0, 1) := by decide +kernel
theorem dX4_in_7 : decode cX4_in 7 = .ok (.lload 4, 2) := by decide +kernel
theorem dX4_in_9 : decode cX4_in 9 = .ok (.lcmp, 1) := by decide +kernel
theorem dX4_in_10 : decode cX4_in 10 = .ok (.ifCond .gt 7, 3) := by decide +kernel
theorem dX4_in_13 : decode cX4_in 13 = .ok (.iconst 1, 1) := by decide +kernel
theorem dX4_in_14 : decode cX4_in 14 = .ok (.goto 4, 3) := by decide +kernel
theorem dX4_in_17 : decode cX4_in 17 = .ok (.iconst 0, 1) := by decide +kernel
theorem dX4_in_18 : decode cX4_in 18 = .ok (.ireturn, 1) := by decide +kernel
theorem dX4_copy_0 : decode cX4_copy 0 = .ok (.iconst 0, 1) := by decide +kernel
theorem dX4_copy_1 : decode cX4_copy 1 = .ok (.istore_n 2, 1) := by decide +kernel
theorem dX4_copy_2 : decode cX4_copy 2 = .ok (.iload_n 2, 1) := by decide +kernel
theorem dX4_copy_3 : decode cX4_copy 3 = .ok (.aload_n 0, 1) := by decide +kernel
theorem dX4_copy_4 : decode cX4_copy 4 = .ok (.arraylength, 1) := by decide +kernel
theorem dX4_copy_5 : decode cX4_copy 5 = .ok (.if_icmp .ge 15, 3) := by decide +kernel
theorem dX4_copy_8 : decode cX4_copy 8 = .ok (.aload_n 1, 1) := by decide +kernel
theorem dX4_copy_9 : decode cX4_copy 9 = .ok (.iload_n 2, 1) := by decide +kernel
theorem dX4_copy_10 : decode cX4_copy 10 = .ok (.aload_n 0, 1) := by decide +kernel
theorem dX4_copy_11 : decode cX4_copy 11 = .ok (.iload_n 2, 1) := by decide +kernel
theorem dX4_copy_12 : decode cX4_copy 12 = .ok (.iaload, 1) := by decide +kernel
theorem dX4_copy_13 : decode cX4_copy 13 = .ok (.iastore, 1) := by decide +kernel
theorem dX4_copy_14 : decode cX4_copy 14 = .ok (.iinc 2 1, 3) := by decide +kernel
theorem dX4_copy_17 : decode cX4_copy 17 = .ok (.goto (-15), 3) := by decide +kernel
theorem dX4_copy_20 : decode cX4_copy 20 = .ok (.return_, 1) := by decide +kernel
theorem dX4_ones_0 : decode cX4_ones 0 = .ok (.iconst 0, 1) := by decide +kernel
theorem dX4_ones_1 : decode cX4_ones 1 = .ok (.istore_n 1, 1) := by decide +kernel
theorem dX4_ones_2 : decode cX4_ones 2 = .ok (.iconst 0, 1) := by decide +kernel
theorem dX4_ones_3 : decode cX4_ones 3 = .ok (.istore_n 2, 1) := by decide +kernel
theorem dX4_ones_4 : decode cX4_ones 4 = .ok (.iload_n 2, 1) := by decide +kernel
theorem dX4_ones_5 : decode cX4_ones 5 = .ok (.bipush 16, 2) := by decide +kernel
theorem dX4_ones_7 : decode cX4_ones 7 = .ok (.if_icmp .ge 17, 3) := by decide +kernel
theorem dX4_ones_10 : decode cX4_ones 10 = .ok (.iload_n 1, 1) := by decide +kernel
theorem dX4_ones_11 : decode cX4_ones 11 = .ok (.iload_n 0, 1) := by decide +kernel
theorem dX4_ones_12 : decode cX4_ones 12 = .ok (.iload_n 2, 1) := by decide +kernel
theorem dX4_ones_13 : decode cX4_ones 13 = .ok (.ishr, 1) := by decide +kernel
theorem dX4_ones_14 : decode cX4_ones 14 = .ok (.iconst 1, 1) := by decide +kernel
theorem dX4_ones_15 : decode cX4_ones 15 = .ok (.iand, 1) := by decide +kernel
theorem dX4_ones_16 : decode cX4_ones 16 = .ok (.iadd, 1) := by decide +kernel
theorem dX4_ones_17 : decode cX4_ones 17 = .ok (.istore_n 1, 1) := by decide +kernel
theorem dX4_ones_18 : decode cX4_ones 18 = .ok (.iinc 2 1, 3) := by decide +kernel
theorem dX4_ones_21 : decode cX4_ones 21 = .ok (.goto (-17), 3) := by decide +kernel
theorem dX4_ones_24 : decode cX4_ones 24 = .ok (.iload_n 1, 1) := by decide +kernel
theorem dX4_ones_25 : decode cX4_ones 25 = .ok (.ireturn, 1) := by decide +kernel
theorem dX4_letter_0 : decode cX4_letter 0 = .ok (.iload_n 1, 1) := by decide +kernel
theorem dX4_letter_1 : decode cX4_letter 1 = .ok (.i2l, 1) := by decide +kernel
theorem dX4_letter_2 : decode cX4_letter 2 = .ok (.lconst 1, 1) := by decide +kernel
theorem dX4_letter_3 : decode cX4_letter 3 = .ok (.ldc2_w 41, 3) := by decide +kernel
theorem dX4_letter_6 : decode cX4_letter 6 = .ok (.invokestatic 43, 3) := by decide +kernel
theorem dX4_letter_9 : decode cX4_letter 9 = .ok (.ifCond .ne 6, 3) := by decide +kernel
theorem dX4_letter_12 : decode cX4_letter 12 = .ok (.bipush (-102), 2) := by decide +kernel
theorem dX4_letter_14 : decode cX4_letter 14 = .ok (.ireturn, 1) := by decide +kernel
theorem dX4_letter_15 : decode cX4_letter 15 = .ok (.aload_n 0, 1) := by decide +kernel
theorem dX4_letter_16 : decode cX4_letter 16 = .ok (.getfield 47, 3) := by decide +kernel
theorem dX4_letter_19 : decode cX4_letter 19 = .ok (.bipush 32, 2) := by decide +kernel
theorem dX4_letter_21 : decode cX4_letter 21 = .ok (.if_icmp .ne 6, 3) := by decide +kernel
theorem dX4_letter_24 : decode cX4_letter 24 = .ok (.bipush (-104), 2) := by decide +kernel
theorem dX4_letter_26 : decode cX4_letter 26 = .ok (.ireturn, 1) := by decide +kernel
theorem dX4_letter_27 : decode cX4_letter 27 = .ok (.aload_n 0, 1) := by decide +kernel
theorem dX4_letter_28 : decode cX4_letter 28 = .ok (.getfield 7, 3) := by decide +kernel
theorem dX4_letter_31 : decode cX4_letter 31 = .ok (.aload_n 0, 1) := by decide +kernel
theorem dX4_letter_32 : decode cX4_letter 32 = .ok (.getfield 47, 3) := by decide +kernel
theorem dX4_letter_35 : decode cX4_letter 35 = .ok (.iload_n 1, 1) := by decide +kernel
theorem dX4_letter_36 : decode cX4_letter 36 = .ok (.iastore, 1) := by decide +kernel
theorem dX4_letter_37 : decode cX4_letter 37 = .ok (.aload_n 0, 1) := by decide +kernel
theorem dX4_letter_38 : decode cX4_letter 38 = .ok (.dup, 1) := by decide +kernel
theorem dX4_letter_39 : decode cX4_letter 39 = .ok (.getfield 47, 3) := by decide +kernel
theorem dX4_letter_42 : decode cX4_letter 42 = .ok (.iconst 1, 1) := by decide +kernel
theorem dX4_letter_43 : decode cX4_letter 43 = .ok (.iadd, 1) := by decide +kernel
theorem dX4_letter_44 : decode cX4_letter 44 = .ok (.putfield 47, 3) := by decide +kernel
theorem dX4_letter_47 : decode cX4_letter 47 = .ok (.aload_n 0, 1) := by decide +kernel
theorem dX4_letter_48 : decode cX4_letter 48 = .ok (.getfield 47, 3) := by decide +kernel
theorem dX4_letter_51 : decode cX4_letter 51 = .ok (.ireturn, 1) := by decide +kernel
theorem dX4_blank_0 : decode cX4_blank 0 = .ok (.aload_n 0, 1) := by decide +kernel
theorem dX4_blank_1 : decode cX4_blank 1 = .ok (.getfield 47, 3) := by decide +kernel
theorem dX4_blank_4 : decode cX4_blank 4 = .ok (.istore_n 1, 1) := by decide +kernel
theorem dX4_blank_5 : decode cX4_blank 5 = .ok (.aload_n 0, 1) := by decide +kernel
theorem dX4_blank_6 : decode cX4_blank 6 = .ok (.iconst 0, 1) := by decide +kernel
theorem dX4_blank_7 : decode cX4_blank 7 = .ok (.putfield 47, 3) := by decide +kernel
theorem dX4_blank_10 : decode cX4_blank 10 = .ok (.iload_n 1, 1) := by decide +kernel
theorem dX4_blank_11 : decode cX4_blank 11 = .ok (.ireturn, 1) := by decide +kernel
theorem dX4_kindBy_0 : decode cX4_kindBy 0 = .ok (.iload_n 0, 1) := by decide +kernel
theorem dX4_kindBy_1 : decode cX4_kindBy 1 = .ok (.bipush 107, 2) := by decide +kernel
theorem dX4_kindBy_3 : decode cX4_kindBy 3 = .ok (.if_icmp .ne 7, 3) := by decide +kernel
theorem dX4_kindBy_6 : decode cX4_kindBy 6 = .ok (.iconst 0, 1) := by decide +kernel
theorem dX4_kindBy_7 : decode cX4_kindBy 7 = .ok (.goto 44, 3) := by decide +kernel
theorem dX4_kindBy_10 : decode cX4_kindBy 10 = .ok (.iload_n 0, 1) := by decide +kernel
theorem dX4_kindBy_11 : decode cX4_kindBy 11 = .ok (.bipush 99, 2) := by decide +kernel
theorem dX4_kindBy_13 : decode cX4_kindBy 13 = .ok (.if_icmp .ne 7, 3) := by decide +kernel
theorem dX4_kindBy_16 : decode cX4_kindBy 16 = .ok (.iconst 1, 1) := by decide +kernel
theorem dX4_kindBy_17 : decode cX4_kindBy 17 = .ok (.goto 34, 3) := by decide +kernel
theorem dX4_kindBy_20 : decode cX4_kindBy 20 = .ok (.iload_n 0, 1) := by decide +kernel
theorem dX4_kindBy_21 : decode cX4_kindBy 21 = .ok (.bipush 108, 2) := by decide +kernel
theorem dX4_kindBy_23 : decode cX4_kindBy 23 = .ok (.if_icmp .ne 7, 3) := by decide +kernel
theorem dX4_kindBy_26 : decode cX4_kindBy 26 = .ok (.iconst 2, 1) := by decide +kernel
theorem dX4_kindBy_27 : decode cX4_kindBy 27 = .ok (.goto 24, 3) := by decide +kernel
theorem dX4_kindBy_30 : decode cX4_kindBy 30 = .ok (.iload_n 0, 1) := by decide +kernel
theorem dX4_kindBy_31 : decode cX4_kindBy 31 = .ok (.bipush 120, 2) := by decide +kernel
theorem dX4_kindBy_33 : decode cX4_kindBy 33 = .ok (.if_icmp .ne 7, 3) := by decide +kernel
theorem dX4_kindBy_36 : decode cX4_kindBy 36 = .ok (.iconst 3, 1) := by decide +kernel
theorem dX4_kindBy_37 : decode cX4_kindBy 37 = .ok (.goto 14, 3) := by decide +kernel
theorem dX4_kindBy_40 : decode cX4_kindBy 40 = .ok (.iload_n 0, 1) := by decide +kernel
theorem dX4_kindBy_41 : decode cX4_kindBy 41 = .ok (.bipush 97, 2) := by decide +kernel
theorem dX4_kindBy_43 : decode cX4_kindBy 43 = .ok (.if_icmp .ne 7, 3) := by decide +kernel
theorem dX4_kindBy_46 : decode cX4_kindBy 46 = .ok (.iconst 4, 1) := by decide +kernel
theorem dX4_kindBy_47 : decode cX4_kindBy 47 = .ok (.goto 4, 3) := by decide +kernel
theorem dX4_kindBy_50 : decode cX4_kindBy 50 = .ok (.iconst (-1), 1) := by decide +kernel
theorem dX4_kindBy_51 : decode cX4_kindBy 51 = .ok (.ireturn, 1) := by decide +kernel
theorem dX4_stepBy_0 : decode cX4_stepBy 0 = .ok (.iload_n 0, 1) := by decide +kernel
theorem dX4_stepBy_1 : decode cX4_stepBy 1 = .ok (.bipush 110, 2) := by decide +kernel
theorem dX4_stepBy_3 : decode cX4_stepBy 3 = .ok (.if_icmp .ne 7, 3) := by decide +kernel
theorem dX4_stepBy_6 : decode cX4_stepBy 6 = .ok (.iconst 0, 1) := by decide +kernel
theorem dX4_stepBy_7 : decode cX4_stepBy 7 = .ok (.goto 34, 3) := by decide +kernel
theorem dX4_stepBy_10 : decode cX4_stepBy 10 = .ok (.iload_n 0, 1) := by decide +kernel
theorem dX4_stepBy_11 : decode cX4_stepBy 11 = .ok (.bipush 101, 2) := by decide +kernel
theorem dX4_stepBy_13 : decode cX4_stepBy 13 = .ok (.if_icmp .ne 7, 3) := by decide +kernel
theorem dX4_stepBy_16 : decode cX4_stepBy 16 = .ok (.iconst 1, 1) := by decide +kernel
theorem dX4_stepBy_17 : decode cX4_stepBy 17 = .ok (.goto 24, 3) := by decide +kernel
theorem dX4_stepBy_20 : decode cX4_stepBy 20 = .ok (.iload_n 0, 1) := by decide +kernel
theorem dX4_stepBy_21 : decode cX4_stepBy 21 = .ok (.bipush 115, 2) := by decide +kernel
theorem dX4_stepBy_23 : decode cX4_stepBy 23 = .ok (.if_icmp .ne 7, 3) := by decide +kernel
theorem dX4_stepBy_26 : decode cX4_stepBy 26 = .ok (.iconst 2, 1) := by decide +kernel
theorem dX4_stepBy_27 : decode cX4_stepBy 27 = .ok (.goto 14, 3) := by decide +kernel
theorem dX4_stepBy_30 : decode cX4_stepBy 30 = .ok (.iload_n 0, 1) := by decide +kernel
theorem dX4_stepBy_31 : decode cX4_stepBy 31 = .ok (.bipush 119, 2) := by decide +kernel
theorem dX4_stepBy_33 : decode cX4_stepBy 33 = .ok (.if_icmp .ne 7, 3) := by decide +kernel
theorem dX4_stepBy_36 : decode cX4_stepBy 36 = .ok (.iconst 3, 1) := by decide +kernel
theorem dX4_stepBy_37 : decode cX4_stepBy 37 = .ok (.goto 4, 3) := by decide +kernel
theorem dX4_stepBy_40 : decode cX4_stepBy 40 = .ok (.iconst (-1), 1) := by decide +kernel
theorem dX4_stepBy_41 : decode cX4_stepBy 41 = .ok (.ireturn, 1) := by decide +kernel
theorem dX4_go_0 : decode cX4_go 0 = .ok (.bipush 9, 2) := by decide +kernel
theorem dX4_go_2 : decode cX4_go 2 = .ok (.aload_n 0, 1) := by decide +kernel
theorem dX4_go_3 : decode cX4_go 3 = .ok (.getfield 50, 3) := by decide +kernel
theorem dX4_go_6 : decode cX4_go 6 = .ok (.imul, 1) := by decide +kernel
theorem dX4_go_7 : decode cX4_go 7 = .ok (.istore_n 2, 1) := by decide +kernel
theorem dX4_go_8 : decode cX4_go 8 = .ok (.aload_n 0, 1) := by decide +kernel
theorem dX4_go_9 : decode cX4_go 9 = .ok (.getfield 53, 3) := by decide +kernel
theorem dX4_go_12 : decode cX4_go 12 = .ok (.ifCond .ne 32, 3) := by decide +kernel
theorem dX4_go_15 : decode cX4_go 15 = .ok (.aload_n 0, 1) := by decide +kernel
theorem dX4_go_16 : decode cX4_go 16 = .ok (.getfield 13, 3) := by decide +kernel
theorem dX4_go_19 : decode cX4_go 19 = .ok (.iload_n 2, 1) := by decide +kernel
theorem dX4_go_20 : decode cX4_go 20 = .ok (.iload_n 1, 1) := by decide +kernel
theorem dX4_go_21 : decode cX4_go 21 = .ok (.invokestatic 56, 3) := by decide +kernel
theorem dX4_go_24 : decode cX4_go 24 = .ok (.iastore, 1) := by decide +kernel
theorem dX4_go_25 : decode cX4_go 25 = .ok (.aload_n 0, 1) := by decide +kernel
theorem dX4_go_26 : decode cX4_go 26 = .ok (.iconst 1, 1) := by decide +kernel
theorem dX4_go_27 : decode cX4_go 27 = .ok (.putfield 53, 3) := by decide +kernel
theorem dX4_go_30 : decode cX4_go 30 = .ok (.iload_n 1, 1) := by decide +kernel
theorem dX4_go_31 : decode cX4_go 31 = .ok (.invokestatic 56, 3) := by decide +kernel
theorem dX4_go_34 : decode cX4_go 34 = .ok (.iconst (-1), 1) := by decide +kernel
theorem dX4_go_35 : decode cX4_go 35 = .ok (.if_icmp .eq 7, 3) := by decide +kernel
theorem dX4_go_38 : decode cX4_go 38 = .ok (.iconst 1, 1) := by decide +kernel
theorem dX4_go_39 : decode cX4_go 39 = .ok (.goto 4, 3) := by decide +kernel
theorem dX4_go_42 : decode cX4_go 42 = .ok (.iconst 0, 1) := by decide +kernel
theorem dX4_go_43 : decode cX4_go 43 = .ok (.ireturn, 1) := by decide +kernel
theorem dX4_go_44 : decode cX4_go 44 = .ok (.aload_n 0, 1) := by decide +kernel
theorem dX4_go_45 : decode cX4_go 45 = .ok (.getfield 53, 3) := by decide +kernel
theorem dX4_go_48 : decode cX4_go 48 = .ok (.iconst 1, 1) := by decide +kernel
theorem dX4_go_49 : decode cX4_go 49 = .ok (.if_icmp .ne 50, 3) := by decide +kernel
theorem dX4_go_52 : decode cX4_go 52 = .ok (.aload_n 0, 1) := by decide +kernel
theorem dX4_go_53 : decode cX4_go 53 = .ok (.getfield 13, 3) := by decide +kernel
theorem dX4_go_56 : decode cX4_go 56 = .ok (.iload_n 2, 1) := by decide +kernel
theorem dX4_go_57 : decode cX4_go 57 = .ok (.iconst 1, 1) := by decide +kernel
theorem dX4_go_58 : decode cX4_go 58 = .ok (.iadd, 1) := by decide +kernel
theorem dX4_go_59 : decode cX4_go 59 = .ok (.iload_n 1, 1) := by decide +kernel
theorem dX4_go_60 : decode cX4_go 60 = .ok (.bipush 97, 2) := by decide +kernel
theorem dX4_go_62 : decode cX4_go 62 = .ok (.isub, 1) := by decide +kernel
theorem dX4_go_63 : decode cX4_go 63 = .ok (.iastore, 1) := by decide +kernel
theorem dX4_go_64 : decode cX4_go 64 = .ok (.aload_n 0, 1) := by decide +kernel
theorem dX4_go_65 : decode cX4_go 65 = .ok (.getfield 13, 3) := by decide +kernel
theorem dX4_go_68 : decode cX4_go 68 = .ok (.iload_n 2, 1) := by decide +kernel
theorem dX4_go_69 : decode cX4_go 69 = .ok (.iconst 2, 1) := by decide +kernel
theorem dX4_go_70 : decode cX4_go 70 = .ok (.iadd, 1) := by decide +kernel
theorem dX4_go_71 : decode cX4_go 71 = .ok (.iconst 0, 1) := by decide +kernel
theorem dX4_go_72 : decode cX4_go 72 = .ok (.iastore, 1) := by decide +kernel
theorem dX4_go_73 : decode cX4_go 73 = .ok (.aload_n 0, 1) := by decide +kernel
theorem dX4_go_74 : decode cX4_go 74 = .ok (.getfield 13, 3) := by decide +kernel
theorem dX4_go_77 : decode cX4_go 77 = .ok (.iload_n 2, 1) := by decide +kernel
theorem dX4_go_78 : decode cX4_go 78 = .ok (.iconst 3, 1) := by decide +kernel
theorem dX4_go_79 : decode cX4_go 79 = .ok (.iadd, 1) := by decide +kernel
theorem dX4_go_80 : decode cX4_go 80 = .ok (.iconst 0, 1) := by decide +kernel
theorem dX4_go_81 : decode cX4_go 81 = .ok (.iastore, 1) := by decide +kernel
theorem dX4_go_82 : decode cX4_go 82 = .ok (.aload_n 0, 1) := by decide +kernel
theorem dX4_go_83 : decode cX4_go 83 = .ok (.iconst 2, 1) := by decide +kernel
theorem dX4_go_84 : decode cX4_go 84 = .ok (.putfield 53, 3) := by decide +kernel
theorem dX4_go_87 : decode cX4_go 87 = .ok (.iload_n 1, 1) := by decide +kernel
theorem dX4_go_88 : decode cX4_go 88 = .ok (.i2l, 1) := by decide +kernel
theorem dX4_go_89 : decode cX4_go 89 = .ok (.ldc2_w 60, 3) := by decide +kernel
theorem dX4_go_92 : decode cX4_go 92 = .ok (.ldc2_w 62, 3) := by decide +kernel
theorem dX4_go_95 : decode cX4_go 95 = .ok (.invokestatic 43, 3) := by decide +kernel
theorem dX4_go_98 : decode cX4_go 98 = .ok (.ireturn, 1) := by decide +kernel
theorem dX4_go_99 : decode cX4_go 99 = .ok (.aload_n 0, 1) := by decide +kernel
theorem dX4_go_100 : decode cX4_go 100 = .ok (.getfield 53, 3) := by decide +kernel
theorem dX4_go_103 : decode cX4_go 103 = .ok (.iconst 3, 1) := by decide +kernel
theorem dX4_go_104 : decode cX4_go 104 = .ok (.if_icmp .ne 38, 3) := by decide +kernel
theorem dX4_go_107 : decode cX4_go 107 = .ok (.iload_n 1, 1) := by decide +kernel
theorem dX4_go_108 : decode cX4_go 108 = .ok (.bipush 44, 2) := by decide +kernel
theorem dX4_go_110 : decode cX4_go 110 = .ok (.if_icmp .ne 32, 3) := by decide +kernel
theorem dX4_go_113 : decode cX4_go 113 = .ok (.aload_n 0, 1) := by decide +kernel
theorem dX4_go_114 : decode cX4_go 114 = .ok (.dup, 1) := by decide +kernel
theorem dX4_go_115 : decode cX4_go 115 = .ok (.getfield 50, 3) := by decide +kernel
theorem dX4_go_118 : decode cX4_go 118 = .ok (.iconst 1, 1) := by decide +kernel
theorem dX4_go_119 : decode cX4_go 119 = .ok (.iadd, 1) := by decide +kernel
theorem dX4_go_120 : decode cX4_go 120 = .ok (.putfield 50, 3) := by decide +kernel
theorem dX4_go_123 : decode cX4_go 123 = .ok (.aload_n 0, 1) := by decide +kernel
theorem dX4_go_124 : decode cX4_go 124 = .ok (.iconst 0, 1) := by decide +kernel
theorem dX4_go_125 : decode cX4_go 125 = .ok (.putfield 53, 3) := by decide +kernel
theorem dX4_go_128 : decode cX4_go 128 = .ok (.aload_n 0, 1) := by decide +kernel
theorem dX4_go_129 : decode cX4_go 129 = .ok (.getfield 50, 3) := by decide +kernel
theorem dX4_go_132 : decode cX4_go 132 = .ok (.iconst 4, 1) := by decide +kernel
theorem dX4_go_133 : decode cX4_go 133 = .ok (.if_icmp .ge 7, 3) := by decide +kernel
theorem dX4_go_136 : decode cX4_go 136 = .ok (.iconst 1, 1) := by decide +kernel
theorem dX4_go_137 : decode cX4_go 137 = .ok (.goto 4, 3) := by decide +kernel
theorem dX4_go_140 : decode cX4_go 140 = .ok (.iconst 0, 1) := by decide +kernel
theorem dX4_go_141 : decode cX4_go 141 = .ok (.ireturn, 1) := by decide +kernel
theorem dX4_go_142 : decode cX4_go 142 = .ok (.iload_n 1, 1) := by decide +kernel
theorem dX4_go_143 : decode cX4_go 143 = .ok (.invokestatic 64, 3) := by decide +kernel
theorem dX4_go_146 : decode cX4_go 146 = .ok (.iconst (-1), 1) := by decide +kernel
theorem dX4_go_147 : decode cX4_go 147 = .ok (.if_icmp .eq 15, 3) := by decide +kernel
theorem dX4_go_150 : decode cX4_go 150 = .ok (.aload_n 0, 1) := by decide +kernel
theorem dX4_go_151 : decode cX4_go 151 = .ok (.getfield 13, 3) := by decide +kernel
theorem dX4_go_154 : decode cX4_go 154 = .ok (.iload_n 2, 1) := by decide +kernel
theorem dX4_go_155 : decode cX4_go 155 = .ok (.iconst 3, 1) := by decide +kernel
theorem dX4_go_156 : decode cX4_go 156 = .ok (.iadd, 1) := by decide +kernel
theorem dX4_go_157 : decode cX4_go 157 = .ok (.iaload, 1) := by decide +kernel
theorem dX4_go_158 : decode cX4_go 158 = .ok (.iconst 5, 1) := by decide +kernel
theorem dX4_go_159 : decode cX4_go 159 = .ok (.if_icmp .ne 5, 3) := by decide +kernel
theorem dX4_go_162 : decode cX4_go 162 = .ok (.iconst 0, 1) := by decide +kernel
theorem dX4_go_163 : decode cX4_go 163 = .ok (.ireturn, 1) := by decide +kernel
theorem dX4_go_164 : decode cX4_go 164 = .ok (.aload_n 0, 1) := by decide +kernel
theorem dX4_go_165 : decode cX4_go 165 = .ok (.getfield 13, 3) := by decide +kernel
theorem dX4_go_168 : decode cX4_go 168 = .ok (.iload_n 2, 1) := by decide +kernel
theorem dX4_go_169 : decode cX4_go 169 = .ok (.iconst 4, 1) := by decide +kernel
theorem dX4_go_170 : decode cX4_go 170 = .ok (.iadd, 1) := by decide +kernel
theorem dX4_go_171 : decode cX4_go 171 = .ok (.aload_n 0, 1) := by decide +kernel
theorem dX4_go_172 : decode cX4_go 172 = .ok (.getfield 13, 3) := by decide +kernel
theorem dX4_go_175 : decode cX4_go 175 = .ok (.iload_n 2, 1) := by decide +kernel
theorem dX4_go_176 : decode cX4_go 176 = .ok (.iconst 3, 1) := by decide +kernel
theorem dX4_go_177 : decode cX4_go 177 = .ok (.iadd, 1) := by decide +kernel
theorem dX4_go_178 : decode cX4_go 178 = .ok (.iaload, 1) := by decide +kernel
theorem dX4_go_179 : decode cX4_go 179 = .ok (.iadd, 1) := by decide +kernel
theorem dX4_go_180 : decode cX4_go 180 = .ok (.iload_n 1, 1) := by decide +kernel
theorem dX4_go_181 : decode cX4_go 181 = .ok (.invokestatic 64, 3) := by decide +kernel
theorem dX4_go_184 : decode cX4_go 184 = .ok (.iastore, 1) := by decide +kernel
theorem dX4_go_185 : decode cX4_go 185 = .ok (.aload_n 0, 1) := by decide +kernel
theorem dX4_go_186 : decode cX4_go 186 = .ok (.getfield 13, 3) := by decide +kernel
theorem dX4_go_189 : decode cX4_go 189 = .ok (.iload_n 2, 1) := by decide +kernel
theorem dX4_go_190 : decode cX4_go 190 = .ok (.iconst 3, 1) := by decide +kernel
theorem dX4_go_191 : decode cX4_go 191 = .ok (.iadd, 1) := by decide +kernel
theorem dX4_go_192 : decode cX4_go 192 = .ok (.dup2, 1) := by decide +kernel
theorem dX4_go_193 : decode cX4_go 193 = .ok (.iaload, 1) := by decide +kernel
theorem dX4_go_194 : decode cX4_go 194 = .ok (.iconst 1, 1) := by decide +kernel
theorem dX4_go_195 : decode cX4_go 195 = .ok (.iadd, 1) := by decide +kernel
theorem dX4_go_196 : decode cX4_go 196 = .ok (.iastore, 1) := by decide +kernel
theorem dX4_go_197 : decode cX4_go 197 = .ok (.aload_n 0, 1) := by decide +kernel
theorem dX4_go_198 : decode cX4_go 198 = .ok (.iconst 3, 1) := by decide +kernel
theorem dX4_go_199 : decode cX4_go 199 = .ok (.putfield 53, 3) := by decide +kernel
theorem dX4_go_202 : decode cX4_go 202 = .ok (.iconst 1, 1) := by decide +kernel
theorem dX4_go_203 : decode cX4_go 203 = .ok (.ireturn, 1) := by decide +kernel
theorem dX4_faultOf_0 : decode cX4_faultOf 0 = .ok (.aload_n 0, 1) := by decide +kernel
theorem dX4_faultOf_1 : decode cX4_faultOf 1 = .ok (.iconst 0, 1) := by decide +kernel
theorem dX4_faultOf_2 : decode cX4_faultOf 2 = .ok (.putfield 50, 3) := by decide +kernel
theorem dX4_faultOf_5 : decode cX4_faultOf 5 = .ok (.aload_n 0, 1) := by decide +kernel
theorem dX4_faultOf_6 : decode cX4_faultOf 6 = .ok (.iconst 0, 1) := by decide +kernel
theorem dX4_faultOf_7 : decode cX4_faultOf 7 = .ok (.putfield 53, 3) := by decide +kernel
theorem dX4_faultOf_10 : decode cX4_faultOf 10 = .ok (.iconst 0, 1) := by decide +kernel
theorem dX4_faultOf_11 : decode cX4_faultOf 11 = .ok (.istore_n 1, 1) := by decide +kernel
theorem dX4_faultOf_12 : decode cX4_faultOf 12 = .ok (.iload_n 1, 1) := by decide +kernel
theorem dX4_faultOf_13 : decode cX4_faultOf 13 = .ok (.aload_n 0, 1) := by decide +kernel
theorem dX4_faultOf_14 : decode cX4_faultOf 14 = .ok (.getfield 47, 3) := by decide +kernel
theorem dX4_faultOf_17 : decode cX4_faultOf 17 = .ok (.if_icmp .ge 22, 3) := by decide +kernel
theorem dX4_faultOf_20 : decode cX4_faultOf 20 = .ok (.aload_n 0, 1) := by decide +kernel
theorem dX4_faultOf_21 : decode cX4_faultOf 21 = .ok (.aload_n 0, 1) := by decide +kernel
theorem dX4_faultOf_22 : decode cX4_faultOf 22 = .ok (.getfield 7, 3) := by decide +kernel
theorem dX4_faultOf_25 : decode cX4_faultOf 25 = .ok (.iload_n 1, 1) := by decide +kernel
theorem dX4_faultOf_26 : decode cX4_faultOf 26 = .ok (.iaload, 1) := by decide +kernel
theorem dX4_faultOf_27 : decode cX4_faultOf 27 = .ok (.invokevirtual 67, 3) := by decide +kernel
theorem dX4_faultOf_30 : decode cX4_faultOf 30 = .ok (.ifCond .eq 9, 3) := by decide +kernel
theorem dX4_faultOf_33 : decode cX4_faultOf 33 = .ok (.iinc 1 1, 3) := by decide +kernel
theorem dX4_faultOf_36 : decode cX4_faultOf 36 = .ok (.goto (-24), 3) := by decide +kernel
theorem dX4_faultOf_39 : decode cX4_faultOf 39 = .ok (.iload_n 1, 1) := by decide +kernel
theorem dX4_faultOf_40 : decode cX4_faultOf 40 = .ok (.ireturn, 1) := by decide +kernel
theorem dX4_fault_0 : decode cX4_fault 0 = .ok (.aload_n 0, 1) := by decide +kernel
theorem dX4_fault_1 : decode cX4_fault 1 = .ok (.invokevirtual 71, 3) := by decide +kernel
theorem dX4_fault_4 : decode cX4_fault 4 = .ok (.ireturn, 1) := by decide +kernel
theorem dX4_hills_0 : decode cX4_hills 0 = .ok (.aload_n 0, 1) := by decide +kernel
theorem dX4_hills_1 : decode cX4_hills 1 = .ok (.invokevirtual 71, 3) := by decide +kernel
theorem dX4_hills_4 : decode cX4_hills 4 = .ok (.aload_n 0, 1) := by decide +kernel
theorem dX4_hills_5 : decode cX4_hills 5 = .ok (.getfield 47, 3) := by decide +kernel
theorem dX4_hills_8 : decode cX4_hills 8 = .ok (.if_icmp .lt 11, 3) := by decide +kernel
theorem dX4_hills_11 : decode cX4_hills 11 = .ok (.aload_n 0, 1) := by decide +kernel
theorem dX4_hills_12 : decode cX4_hills 12 = .ok (.getfield 53, 3) := by decide +kernel
theorem dX4_hills_15 : decode cX4_hills 15 = .ok (.iconst 3, 1) := by decide +kernel
theorem dX4_hills_16 : decode cX4_hills 16 = .ok (.if_icmp .eq 6, 3) := by decide +kernel
theorem dX4_hills_19 : decode cX4_hills 19 = .ok (.bipush (-103), 2) := by decide +kernel
theorem dX4_hills_21 : decode cX4_hills 21 = .ok (.ireturn, 1) := by decide +kernel
theorem dX4_hills_22 : decode cX4_hills 22 = .ok (.aload_n 0, 1) := by decide +kernel
theorem dX4_hills_23 : decode cX4_hills 23 = .ok (.aload_n 0, 1) := by decide +kernel
theorem dX4_hills_24 : decode cX4_hills 24 = .ok (.getfield 50, 3) := by decide +kernel
theorem dX4_hills_27 : decode cX4_hills 27 = .ok (.iconst 1, 1) := by decide +kernel
theorem dX4_hills_28 : decode cX4_hills 28 = .ok (.iadd, 1) := by decide +kernel
theorem dX4_hills_29 : decode cX4_hills 29 = .ok (.putfield 75, 3) := by decide +kernel
theorem dX4_hills_32 : decode cX4_hills 32 = .ok (.iconst 0, 1) := by decide +kernel
theorem dX4_hills_33 : decode cX4_hills 33 = .ok (.istore_n 1, 1) := by decide +kernel
theorem dX4_hills_34 : decode cX4_hills 34 = .ok (.iload_n 1, 1) := by decide +kernel
theorem dX4_hills_35 : decode cX4_hills 35 = .ok (.bipush 36, 2) := by decide +kernel
theorem dX4_hills_37 : decode cX4_hills 37 = .ok (.if_icmp .ge 21, 3) := by decide +kernel
theorem dX4_hills_40 : decode cX4_hills 40 = .ok (.aload_n 0, 1) := by decide +kernel
theorem dX4_hills_41 : decode cX4_hills 41 = .ok (.getfield 16, 3) := by decide +kernel
theorem dX4_hills_44 : decode cX4_hills 44 = .ok (.iload_n 1, 1) := by decide +kernel
theorem dX4_hills_45 : decode cX4_hills 45 = .ok (.aload_n 0, 1) := by decide +kernel
theorem dX4_hills_46 : decode cX4_hills 46 = .ok (.getfield 13, 3) := by decide +kernel
theorem dX4_hills_49 : decode cX4_hills 49 = .ok (.iload_n 1, 1) := by decide +kernel
theorem dX4_hills_50 : decode cX4_hills 50 = .ok (.iaload, 1) := by decide +kernel
theorem dX4_hills_51 : decode cX4_hills 51 = .ok (.iastore, 1) := by decide +kernel
theorem dX4_hills_52 : decode cX4_hills 52 = .ok (.iinc 1 1, 3) := by decide +kernel
theorem dX4_hills_55 : decode cX4_hills 55 = .ok (.goto (-21), 3) := by decide +kernel
theorem dX4_hills_58 : decode cX4_hills 58 = .ok (.aload_n 0, 1) := by decide +kernel
theorem dX4_hills_59 : decode cX4_hills 59 = .ok (.iconst 0, 1) := by decide +kernel
theorem dX4_hills_60 : decode cX4_hills 60 = .ok (.putfield 78, 3) := by decide +kernel
theorem dX4_hills_63 : decode cX4_hills 63 = .ok (.aload_n 0, 1) := by decide +kernel
theorem dX4_hills_64 : decode cX4_hills 64 = .ok (.iconst 0, 1) := by decide +kernel
theorem dX4_hills_65 : decode cX4_hills 65 = .ok (.putfield 81, 3) := by decide +kernel
theorem dX4_hills_68 : decode cX4_hills 68 = .ok (.aload_n 0, 1) := by decide +kernel
theorem dX4_hills_69 : decode cX4_hills 69 = .ok (.dup, 1) := by decide +kernel
theorem dX4_hills_70 : decode cX4_hills 70 = .ok (.getfield 84, 3) := by decide +kernel
theorem dX4_hills_73 : decode cX4_hills 73 = .ok (.iconst 1, 1) := by decide +kernel
theorem dX4_hills_74 : decode cX4_hills 74 = .ok (.iadd, 1) := by decide +kernel
theorem dX4_hills_75 : decode cX4_hills 75 = .ok (.putfield 84, 3) := by decide +kernel
theorem dX4_hills_78 : decode cX4_hills 78 = .ok (.aload_n 0, 1) := by decide +kernel
theorem dX4_hills_79 : decode cX4_hills 79 = .ok (.iconst 0, 1) := by decide +kernel
theorem dX4_hills_80 : decode cX4_hills 80 = .ok (.putfield 47, 3) := by decide +kernel
theorem dX4_hills_83 : decode cX4_hills 83 = .ok (.aload_n 0, 1) := by decide +kernel
theorem dX4_hills_84 : decode cX4_hills 84 = .ok (.getfield 75, 3) := by decide +kernel
theorem dX4_hills_87 : decode cX4_hills 87 = .ok (.ireturn, 1) := by decide +kernel
theorem dX4_lacks_0 : decode cX4_lacks 0 = .ok (.aload_n 0, 1) := by decide +kernel
theorem dX4_lacks_1 : decode cX4_lacks 1 = .ok (.getfield 75, 3) := by decide +kernel
theorem dX4_lacks_4 : decode cX4_lacks 4 = .ok (.ifCond .ne 7, 3) := by decide +kernel
theorem dX4_lacks_7 : decode cX4_lacks 7 = .ok (.iconst 1, 1) := by decide +kernel
theorem dX4_lacks_8 : decode cX4_lacks 8 = .ok (.goto 4, 3) := by decide +kernel
theorem dX4_lacks_11 : decode cX4_lacks 11 = .ok (.iconst 0, 1) := by decide +kernel
theorem dX4_lacks_12 : decode cX4_lacks 12 = .ok (.ireturn, 1) := by decide +kernel
theorem dX4_isStick_0 : decode cX4_isStick 0 = .ok (.iload_n 1, 1) := by decide +kernel
theorem dX4_isStick_1 : decode cX4_isStick 1 = .ok (.i2l, 1) := by decide +kernel
theorem dX4_isStick_2 : decode cX4_isStick 2 = .ok (.lconst 0, 1) := by decide +kernel
theorem dX4_isStick_3 : decode cX4_isStick 3 = .ok (.aload_n 0, 1) := by decide +kernel
theorem dX4_isStick_4 : decode cX4_isStick 4 = .ok (.getfield 75, 3) := by decide +kernel
theorem dX4_isStick_7 : decode cX4_isStick 7 = .ok (.iconst 1, 1) := by decide +kernel
theorem dX4_isStick_8 : decode cX4_isStick 8 = .ok (.isub, 1) := by decide +kernel
theorem dX4_isStick_9 : decode cX4_isStick 9 = .ok (.i2l, 1) := by decide +kernel
theorem dX4_isStick_10 : decode cX4_isStick 10 = .ok (.invokestatic 43, 3) := by decide +kernel
theorem dX4_isStick_13 : decode cX4_isStick 13 = .ok (.ireturn, 1) := by decide +kernel
theorem dX4_areTwo_0 : decode cX4_areTwo 0 = .ok (.aload_n 0, 1) := by decide +kernel
theorem dX4_areTwo_1 : decode cX4_areTwo 1 = .ok (.iload_n 1, 1) := by decide +kernel
theorem dX4_areTwo_2 : decode cX4_areTwo 2 = .ok (.invokevirtual 87, 3) := by decide +kernel
theorem dX4_areTwo_5 : decode cX4_areTwo 5 = .ok (.ifCond .eq 20, 3) := by decide +kernel
theorem dX4_areTwo_8 : decode cX4_areTwo 8 = .ok (.aload_n 0, 1) := by decide +kernel
theorem dX4_areTwo_9 : decode cX4_areTwo 9 = .ok (.iload_n 2, 1) := by decide +kernel
theorem dX4_areTwo_10 : decode cX4_areTwo 10 = .ok (.invokevirtual 87, 3) := by decide +kernel
theorem dX4_areTwo_13 : decode cX4_areTwo 13 = .ok (.ifCond .eq 12, 3) := by decide +kernel
theorem dX4_areTwo_16 : decode cX4_areTwo 16 = .ok (.iload_n 1, 1) := by decide +kernel
theorem dX4_areTwo_17 : decode cX4_areTwo 17 = .ok (.iload_n 2, 1) := by decide +kernel
theorem dX4_areTwo_18 : decode cX4_areTwo 18 = .ok (.if_icmp .eq 7, 3) := by decide +kernel
theorem dX4_areTwo_21 : decode cX4_areTwo 21 = .ok (.iconst 1, 1) := by decide +kernel
theorem dX4_areTwo_22 : decode cX4_areTwo 22 = .ok (.goto 4, 3) := by decide +kernel
theorem dX4_areTwo_25 : decode cX4_areTwo 25 = .ok (.iconst 0, 1) := by decide +kernel
theorem dX4_areTwo_26 : decode cX4_areTwo 26 = .ok (.ireturn, 1) := by decide +kernel
theorem dX4_stepped_0 : decode cX4_stepped 0 = .ok (.iload_n 0, 1) := by decide +kernel
theorem dX4_stepped_1 : decode cX4_stepped 1 = .ok (.iconst 4, 1) := by decide +kernel
theorem dX4_stepped_2 : decode cX4_stepped 2 = .ok (.idiv, 1) := by decide +kernel
theorem dX4_stepped_3 : decode cX4_stepped 3 = .ok (.istore_n 2, 1) := by decide +kernel
theorem dX4_stepped_4 : decode cX4_stepped 4 = .ok (.iload_n 0, 1) := by decide +kernel
theorem dX4_stepped_5 : decode cX4_stepped 5 = .ok (.iconst 4, 1) := by decide +kernel
theorem dX4_stepped_6 : decode cX4_stepped 6 = .ok (.irem, 1) := by decide +kernel
theorem dX4_stepped_7 : decode cX4_stepped 7 = .ok (.istore_n 3, 1) := by decide +kernel
theorem dX4_stepped_8 : decode cX4_stepped 8 = .ok (.iload_n 2, 1) := by decide +kernel
theorem dX4_stepped_9 : decode cX4_stepped 9 = .ok (.iload_n 1, 1) := by decide +kernel
theorem dX4_stepped_10 : decode cX4_stepped 10 = .ok (.ifCond .ne 7, 3) := by decide +kernel
theorem dX4_stepped_13 : decode cX4_stepped 13 = .ok (.iconst (-1), 1) := by decide +kernel
theorem dX4_stepped_14 : decode cX4_stepped 14 = .ok (.goto 13, 3) := by decide +kernel
theorem dX4_stepped_17 : decode cX4_stepped 17 = .ok (.iload_n 1, 1) := by decide +kernel
theorem dX4_stepped_18 : decode cX4_stepped 18 = .ok (.iconst 2, 1) := by decide +kernel
theorem dX4_stepped_19 : decode cX4_stepped 19 = .ok (.if_icmp .ne 7, 3) := by decide +kernel
theorem dX4_stepped_22 : decode cX4_stepped 22 = .ok (.iconst 1, 1) := by decide +kernel
theorem dX4_stepped_23 : decode cX4_stepped 23 = .ok (.goto 4, 3) := by decide +kernel
theorem dX4_stepped_26 : decode cX4_stepped 26 = .ok (.iconst 0, 1) := by decide +kernel
theorem dX4_stepped_27 : decode cX4_stepped 27 = .ok (.iadd, 1) := by decide +kernel
theorem dX4_stepped_28 : decode cX4_stepped 28 = .ok (.istore_n 2, 1) := by decide +kernel
theorem dX4_stepped_29 : decode cX4_stepped 29 = .ok (.iload_n 3, 1) := by decide +kernel
theorem dX4_stepped_30 : decode cX4_stepped 30 = .ok (.iload_n 1, 1) := by decide +kernel
theorem dX4_stepped_31 : decode cX4_stepped 31 = .ok (.iconst 1, 1) := by decide +kernel
theorem dX4_stepped_32 : decode cX4_stepped 32 = .ok (.if_icmp .ne 7, 3) := by decide +kernel
theorem dX4_stepped_35 : decode cX4_stepped 35 = .ok (.iconst 1, 1) := by decide +kernel
theorem dX4_stepped_36 : decode cX4_stepped 36 = .ok (.goto 13, 3) := by decide +kernel
theorem dX4_stepped_39 : decode cX4_stepped 39 = .ok (.iload_n 1, 1) := by decide +kernel
theorem dX4_stepped_40 : decode cX4_stepped 40 = .ok (.iconst 3, 1) := by decide +kernel
theorem dX4_stepped_41 : decode cX4_stepped 41 = .ok (.if_icmp .ne 7, 3) := by decide +kernel
theorem dX4_stepped_44 : decode cX4_stepped 44 = .ok (.iconst (-1), 1) := by decide +kernel
theorem dX4_stepped_45 : decode cX4_stepped 45 = .ok (.goto 4, 3) := by decide +kernel
theorem dX4_stepped_48 : decode cX4_stepped 48 = .ok (.iconst 0, 1) := by decide +kernel
theorem dX4_stepped_49 : decode cX4_stepped 49 = .ok (.iadd, 1) := by decide +kernel
theorem dX4_stepped_50 : decode cX4_stepped 50 = .ok (.istore_n 3, 1) := by decide +kernel
theorem dX4_stepped_51 : decode cX4_stepped 51 = .ok (.iload_n 2, 1) := by decide +kernel
theorem dX4_stepped_52 : decode cX4_stepped 52 = .ok (.i2l, 1) := by decide +kernel
theorem dX4_stepped_53 : decode cX4_stepped 53 = .ok (.lconst 0, 1) := by decide +kernel
theorem dX4_stepped_54 : decode cX4_stepped 54 = .ok (.ldc2_w 90, 3) := by decide +kernel
theorem dX4_stepped_57 : decode cX4_stepped 57 = .ok (.invokestatic 43, 3) := by decide +kernel
theorem dX4_stepped_60 : decode cX4_stepped 60 = .ok (.ifCond .eq 23, 3) := by decide +kernel
theorem dX4_stepped_63 : decode cX4_stepped 63 = .ok (.iload_n 3, 1) := by decide +kernel
theorem dX4_stepped_64 : decode cX4_stepped 64 = .ok (.i2l, 1) := by decide +kernel
theorem dX4_stepped_65 : decode cX4_stepped 65 = .ok (.lconst 0, 1) := by decide +kernel
theorem dX4_stepped_66 : decode cX4_stepped 66 = .ok (.ldc2_w 90, 3) := by decide +kernel
theorem dX4_stepped_69 : decode cX4_stepped 69 = .ok (.invokestatic 43, 3) := by decide +kernel
theorem dX4_stepped_72 : decode cX4_stepped 72 = .ok (.ifCond .eq 11, 3) := by decide +kernel
theorem dX4_stepped_75 : decode cX4_stepped 75 = .ok (.iconst 4, 1) := by decide +kernel
theorem dX4_stepped_76 : decode cX4_stepped 76 = .ok (.iload_n 2, 1) := by decide +kernel
theorem dX4_stepped_77 : decode cX4_stepped 77 = .ok (.imul, 1) := by decide +kernel
theorem dX4_stepped_78 : decode cX4_stepped 78 = .ok (.iload_n 3, 1) := by decide +kernel
theorem dX4_stepped_79 : decode cX4_stepped 79 = .ok (.iadd, 1) := by decide +kernel
theorem dX4_stepped_80 : decode cX4_stepped 80 = .ok (.goto 4, 3) := by decide +kernel
theorem dX4_stepped_83 : decode cX4_stepped 83 = .ok (.iload_n 0, 1) := by decide +kernel
theorem dX4_stepped_84 : decode cX4_stepped 84 = .ok (.ireturn, 1) := by decide +kernel
theorem dX4_hoursOf_0 : decode cX4_hoursOf 0 = .ok (.aload_n 0, 1) := by decide +kernel
theorem dX4_hoursOf_1 : decode cX4_hoursOf 1 = .ok (.getfield 16, 3) := by decide +kernel
theorem dX4_hoursOf_4 : decode cX4_hoursOf 4 = .ok (.bipush 9, 2) := by decide +kernel
theorem dX4_hoursOf_6 : decode cX4_hoursOf 6 = .ok (.iload_n 1, 1) := by decide +kernel
theorem dX4_hoursOf_7 : decode cX4_hoursOf 7 = .ok (.imul, 1) := by decide +kernel
theorem dX4_hoursOf_8 : decode cX4_hoursOf 8 = .ok (.iaload, 1) := by decide +kernel
theorem dX4_hoursOf_9 : decode cX4_hoursOf 9 = .ok (.istore_n 2, 1) := by decide +kernel
theorem dX4_hoursOf_10 : decode cX4_hoursOf 10 = .ok (.aload_n 0, 1) := by decide +kernel
theorem dX4_hoursOf_11 : decode cX4_hoursOf 11 = .ok (.getfield 16, 3) := by decide +kernel
theorem dX4_hoursOf_14 : decode cX4_hoursOf 14 = .ok (.bipush 9, 2) := by decide +kernel
theorem dX4_hoursOf_16 : decode cX4_hoursOf 16 = .ok (.iload_n 1, 1) := by decide +kernel
theorem dX4_hoursOf_17 : decode cX4_hoursOf 17 = .ok (.imul, 1) := by decide +kernel
theorem dX4_hoursOf_18 : decode cX4_hoursOf 18 = .ok (.iconst 3, 1) := by decide +kernel
theorem dX4_hoursOf_19 : decode cX4_hoursOf 19 = .ok (.iadd, 1) := by decide +kernel
theorem dX4_hoursOf_20 : decode cX4_hoursOf 20 = .ok (.iaload, 1) := by decide +kernel
theorem dX4_hoursOf_21 : decode cX4_hoursOf 21 = .ok (.istore_n 3, 1) := by decide +kernel
theorem dX4_hoursOf_22 : decode cX4_hoursOf 22 = .ok (.iload_n 2, 1) := by decide +kernel
theorem dX4_hoursOf_23 : decode cX4_hoursOf 23 = .ok (.iconst 4, 1) := by decide +kernel
theorem dX4_hoursOf_24 : decode cX4_hoursOf 24 = .ok (.if_icmp .ne 9, 3) := by decide +kernel
theorem dX4_hoursOf_27 : decode cX4_hoursOf 27 = .ok (.iconst 4, 1) := by decide +kernel
theorem dX4_hoursOf_28 : decode cX4_hoursOf 28 = .ok (.iload_n 3, 1) := by decide +kernel
theorem dX4_hoursOf_29 : decode cX4_hoursOf 29 = .ok (.imul, 1) := by decide +kernel
theorem dX4_hoursOf_30 : decode cX4_hoursOf 30 = .ok (.goto 20, 3) := by decide +kernel
theorem dX4_hoursOf_33 : decode cX4_hoursOf 33 = .ok (.iload_n 2, 1) := by decide +kernel
theorem dX4_hoursOf_34 : decode cX4_hoursOf 34 = .ok (.iconst 1, 1) := by decide +kernel
theorem dX4_hoursOf_35 : decode cX4_hoursOf 35 = .ok (.if_icmp .eq 8, 3) := by decide +kernel
theorem dX4_hoursOf_38 : decode cX4_hoursOf 38 = .ok (.iload_n 2, 1) := by decide +kernel
theorem dX4_hoursOf_39 : decode cX4_hoursOf 39 = .ok (.iconst 2, 1) := by decide +kernel
theorem dX4_hoursOf_40 : decode cX4_hoursOf 40 = .ok (.if_icmp .ne 9, 3) := by decide +kernel
theorem dX4_hoursOf_43 : decode cX4_hoursOf 43 = .ok (.iconst 2, 1) := by decide +kernel
theorem dX4_hoursOf_44 : decode cX4_hoursOf 44 = .ok (.iload_n 3, 1) := by decide +kernel
theorem dX4_hoursOf_45 : decode cX4_hoursOf 45 = .ok (.imul, 1) := by decide +kernel
theorem dX4_hoursOf_46 : decode cX4_hoursOf 46 = .ok (.goto 4, 3) := by decide +kernel
theorem dX4_hoursOf_49 : decode cX4_hoursOf 49 = .ok (.iload_n 3, 1) := by decide +kernel
theorem dX4_hoursOf_50 : decode cX4_hoursOf 50 = .ok (.ireturn, 1) := by decide +kernel
theorem dX4_stepIn_0 : decode cX4_stepIn 0 = .ok (.aload_n 0, 1) := by decide +kernel
theorem dX4_stepIn_1 : decode cX4_stepIn 1 = .ok (.getfield 16, 3) := by decide +kernel
theorem dX4_stepIn_4 : decode cX4_stepIn 4 = .ok (.bipush 9, 2) := by decide +kernel
theorem dX4_stepIn_6 : decode cX4_stepIn 6 = .ok (.iload_n 1, 1) := by decide +kernel
theorem dX4_stepIn_7 : decode cX4_stepIn 7 = .ok (.imul, 1) := by decide +kernel
theorem dX4_stepIn_8 : decode cX4_stepIn 8 = .ok (.iaload, 1) := by decide +kernel
theorem dX4_stepIn_9 : decode cX4_stepIn 9 = .ok (.istore_n 3, 1) := by decide +kernel
theorem dX4_stepIn_10 : decode cX4_stepIn 10 = .ok (.aload_n 0, 1) := by decide +kernel
theorem dX4_stepIn_11 : decode cX4_stepIn 11 = .ok (.getfield 16, 3) := by decide +kernel
theorem dX4_stepIn_14 : decode cX4_stepIn 14 = .ok (.bipush 9, 2) := by decide +kernel
theorem dX4_stepIn_16 : decode cX4_stepIn 16 = .ok (.iload_n 1, 1) := by decide +kernel
theorem dX4_stepIn_17 : decode cX4_stepIn 17 = .ok (.imul, 1) := by decide +kernel
theorem dX4_stepIn_18 : decode cX4_stepIn 18 = .ok (.iconst 3, 1) := by decide +kernel
theorem dX4_stepIn_19 : decode cX4_stepIn 19 = .ok (.iadd, 1) := by decide +kernel
theorem dX4_stepIn_20 : decode cX4_stepIn 20 = .ok (.iaload, 1) := by decide +kernel
theorem dX4_stepIn_21 : decode cX4_stepIn 21 = .ok (.istore 4, 2) := by decide +kernel
theorem dX4_stepIn_23 : decode cX4_stepIn 23 = .ok (.iload_n 2, 1) := by decide +kernel
theorem dX4_stepIn_24 : decode cX4_stepIn 24 = .ok (.aload_n 0, 1) := by decide +kernel
theorem dX4_stepIn_25 : decode cX4_stepIn 25 = .ok (.iload_n 1, 1) := by decide +kernel
theorem dX4_stepIn_26 : decode cX4_stepIn 26 = .ok (.invokevirtual 92, 3) := by decide +kernel
theorem dX4_stepIn_29 : decode cX4_stepIn 29 = .ok (.if_icmp .le 5, 3) := by decide +kernel
theorem dX4_stepIn_32 : decode cX4_stepIn 32 = .ok (.iconst (-1), 1) := by decide +kernel
theorem dX4_stepIn_33 : decode cX4_stepIn 33 = .ok (.ireturn, 1) := by decide +kernel
theorem dX4_stepIn_34 : decode cX4_stepIn 34 = .ok (.iload_n 3, 1) := by decide +kernel
theorem dX4_stepIn_35 : decode cX4_stepIn 35 = .ok (.iconst 2, 1) := by decide +kernel
theorem dX4_stepIn_36 : decode cX4_stepIn 36 = .ok (.if_icmp .ne 30, 3) := by decide +kernel
theorem dX4_stepIn_39 : decode cX4_stepIn 39 = .ok (.iload_n 2, 1) := by decide +kernel
theorem dX4_stepIn_40 : decode cX4_stepIn 40 = .ok (.iconst 2, 1) := by decide +kernel
theorem dX4_stepIn_41 : decode cX4_stepIn 41 = .ok (.irem, 1) := by decide +kernel
theorem dX4_stepIn_42 : decode cX4_stepIn 42 = .ok (.iconst 1, 1) := by decide +kernel
theorem dX4_stepIn_43 : decode cX4_stepIn 43 = .ok (.if_icmp .ne 7, 3) := by decide +kernel
theorem dX4_stepIn_46 : decode cX4_stepIn 46 = .ok (.iconst (-1), 1) := by decide +kernel
theorem dX4_stepIn_47 : decode cX4_stepIn 47 = .ok (.goto 18, 3) := by decide +kernel
theorem dX4_stepIn_50 : decode cX4_stepIn 50 = .ok (.aload_n 0, 1) := by decide +kernel
theorem dX4_stepIn_51 : decode cX4_stepIn 51 = .ok (.getfield 16, 3) := by decide +kernel
theorem dX4_stepIn_54 : decode cX4_stepIn 54 = .ok (.bipush 9, 2) := by decide +kernel
theorem dX4_stepIn_56 : decode cX4_stepIn 56 = .ok (.iload_n 1, 1) := by decide +kernel
theorem dX4_stepIn_57 : decode cX4_stepIn 57 = .ok (.imul, 1) := by decide +kernel
theorem dX4_stepIn_58 : decode cX4_stepIn 58 = .ok (.iconst 3, 1) := by decide +kernel
theorem dX4_stepIn_59 : decode cX4_stepIn 59 = .ok (.iadd, 1) := by decide +kernel
theorem dX4_stepIn_60 : decode cX4_stepIn 60 = .ok (.iload_n 2, 1) := by decide +kernel
theorem dX4_stepIn_61 : decode cX4_stepIn 61 = .ok (.iconst 2, 1) := by decide +kernel
theorem dX4_stepIn_62 : decode cX4_stepIn 62 = .ok (.idiv, 1) := by decide +kernel
theorem dX4_stepIn_63 : decode cX4_stepIn 63 = .ok (.iadd, 1) := by decide +kernel
theorem dX4_stepIn_64 : decode cX4_stepIn 64 = .ok (.iaload, 1) := by decide +kernel
theorem dX4_stepIn_65 : decode cX4_stepIn 65 = .ok (.ireturn, 1) := by decide +kernel
theorem dX4_stepIn_66 : decode cX4_stepIn 66 = .ok (.iload_n 2, 1) := by decide +kernel
theorem dX4_stepIn_67 : decode cX4_stepIn 67 = .ok (.iconst 1, 1) := by decide +kernel
theorem dX4_stepIn_68 : decode cX4_stepIn 68 = .ok (.isub, 1) := by decide +kernel
theorem dX4_stepIn_69 : decode cX4_stepIn 69 = .ok (.iconst 2, 1) := by decide +kernel
theorem dX4_stepIn_70 : decode cX4_stepIn 70 = .ok (.iload 4, 2) := by decide +kernel
theorem dX4_stepIn_72 : decode cX4_stepIn 72 = .ok (.imul, 1) := by decide +kernel
theorem dX4_stepIn_73 : decode cX4_stepIn 73 = .ok (.irem, 1) := by decide +kernel
theorem dX4_stepIn_74 : decode cX4_stepIn 74 = .ok (.istore 5, 2) := by decide +kernel
theorem dX4_stepIn_76 : decode cX4_stepIn 76 = .ok (.iload 5, 2) := by decide +kernel
theorem dX4_stepIn_78 : decode cX4_stepIn 78 = .ok (.iload 4, 2) := by decide +kernel
theorem dX4_stepIn_80 : decode cX4_stepIn 80 = .ok (.if_icmp .lt 7, 3) := by decide +kernel
theorem dX4_stepIn_83 : decode cX4_stepIn 83 = .ok (.iconst 1, 1) := by decide +kernel
theorem dX4_stepIn_84 : decode cX4_stepIn 84 = .ok (.goto 4, 3) := by decide +kernel
theorem dX4_stepIn_87 : decode cX4_stepIn 87 = .ok (.iconst 0, 1) := by decide +kernel
theorem dX4_stepIn_88 : decode cX4_stepIn 88 = .ok (.istore 6, 2) := by decide +kernel
theorem dX4_stepIn_90 : decode cX4_stepIn 90 = .ok (.aload_n 0, 1) := by decide +kernel
theorem dX4_stepIn_91 : decode cX4_stepIn 91 = .ok (.getfield 16, 3) := by decide +kernel
theorem dX4_stepIn_94 : decode cX4_stepIn 94 = .ok (.bipush 9, 2) := by decide +kernel
theorem dX4_stepIn_96 : decode cX4_stepIn 96 = .ok (.iload_n 1, 1) := by decide +kernel
theorem dX4_stepIn_97 : decode cX4_stepIn 97 = .ok (.imul, 1) := by decide +kernel
theorem dX4_stepIn_98 : decode cX4_stepIn 98 = .ok (.iconst 4, 1) := by decide +kernel
theorem dX4_stepIn_99 : decode cX4_stepIn 99 = .ok (.iadd, 1) := by decide +kernel
theorem dX4_stepIn_100 : decode cX4_stepIn 100 = .ok (.iload 6, 2) := by decide +kernel
theorem dX4_stepIn_102 : decode cX4_stepIn 102 = .ok (.ifCond .eq 15, 3) := by decide +kernel
theorem dX4_stepIn_105 : decode cX4_stepIn 105 = .ok (.iconst 2, 1) := by decide +kernel
theorem dX4_stepIn_106 : decode cX4_stepIn 106 = .ok (.iload 4, 2) := by decide +kernel
theorem dX4_stepIn_108 : decode cX4_stepIn 108 = .ok (.imul, 1) := by decide +kernel
theorem dX4_stepIn_109 : decode cX4_stepIn 109 = .ok (.iconst 1, 1) := by decide +kernel
theorem dX4_stepIn_110 : decode cX4_stepIn 110 = .ok (.isub, 1) := by decide +kernel
theorem dX4_stepIn_111 : decode cX4_stepIn 111 = .ok (.iload 5, 2) := by decide +kernel
theorem dX4_stepIn_113 : decode cX4_stepIn 113 = .ok (.isub, 1) := by decide +kernel
theorem dX4_stepIn_114 : decode cX4_stepIn 114 = .ok (.goto 5, 3) := by decide +kernel
theorem dX4_stepIn_117 : decode cX4_stepIn 117 = .ok (.iload 5, 2) := by decide +kernel
theorem dX4_stepIn_119 : decode cX4_stepIn 119 = .ok (.iadd, 1) := by decide +kernel
theorem dX4_stepIn_120 : decode cX4_stepIn 120 = .ok (.iaload, 1) := by decide +kernel
theorem dX4_stepIn_121 : decode cX4_stepIn 121 = .ok (.istore 7, 2) := by decide +kernel
theorem dX4_stepIn_123 : decode cX4_stepIn 123 = .ok (.iload 6, 2) := by decide +kernel
theorem dX4_stepIn_125 : decode cX4_stepIn 125 = .ok (.ifCond .ne 8, 3) := by decide +kernel
theorem dX4_stepIn_128 : decode cX4_stepIn 128 = .ok (.iload_n 3, 1) := by decide +kernel
theorem dX4_stepIn_129 : decode cX4_stepIn 129 = .ok (.iconst 3, 1) := by decide +kernel
theorem dX4_stepIn_130 : decode cX4_stepIn 130 = .ok (.if_icmp .ne 12, 3) := by decide +kernel
theorem dX4_stepIn_133 : decode cX4_stepIn 133 = .ok (.iload 7, 2) := by decide +kernel
theorem dX4_stepIn_135 : decode cX4_stepIn 135 = .ok (.iconst 2, 1) := by decide +kernel
theorem dX4_stepIn_136 : decode cX4_stepIn 136 = .ok (.iadd, 1) := by decide +kernel
theorem dX4_stepIn_137 : decode cX4_stepIn 137 = .ok (.iconst 4, 1) := by decide +kernel
theorem dX4_stepIn_138 : decode cX4_stepIn 138 = .ok (.irem, 1) := by decide +kernel
theorem dX4_stepIn_139 : decode cX4_stepIn 139 = .ok (.goto 5, 3) := by decide +kernel
theorem dX4_stepIn_142 : decode cX4_stepIn 142 = .ok (.iload 7, 2) := by decide +kernel
theorem dX4_stepIn_144 : decode cX4_stepIn 144 = .ok (.ireturn, 1) := by decide +kernel
theorem dX4_atOf_0 : decode cX4_atOf 0 = .ok (.aload_n 0, 1) := by decide +kernel
theorem dX4_atOf_1 : decode cX4_atOf 1 = .ok (.getfield 16, 3) := by decide +kernel
theorem dX4_atOf_4 : decode cX4_atOf 4 = .ok (.bipush 9, 2) := by decide +kernel
theorem dX4_atOf_6 : decode cX4_atOf 6 = .ok (.iload_n 1, 1) := by decide +kernel
theorem dX4_atOf_7 : decode cX4_atOf 7 = .ok (.imul, 1) := by decide +kernel
theorem dX4_atOf_8 : decode cX4_atOf 8 = .ok (.iconst 1, 1) := by decide +kernel
theorem dX4_atOf_9 : decode cX4_atOf 9 = .ok (.iadd, 1) := by decide +kernel
theorem dX4_atOf_10 : decode cX4_atOf 10 = .ok (.iaload, 1) := by decide +kernel
theorem dX4_atOf_11 : decode cX4_atOf 11 = .ok (.istore_n 3, 1) := by decide +kernel
theorem dX4_atOf_12 : decode cX4_atOf 12 = .ok (.iconst 1, 1) := by decide +kernel
theorem dX4_atOf_13 : decode cX4_atOf 13 = .ok (.istore 4, 2) := by decide +kernel
theorem dX4_atOf_15 : decode cX4_atOf 15 = .ok (.iload 4, 2) := by decide +kernel
theorem dX4_atOf_17 : decode cX4_atOf 17 = .ok (.iload_n 2, 1) := by decide +kernel
theorem dX4_atOf_18 : decode cX4_atOf 18 = .ok (.aload_n 0, 1) := by decide +kernel
theorem dX4_atOf_19 : decode cX4_atOf 19 = .ok (.getfield 16, 3) := by decide +kernel
theorem dX4_atOf_22 : decode cX4_atOf 22 = .ok (.bipush 9, 2) := by decide +kernel
theorem dX4_atOf_24 : decode cX4_atOf 24 = .ok (.iload_n 1, 1) := by decide +kernel
theorem dX4_atOf_25 : decode cX4_atOf 25 = .ok (.imul, 1) := by decide +kernel
theorem dX4_atOf_26 : decode cX4_atOf 26 = .ok (.iconst 2, 1) := by decide +kernel
theorem dX4_atOf_27 : decode cX4_atOf 27 = .ok (.iadd, 1) := by decide +kernel
theorem dX4_atOf_28 : decode cX4_atOf 28 = .ok (.iaload, 1) := by decide +kernel
theorem dX4_atOf_29 : decode cX4_atOf 29 = .ok (.isub, 1) := by decide +kernel
theorem dX4_atOf_30 : decode cX4_atOf 30 = .ok (.if_icmp .gt 35, 3) := by decide +kernel
theorem dX4_atOf_33 : decode cX4_atOf 33 = .ok (.aload_n 0, 1) := by decide +kernel
theorem dX4_atOf_34 : decode cX4_atOf 34 = .ok (.iload_n 1, 1) := by decide +kernel
theorem dX4_atOf_35 : decode cX4_atOf 35 = .ok (.iload 4, 2) := by decide +kernel
theorem dX4_atOf_37 : decode cX4_atOf 37 = .ok (.invokevirtual 95, 3) := by decide +kernel
theorem dX4_atOf_40 : decode cX4_atOf 40 = .ok (.istore 5, 2) := by decide +kernel
theorem dX4_atOf_42 : decode cX4_atOf 42 = .ok (.iload 5, 2) := by decide +kernel
theorem dX4_atOf_44 : decode cX4_atOf 44 = .ok (.iconst (-1), 1) := by decide +kernel
theorem dX4_atOf_45 : decode cX4_atOf 45 = .ok (.if_icmp .ne 7, 3) := by decide +kernel
theorem dX4_atOf_48 : decode cX4_atOf 48 = .ok (.iload_n 3, 1) := by decide +kernel
theorem dX4_atOf_49 : decode cX4_atOf 49 = .ok (.goto 9, 3) := by decide +kernel
theorem dX4_atOf_52 : decode cX4_atOf 52 = .ok (.iload_n 3, 1) := by decide +kernel
theorem dX4_atOf_53 : decode cX4_atOf 53 = .ok (.iload 5, 2) := by decide +kernel
theorem dX4_atOf_55 : decode cX4_atOf 55 = .ok (.invokestatic 99, 3) := by decide +kernel
theorem dX4_atOf_58 : decode cX4_atOf 58 = .ok (.istore_n 3, 1) := by decide +kernel
theorem dX4_atOf_59 : decode cX4_atOf 59 = .ok (.iinc 4 1, 3) := by decide +kernel
theorem dX4_atOf_62 : decode cX4_atOf 62 = .ok (.goto (-47), 3) := by decide +kernel
theorem dX4_atOf_65 : decode cX4_atOf 65 = .ok (.iload_n 3, 1) := by decide +kernel
theorem dX4_atOf_66 : decode cX4_atOf 66 = .ok (.ireturn, 1) := by decide +kernel
theorem dX4_placesOf_0 : decode cX4_placesOf 0 = .ok (.iconst 0, 1) := by decide +kernel
theorem dX4_placesOf_1 : decode cX4_placesOf 1 = .ok (.istore_n 2, 1) := by decide +kernel
theorem dX4_placesOf_2 : decode cX4_placesOf 2 = .ok (.iconst 0, 1) := by decide +kernel
theorem dX4_placesOf_3 : decode cX4_placesOf 3 = .ok (.istore_n 3, 1) := by decide +kernel
theorem dX4_placesOf_4 : decode cX4_placesOf 4 = .ok (.iload_n 3, 1) := by decide +kernel
theorem dX4_placesOf_5 : decode cX4_placesOf 5 = .ok (.bipush 31, 2) := by decide +kernel
theorem dX4_placesOf_7 : decode cX4_placesOf 7 = .ok (.if_icmp .ge 20, 3) := by decide +kernel
theorem dX4_placesOf_10 : decode cX4_placesOf 10 = .ok (.iload_n 2, 1) := by decide +kernel
theorem dX4_placesOf_11 : decode cX4_placesOf 11 = .ok (.iconst 1, 1) := by decide +kernel
theorem dX4_placesOf_12 : decode cX4_placesOf 12 = .ok (.aload_n 0, 1) := by decide +kernel
theorem dX4_placesOf_13 : decode cX4_placesOf 13 = .ok (.iload_n 1, 1) := by decide +kernel
theorem dX4_placesOf_14 : decode cX4_placesOf 14 = .ok (.iload_n 3, 1) := by decide +kernel
theorem dX4_placesOf_15 : decode cX4_placesOf 15 = .ok (.invokevirtual 102, 3) := by decide +kernel
theorem dX4_placesOf_18 : decode cX4_placesOf 18 = .ok (.ishl, 1) := by decide +kernel
theorem dX4_placesOf_19 : decode cX4_placesOf 19 = .ok (.ior, 1) := by decide +kernel
theorem dX4_placesOf_20 : decode cX4_placesOf 20 = .ok (.istore_n 2, 1) := by decide +kernel
theorem dX4_placesOf_21 : decode cX4_placesOf 21 = .ok (.iinc 3 1, 3) := by decide +kernel
theorem dX4_placesOf_24 : decode cX4_placesOf 24 = .ok (.goto (-20), 3) := by decide +kernel
theorem dX4_placesOf_27 : decode cX4_placesOf 27 = .ok (.iload_n 2, 1) := by decide +kernel
theorem dX4_placesOf_28 : decode cX4_placesOf 28 = .ok (.ireturn, 1) := by decide +kernel
theorem dX4_endOf_0 : decode cX4_endOf 0 = .ok (.aload_n 0, 1) := by decide +kernel
theorem dX4_endOf_1 : decode cX4_endOf 1 = .ok (.getfield 16, 3) := by decide +kernel
theorem dX4_endOf_4 : decode cX4_endOf 4 = .ok (.bipush 9, 2) := by decide +kernel
theorem dX4_endOf_6 : decode cX4_endOf 6 = .ok (.iload_n 1, 1) := by decide +kernel
theorem dX4_endOf_7 : decode cX4_endOf 7 = .ok (.imul, 1) := by decide +kernel
theorem dX4_endOf_8 : decode cX4_endOf 8 = .ok (.iconst 2, 1) := by decide +kernel
theorem dX4_endOf_9 : decode cX4_endOf 9 = .ok (.iadd, 1) := by decide +kernel
theorem dX4_endOf_10 : decode cX4_endOf 10 = .ok (.iaload, 1) := by decide +kernel
theorem dX4_endOf_11 : decode cX4_endOf 11 = .ok (.aload_n 0, 1) := by decide +kernel
theorem dX4_endOf_12 : decode cX4_endOf 12 = .ok (.iload_n 1, 1) := by decide +kernel
theorem dX4_endOf_13 : decode cX4_endOf 13 = .ok (.invokevirtual 92, 3) := by decide +kernel
theorem dX4_endOf_16 : decode cX4_endOf 16 = .ok (.iadd, 1) := by decide +kernel
theorem dX4_endOf_17 : decode cX4_endOf 17 = .ok (.ireturn, 1) := by decide +kernel
theorem dX4_tell_0 : decode cX4_tell 0 = .ok (.iload_n 2, 1) := by decide +kernel
theorem dX4_tell_1 : decode cX4_tell 1 = .ok (.i2l, 1) := by decide +kernel
theorem dX4_tell_2 : decode cX4_tell 2 = .ok (.ldc2_w 105, 3) := by decide +kernel
theorem dX4_tell_5 : decode cX4_tell 5 = .ok (.ldc2_w 107, 3) := by decide +kernel
theorem dX4_tell_8 : decode cX4_tell 8 = .ok (.invokestatic 43, 3) := by decide +kernel
theorem dX4_tell_11 : decode cX4_tell 11 = .ok (.ifCond .eq 40, 3) := by decide +kernel
theorem dX4_tell_14 : decode cX4_tell 14 = .ok (.iload_n 2, 1) := by decide +kernel
theorem dX4_tell_15 : decode cX4_tell 15 = .ok (.bipush 10, 2) := by decide +kernel
theorem dX4_tell_17 : decode cX4_tell 17 = .ok (.isub, 1) := by decide +kernel
theorem dX4_tell_18 : decode cX4_tell 18 = .ok (.aload_n 0, 1) := by decide +kernel
theorem dX4_tell_19 : decode cX4_tell 19 = .ok (.getfield 16, 3) := by decide +kernel
theorem dX4_tell_22 : decode cX4_tell 22 = .ok (.bipush 9, 2) := by decide +kernel
theorem dX4_tell_24 : decode cX4_tell 24 = .ok (.iload_n 1, 1) := by decide +kernel
theorem dX4_tell_25 : decode cX4_tell 25 = .ok (.imul, 1) := by decide +kernel
theorem dX4_tell_26 : decode cX4_tell 26 = .ok (.iconst 3, 1) := by decide +kernel
theorem dX4_tell_27 : decode cX4_tell 27 = .ok (.iadd, 1) := by decide +kernel
theorem dX4_tell_28 : decode cX4_tell 28 = .ok (.iaload, 1) := by decide +kernel
theorem dX4_tell_29 : decode cX4_tell 29 = .ok (.if_icmp .ge 20, 3) := by decide +kernel
theorem dX4_tell_32 : decode cX4_tell 32 = .ok (.aload_n 0, 1) := by decide +kernel
theorem dX4_tell_33 : decode cX4_tell 33 = .ok (.getfield 16, 3) := by decide +kernel
theorem dX4_tell_36 : decode cX4_tell 36 = .ok (.bipush 9, 2) := by decide +kernel
theorem dX4_tell_38 : decode cX4_tell 38 = .ok (.iload_n 1, 1) := by decide +kernel
theorem dX4_tell_39 : decode cX4_tell 39 = .ok (.imul, 1) := by decide +kernel
theorem dX4_tell_40 : decode cX4_tell 40 = .ok (.iload_n 2, 1) := by decide +kernel
theorem dX4_tell_41 : decode cX4_tell 41 = .ok (.iadd, 1) := by decide +kernel
theorem dX4_tell_42 : decode cX4_tell 42 = .ok (.bipush 6, 2) := by decide +kernel
theorem dX4_tell_44 : decode cX4_tell 44 = .ok (.isub, 1) := by decide +kernel
theorem dX4_tell_45 : decode cX4_tell 45 = .ok (.iaload, 1) := by decide +kernel
theorem dX4_tell_46 : decode cX4_tell 46 = .ok (.goto 4, 3) := by decide +kernel
theorem dX4_tell_49 : decode cX4_tell 49 = .ok (.iconst (-1), 1) := by decide +kernel
theorem dX4_tell_50 : decode cX4_tell 50 = .ok (.ireturn, 1) := by decide +kernel
theorem dX4_tell_51 : decode cX4_tell 51 = .ok (.iload_n 2, 1) := by decide +kernel
theorem dX4_tell_52 : decode cX4_tell 52 = .ok (.tableswitch 106 0 6 #[44, 44, 56, 68, 80, 86, 97], 44) := by decide +kernel
theorem dX4_tell_96 : decode cX4_tell 96 = .ok (.aload_n 0, 1) := by decide +kernel
theorem dX4_tell_97 : decode cX4_tell 97 = .ok (.getfield 16, 3) := by decide +kernel
theorem dX4_tell_100 : decode cX4_tell 100 = .ok (.bipush 9, 2) := by decide +kernel
theorem dX4_tell_102 : decode cX4_tell 102 = .ok (.iload_n 1, 1) := by decide +kernel
theorem dX4_tell_103 : decode cX4_tell 103 = .ok (.imul, 1) := by decide +kernel
theorem dX4_tell_104 : decode cX4_tell 104 = .ok (.iload_n 2, 1) := by decide +kernel
theorem dX4_tell_105 : decode cX4_tell 105 = .ok (.iadd, 1) := by decide +kernel
theorem dX4_tell_106 : decode cX4_tell 106 = .ok (.iaload, 1) := by decide +kernel
theorem dX4_tell_107 : decode cX4_tell 107 = .ok (.ireturn, 1) := by decide +kernel
theorem dX4_tell_108 : decode cX4_tell 108 = .ok (.aload_n 0, 1) := by decide +kernel
theorem dX4_tell_109 : decode cX4_tell 109 = .ok (.getfield 16, 3) := by decide +kernel
theorem dX4_tell_112 : decode cX4_tell 112 = .ok (.bipush 9, 2) := by decide +kernel
theorem dX4_tell_114 : decode cX4_tell 114 = .ok (.iload_n 1, 1) := by decide +kernel
theorem dX4_tell_115 : decode cX4_tell 115 = .ok (.imul, 1) := by decide +kernel
theorem dX4_tell_116 : decode cX4_tell 116 = .ok (.iconst 3, 1) := by decide +kernel
theorem dX4_tell_117 : decode cX4_tell 117 = .ok (.iadd, 1) := by decide +kernel
theorem dX4_tell_118 : decode cX4_tell 118 = .ok (.iaload, 1) := by decide +kernel
theorem dX4_tell_119 : decode cX4_tell 119 = .ok (.ireturn, 1) := by decide +kernel
theorem dX4_tell_120 : decode cX4_tell 120 = .ok (.aload_n 0, 1) := by decide +kernel
theorem dX4_tell_121 : decode cX4_tell 121 = .ok (.getfield 16, 3) := by decide +kernel
theorem dX4_tell_124 : decode cX4_tell 124 = .ok (.bipush 9, 2) := by decide +kernel
theorem dX4_tell_126 : decode cX4_tell 126 = .ok (.iload_n 1, 1) := by decide +kernel
theorem dX4_tell_127 : decode cX4_tell 127 = .ok (.imul, 1) := by decide +kernel
theorem dX4_tell_128 : decode cX4_tell 128 = .ok (.iconst 2, 1) := by decide +kernel
theorem dX4_tell_129 : decode cX4_tell 129 = .ok (.iadd, 1) := by decide +kernel
theorem dX4_tell_130 : decode cX4_tell 130 = .ok (.iaload, 1) := by decide +kernel
theorem dX4_tell_131 : decode cX4_tell 131 = .ok (.ireturn, 1) := by decide +kernel
theorem dX4_tell_132 : decode cX4_tell 132 = .ok (.aload_n 0, 1) := by decide +kernel
theorem dX4_tell_133 : decode cX4_tell 133 = .ok (.iload_n 1, 1) := by decide +kernel
theorem dX4_tell_134 : decode cX4_tell 134 = .ok (.invokevirtual 109, 3) := by decide +kernel
theorem dX4_tell_137 : decode cX4_tell 137 = .ok (.ireturn, 1) := by decide +kernel
theorem dX4_tell_138 : decode cX4_tell 138 = .ok (.aload_n 0, 1) := by decide +kernel
theorem dX4_tell_139 : decode cX4_tell 139 = .ok (.iload_n 1, 1) := by decide +kernel
theorem dX4_tell_140 : decode cX4_tell 140 = .ok (.aload_n 0, 1) := by decide +kernel
theorem dX4_tell_141 : decode cX4_tell 141 = .ok (.iload_n 1, 1) := by decide +kernel
theorem dX4_tell_142 : decode cX4_tell 142 = .ok (.invokevirtual 109, 3) := by decide +kernel
theorem dX4_tell_145 : decode cX4_tell 145 = .ok (.invokevirtual 102, 3) := by decide +kernel
theorem dX4_tell_148 : decode cX4_tell 148 = .ok (.ireturn, 1) := by decide +kernel
theorem dX4_tell_149 : decode cX4_tell 149 = .ok (.aload_n 0, 1) := by decide +kernel
theorem dX4_tell_150 : decode cX4_tell 150 = .ok (.iload_n 1, 1) := by decide +kernel
theorem dX4_tell_151 : decode cX4_tell 151 = .ok (.invokevirtual 112, 3) := by decide +kernel
theorem dX4_tell_154 : decode cX4_tell 154 = .ok (.invokestatic 115, 3) := by decide +kernel
theorem dX4_tell_157 : decode cX4_tell 157 = .ok (.ireturn, 1) := by decide +kernel
theorem dX4_tell_158 : decode cX4_tell 158 = .ok (.bipush (-102), 2) := by decide +kernel
theorem dX4_tell_160 : decode cX4_tell 160 = .ok (.ireturn, 1) := by decide +kernel
theorem dX4_stick_0 : decode cX4_stick 0 = .ok (.aload_n 0, 1) := by decide +kernel
theorem dX4_stick_1 : decode cX4_stick 1 = .ok (.iload_n 1, 1) := by decide +kernel
theorem dX4_stick_2 : decode cX4_stick 2 = .ok (.invokevirtual 87, 3) := by decide +kernel
theorem dX4_stick_5 : decode cX4_stick 5 = .ok (.ifCond .eq 12, 3) := by decide +kernel
theorem dX4_stick_8 : decode cX4_stick 8 = .ok (.aload_n 0, 1) := by decide +kernel
theorem dX4_stick_9 : decode cX4_stick 9 = .ok (.iload_n 1, 1) := by decide +kernel
theorem dX4_stick_10 : decode cX4_stick 10 = .ok (.iload_n 2, 1) := by decide +kernel
theorem dX4_stick_11 : decode cX4_stick 11 = .ok (.invokevirtual 118, 3) := by decide +kernel
theorem dX4_stick_14 : decode cX4_stick 14 = .ok (.goto 5, 3) := by decide +kernel
theorem dX4_stick_17 : decode cX4_stick 17 = .ok (.bipush (-101), 2) := by decide +kernel
theorem dX4_stick_19 : decode cX4_stick 19 = .ok (.ireturn, 1) := by decide +kernel
theorem dX4_as_0 : decode cX4_as 0 = .ok (.aload_n 0, 1) := by decide +kernel
theorem dX4_as_1 : decode cX4_as 1 = .ok (.iload_n 1, 1) := by decide +kernel
theorem dX4_as_2 : decode cX4_as 2 = .ok (.invokevirtual 87, 3) := by decide +kernel
theorem dX4_as_5 : decode cX4_as 5 = .ok (.ifCond .ne 6, 3) := by decide +kernel
theorem dX4_as_8 : decode cX4_as 8 = .ok (.bipush (-101), 2) := by decide +kernel
theorem dX4_as_10 : decode cX4_as 10 = .ok (.ireturn, 1) := by decide +kernel
theorem dX4_as_11 : decode cX4_as 11 = .ok (.iload_n 2, 1) := by decide +kernel
theorem dX4_as_12 : decode cX4_as 12 = .ok (.i2l, 1) := by decide +kernel
theorem dX4_as_13 : decode cX4_as 13 = .ok (.lconst 0, 1) := by decide +kernel
theorem dX4_as_14 : decode cX4_as 14 = .ok (.ldc2_w 121, 3) := by decide +kernel
theorem dX4_as_17 : decode cX4_as 17 = .ok (.invokestatic 43, 3) := by decide +kernel
theorem dX4_as_20 : decode cX4_as 20 = .ok (.ifCond .ne 6, 3) := by decide +kernel
theorem dX4_as_23 : decode cX4_as 23 = .ok (.bipush (-102), 2) := by decide +kernel
theorem dX4_as_25 : decode cX4_as 25 = .ok (.ireturn, 1) := by decide +kernel
theorem dX4_as_26 : decode cX4_as 26 = .ok (.aload_n 0, 1) := by decide +kernel
theorem dX4_as_27 : decode cX4_as 27 = .ok (.getfield 16, 3) := by decide +kernel
theorem dX4_as_30 : decode cX4_as 30 = .ok (.bipush 9, 2) := by decide +kernel
theorem dX4_as_32 : decode cX4_as 32 = .ok (.iload_n 1, 1) := by decide +kernel
theorem dX4_as_33 : decode cX4_as 33 = .ok (.imul, 1) := by decide +kernel
theorem dX4_as_34 : decode cX4_as 34 = .ok (.iaload, 1) := by decide +kernel
theorem dX4_as_35 : decode cX4_as 35 = .ok (.istore_n 3, 1) := by decide +kernel
theorem dX4_as_36 : decode cX4_as 36 = .ok (.iload_n 2, 1) := by decide +kernel
theorem dX4_as_37 : decode cX4_as 37 = .ok (.ifCond .eq 18, 3) := by decide +kernel
theorem dX4_as_40 : decode cX4_as 40 = .ok (.iload_n 2, 1) := by decide +kernel
theorem dX4_as_41 : decode cX4_as 41 = .ok (.iload_n 3, 1) := by decide +kernel
theorem dX4_as_42 : decode cX4_as 42 = .ok (.if_icmp .eq 13, 3) := by decide +kernel
theorem dX4_as_45 : decode cX4_as 45 = .ok (.iload_n 2, 1) := by decide +kernel
theorem dX4_as_46 : decode cX4_as 46 = .ok (.iconst 1, 1) := by decide +kernel
theorem dX4_as_47 : decode cX4_as 47 = .ok (.if_icmp .ne 12, 3) := by decide +kernel
theorem dX4_as_50 : decode cX4_as 50 = .ok (.iload_n 3, 1) := by decide +kernel
theorem dX4_as_51 : decode cX4_as 51 = .ok (.iconst 4, 1) := by decide +kernel
theorem dX4_as_52 : decode cX4_as 52 = .ok (.if_icmp .ne 7, 3) := by decide +kernel
theorem dX4_as_55 : decode cX4_as 55 = .ok (.iconst 1, 1) := by decide +kernel
theorem dX4_as_56 : decode cX4_as 56 = .ok (.goto 4, 3) := by decide +kernel
theorem dX4_as_59 : decode cX4_as 59 = .ok (.iconst 0, 1) := by decide +kernel
theorem dX4_as_60 : decode cX4_as 60 = .ok (.istore 4, 2) := by decide +kernel
theorem dX4_as_62 : decode cX4_as 62 = .ok (.iload 4, 2) := by decide +kernel
theorem dX4_as_64 : decode cX4_as 64 = .ok (.ifCond .eq 7, 3) := by decide +kernel
theorem dX4_as_67 : decode cX4_as 67 = .ok (.iload_n 1, 1) := by decide +kernel
theorem dX4_as_68 : decode cX4_as 68 = .ok (.goto 4, 3) := by decide +kernel
theorem dX4_as_71 : decode cX4_as 71 = .ok (.iconst (-1), 1) := by decide +kernel
theorem dX4_as_72 : decode cX4_as 72 = .ok (.ireturn, 1) := by decide +kernel
theorem dX4_at_0 : decode cX4_at 0 = .ok (.aload_n 0, 1) := by decide +kernel
theorem dX4_at_1 : decode cX4_at 1 = .ok (.iload_n 1, 1) := by decide +kernel
theorem dX4_at_2 : decode cX4_at 2 = .ok (.invokevirtual 87, 3) := by decide +kernel
theorem dX4_at_5 : decode cX4_at 5 = .ok (.ifCond .ne 6, 3) := by decide +kernel
theorem dX4_at_8 : decode cX4_at 8 = .ok (.bipush (-101), 2) := by decide +kernel
theorem dX4_at_10 : decode cX4_at 10 = .ok (.ireturn, 1) := by decide +kernel
theorem dX4_at_11 : decode cX4_at 11 = .ok (.iload_n 2, 1) := by decide +kernel
theorem dX4_at_12 : decode cX4_at 12 = .ok (.i2l, 1) := by decide +kernel
theorem dX4_at_13 : decode cX4_at 13 = .ok (.lconst 0, 1) := by decide +kernel
theorem dX4_at_14 : decode cX4_at 14 = .ok (.ldc2_w 123, 3) := by decide +kernel
theorem dX4_at_17 : decode cX4_at 17 = .ok (.invokestatic 43, 3) := by decide +kernel
theorem dX4_at_20 : decode cX4_at 20 = .ok (.ifCond .eq 12, 3) := by decide +kernel
theorem dX4_at_23 : decode cX4_at 23 = .ok (.aload_n 0, 1) := by decide +kernel
theorem dX4_at_24 : decode cX4_at 24 = .ok (.iload_n 1, 1) := by decide +kernel
theorem dX4_at_25 : decode cX4_at 25 = .ok (.iload_n 2, 1) := by decide +kernel
theorem dX4_at_26 : decode cX4_at 26 = .ok (.invokevirtual 102, 3) := by decide +kernel
theorem dX4_at_29 : decode cX4_at 29 = .ok (.goto 5, 3) := by decide +kernel
theorem dX4_at_32 : decode cX4_at 32 = .ok (.bipush (-102), 2) := by decide +kernel
theorem dX4_at_34 : decode cX4_at 34 = .ok (.ireturn, 1) := by decide +kernel
theorem dX4_meetOf_0 : decode cX4_meetOf 0 = .ok (.iconst 0, 1) := by decide +kernel
theorem dX4_meetOf_1 : decode cX4_meetOf 1 = .ok (.istore_n 3, 1) := by decide +kernel
theorem dX4_meetOf_2 : decode cX4_meetOf 2 = .ok (.iconst 0, 1) := by decide +kernel
theorem dX4_meetOf_3 : decode cX4_meetOf 3 = .ok (.istore 4, 2) := by decide +kernel
theorem dX4_meetOf_5 : decode cX4_meetOf 5 = .ok (.iload 4, 2) := by decide +kernel
theorem dX4_meetOf_7 : decode cX4_meetOf 7 = .ok (.bipush 31, 2) := by decide +kernel
theorem dX4_meetOf_9 : decode cX4_meetOf 9 = .ok (.if_icmp .ge 34, 3) := by decide +kernel
theorem dX4_meetOf_12 : decode cX4_meetOf 12 = .ok (.iload_n 3, 1) := by decide +kernel
theorem dX4_meetOf_13 : decode cX4_meetOf 13 = .ok (.aload_n 0, 1) := by decide +kernel
theorem dX4_meetOf_14 : decode cX4_meetOf 14 = .ok (.iload_n 1, 1) := by decide +kernel
theorem dX4_meetOf_15 : decode cX4_meetOf 15 = .ok (.iload 4, 2) := by decide +kernel
theorem dX4_meetOf_17 : decode cX4_meetOf 17 = .ok (.invokevirtual 102, 3) := by decide +kernel
theorem dX4_meetOf_20 : decode cX4_meetOf 20 = .ok (.aload_n 0, 1) := by decide +kernel
theorem dX4_meetOf_21 : decode cX4_meetOf 21 = .ok (.iload_n 2, 1) := by decide +kernel
theorem dX4_meetOf_22 : decode cX4_meetOf 22 = .ok (.iload 4, 2) := by decide +kernel
theorem dX4_meetOf_24 : decode cX4_meetOf 24 = .ok (.invokevirtual 102, 3) := by decide +kernel
theorem dX4_meetOf_27 : decode cX4_meetOf 27 = .ok (.if_icmp .ne 7, 3) := by decide +kernel
theorem dX4_meetOf_30 : decode cX4_meetOf 30 = .ok (.iconst 1, 1) := by decide +kernel
theorem dX4_meetOf_31 : decode cX4_meetOf 31 = .ok (.goto 4, 3) := by decide +kernel
theorem dX4_meetOf_34 : decode cX4_meetOf 34 = .ok (.iconst 0, 1) := by decide +kernel
theorem dX4_meetOf_35 : decode cX4_meetOf 35 = .ok (.iadd, 1) := by decide +kernel
theorem dX4_meetOf_36 : decode cX4_meetOf 36 = .ok (.istore_n 3, 1) := by decide +kernel
theorem dX4_meetOf_37 : decode cX4_meetOf 37 = .ok (.iinc 4 1, 3) := by decide +kernel
theorem dX4_meetOf_40 : decode cX4_meetOf 40 = .ok (.goto (-35), 3) := by decide +kernel
theorem dX4_meetOf_43 : decode cX4_meetOf 43 = .ok (.iload_n 3, 1) := by decide +kernel
theorem dX4_meetOf_44 : decode cX4_meetOf 44 = .ok (.ireturn, 1) := by decide +kernel
theorem dX4_meet_0 : decode cX4_meet 0 = .ok (.aload_n 0, 1) := by decide +kernel
theorem dX4_meet_1 : decode cX4_meet 1 = .ok (.iload_n 1, 1) := by decide +kernel
theorem dX4_meet_2 : decode cX4_meet 2 = .ok (.iload_n 2, 1) := by decide +kernel
theorem dX4_meet_3 : decode cX4_meet 3 = .ok (.invokevirtual 125, 3) := by decide +kernel
theorem dX4_meet_6 : decode cX4_meet 6 = .ok (.ifCond .eq 12, 3) := by decide +kernel
theorem dX4_meet_9 : decode cX4_meet 9 = .ok (.aload_n 0, 1) := by decide +kernel
theorem dX4_meet_10 : decode cX4_meet 10 = .ok (.iload_n 1, 1) := by decide +kernel
theorem dX4_meet_11 : decode cX4_meet 11 = .ok (.iload_n 2, 1) := by decide +kernel
theorem dX4_meet_12 : decode cX4_meet 12 = .ok (.invokevirtual 129, 3) := by decide +kernel
theorem dX4_meet_15 : decode cX4_meet 15 = .ok (.goto 5, 3) := by decide +kernel
theorem dX4_meet_18 : decode cX4_meet 18 = .ok (.bipush (-101), 2) := by decide +kernel
theorem dX4_meet_20 : decode cX4_meet 20 = .ok (.ireturn, 1) := by decide +kernel
theorem dX4_late_0 : decode cX4_late 0 = .ok (.aload_n 0, 1) := by decide +kernel
theorem dX4_late_1 : decode cX4_late 1 = .ok (.iload_n 1, 1) := by decide +kernel
theorem dX4_late_2 : decode cX4_late 2 = .ok (.invokevirtual 87, 3) := by decide +kernel
theorem dX4_late_5 : decode cX4_late 5 = .ok (.ifCond .ne 6, 3) := by decide +kernel
theorem dX4_late_8 : decode cX4_late 8 = .ok (.bipush (-101), 2) := by decide +kernel
theorem dX4_late_10 : decode cX4_late 10 = .ok (.ireturn, 1) := by decide +kernel
theorem dX4_late_11 : decode cX4_late 11 = .ok (.iload_n 2, 1) := by decide +kernel
theorem dX4_late_12 : decode cX4_late 12 = .ok (.i2l, 1) := by decide +kernel
theorem dX4_late_13 : decode cX4_late 13 = .ok (.lconst 0, 1) := by decide +kernel
theorem dX4_late_14 : decode cX4_late 14 = .ok (.ldc2_w 132, 3) := by decide +kernel
theorem dX4_late_17 : decode cX4_late 17 = .ok (.invokestatic 43, 3) := by decide +kernel
theorem dX4_late_20 : decode cX4_late 20 = .ok (.ifCond .ne 6, 3) := by decide +kernel
theorem dX4_late_23 : decode cX4_late 23 = .ok (.bipush (-102), 2) := by decide +kernel
theorem dX4_late_25 : decode cX4_late 25 = .ok (.ireturn, 1) := by decide +kernel
theorem dX4_late_26 : decode cX4_late 26 = .ok (.aload_n 0, 1) := by decide +kernel
theorem dX4_late_27 : decode cX4_late 27 = .ok (.getfield 16, 3) := by decide +kernel
theorem dX4_late_30 : decode cX4_late 30 = .ok (.bipush 9, 2) := by decide +kernel
theorem dX4_late_32 : decode cX4_late 32 = .ok (.iload_n 1, 1) := by decide +kernel
theorem dX4_late_33 : decode cX4_late 33 = .ok (.imul, 1) := by decide +kernel
theorem dX4_late_34 : decode cX4_late 34 = .ok (.iconst 2, 1) := by decide +kernel
theorem dX4_late_35 : decode cX4_late 35 = .ok (.iadd, 1) := by decide +kernel
theorem dX4_late_36 : decode cX4_late 36 = .ok (.iaload, 1) := by decide +kernel
theorem dX4_late_37 : decode cX4_late 37 = .ok (.istore_n 3, 1) := by decide +kernel
theorem dX4_late_38 : decode cX4_late 38 = .ok (.aload_n 0, 1) := by decide +kernel
theorem dX4_late_39 : decode cX4_late 39 = .ok (.getfield 16, 3) := by decide +kernel
theorem dX4_late_42 : decode cX4_late 42 = .ok (.bipush 9, 2) := by decide +kernel
theorem dX4_late_44 : decode cX4_late 44 = .ok (.iload_n 1, 1) := by decide +kernel
theorem dX4_late_45 : decode cX4_late 45 = .ok (.imul, 1) := by decide +kernel
theorem dX4_late_46 : decode cX4_late 46 = .ok (.iconst 2, 1) := by decide +kernel
theorem dX4_late_47 : decode cX4_late 47 = .ok (.iadd, 1) := by decide +kernel
theorem dX4_late_48 : decode cX4_late 48 = .ok (.iload_n 2, 1) := by decide +kernel
theorem dX4_late_49 : decode cX4_late 49 = .ok (.iastore, 1) := by decide +kernel
theorem dX4_late_50 : decode cX4_late 50 = .ok (.aload_n 0, 1) := by decide +kernel
theorem dX4_late_51 : decode cX4_late 51 = .ok (.dup, 1) := by decide +kernel
theorem dX4_late_52 : decode cX4_late 52 = .ok (.getfield 78, 3) := by decide +kernel
theorem dX4_late_55 : decode cX4_late 55 = .ok (.iconst 1, 1) := by decide +kernel
theorem dX4_late_56 : decode cX4_late 56 = .ok (.iadd, 1) := by decide +kernel
theorem dX4_late_57 : decode cX4_late 57 = .ok (.putfield 78, 3) := by decide +kernel
theorem dX4_late_60 : decode cX4_late 60 = .ok (.iload_n 3, 1) := by decide +kernel
theorem dX4_late_61 : decode cX4_late 61 = .ok (.ireturn, 1) := by decide +kernel
theorem dX4_cut_0 : decode cX4_cut 0 = .ok (.aload_n 0, 1) := by decide +kernel
theorem dX4_cut_1 : decode cX4_cut 1 = .ok (.iload_n 1, 1) := by decide +kernel
theorem dX4_cut_2 : decode cX4_cut 2 = .ok (.invokevirtual 87, 3) := by decide +kernel
theorem dX4_cut_5 : decode cX4_cut 5 = .ok (.ifCond .ne 6, 3) := by decide +kernel
theorem dX4_cut_8 : decode cX4_cut 8 = .ok (.bipush (-101), 2) := by decide +kernel
theorem dX4_cut_10 : decode cX4_cut 10 = .ok (.ireturn, 1) := by decide +kernel
theorem dX4_cut_11 : decode cX4_cut 11 = .ok (.aload_n 0, 1) := by decide +kernel
theorem dX4_cut_12 : decode cX4_cut 12 = .ok (.getfield 16, 3) := by decide +kernel
theorem dX4_cut_15 : decode cX4_cut 15 = .ok (.bipush 9, 2) := by decide +kernel
theorem dX4_cut_17 : decode cX4_cut 17 = .ok (.iload_n 1, 1) := by decide +kernel
theorem dX4_cut_18 : decode cX4_cut 18 = .ok (.imul, 1) := by decide +kernel
theorem dX4_cut_19 : decode cX4_cut 19 = .ok (.iconst 3, 1) := by decide +kernel
theorem dX4_cut_20 : decode cX4_cut 20 = .ok (.iadd, 1) := by decide +kernel
theorem dX4_cut_21 : decode cX4_cut 21 = .ok (.iaload, 1) := by decide +kernel
theorem dX4_cut_22 : decode cX4_cut 22 = .ok (.istore_n 3, 1) := by decide +kernel
theorem dX4_cut_23 : decode cX4_cut 23 = .ok (.iload_n 2, 1) := by decide +kernel
theorem dX4_cut_24 : decode cX4_cut 24 = .ok (.i2l, 1) := by decide +kernel
theorem dX4_cut_25 : decode cX4_cut 25 = .ok (.lconst 1, 1) := by decide +kernel
theorem dX4_cut_26 : decode cX4_cut 26 = .ok (.iload_n 3, 1) := by decide +kernel
theorem dX4_cut_27 : decode cX4_cut 27 = .ok (.i2l, 1) := by decide +kernel
theorem dX4_cut_28 : decode cX4_cut 28 = .ok (.invokestatic 43, 3) := by decide +kernel
theorem dX4_cut_31 : decode cX4_cut 31 = .ok (.ifCond .ne 6, 3) := by decide +kernel
theorem dX4_cut_34 : decode cX4_cut 34 = .ok (.bipush (-102), 2) := by decide +kernel
theorem dX4_cut_36 : decode cX4_cut 36 = .ok (.ireturn, 1) := by decide +kernel
theorem dX4_cut_37 : decode cX4_cut 37 = .ok (.aload_n 0, 1) := by decide +kernel
theorem dX4_cut_38 : decode cX4_cut 38 = .ok (.getfield 16, 3) := by decide +kernel
theorem dX4_cut_41 : decode cX4_cut 41 = .ok (.bipush 9, 2) := by decide +kernel
theorem dX4_cut_43 : decode cX4_cut 43 = .ok (.iload_n 1, 1) := by decide +kernel
theorem dX4_cut_44 : decode cX4_cut 44 = .ok (.imul, 1) := by decide +kernel
theorem dX4_cut_45 : decode cX4_cut 45 = .ok (.iconst 3, 1) := by decide +kernel
theorem dX4_cut_46 : decode cX4_cut 46 = .ok (.iadd, 1) := by decide +kernel
theorem dX4_cut_47 : decode cX4_cut 47 = .ok (.iload_n 2, 1) := by decide +kernel
theorem dX4_cut_48 : decode cX4_cut 48 = .ok (.iastore, 1) := by decide +kernel
theorem dX4_cut_49 : decode cX4_cut 49 = .ok (.aload_n 0, 1) := by decide +kernel
theorem dX4_cut_50 : decode cX4_cut 50 = .ok (.dup, 1) := by decide +kernel
theorem dX4_cut_51 : decode cX4_cut 51 = .ok (.getfield 78, 3) := by decide +kernel
theorem dX4_cut_54 : decode cX4_cut 54 = .ok (.iconst 1, 1) := by decide +kernel
theorem dX4_cut_55 : decode cX4_cut 55 = .ok (.iadd, 1) := by decide +kernel
theorem dX4_cut_56 : decode cX4_cut 56 = .ok (.putfield 78, 3) := by decide +kernel
theorem dX4_cut_59 : decode cX4_cut 59 = .ok (.iload_n 3, 1) := by decide +kernel
theorem dX4_cut_60 : decode cX4_cut 60 = .ok (.ireturn, 1) := by decide +kernel
theorem dX4_saw_0 : decode cX4_saw 0 = .ok (.aload_n 0, 1) := by decide +kernel
theorem dX4_saw_1 : decode cX4_saw 1 = .ok (.iload_n 1, 1) := by decide +kernel
theorem dX4_saw_2 : decode cX4_saw 2 = .ok (.invokevirtual 87, 3) := by decide +kernel
theorem dX4_saw_5 : decode cX4_saw 5 = .ok (.ifCond .ne 6, 3) := by decide +kernel
theorem dX4_saw_8 : decode cX4_saw 8 = .ok (.bipush (-101), 2) := by decide +kernel
theorem dX4_saw_10 : decode cX4_saw 10 = .ok (.ireturn, 1) := by decide +kernel
theorem dX4_saw_11 : decode cX4_saw 11 = .ok (.aload_n 0, 1) := by decide +kernel
theorem dX4_saw_12 : decode cX4_saw 12 = .ok (.getfield 16, 3) := by decide +kernel
theorem dX4_saw_15 : decode cX4_saw 15 = .ok (.bipush 9, 2) := by decide +kernel
theorem dX4_saw_17 : decode cX4_saw 17 = .ok (.iload_n 1, 1) := by decide +kernel
theorem dX4_saw_18 : decode cX4_saw 18 = .ok (.imul, 1) := by decide +kernel
theorem dX4_saw_19 : decode cX4_saw 19 = .ok (.iconst 3, 1) := by decide +kernel
theorem dX4_saw_20 : decode cX4_saw 20 = .ok (.iadd, 1) := by decide +kernel
theorem dX4_saw_21 : decode cX4_saw 21 = .ok (.iaload, 1) := by decide +kernel
theorem dX4_saw_22 : decode cX4_saw 22 = .ok (.istore_n 3, 1) := by decide +kernel
theorem dX4_saw_23 : decode cX4_saw 23 = .ok (.iload_n 2, 1) := by decide +kernel
theorem dX4_saw_24 : decode cX4_saw 24 = .ok (.i2l, 1) := by decide +kernel
theorem dX4_saw_25 : decode cX4_saw 25 = .ok (.lconst 1, 1) := by decide +kernel
theorem dX4_saw_26 : decode cX4_saw 26 = .ok (.iload_n 3, 1) := by decide +kernel
theorem dX4_saw_27 : decode cX4_saw 27 = .ok (.iconst 1, 1) := by decide +kernel
theorem dX4_saw_28 : decode cX4_saw 28 = .ok (.isub, 1) := by decide +kernel
theorem dX4_saw_29 : decode cX4_saw 29 = .ok (.i2l, 1) := by decide +kernel
theorem dX4_saw_30 : decode cX4_saw 30 = .ok (.invokestatic 43, 3) := by decide +kernel
theorem dX4_saw_33 : decode cX4_saw 33 = .ok (.ifCond .ne 6, 3) := by decide +kernel
theorem dX4_saw_36 : decode cX4_saw 36 = .ok (.bipush (-102), 2) := by decide +kernel
theorem dX4_saw_38 : decode cX4_saw 38 = .ok (.ireturn, 1) := by decide +kernel
theorem dX4_saw_39 : decode cX4_saw 39 = .ok (.aload_n 0, 1) := by decide +kernel
theorem dX4_saw_40 : decode cX4_saw 40 = .ok (.getfield 75, 3) := by decide +kernel
theorem dX4_saw_43 : decode cX4_saw 43 = .ok (.bipush 6, 2) := by decide +kernel
theorem dX4_saw_45 : decode cX4_saw 45 = .ok (.if_icmp .ne 6, 3) := by decide +kernel
theorem dX4_saw_48 : decode cX4_saw 48 = .ok (.bipush (-104), 2) := by decide +kernel
theorem dX4_saw_50 : decode cX4_saw 50 = .ok (.ireturn, 1) := by decide +kernel
theorem dX4_saw_51 : decode cX4_saw 51 = .ok (.aload_n 0, 1) := by decide +kernel
theorem dX4_saw_52 : decode cX4_saw 52 = .ok (.getfield 16, 3) := by decide +kernel
theorem dX4_saw_55 : decode cX4_saw 55 = .ok (.bipush 9, 2) := by decide +kernel
theorem dX4_saw_57 : decode cX4_saw 57 = .ok (.iload_n 1, 1) := by decide +kernel
theorem dX4_saw_58 : decode cX4_saw 58 = .ok (.imul, 1) := by decide +kernel
theorem dX4_saw_59 : decode cX4_saw 59 = .ok (.iconst 1, 1) := by decide +kernel
theorem dX4_saw_60 : decode cX4_saw 60 = .ok (.iadd, 1) := by decide +kernel
theorem dX4_saw_61 : decode cX4_saw 61 = .ok (.iaload, 1) := by decide +kernel
theorem dX4_saw_62 : decode cX4_saw 62 = .ok (.istore 4, 2) := by decide +kernel
theorem dX4_saw_64 : decode cX4_saw 64 = .ok (.iconst 0, 1) := by decide +kernel
theorem dX4_saw_65 : decode cX4_saw 65 = .ok (.istore 5, 2) := by decide +kernel
theorem dX4_saw_67 : decode cX4_saw 67 = .ok (.iload 5, 2) := by decide +kernel
theorem dX4_saw_69 : decode cX4_saw 69 = .ok (.iload_n 2, 1) := by decide +kernel
theorem dX4_saw_70 : decode cX4_saw 70 = .ok (.if_icmp .ge 30, 3) := by decide +kernel
theorem dX4_saw_73 : decode cX4_saw 73 = .ok (.iload 4, 2) := by decide +kernel
theorem dX4_saw_75 : decode cX4_saw 75 = .ok (.aload_n 0, 1) := by decide +kernel
theorem dX4_saw_76 : decode cX4_saw 76 = .ok (.getfield 16, 3) := by decide +kernel
theorem dX4_saw_79 : decode cX4_saw 79 = .ok (.bipush 9, 2) := by decide +kernel
theorem dX4_saw_81 : decode cX4_saw 81 = .ok (.iload_n 1, 1) := by decide +kernel
theorem dX4_saw_82 : decode cX4_saw 82 = .ok (.imul, 1) := by decide +kernel
theorem dX4_saw_83 : decode cX4_saw 83 = .ok (.iconst 4, 1) := by decide +kernel
theorem dX4_saw_84 : decode cX4_saw 84 = .ok (.iadd, 1) := by decide +kernel
theorem dX4_saw_85 : decode cX4_saw 85 = .ok (.iload 5, 2) := by decide +kernel
theorem dX4_saw_87 : decode cX4_saw 87 = .ok (.iadd, 1) := by decide +kernel
theorem dX4_saw_88 : decode cX4_saw 88 = .ok (.iaload, 1) := by decide +kernel
theorem dX4_saw_89 : decode cX4_saw 89 = .ok (.invokestatic 99, 3) := by decide +kernel
theorem dX4_saw_92 : decode cX4_saw 92 = .ok (.istore 4, 2) := by decide +kernel
theorem dX4_saw_94 : decode cX4_saw 94 = .ok (.iinc 5 1, 3) := by decide +kernel
theorem dX4_saw_97 : decode cX4_saw 97 = .ok (.goto (-30), 3) := by decide +kernel
theorem dX4_saw_100 : decode cX4_saw 100 = .ok (.bipush 9, 2) := by decide +kernel
theorem dX4_saw_102 : decode cX4_saw 102 = .ok (.aload_n 0, 1) := by decide +kernel
theorem dX4_saw_103 : decode cX4_saw 103 = .ok (.getfield 75, 3) := by decide +kernel
theorem dX4_saw_106 : decode cX4_saw 106 = .ok (.imul, 1) := by decide +kernel
theorem dX4_saw_107 : decode cX4_saw 107 = .ok (.istore 5, 2) := by decide +kernel
theorem dX4_saw_109 : decode cX4_saw 109 = .ok (.aload_n 0, 1) := by decide +kernel
theorem dX4_saw_110 : decode cX4_saw 110 = .ok (.getfield 16, 3) := by decide +kernel
theorem dX4_saw_113 : decode cX4_saw 113 = .ok (.iload 5, 2) := by decide +kernel
theorem dX4_saw_115 : decode cX4_saw 115 = .ok (.aload_n 0, 1) := by decide +kernel
theorem dX4_saw_116 : decode cX4_saw 116 = .ok (.getfield 16, 3) := by decide +kernel
theorem dX4_saw_119 : decode cX4_saw 119 = .ok (.bipush 9, 2) := by decide +kernel
theorem dX4_saw_121 : decode cX4_saw 121 = .ok (.iload_n 1, 1) := by decide +kernel
theorem dX4_saw_122 : decode cX4_saw 122 = .ok (.imul, 1) := by decide +kernel
theorem dX4_saw_123 : decode cX4_saw 123 = .ok (.iaload, 1) := by decide +kernel
theorem dX4_saw_124 : decode cX4_saw 124 = .ok (.iastore, 1) := by decide +kernel
theorem dX4_saw_125 : decode cX4_saw 125 = .ok (.aload_n 0, 1) := by decide +kernel
theorem dX4_saw_126 : decode cX4_saw 126 = .ok (.getfield 16, 3) := by decide +kernel
theorem dX4_saw_129 : decode cX4_saw 129 = .ok (.iload 5, 2) := by decide +kernel
theorem dX4_saw_131 : decode cX4_saw 131 = .ok (.iconst 1, 1) := by decide +kernel
theorem dX4_saw_132 : decode cX4_saw 132 = .ok (.iadd, 1) := by decide +kernel
theorem dX4_saw_133 : decode cX4_saw 133 = .ok (.iload 4, 2) := by decide +kernel
theorem dX4_saw_135 : decode cX4_saw 135 = .ok (.iastore, 1) := by decide +kernel
theorem dX4_saw_136 : decode cX4_saw 136 = .ok (.aload_n 0, 1) := by decide +kernel
theorem dX4_saw_137 : decode cX4_saw 137 = .ok (.getfield 16, 3) := by decide +kernel
theorem dX4_saw_140 : decode cX4_saw 140 = .ok (.iload 5, 2) := by decide +kernel
theorem dX4_saw_142 : decode cX4_saw 142 = .ok (.iconst 2, 1) := by decide +kernel
theorem dX4_saw_143 : decode cX4_saw 143 = .ok (.iadd, 1) := by decide +kernel
theorem dX4_saw_144 : decode cX4_saw 144 = .ok (.iconst 0, 1) := by decide +kernel
theorem dX4_saw_145 : decode cX4_saw 145 = .ok (.iastore, 1) := by decide +kernel
theorem dX4_saw_146 : decode cX4_saw 146 = .ok (.aload_n 0, 1) := by decide +kernel
theorem dX4_saw_147 : decode cX4_saw 147 = .ok (.getfield 16, 3) := by decide +kernel
theorem dX4_saw_150 : decode cX4_saw 150 = .ok (.iload 5, 2) := by decide +kernel
theorem dX4_saw_152 : decode cX4_saw 152 = .ok (.iconst 3, 1) := by decide +kernel
theorem dX4_saw_153 : decode cX4_saw 153 = .ok (.iadd, 1) := by decide +kernel
theorem dX4_saw_154 : decode cX4_saw 154 = .ok (.iload_n 3, 1) := by decide +kernel
theorem dX4_saw_155 : decode cX4_saw 155 = .ok (.iload_n 2, 1) := by decide +kernel
theorem dX4_saw_156 : decode cX4_saw 156 = .ok (.isub, 1) := by decide +kernel
theorem dX4_saw_157 : decode cX4_saw 157 = .ok (.iastore, 1) := by decide +kernel
theorem dX4_saw_158 : decode cX4_saw 158 = .ok (.iload_n 2, 1) := by decide +kernel
theorem dX4_saw_159 : decode cX4_saw 159 = .ok (.istore 6, 2) := by decide +kernel
theorem dX4_saw_161 : decode cX4_saw 161 = .ok (.iload 6, 2) := by decide +kernel
theorem dX4_saw_163 : decode cX4_saw 163 = .ok (.iload_n 3, 1) := by decide +kernel
theorem dX4_saw_164 : decode cX4_saw 164 = .ok (.if_icmp .ge 37, 3) := by decide +kernel
theorem dX4_saw_167 : decode cX4_saw 167 = .ok (.aload_n 0, 1) := by decide +kernel
theorem dX4_saw_168 : decode cX4_saw 168 = .ok (.getfield 16, 3) := by decide +kernel
theorem dX4_saw_171 : decode cX4_saw 171 = .ok (.iload 5, 2) := by decide +kernel
theorem dX4_saw_173 : decode cX4_saw 173 = .ok (.iconst 4, 1) := by decide +kernel
theorem dX4_saw_174 : decode cX4_saw 174 = .ok (.iadd, 1) := by decide +kernel
theorem dX4_saw_175 : decode cX4_saw 175 = .ok (.iload 6, 2) := by decide +kernel
theorem dX4_saw_177 : decode cX4_saw 177 = .ok (.iadd, 1) := by decide +kernel
theorem dX4_saw_178 : decode cX4_saw 178 = .ok (.iload_n 2, 1) := by decide +kernel
theorem dX4_saw_179 : decode cX4_saw 179 = .ok (.isub, 1) := by decide +kernel
theorem dX4_saw_180 : decode cX4_saw 180 = .ok (.aload_n 0, 1) := by decide +kernel
theorem dX4_saw_181 : decode cX4_saw 181 = .ok (.getfield 16, 3) := by decide +kernel
theorem dX4_saw_184 : decode cX4_saw 184 = .ok (.bipush 9, 2) := by decide +kernel
theorem dX4_saw_186 : decode cX4_saw 186 = .ok (.iload_n 1, 1) := by decide +kernel
theorem dX4_saw_187 : decode cX4_saw 187 = .ok (.imul, 1) := by decide +kernel
theorem dX4_saw_188 : decode cX4_saw 188 = .ok (.iconst 4, 1) := by decide +kernel
theorem dX4_saw_189 : decode cX4_saw 189 = .ok (.iadd, 1) := by decide +kernel
theorem dX4_saw_190 : decode cX4_saw 190 = .ok (.iload 6, 2) := by decide +kernel
theorem dX4_saw_192 : decode cX4_saw 192 = .ok (.iadd, 1) := by decide +kernel
theorem dX4_saw_193 : decode cX4_saw 193 = .ok (.iaload, 1) := by decide +kernel
theorem dX4_saw_194 : decode cX4_saw 194 = .ok (.iastore, 1) := by decide +kernel
theorem dX4_saw_195 : decode cX4_saw 195 = .ok (.iinc 6 1, 3) := by decide +kernel
theorem dX4_saw_198 : decode cX4_saw 198 = .ok (.goto (-37), 3) := by decide +kernel
theorem dX4_saw_201 : decode cX4_saw 201 = .ok (.aload_n 0, 1) := by decide +kernel
theorem dX4_saw_202 : decode cX4_saw 202 = .ok (.getfield 16, 3) := by decide +kernel
theorem dX4_saw_205 : decode cX4_saw 205 = .ok (.bipush 9, 2) := by decide +kernel
theorem dX4_saw_207 : decode cX4_saw 207 = .ok (.iload_n 1, 1) := by decide +kernel
theorem dX4_saw_208 : decode cX4_saw 208 = .ok (.imul, 1) := by decide +kernel
theorem dX4_saw_209 : decode cX4_saw 209 = .ok (.iconst 3, 1) := by decide +kernel
theorem dX4_saw_210 : decode cX4_saw 210 = .ok (.iadd, 1) := by decide +kernel
theorem dX4_saw_211 : decode cX4_saw 211 = .ok (.iload_n 2, 1) := by decide +kernel
theorem dX4_saw_212 : decode cX4_saw 212 = .ok (.iastore, 1) := by decide +kernel
theorem dX4_saw_213 : decode cX4_saw 213 = .ok (.aload_n 0, 1) := by decide +kernel
theorem dX4_saw_214 : decode cX4_saw 214 = .ok (.dup, 1) := by decide +kernel
theorem dX4_saw_215 : decode cX4_saw 215 = .ok (.getfield 75, 3) := by decide +kernel
theorem dX4_saw_218 : decode cX4_saw 218 = .ok (.iconst 1, 1) := by decide +kernel
theorem dX4_saw_219 : decode cX4_saw 219 = .ok (.iadd, 1) := by decide +kernel
theorem dX4_saw_220 : decode cX4_saw 220 = .ok (.putfield 75, 3) := by decide +kernel
theorem dX4_saw_223 : decode cX4_saw 223 = .ok (.aload_n 0, 1) := by decide +kernel
theorem dX4_saw_224 : decode cX4_saw 224 = .ok (.dup, 1) := by decide +kernel
theorem dX4_saw_225 : decode cX4_saw 225 = .ok (.getfield 78, 3) := by decide +kernel
theorem dX4_saw_228 : decode cX4_saw 228 = .ok (.iconst 1, 1) := by decide +kernel
theorem dX4_saw_229 : decode cX4_saw 229 = .ok (.iadd, 1) := by decide +kernel
theorem dX4_saw_230 : decode cX4_saw 230 = .ok (.putfield 78, 3) := by decide +kernel
theorem dX4_saw_233 : decode cX4_saw 233 = .ok (.aload_n 0, 1) := by decide +kernel
theorem dX4_saw_234 : decode cX4_saw 234 = .ok (.getfield 75, 3) := by decide +kernel
theorem dX4_saw_237 : decode cX4_saw 237 = .ok (.iconst 1, 1) := by decide +kernel
theorem dX4_saw_238 : decode cX4_saw 238 = .ok (.isub, 1) := by decide +kernel
theorem dX4_saw_239 : decode cX4_saw 239 = .ok (.ireturn, 1) := by decide +kernel
theorem dX4_laterOf_0 : decode cX4_laterOf 0 = .ok (.aload_n 0, 1) := by decide +kernel
theorem dX4_laterOf_1 : decode cX4_laterOf 1 = .ok (.getfield 16, 3) := by decide +kernel
theorem dX4_laterOf_4 : decode cX4_laterOf 4 = .ok (.bipush 9, 2) := by decide +kernel
theorem dX4_laterOf_6 : decode cX4_laterOf 6 = .ok (.iload_n 2, 1) := by decide +kernel
theorem dX4_laterOf_7 : decode cX4_laterOf 7 = .ok (.imul, 1) := by decide +kernel
theorem dX4_laterOf_8 : decode cX4_laterOf 8 = .ok (.iconst 2, 1) := by decide +kernel
theorem dX4_laterOf_9 : decode cX4_laterOf 9 = .ok (.iadd, 1) := by decide +kernel
theorem dX4_laterOf_10 : decode cX4_laterOf 10 = .ok (.iaload, 1) := by decide +kernel
theorem dX4_laterOf_11 : decode cX4_laterOf 11 = .ok (.istore_n 3, 1) := by decide +kernel
theorem dX4_laterOf_12 : decode cX4_laterOf 12 = .ok (.iconst (-1), 1) := by decide +kernel
theorem dX4_laterOf_13 : decode cX4_laterOf 13 = .ok (.istore 4, 2) := by decide +kernel
theorem dX4_laterOf_15 : decode cX4_laterOf 15 = .ok (.bipush 9, 2) := by decide +kernel
theorem dX4_laterOf_17 : decode cX4_laterOf 17 = .ok (.istore 5, 2) := by decide +kernel
theorem dX4_laterOf_19 : decode cX4_laterOf 19 = .ok (.iload 5, 2) := by decide +kernel
theorem dX4_laterOf_21 : decode cX4_laterOf 21 = .ok (.ifCond .lt 40, 3) := by decide +kernel
theorem dX4_laterOf_24 : decode cX4_laterOf 24 = .ok (.aload_n 0, 1) := by decide +kernel
theorem dX4_laterOf_25 : decode cX4_laterOf 25 = .ok (.getfield 16, 3) := by decide +kernel
theorem dX4_laterOf_28 : decode cX4_laterOf 28 = .ok (.bipush 9, 2) := by decide +kernel
theorem dX4_laterOf_30 : decode cX4_laterOf 30 = .ok (.iload_n 2, 1) := by decide +kernel
theorem dX4_laterOf_31 : decode cX4_laterOf 31 = .ok (.imul, 1) := by decide +kernel
theorem dX4_laterOf_32 : decode cX4_laterOf 32 = .ok (.iconst 2, 1) := by decide +kernel
theorem dX4_laterOf_33 : decode cX4_laterOf 33 = .ok (.iadd, 1) := by decide +kernel
theorem dX4_laterOf_34 : decode cX4_laterOf 34 = .ok (.iload 5, 2) := by decide +kernel
theorem dX4_laterOf_36 : decode cX4_laterOf 36 = .ok (.iastore, 1) := by decide +kernel
theorem dX4_laterOf_37 : decode cX4_laterOf 37 = .ok (.aload_n 0, 1) := by decide +kernel
theorem dX4_laterOf_38 : decode cX4_laterOf 38 = .ok (.iload_n 1, 1) := by decide +kernel
theorem dX4_laterOf_39 : decode cX4_laterOf 39 = .ok (.iload_n 2, 1) := by decide +kernel
theorem dX4_laterOf_40 : decode cX4_laterOf 40 = .ok (.invokevirtual 129, 3) := by decide +kernel
theorem dX4_laterOf_43 : decode cX4_laterOf 43 = .ok (.ifCond .le 8, 3) := by decide +kernel
theorem dX4_laterOf_46 : decode cX4_laterOf 46 = .ok (.iload 5, 2) := by decide +kernel
theorem dX4_laterOf_48 : decode cX4_laterOf 48 = .ok (.goto 5, 3) := by decide +kernel
theorem dX4_laterOf_51 : decode cX4_laterOf 51 = .ok (.iload 4, 2) := by decide +kernel
theorem dX4_laterOf_53 : decode cX4_laterOf 53 = .ok (.istore 4, 2) := by decide +kernel
theorem dX4_laterOf_55 : decode cX4_laterOf 55 = .ok (.iinc 5 (-1), 3) := by decide +kernel
theorem dX4_laterOf_58 : decode cX4_laterOf 58 = .ok (.goto (-39), 3) := by decide +kernel
theorem dX4_laterOf_61 : decode cX4_laterOf 61 = .ok (.aload_n 0, 1) := by decide +kernel
theorem dX4_laterOf_62 : decode cX4_laterOf 62 = .ok (.getfield 16, 3) := by decide +kernel
theorem dX4_laterOf_65 : decode cX4_laterOf 65 = .ok (.bipush 9, 2) := by decide +kernel
theorem dX4_laterOf_67 : decode cX4_laterOf 67 = .ok (.iload_n 2, 1) := by decide +kernel
theorem dX4_laterOf_68 : decode cX4_laterOf 68 = .ok (.imul, 1) := by decide +kernel
theorem dX4_laterOf_69 : decode cX4_laterOf 69 = .ok (.iconst 2, 1) := by decide +kernel
theorem dX4_laterOf_70 : decode cX4_laterOf 70 = .ok (.iadd, 1) := by decide +kernel
theorem dX4_laterOf_71 : decode cX4_laterOf 71 = .ok (.iload_n 3, 1) := by decide +kernel
theorem dX4_laterOf_72 : decode cX4_laterOf 72 = .ok (.iastore, 1) := by decide +kernel
theorem dX4_laterOf_73 : decode cX4_laterOf 73 = .ok (.iload 4, 2) := by decide +kernel
theorem dX4_laterOf_75 : decode cX4_laterOf 75 = .ok (.ireturn, 1) := by decide +kernel
theorem dX4_later_0 : decode cX4_later 0 = .ok (.aload_n 0, 1) := by decide +kernel
theorem dX4_later_1 : decode cX4_later 1 = .ok (.iload_n 1, 1) := by decide +kernel
theorem dX4_later_2 : decode cX4_later 2 = .ok (.iload_n 2, 1) := by decide +kernel
theorem dX4_later_3 : decode cX4_later 3 = .ok (.invokevirtual 125, 3) := by decide +kernel
theorem dX4_later_6 : decode cX4_later 6 = .ok (.ifCond .eq 12, 3) := by decide +kernel
theorem dX4_later_9 : decode cX4_later 9 = .ok (.aload_n 0, 1) := by decide +kernel
theorem dX4_later_10 : decode cX4_later 10 = .ok (.iload_n 1, 1) := by decide +kernel
theorem dX4_later_11 : decode cX4_later 11 = .ok (.iload_n 2, 1) := by decide +kernel
theorem dX4_later_12 : decode cX4_later 12 = .ok (.invokevirtual 134, 3) := by decide +kernel
theorem dX4_later_15 : decode cX4_later 15 = .ok (.goto 5, 3) := by decide +kernel
theorem dX4_later_18 : decode cX4_later 18 = .ok (.bipush (-101), 2) := by decide +kernel
theorem dX4_later_20 : decode cX4_later 20 = .ok (.ireturn, 1) := by decide +kernel
theorem dX4_coverSet_0 : decode cX4_coverSet 0 = .ok (.iconst 0, 1) := by decide +kernel
theorem dX4_coverSet_1 : decode cX4_coverSet 1 = .ok (.istore_n 2, 1) := by decide +kernel
theorem dX4_coverSet_2 : decode cX4_coverSet 2 = .ok (.iload_n 2, 1) := by decide +kernel
theorem dX4_coverSet_3 : decode cX4_coverSet 3 = .ok (.aload_n 0, 1) := by decide +kernel
theorem dX4_coverSet_4 : decode cX4_coverSet 4 = .ok (.getfield 75, 3) := by decide +kernel
theorem dX4_coverSet_7 : decode cX4_coverSet 7 = .ok (.if_icmp .ge 20, 3) := by decide +kernel
theorem dX4_coverSet_10 : decode cX4_coverSet 10 = .ok (.aload_n 0, 1) := by decide +kernel
theorem dX4_coverSet_11 : decode cX4_coverSet 11 = .ok (.getfield 19, 3) := by decide +kernel
theorem dX4_coverSet_14 : decode cX4_coverSet 14 = .ok (.iload_n 2, 1) := by decide +kernel
theorem dX4_coverSet_15 : decode cX4_coverSet 15 = .ok (.aload_n 0, 1) := by decide +kernel
theorem dX4_coverSet_16 : decode cX4_coverSet 16 = .ok (.iload_n 2, 1) := by decide +kernel
theorem dX4_coverSet_17 : decode cX4_coverSet 17 = .ok (.invokevirtual 112, 3) := by decide +kernel
theorem dX4_coverSet_20 : decode cX4_coverSet 20 = .ok (.iastore, 1) := by decide +kernel
theorem dX4_coverSet_21 : decode cX4_coverSet 21 = .ok (.iinc 2 1, 3) := by decide +kernel
theorem dX4_coverSet_24 : decode cX4_coverSet 24 = .ok (.goto (-22), 3) := by decide +kernel
theorem dX4_coverSet_27 : decode cX4_coverSet 27 = .ok (.iconst (-1), 1) := by decide +kernel
theorem dX4_coverSet_28 : decode cX4_coverSet 28 = .ok (.istore_n 2, 1) := by decide +kernel
theorem dX4_coverSet_29 : decode cX4_coverSet 29 = .ok (.iconst 0, 1) := by decide +kernel
theorem dX4_coverSet_30 : decode cX4_coverSet 30 = .ok (.istore_n 3, 1) := by decide +kernel
theorem dX4_coverSet_31 : decode cX4_coverSet 31 = .ok (.iload_n 3, 1) := by decide +kernel
theorem dX4_coverSet_32 : decode cX4_coverSet 32 = .ok (.iconst 1, 1) := by decide +kernel
theorem dX4_coverSet_33 : decode cX4_coverSet 33 = .ok (.aload_n 0, 1) := by decide +kernel
theorem dX4_coverSet_34 : decode cX4_coverSet 34 = .ok (.getfield 75, 3) := by decide +kernel
theorem dX4_coverSet_37 : decode cX4_coverSet 37 = .ok (.ishl, 1) := by decide +kernel
theorem dX4_coverSet_38 : decode cX4_coverSet 38 = .ok (.if_icmp .ge 99, 3) := by decide +kernel
theorem dX4_coverSet_41 : decode cX4_coverSet 41 = .ok (.iconst 0, 1) := by decide +kernel
theorem dX4_coverSet_42 : decode cX4_coverSet 42 = .ok (.istore 4, 2) := by decide +kernel
theorem dX4_coverSet_44 : decode cX4_coverSet 44 = .ok (.iconst 0, 1) := by decide +kernel
theorem dX4_coverSet_45 : decode cX4_coverSet 45 = .ok (.istore 5, 2) := by decide +kernel
theorem dX4_coverSet_47 : decode cX4_coverSet 47 = .ok (.iload 5, 2) := by decide +kernel
theorem dX4_coverSet_49 : decode cX4_coverSet 49 = .ok (.aload_n 0, 1) := by decide +kernel
theorem dX4_coverSet_50 : decode cX4_coverSet 50 = .ok (.getfield 75, 3) := by decide +kernel
theorem dX4_coverSet_53 : decode cX4_coverSet 53 = .ok (.if_icmp .ge 35, 3) := by decide +kernel
theorem dX4_coverSet_56 : decode cX4_coverSet 56 = .ok (.iload 4, 2) := by decide +kernel
theorem dX4_coverSet_58 : decode cX4_coverSet 58 = .ok (.iload_n 3, 1) := by decide +kernel
theorem dX4_coverSet_59 : decode cX4_coverSet 59 = .ok (.iload 5, 2) := by decide +kernel
theorem dX4_coverSet_61 : decode cX4_coverSet 61 = .ok (.ishr, 1) := by decide +kernel
theorem dX4_coverSet_62 : decode cX4_coverSet 62 = .ok (.iconst 1, 1) := by decide +kernel
theorem dX4_coverSet_63 : decode cX4_coverSet 63 = .ok (.iand, 1) := by decide +kernel
theorem dX4_coverSet_64 : decode cX4_coverSet 64 = .ok (.iconst 1, 1) := by decide +kernel
theorem dX4_coverSet_65 : decode cX4_coverSet 65 = .ok (.if_icmp .ne 13, 3) := by decide +kernel
theorem dX4_coverSet_68 : decode cX4_coverSet 68 = .ok (.aload_n 0, 1) := by decide +kernel
theorem dX4_coverSet_69 : decode cX4_coverSet 69 = .ok (.getfield 19, 3) := by decide +kernel
theorem dX4_coverSet_72 : decode cX4_coverSet 72 = .ok (.iload 5, 2) := by decide +kernel
theorem dX4_coverSet_74 : decode cX4_coverSet 74 = .ok (.iaload, 1) := by decide +kernel
theorem dX4_coverSet_75 : decode cX4_coverSet 75 = .ok (.goto 4, 3) := by decide +kernel
theorem dX4_coverSet_78 : decode cX4_coverSet 78 = .ok (.iconst 0, 1) := by decide +kernel
theorem dX4_coverSet_79 : decode cX4_coverSet 79 = .ok (.ior, 1) := by decide +kernel
theorem dX4_coverSet_80 : decode cX4_coverSet 80 = .ok (.istore 4, 2) := by decide +kernel
theorem dX4_coverSet_82 : decode cX4_coverSet 82 = .ok (.iinc 5 1, 3) := by decide +kernel
theorem dX4_coverSet_85 : decode cX4_coverSet 85 = .ok (.goto (-38), 3) := by decide +kernel
theorem dX4_coverSet_88 : decode cX4_coverSet 88 = .ok (.iload_n 1, 1) := by decide +kernel
theorem dX4_coverSet_89 : decode cX4_coverSet 89 = .ok (.iload 4, 2) := by decide +kernel
theorem dX4_coverSet_91 : decode cX4_coverSet 91 = .ok (.iconst (-1), 1) := by decide +kernel
theorem dX4_coverSet_92 : decode cX4_coverSet 92 = .ok (.ixor, 1) := by decide +kernel
theorem dX4_coverSet_93 : decode cX4_coverSet 93 = .ok (.iand, 1) := by decide +kernel
theorem dX4_coverSet_94 : decode cX4_coverSet 94 = .ok (.ifCond .ne 7, 3) := by decide +kernel
theorem dX4_coverSet_97 : decode cX4_coverSet 97 = .ok (.iconst 1, 1) := by decide +kernel
theorem dX4_coverSet_98 : decode cX4_coverSet 98 = .ok (.goto 4, 3) := by decide +kernel
theorem dX4_coverSet_101 : decode cX4_coverSet 101 = .ok (.iconst 0, 1) := by decide +kernel
theorem dX4_coverSet_102 : decode cX4_coverSet 102 = .ok (.istore 5, 2) := by decide +kernel
theorem dX4_coverSet_104 : decode cX4_coverSet 104 = .ok (.iload 5, 2) := by decide +kernel
theorem dX4_coverSet_106 : decode cX4_coverSet 106 = .ok (.ifCond .eq 23, 3) := by decide +kernel
theorem dX4_coverSet_109 : decode cX4_coverSet 109 = .ok (.iload_n 2, 1) := by decide +kernel
theorem dX4_coverSet_110 : decode cX4_coverSet 110 = .ok (.iconst (-1), 1) := by decide +kernel
theorem dX4_coverSet_111 : decode cX4_coverSet 111 = .ok (.if_icmp .eq 14, 3) := by decide +kernel
theorem dX4_coverSet_114 : decode cX4_coverSet 114 = .ok (.iload_n 3, 1) := by decide +kernel
theorem dX4_coverSet_115 : decode cX4_coverSet 115 = .ok (.invokestatic 115, 3) := by decide +kernel
theorem dX4_coverSet_118 : decode cX4_coverSet 118 = .ok (.iload_n 2, 1) := by decide +kernel
theorem dX4_coverSet_119 : decode cX4_coverSet 119 = .ok (.invokestatic 115, 3) := by decide +kernel
theorem dX4_coverSet_122 : decode cX4_coverSet 122 = .ok (.if_icmp .ge 7, 3) := by decide +kernel
theorem dX4_coverSet_125 : decode cX4_coverSet 125 = .ok (.iload_n 3, 1) := by decide +kernel
theorem dX4_coverSet_126 : decode cX4_coverSet 126 = .ok (.goto 4, 3) := by decide +kernel
theorem dX4_coverSet_129 : decode cX4_coverSet 129 = .ok (.iload_n 2, 1) := by decide +kernel
theorem dX4_coverSet_130 : decode cX4_coverSet 130 = .ok (.istore_n 2, 1) := by decide +kernel
theorem dX4_coverSet_131 : decode cX4_coverSet 131 = .ok (.iinc 3 1, 3) := by decide +kernel
theorem dX4_coverSet_134 : decode cX4_coverSet 134 = .ok (.goto (-103), 3) := by decide +kernel
theorem dX4_coverSet_137 : decode cX4_coverSet 137 = .ok (.iload_n 2, 1) := by decide +kernel
theorem dX4_coverSet_138 : decode cX4_coverSet 138 = .ok (.ireturn, 1) := by decide +kernel
theorem dX4_coverOf_0 : decode cX4_coverOf 0 = .ok (.aload_n 0, 1) := by decide +kernel
theorem dX4_coverOf_1 : decode cX4_coverOf 1 = .ok (.iload_n 1, 1) := by decide +kernel
theorem dX4_coverOf_2 : decode cX4_coverOf 2 = .ok (.invokevirtual 137, 3) := by decide +kernel
theorem dX4_coverOf_5 : decode cX4_coverOf 5 = .ok (.istore_n 3, 1) := by decide +kernel
theorem dX4_coverOf_6 : decode cX4_coverOf 6 = .ok (.iload_n 3, 1) := by decide +kernel
theorem dX4_coverOf_7 : decode cX4_coverOf 7 = .ok (.iconst (-1), 1) := by decide +kernel
theorem dX4_coverOf_8 : decode cX4_coverOf 8 = .ok (.if_icmp .eq 8, 3) := by decide +kernel
theorem dX4_coverOf_11 : decode cX4_coverOf 11 = .ok (.iload_n 2, 1) := by decide +kernel
theorem dX4_coverOf_12 : decode cX4_coverOf 12 = .ok (.iconst 1, 1) := by decide +kernel
theorem dX4_coverOf_13 : decode cX4_coverOf 13 = .ok (.if_icmp .ne 7, 3) := by decide +kernel
theorem dX4_coverOf_16 : decode cX4_coverOf 16 = .ok (.iload_n 3, 1) := by decide +kernel
theorem dX4_coverOf_17 : decode cX4_coverOf 17 = .ok (.goto 7, 3) := by decide +kernel
theorem dX4_coverOf_20 : decode cX4_coverOf 20 = .ok (.iload_n 3, 1) := by decide +kernel
theorem dX4_coverOf_21 : decode cX4_coverOf 21 = .ok (.invokestatic 115, 3) := by decide +kernel
theorem dX4_coverOf_24 : decode cX4_coverOf 24 = .ok (.ireturn, 1) := by decide +kernel
theorem dX4_cover_0 : decode cX4_cover 0 = .ok (.iload_n 1, 1) := by decide +kernel
theorem dX4_cover_1 : decode cX4_cover 1 = .ok (.i2l, 1) := by decide +kernel
theorem dX4_cover_2 : decode cX4_cover 2 = .ok (.lconst 0, 1) := by decide +kernel
theorem dX4_cover_3 : decode cX4_cover 3 = .ok (.ldc2_w 140, 3) := by decide +kernel
theorem dX4_cover_6 : decode cX4_cover 6 = .ok (.invokestatic 43, 3) := by decide +kernel
theorem dX4_cover_9 : decode cX4_cover 9 = .ok (.ifCond .eq 13, 3) := by decide +kernel
theorem dX4_cover_12 : decode cX4_cover 12 = .ok (.iload_n 2, 1) := by decide +kernel
theorem dX4_cover_13 : decode cX4_cover 13 = .ok (.i2l, 1) := by decide +kernel
theorem dX4_cover_14 : decode cX4_cover 14 = .ok (.lconst 0, 1) := by decide +kernel
theorem dX4_cover_15 : decode cX4_cover 15 = .ok (.lconst 1, 1) := by decide +kernel
theorem dX4_cover_16 : decode cX4_cover 16 = .ok (.invokestatic 43, 3) := by decide +kernel
theorem dX4_cover_19 : decode cX4_cover 19 = .ok (.ifCond .ne 6, 3) := by decide +kernel
theorem dX4_cover_22 : decode cX4_cover 22 = .ok (.bipush (-102), 2) := by decide +kernel
theorem dX4_cover_24 : decode cX4_cover 24 = .ok (.ireturn, 1) := by decide +kernel
theorem dX4_cover_25 : decode cX4_cover 25 = .ok (.aload_n 0, 1) := by decide +kernel
theorem dX4_cover_26 : decode cX4_cover 26 = .ok (.invokevirtual 142, 3) := by decide +kernel
theorem dX4_cover_29 : decode cX4_cover 29 = .ok (.ifCond .eq 8, 3) := by decide +kernel
theorem dX4_cover_32 : decode cX4_cover 32 = .ok (.bipush (-103), 2) := by decide +kernel
theorem dX4_cover_34 : decode cX4_cover 34 = .ok (.goto 9, 3) := by decide +kernel
theorem dX4_cover_37 : decode cX4_cover 37 = .ok (.aload_n 0, 1) := by decide +kernel
theorem dX4_cover_38 : decode cX4_cover 38 = .ok (.iload_n 1, 1) := by decide +kernel
theorem dX4_cover_39 : decode cX4_cover 39 = .ok (.iload_n 2, 1) := by decide +kernel
theorem dX4_cover_40 : decode cX4_cover 40 = .ok (.invokevirtual 146, 3) := by decide +kernel
theorem dX4_cover_43 : decode cX4_cover 43 = .ok (.ireturn, 1) := by decide +kernel
theorem dX4_far_0 : decode cX4_far 0 = .ok (.iload_n 0, 1) := by decide +kernel
theorem dX4_far_1 : decode cX4_far 1 = .ok (.iconst 4, 1) := by decide +kernel
theorem dX4_far_2 : decode cX4_far 2 = .ok (.idiv, 1) := by decide +kernel
theorem dX4_far_3 : decode cX4_far 3 = .ok (.iload_n 1, 1) := by decide +kernel
theorem dX4_far_4 : decode cX4_far 4 = .ok (.iconst 4, 1) := by decide +kernel
theorem dX4_far_5 : decode cX4_far 5 = .ok (.idiv, 1) := by decide +kernel
theorem dX4_far_6 : decode cX4_far 6 = .ok (.isub, 1) := by decide +kernel
theorem dX4_far_7 : decode cX4_far 7 = .ok (.istore_n 2, 1) := by decide +kernel
theorem dX4_far_8 : decode cX4_far 8 = .ok (.iload_n 0, 1) := by decide +kernel
theorem dX4_far_9 : decode cX4_far 9 = .ok (.iconst 4, 1) := by decide +kernel
theorem dX4_far_10 : decode cX4_far 10 = .ok (.irem, 1) := by decide +kernel
theorem dX4_far_11 : decode cX4_far 11 = .ok (.iload_n 1, 1) := by decide +kernel
theorem dX4_far_12 : decode cX4_far 12 = .ok (.iconst 4, 1) := by decide +kernel
theorem dX4_far_13 : decode cX4_far 13 = .ok (.irem, 1) := by decide +kernel
theorem dX4_far_14 : decode cX4_far 14 = .ok (.isub, 1) := by decide +kernel
theorem dX4_far_15 : decode cX4_far 15 = .ok (.istore_n 3, 1) := by decide +kernel
theorem dX4_far_16 : decode cX4_far 16 = .ok (.iload_n 2, 1) := by decide +kernel
theorem dX4_far_17 : decode cX4_far 17 = .ok (.ifCond .ge 8, 3) := by decide +kernel
theorem dX4_far_20 : decode cX4_far 20 = .ok (.iload_n 2, 1) := by decide +kernel
theorem dX4_far_21 : decode cX4_far 21 = .ok (.ineg, 1) := by decide +kernel
theorem dX4_far_22 : decode cX4_far 22 = .ok (.goto 4, 3) := by decide +kernel
theorem dX4_far_25 : decode cX4_far 25 = .ok (.iload_n 2, 1) := by decide +kernel
theorem dX4_far_26 : decode cX4_far 26 = .ok (.iload_n 3, 1) := by decide +kernel
theorem dX4_far_27 : decode cX4_far 27 = .ok (.ifCond .ge 8, 3) := by decide +kernel
theorem dX4_far_30 : decode cX4_far 30 = .ok (.iload_n 3, 1) := by decide +kernel
theorem dX4_far_31 : decode cX4_far 31 = .ok (.ineg, 1) := by decide +kernel
theorem dX4_far_32 : decode cX4_far 32 = .ok (.goto 4, 3) := by decide +kernel
theorem dX4_far_35 : decode cX4_far 35 = .ok (.iload_n 3, 1) := by decide +kernel
theorem dX4_far_36 : decode cX4_far 36 = .ok (.iadd, 1) := by decide +kernel
theorem dX4_far_37 : decode cX4_far 37 = .ok (.ireturn, 1) := by decide +kernel
theorem dX4_catchOf_0 : decode cX4_catchOf 0 = .ok (.iconst 0, 1) := by decide +kernel
theorem dX4_catchOf_1 : decode cX4_catchOf 1 = .ok (.istore_n 3, 1) := by decide +kernel
theorem dX4_catchOf_2 : decode cX4_catchOf 2 = .ok (.iload_n 1, 1) := by decide +kernel
theorem dX4_catchOf_3 : decode cX4_catchOf 3 = .ok (.aload_n 0, 1) := by decide +kernel
theorem dX4_catchOf_4 : decode cX4_catchOf 4 = .ok (.iload_n 2, 1) := by decide +kernel
theorem dX4_catchOf_5 : decode cX4_catchOf 5 = .ok (.iload_n 3, 1) := by decide +kernel
theorem dX4_catchOf_6 : decode cX4_catchOf 6 = .ok (.invokevirtual 102, 3) := by decide +kernel
theorem dX4_catchOf_9 : decode cX4_catchOf 9 = .ok (.invokestatic 149, 3) := by decide +kernel
theorem dX4_catchOf_12 : decode cX4_catchOf 12 = .ok (.iload_n 3, 1) := by decide +kernel
theorem dX4_catchOf_13 : decode cX4_catchOf 13 = .ok (.if_icmp .le 9, 3) := by decide +kernel
theorem dX4_catchOf_16 : decode cX4_catchOf 16 = .ok (.iinc 3 1, 3) := by decide +kernel
theorem dX4_catchOf_19 : decode cX4_catchOf 19 = .ok (.goto (-17), 3) := by decide +kernel
theorem dX4_catchOf_22 : decode cX4_catchOf 22 = .ok (.iload_n 3, 1) := by decide +kernel
theorem dX4_catchOf_23 : decode cX4_catchOf 23 = .ok (.ireturn, 1) := by decide +kernel
theorem dX4_catches_0 : decode cX4_catches 0 = .ok (.aload_n 0, 1) := by decide +kernel
theorem dX4_catches_1 : decode cX4_catches 1 = .ok (.iload_n 2, 1) := by decide +kernel
theorem dX4_catches_2 : decode cX4_catches 2 = .ok (.invokevirtual 87, 3) := by decide +kernel
theorem dX4_catches_5 : decode cX4_catches 5 = .ok (.ifCond .ne 6, 3) := by decide +kernel
theorem dX4_catches_8 : decode cX4_catches 8 = .ok (.bipush (-101), 2) := by decide +kernel
theorem dX4_catches_10 : decode cX4_catches 10 = .ok (.ireturn, 1) := by decide +kernel
theorem dX4_catches_11 : decode cX4_catches 11 = .ok (.iload_n 1, 1) := by decide +kernel
theorem dX4_catches_12 : decode cX4_catches 12 = .ok (.i2l, 1) := by decide +kernel
theorem dX4_catches_13 : decode cX4_catches 13 = .ok (.lconst 0, 1) := by decide +kernel
theorem dX4_catches_14 : decode cX4_catches 14 = .ok (.ldc2_w 152, 3) := by decide +kernel
theorem dX4_catches_17 : decode cX4_catches 17 = .ok (.invokestatic 43, 3) := by decide +kernel
theorem dX4_catches_20 : decode cX4_catches 20 = .ok (.ifCond .eq 12, 3) := by decide +kernel
theorem dX4_catches_23 : decode cX4_catches 23 = .ok (.aload_n 0, 1) := by decide +kernel
theorem dX4_catches_24 : decode cX4_catches 24 = .ok (.iload_n 1, 1) := by decide +kernel
theorem dX4_catches_25 : decode cX4_catches 25 = .ok (.iload_n 2, 1) := by decide +kernel
theorem dX4_catches_26 : decode cX4_catches 26 = .ok (.invokevirtual 154, 3) := by decide +kernel
theorem dX4_catches_29 : decode cX4_catches 29 = .ok (.goto 5, 3) := by decide +kernel
theorem dX4_catches_32 : decode cX4_catches 32 = .ok (.bipush (-102), 2) := by decide +kernel
theorem dX4_catches_34 : decode cX4_catches 34 = .ok (.ireturn, 1) := by decide +kernel
theorem dX4_see_0 : decode cX4_see 0 = .ok (.iload_n 1, 1) := by decide +kernel
theorem dX4_see_1 : decode cX4_see 1 = .ok (.i2l, 1) := by decide +kernel
theorem dX4_see_2 : decode cX4_see 2 = .ok (.lconst 0, 1) := by decide +kernel
theorem dX4_see_3 : decode cX4_see 3 = .ok (.ldc2_w 152, 3) := by decide +kernel
theorem dX4_see_6 : decode cX4_see 6 = .ok (.invokestatic 43, 3) := by decide +kernel
theorem dX4_see_9 : decode cX4_see 9 = .ok (.ifCond .eq 15, 3) := by decide +kernel
theorem dX4_see_12 : decode cX4_see 12 = .ok (.iload_n 2, 1) := by decide +kernel
theorem dX4_see_13 : decode cX4_see 13 = .ok (.i2l, 1) := by decide +kernel
theorem dX4_see_14 : decode cX4_see 14 = .ok (.lconst 0, 1) := by decide +kernel
theorem dX4_see_15 : decode cX4_see 15 = .ok (.ldc2_w 123, 3) := by decide +kernel
theorem dX4_see_18 : decode cX4_see 18 = .ok (.invokestatic 43, 3) := by decide +kernel
theorem dX4_see_21 : decode cX4_see 21 = .ok (.ifCond .ne 6, 3) := by decide +kernel
theorem dX4_see_24 : decode cX4_see 24 = .ok (.bipush (-102), 2) := by decide +kernel
theorem dX4_see_26 : decode cX4_see 26 = .ok (.ireturn, 1) := by decide +kernel
theorem dX4_see_27 : decode cX4_see 27 = .ok (.aload_n 0, 1) := by decide +kernel
theorem dX4_see_28 : decode cX4_see 28 = .ok (.getfield 81, 3) := by decide +kernel
theorem dX4_see_31 : decode cX4_see 31 = .ok (.bipush 8, 2) := by decide +kernel
theorem dX4_see_33 : decode cX4_see 33 = .ok (.if_icmp .ne 6, 3) := by decide +kernel
theorem dX4_see_36 : decode cX4_see 36 = .ok (.bipush (-104), 2) := by decide +kernel
theorem dX4_see_38 : decode cX4_see 38 = .ok (.ireturn, 1) := by decide +kernel
theorem dX4_see_39 : decode cX4_see 39 = .ok (.aload_n 0, 1) := by decide +kernel
theorem dX4_see_40 : decode cX4_see 40 = .ok (.getfield 22, 3) := by decide +kernel
theorem dX4_see_43 : decode cX4_see 43 = .ok (.iconst 2, 1) := by decide +kernel
theorem dX4_see_44 : decode cX4_see 44 = .ok (.aload_n 0, 1) := by decide +kernel
theorem dX4_see_45 : decode cX4_see 45 = .ok (.getfield 81, 3) := by decide +kernel
theorem dX4_see_48 : decode cX4_see 48 = .ok (.imul, 1) := by decide +kernel
theorem dX4_see_49 : decode cX4_see 49 = .ok (.iload_n 1, 1) := by decide +kernel
theorem dX4_see_50 : decode cX4_see 50 = .ok (.iastore, 1) := by decide +kernel
theorem dX4_see_51 : decode cX4_see 51 = .ok (.aload_n 0, 1) := by decide +kernel
theorem dX4_see_52 : decode cX4_see 52 = .ok (.getfield 22, 3) := by decide +kernel
theorem dX4_see_55 : decode cX4_see 55 = .ok (.iconst 2, 1) := by decide +kernel
theorem dX4_see_56 : decode cX4_see 56 = .ok (.aload_n 0, 1) := by decide +kernel
theorem dX4_see_57 : decode cX4_see 57 = .ok (.getfield 81, 3) := by decide +kernel
theorem dX4_see_60 : decode cX4_see 60 = .ok (.imul, 1) := by decide +kernel
theorem dX4_see_61 : decode cX4_see 61 = .ok (.iconst 1, 1) := by decide +kernel
theorem dX4_see_62 : decode cX4_see 62 = .ok (.iadd, 1) := by decide +kernel
theorem dX4_see_63 : decode cX4_see 63 = .ok (.iload_n 2, 1) := by decide +kernel
theorem dX4_see_64 : decode cX4_see 64 = .ok (.iastore, 1) := by decide +kernel
theorem dX4_see_65 : decode cX4_see 65 = .ok (.aload_n 0, 1) := by decide +kernel
theorem dX4_see_66 : decode cX4_see 66 = .ok (.dup, 1) := by decide +kernel
theorem dX4_see_67 : decode cX4_see 67 = .ok (.getfield 81, 3) := by decide +kernel
theorem dX4_see_70 : decode cX4_see 70 = .ok (.iconst 1, 1) := by decide +kernel
theorem dX4_see_71 : decode cX4_see 71 = .ok (.iadd, 1) := by decide +kernel
theorem dX4_see_72 : decode cX4_see 72 = .ok (.putfield 81, 3) := by decide +kernel
theorem dX4_see_75 : decode cX4_see 75 = .ok (.aload_n 0, 1) := by decide +kernel
theorem dX4_see_76 : decode cX4_see 76 = .ok (.getfield 81, 3) := by decide +kernel
theorem dX4_see_79 : decode cX4_see 79 = .ok (.ireturn, 1) := by decide +kernel
theorem dX4_forget_0 : decode cX4_forget 0 = .ok (.aload_n 0, 1) := by decide +kernel
theorem dX4_forget_1 : decode cX4_forget 1 = .ok (.getfield 81, 3) := by decide +kernel
theorem dX4_forget_4 : decode cX4_forget 4 = .ok (.istore_n 1, 1) := by decide +kernel
theorem dX4_forget_5 : decode cX4_forget 5 = .ok (.aload_n 0, 1) := by decide +kernel
theorem dX4_forget_6 : decode cX4_forget 6 = .ok (.iconst 0, 1) := by decide +kernel
theorem dX4_forget_7 : decode cX4_forget 7 = .ok (.putfield 81, 3) := by decide +kernel
theorem dX4_forget_10 : decode cX4_forget 10 = .ok (.iload_n 1, 1) := by decide +kernel
theorem dX4_forget_11 : decode cX4_forget 11 = .ok (.ireturn, 1) := by decide +kernel
theorem dX4_whoseOf_0 : decode cX4_whoseOf 0 = .ok (.iconst 0, 1) := by decide +kernel
theorem dX4_whoseOf_1 : decode cX4_whoseOf 1 = .ok (.istore_n 1, 1) := by decide +kernel
theorem dX4_whoseOf_2 : decode cX4_whoseOf 2 = .ok (.iconst 0, 1) := by decide +kernel
theorem dX4_whoseOf_3 : decode cX4_whoseOf 3 = .ok (.istore_n 2, 1) := by decide +kernel
theorem dX4_whoseOf_4 : decode cX4_whoseOf 4 = .ok (.iload_n 2, 1) := by decide +kernel
theorem dX4_whoseOf_5 : decode cX4_whoseOf 5 = .ok (.aload_n 0, 1) := by decide +kernel
theorem dX4_whoseOf_6 : decode cX4_whoseOf 6 = .ok (.getfield 75, 3) := by decide +kernel
theorem dX4_whoseOf_9 : decode cX4_whoseOf 9 = .ok (.if_icmp .ge 81, 3) := by decide +kernel
theorem dX4_whoseOf_12 : decode cX4_whoseOf 12 = .ok (.iconst 1, 1) := by decide +kernel
theorem dX4_whoseOf_13 : decode cX4_whoseOf 13 = .ok (.istore_n 3, 1) := by decide +kernel
theorem dX4_whoseOf_14 : decode cX4_whoseOf 14 = .ok (.iconst 0, 1) := by decide +kernel
theorem dX4_whoseOf_15 : decode cX4_whoseOf 15 = .ok (.istore 4, 2) := by decide +kernel
theorem dX4_whoseOf_17 : decode cX4_whoseOf 17 = .ok (.iload 4, 2) := by decide +kernel
theorem dX4_whoseOf_19 : decode cX4_whoseOf 19 = .ok (.aload_n 0, 1) := by decide +kernel
theorem dX4_whoseOf_20 : decode cX4_whoseOf 20 = .ok (.getfield 81, 3) := by decide +kernel
theorem dX4_whoseOf_23 : decode cX4_whoseOf 23 = .ok (.if_icmp .ge 47, 3) := by decide +kernel
theorem dX4_whoseOf_26 : decode cX4_whoseOf 26 = .ok (.iload_n 3, 1) := by decide +kernel
theorem dX4_whoseOf_27 : decode cX4_whoseOf 27 = .ok (.ifCond .eq 35, 3) := by decide +kernel
theorem dX4_whoseOf_30 : decode cX4_whoseOf 30 = .ok (.aload_n 0, 1) := by decide +kernel
theorem dX4_whoseOf_31 : decode cX4_whoseOf 31 = .ok (.iload_n 2, 1) := by decide +kernel
theorem dX4_whoseOf_32 : decode cX4_whoseOf 32 = .ok (.aload_n 0, 1) := by decide +kernel
theorem dX4_whoseOf_33 : decode cX4_whoseOf 33 = .ok (.getfield 22, 3) := by decide +kernel
theorem dX4_whoseOf_36 : decode cX4_whoseOf 36 = .ok (.iconst 2, 1) := by decide +kernel
theorem dX4_whoseOf_37 : decode cX4_whoseOf 37 = .ok (.iload 4, 2) := by decide +kernel
theorem dX4_whoseOf_39 : decode cX4_whoseOf 39 = .ok (.imul, 1) := by decide +kernel
theorem dX4_whoseOf_40 : decode cX4_whoseOf 40 = .ok (.iconst 1, 1) := by decide +kernel
theorem dX4_whoseOf_41 : decode cX4_whoseOf 41 = .ok (.iadd, 1) := by decide +kernel
theorem dX4_whoseOf_42 : decode cX4_whoseOf 42 = .ok (.iaload, 1) := by decide +kernel
theorem dX4_whoseOf_43 : decode cX4_whoseOf 43 = .ok (.invokevirtual 102, 3) := by decide +kernel
theorem dX4_whoseOf_46 : decode cX4_whoseOf 46 = .ok (.aload_n 0, 1) := by decide +kernel
theorem dX4_whoseOf_47 : decode cX4_whoseOf 47 = .ok (.getfield 22, 3) := by decide +kernel
theorem dX4_whoseOf_50 : decode cX4_whoseOf 50 = .ok (.iconst 2, 1) := by decide +kernel
theorem dX4_whoseOf_51 : decode cX4_whoseOf 51 = .ok (.iload 4, 2) := by decide +kernel
theorem dX4_whoseOf_53 : decode cX4_whoseOf 53 = .ok (.imul, 1) := by decide +kernel
theorem dX4_whoseOf_54 : decode cX4_whoseOf 54 = .ok (.iaload, 1) := by decide +kernel
theorem dX4_whoseOf_55 : decode cX4_whoseOf 55 = .ok (.if_icmp .ne 7, 3) := by decide +kernel
theorem dX4_whoseOf_58 : decode cX4_whoseOf 58 = .ok (.iconst 1, 1) := by decide +kernel
theorem dX4_whoseOf_59 : decode cX4_whoseOf 59 = .ok (.goto 4, 3) := by decide +kernel
theorem dX4_whoseOf_62 : decode cX4_whoseOf 62 = .ok (.iconst 0, 1) := by decide +kernel
theorem dX4_whoseOf_63 : decode cX4_whoseOf 63 = .ok (.istore_n 3, 1) := by decide +kernel
theorem dX4_whoseOf_64 : decode cX4_whoseOf 64 = .ok (.iinc 4 1, 3) := by decide +kernel
theorem dX4_whoseOf_67 : decode cX4_whoseOf 67 = .ok (.goto (-50), 3) := by decide +kernel
theorem dX4_whoseOf_70 : decode cX4_whoseOf 70 = .ok (.iload_n 1, 1) := by decide +kernel
theorem dX4_whoseOf_71 : decode cX4_whoseOf 71 = .ok (.iload_n 3, 1) := by decide +kernel
theorem dX4_whoseOf_72 : decode cX4_whoseOf 72 = .ok (.ifCond .eq 9, 3) := by decide +kernel
theorem dX4_whoseOf_75 : decode cX4_whoseOf 75 = .ok (.iconst 1, 1) := by decide +kernel
theorem dX4_whoseOf_76 : decode cX4_whoseOf 76 = .ok (.iload_n 2, 1) := by decide +kernel
theorem dX4_whoseOf_77 : decode cX4_whoseOf 77 = .ok (.ishl, 1) := by decide +kernel
theorem dX4_whoseOf_78 : decode cX4_whoseOf 78 = .ok (.goto 4, 3) := by decide +kernel
theorem dX4_whoseOf_81 : decode cX4_whoseOf 81 = .ok (.iconst 0, 1) := by decide +kernel
theorem dX4_whoseOf_82 : decode cX4_whoseOf 82 = .ok (.ior, 1) := by decide +kernel
theorem dX4_whoseOf_83 : decode cX4_whoseOf 83 = .ok (.istore_n 1, 1) := by decide +kernel
theorem dX4_whoseOf_84 : decode cX4_whoseOf 84 = .ok (.iinc 2 1, 3) := by decide +kernel
theorem dX4_whoseOf_87 : decode cX4_whoseOf 87 = .ok (.goto (-83), 3) := by decide +kernel
theorem dX4_whoseOf_90 : decode cX4_whoseOf 90 = .ok (.iload_n 1, 1) := by decide +kernel
theorem dX4_whoseOf_91 : decode cX4_whoseOf 91 = .ok (.ireturn, 1) := by decide +kernel
theorem dX4_whose_0 : decode cX4_whose 0 = .ok (.aload_n 0, 1) := by decide +kernel
theorem dX4_whose_1 : decode cX4_whose 1 = .ok (.invokevirtual 142, 3) := by decide +kernel
theorem dX4_whose_4 : decode cX4_whose 4 = .ok (.ifCond .eq 8, 3) := by decide +kernel
theorem dX4_whose_7 : decode cX4_whose 7 = .ok (.bipush (-103), 2) := by decide +kernel
theorem dX4_whose_9 : decode cX4_whose 9 = .ok (.goto 7, 3) := by decide +kernel
theorem dX4_whose_12 : decode cX4_whose 12 = .ok (.aload_n 0, 1) := by decide +kernel
theorem dX4_whose_13 : decode cX4_whose 13 = .ok (.invokevirtual 157, 3) := by decide +kernel
theorem dX4_whose_16 : decode cX4_whose 16 = .ok (.ireturn, 1) := by decide +kernel
theorem dX4_lookOf_0 : decode cX4_lookOf 0 = .ok (.aload_n 0, 1) := by decide +kernel
theorem dX4_lookOf_1 : decode cX4_lookOf 1 = .ok (.invokevirtual 157, 3) := by decide +kernel
theorem dX4_lookOf_4 : decode cX4_lookOf 4 = .ok (.istore_n 1, 1) := by decide +kernel
theorem dX4_lookOf_5 : decode cX4_lookOf 5 = .ok (.iconst (-1), 1) := by decide +kernel
theorem dX4_lookOf_6 : decode cX4_lookOf 6 = .ok (.istore_n 2, 1) := by decide +kernel
theorem dX4_lookOf_7 : decode cX4_lookOf 7 = .ok (.bipush 7, 2) := by decide +kernel
theorem dX4_lookOf_9 : decode cX4_lookOf 9 = .ok (.istore_n 3, 1) := by decide +kernel
theorem dX4_lookOf_10 : decode cX4_lookOf 10 = .ok (.iconst 0, 1) := by decide +kernel
theorem dX4_lookOf_11 : decode cX4_lookOf 11 = .ok (.istore 4, 2) := by decide +kernel
theorem dX4_lookOf_13 : decode cX4_lookOf 13 = .ok (.iload 4, 2) := by decide +kernel
theorem dX4_lookOf_15 : decode cX4_lookOf 15 = .ok (.bipush 31, 2) := by decide +kernel
theorem dX4_lookOf_17 : decode cX4_lookOf 17 = .ok (.if_icmp .ge 136, 3) := by decide +kernel
theorem dX4_lookOf_20 : decode cX4_lookOf 20 = .ok (.iload_n 1, 1) := by decide +kernel
theorem dX4_lookOf_21 : decode cX4_lookOf 21 = .ok (.ifCond .eq 132, 3) := by decide +kernel
theorem dX4_lookOf_24 : decode cX4_lookOf 24 = .ok (.iconst 0, 1) := by decide +kernel
theorem dX4_lookOf_25 : decode cX4_lookOf 25 = .ok (.istore 5, 2) := by decide +kernel
theorem dX4_lookOf_27 : decode cX4_lookOf 27 = .ok (.iload 5, 2) := by decide +kernel
theorem dX4_lookOf_29 : decode cX4_lookOf 29 = .ok (.bipush 16, 2) := by decide +kernel
theorem dX4_lookOf_31 : decode cX4_lookOf 31 = .ok (.if_icmp .ge 17, 3) := by decide +kernel
theorem dX4_lookOf_34 : decode cX4_lookOf 34 = .ok (.aload_n 0, 1) := by decide +kernel
theorem dX4_lookOf_35 : decode cX4_lookOf 35 = .ok (.getfield 25, 3) := by decide +kernel
theorem dX4_lookOf_38 : decode cX4_lookOf 38 = .ok (.iload 5, 2) := by decide +kernel
theorem dX4_lookOf_40 : decode cX4_lookOf 40 = .ok (.iconst 0, 1) := by decide +kernel
theorem dX4_lookOf_41 : decode cX4_lookOf 41 = .ok (.iastore, 1) := by decide +kernel
theorem dX4_lookOf_42 : decode cX4_lookOf 42 = .ok (.iinc 5 1, 3) := by decide +kernel
theorem dX4_lookOf_45 : decode cX4_lookOf 45 = .ok (.goto (-18), 3) := by decide +kernel
theorem dX4_lookOf_48 : decode cX4_lookOf 48 = .ok (.iconst 0, 1) := by decide +kernel
theorem dX4_lookOf_49 : decode cX4_lookOf 49 = .ok (.istore 5, 2) := by decide +kernel
theorem dX4_lookOf_51 : decode cX4_lookOf 51 = .ok (.iconst 0, 1) := by decide +kernel
theorem dX4_lookOf_52 : decode cX4_lookOf 52 = .ok (.istore 6, 2) := by decide +kernel
theorem dX4_lookOf_54 : decode cX4_lookOf 54 = .ok (.iload 6, 2) := by decide +kernel
theorem dX4_lookOf_56 : decode cX4_lookOf 56 = .ok (.aload_n 0, 1) := by decide +kernel
theorem dX4_lookOf_57 : decode cX4_lookOf 57 = .ok (.getfield 75, 3) := by decide +kernel
theorem dX4_lookOf_60 : decode cX4_lookOf 60 = .ok (.if_icmp .ge 61, 3) := by decide +kernel
theorem dX4_lookOf_63 : decode cX4_lookOf 63 = .ok (.aload_n 0, 1) := by decide +kernel
theorem dX4_lookOf_64 : decode cX4_lookOf 64 = .ok (.iload 6, 2) := by decide +kernel
theorem dX4_lookOf_66 : decode cX4_lookOf 66 = .ok (.iload 4, 2) := by decide +kernel
theorem dX4_lookOf_68 : decode cX4_lookOf 68 = .ok (.invokevirtual 102, 3) := by decide +kernel
theorem dX4_lookOf_71 : decode cX4_lookOf 71 = .ok (.istore 7, 2) := by decide +kernel
theorem dX4_lookOf_73 : decode cX4_lookOf 73 = .ok (.aload_n 0, 1) := by decide +kernel
theorem dX4_lookOf_74 : decode cX4_lookOf 74 = .ok (.getfield 25, 3) := by decide +kernel
theorem dX4_lookOf_77 : decode cX4_lookOf 77 = .ok (.iload 7, 2) := by decide +kernel
theorem dX4_lookOf_79 : decode cX4_lookOf 79 = .ok (.dup2, 1) := by decide +kernel
theorem dX4_lookOf_80 : decode cX4_lookOf 80 = .ok (.iaload, 1) := by decide +kernel
theorem dX4_lookOf_81 : decode cX4_lookOf 81 = .ok (.iload_n 1, 1) := by decide +kernel
theorem dX4_lookOf_82 : decode cX4_lookOf 82 = .ok (.iload 6, 2) := by decide +kernel
theorem dX4_lookOf_84 : decode cX4_lookOf 84 = .ok (.ishr, 1) := by decide +kernel
theorem dX4_lookOf_85 : decode cX4_lookOf 85 = .ok (.iconst 1, 1) := by decide +kernel
theorem dX4_lookOf_86 : decode cX4_lookOf 86 = .ok (.iand, 1) := by decide +kernel
theorem dX4_lookOf_87 : decode cX4_lookOf 87 = .ok (.iadd, 1) := by decide +kernel
theorem dX4_lookOf_88 : decode cX4_lookOf 88 = .ok (.iastore, 1) := by decide +kernel
theorem dX4_lookOf_89 : decode cX4_lookOf 89 = .ok (.aload_n 0, 1) := by decide +kernel
theorem dX4_lookOf_90 : decode cX4_lookOf 90 = .ok (.getfield 25, 3) := by decide +kernel
theorem dX4_lookOf_93 : decode cX4_lookOf 93 = .ok (.iload 7, 2) := by decide +kernel
theorem dX4_lookOf_95 : decode cX4_lookOf 95 = .ok (.iaload, 1) := by decide +kernel
theorem dX4_lookOf_96 : decode cX4_lookOf 96 = .ok (.iload 5, 2) := by decide +kernel
theorem dX4_lookOf_98 : decode cX4_lookOf 98 = .ok (.if_icmp .le 13, 3) := by decide +kernel
theorem dX4_lookOf_101 : decode cX4_lookOf 101 = .ok (.aload_n 0, 1) := by decide +kernel
theorem dX4_lookOf_102 : decode cX4_lookOf 102 = .ok (.getfield 25, 3) := by decide +kernel
theorem dX4_lookOf_105 : decode cX4_lookOf 105 = .ok (.iload 7, 2) := by decide +kernel
theorem dX4_lookOf_107 : decode cX4_lookOf 107 = .ok (.iaload, 1) := by decide +kernel
theorem dX4_lookOf_108 : decode cX4_lookOf 108 = .ok (.goto 5, 3) := by decide +kernel
theorem dX4_lookOf_111 : decode cX4_lookOf 111 = .ok (.iload 5, 2) := by decide +kernel
theorem dX4_lookOf_113 : decode cX4_lookOf 113 = .ok (.istore 5, 2) := by decide +kernel
theorem dX4_lookOf_115 : decode cX4_lookOf 115 = .ok (.iinc 6 1, 3) := by decide +kernel
theorem dX4_lookOf_118 : decode cX4_lookOf 118 = .ok (.goto (-64), 3) := by decide +kernel
theorem dX4_lookOf_121 : decode cX4_lookOf 121 = .ok (.iload 5, 2) := by decide +kernel
theorem dX4_lookOf_123 : decode cX4_lookOf 123 = .ok (.iload_n 3, 1) := by decide +kernel
theorem dX4_lookOf_124 : decode cX4_lookOf 124 = .ok (.if_icmp .ge 8, 3) := by decide +kernel
theorem dX4_lookOf_127 : decode cX4_lookOf 127 = .ok (.iload 4, 2) := by decide +kernel
theorem dX4_lookOf_129 : decode cX4_lookOf 129 = .ok (.goto 4, 3) := by decide +kernel
theorem dX4_lookOf_132 : decode cX4_lookOf 132 = .ok (.iload_n 2, 1) := by decide +kernel
theorem dX4_lookOf_133 : decode cX4_lookOf 133 = .ok (.istore_n 2, 1) := by decide +kernel
theorem dX4_lookOf_134 : decode cX4_lookOf 134 = .ok (.iload 5, 2) := by decide +kernel
theorem dX4_lookOf_136 : decode cX4_lookOf 136 = .ok (.iload_n 3, 1) := by decide +kernel
theorem dX4_lookOf_137 : decode cX4_lookOf 137 = .ok (.if_icmp .ge 8, 3) := by decide +kernel
theorem dX4_lookOf_140 : decode cX4_lookOf 140 = .ok (.iload 5, 2) := by decide +kernel
theorem dX4_lookOf_142 : decode cX4_lookOf 142 = .ok (.goto 4, 3) := by decide +kernel
theorem dX4_lookOf_145 : decode cX4_lookOf 145 = .ok (.iload_n 3, 1) := by decide +kernel
theorem dX4_lookOf_146 : decode cX4_lookOf 146 = .ok (.istore_n 3, 1) := by decide +kernel
theorem dX4_lookOf_147 : decode cX4_lookOf 147 = .ok (.iinc 4 1, 3) := by decide +kernel
theorem dX4_lookOf_150 : decode cX4_lookOf 150 = .ok (.goto (-137), 3) := by decide +kernel
theorem dX4_lookOf_153 : decode cX4_lookOf 153 = .ok (.iload_n 2, 1) := by decide +kernel
theorem dX4_lookOf_154 : decode cX4_lookOf 154 = .ok (.ireturn, 1) := by decide +kernel
theorem dX4_look_0 : decode cX4_look 0 = .ok (.aload_n 0, 1) := by decide +kernel
theorem dX4_look_1 : decode cX4_look 1 = .ok (.invokevirtual 142, 3) := by decide +kernel
theorem dX4_look_4 : decode cX4_look 4 = .ok (.ifCond .eq 8, 3) := by decide +kernel
theorem dX4_look_7 : decode cX4_look 7 = .ok (.bipush (-103), 2) := by decide +kernel
theorem dX4_look_9 : decode cX4_look 9 = .ok (.goto 7, 3) := by decide +kernel
theorem dX4_look_12 : decode cX4_look 12 = .ok (.aload_n 0, 1) := by decide +kernel
theorem dX4_look_13 : decode cX4_look 13 = .ok (.invokevirtual 160, 3) := by decide +kernel
theorem dX4_look_16 : decode cX4_look 16 = .ok (.ireturn, 1) := by decide +kernel
theorem dX4_draw_0 : decode cX4_draw 0 = .ok (.aload_n 0, 1) := by decide +kernel
theorem dX4_draw_1 : decode cX4_draw 1 = .ok (.ldc2_w 163, 3) := by decide +kernel
theorem dX4_draw_4 : decode cX4_draw 4 = .ok (.aload_n 0, 1) := by decide +kernel
theorem dX4_draw_5 : decode cX4_draw 5 = .ok (.getfield 165, 3) := by decide +kernel
theorem dX4_draw_8 : decode cX4_draw 8 = .ok (.i2l, 1) := by decide +kernel
theorem dX4_draw_9 : decode cX4_draw 9 = .ok (.lmul, 1) := by decide +kernel
theorem dX4_draw_10 : decode cX4_draw 10 = .ok (.ldc2_w 168, 3) := by decide +kernel
theorem dX4_draw_13 : decode cX4_draw 13 = .ok (.ladd, 1) := by decide +kernel
theorem dX4_draw_14 : decode cX4_draw 14 = .ok (.ldc2_w 170, 3) := by decide +kernel
theorem dX4_draw_17 : decode cX4_draw 17 = .ok (.land, 1) := by decide +kernel
theorem dX4_draw_18 : decode cX4_draw 18 = .ok (.l2i, 1) := by decide +kernel
theorem dX4_draw_19 : decode cX4_draw 19 = .ok (.putfield 165, 3) := by decide +kernel
theorem dX4_draw_22 : decode cX4_draw 22 = .ok (.aload_n 0, 1) := by decide +kernel
theorem dX4_draw_23 : decode cX4_draw 23 = .ok (.getfield 165, 3) := by decide +kernel
theorem dX4_draw_26 : decode cX4_draw 26 = .ok (.ldc 172, 2) := by decide +kernel
theorem dX4_draw_28 : decode cX4_draw 28 = .ok (.idiv, 1) := by decide +kernel
theorem dX4_draw_29 : decode cX4_draw 29 = .ok (.iload_n 1, 1) := by decide +kernel
theorem dX4_draw_30 : decode cX4_draw 30 = .ok (.irem, 1) := by decide +kernel
theorem dX4_draw_31 : decode cX4_draw 31 = .ok (.ireturn, 1) := by decide +kernel
theorem dX4_meetAll_0 : decode cX4_meetAll 0 = .ok (.iconst 0, 1) := by decide +kernel
theorem dX4_meetAll_1 : decode cX4_meetAll 1 = .ok (.istore_n 1, 1) := by decide +kernel
theorem dX4_meetAll_2 : decode cX4_meetAll 2 = .ok (.iconst 0, 1) := by decide +kernel
theorem dX4_meetAll_3 : decode cX4_meetAll 3 = .ok (.istore_n 2, 1) := by decide +kernel
theorem dX4_meetAll_4 : decode cX4_meetAll 4 = .ok (.iload_n 2, 1) := by decide +kernel
theorem dX4_meetAll_5 : decode cX4_meetAll 5 = .ok (.aload_n 0, 1) := by decide +kernel
theorem dX4_meetAll_6 : decode cX4_meetAll 6 = .ok (.getfield 75, 3) := by decide +kernel
theorem dX4_meetAll_9 : decode cX4_meetAll 9 = .ok (.if_icmp .ge 31, 3) := by decide +kernel
theorem dX4_meetAll_12 : decode cX4_meetAll 12 = .ok (.iconst 0, 1) := by decide +kernel
theorem dX4_meetAll_13 : decode cX4_meetAll 13 = .ok (.istore_n 3, 1) := by decide +kernel
theorem dX4_meetAll_14 : decode cX4_meetAll 14 = .ok (.iload_n 3, 1) := by decide +kernel
theorem dX4_meetAll_15 : decode cX4_meetAll 15 = .ok (.iload_n 2, 1) := by decide +kernel
theorem dX4_meetAll_16 : decode cX4_meetAll 16 = .ok (.if_icmp .ge 18, 3) := by decide +kernel
theorem dX4_meetAll_19 : decode cX4_meetAll 19 = .ok (.iload_n 1, 1) := by decide +kernel
theorem dX4_meetAll_20 : decode cX4_meetAll 20 = .ok (.aload_n 0, 1) := by decide +kernel
theorem dX4_meetAll_21 : decode cX4_meetAll 21 = .ok (.iload_n 2, 1) := by decide +kernel
theorem dX4_meetAll_22 : decode cX4_meetAll 22 = .ok (.iload_n 3, 1) := by decide +kernel
theorem dX4_meetAll_23 : decode cX4_meetAll 23 = .ok (.invokevirtual 129, 3) := by decide +kernel
theorem dX4_meetAll_26 : decode cX4_meetAll 26 = .ok (.iadd, 1) := by decide +kernel
theorem dX4_meetAll_27 : decode cX4_meetAll 27 = .ok (.istore_n 1, 1) := by decide +kernel
theorem dX4_meetAll_28 : decode cX4_meetAll 28 = .ok (.iinc 3 1, 3) := by decide +kernel
theorem dX4_meetAll_31 : decode cX4_meetAll 31 = .ok (.goto (-17), 3) := by decide +kernel
theorem dX4_meetAll_34 : decode cX4_meetAll 34 = .ok (.iinc 2 1, 3) := by decide +kernel
theorem dX4_meetAll_37 : decode cX4_meetAll 37 = .ok (.goto (-33), 3) := by decide +kernel
theorem dX4_meetAll_40 : decode cX4_meetAll 40 = .ok (.iload_n 1, 1) := by decide +kernel
theorem dX4_meetAll_41 : decode cX4_meetAll 41 = .ok (.ireturn, 1) := by decide +kernel
theorem dX4_placesAll_0 : decode cX4_placesAll 0 = .ok (.iconst 0, 1) := by decide +kernel
theorem dX4_placesAll_1 : decode cX4_placesAll 1 = .ok (.istore_n 1, 1) := by decide +kernel
theorem dX4_placesAll_2 : decode cX4_placesAll 2 = .ok (.iconst 0, 1) := by decide +kernel
theorem dX4_placesAll_3 : decode cX4_placesAll 3 = .ok (.istore_n 2, 1) := by decide +kernel
theorem dX4_placesAll_4 : decode cX4_placesAll 4 = .ok (.iload_n 2, 1) := by decide +kernel
theorem dX4_placesAll_5 : decode cX4_placesAll 5 = .ok (.aload_n 0, 1) := by decide +kernel
theorem dX4_placesAll_6 : decode cX4_placesAll 6 = .ok (.getfield 75, 3) := by decide +kernel
theorem dX4_placesAll_9 : decode cX4_placesAll 9 = .ok (.if_icmp .ge 17, 3) := by decide +kernel
theorem dX4_placesAll_12 : decode cX4_placesAll 12 = .ok (.iload_n 1, 1) := by decide +kernel
theorem dX4_placesAll_13 : decode cX4_placesAll 13 = .ok (.aload_n 0, 1) := by decide +kernel
theorem dX4_placesAll_14 : decode cX4_placesAll 14 = .ok (.iload_n 2, 1) := by decide +kernel
theorem dX4_placesAll_15 : decode cX4_placesAll 15 = .ok (.invokevirtual 112, 3) := by decide +kernel
theorem dX4_placesAll_18 : decode cX4_placesAll 18 = .ok (.ior, 1) := by decide +kernel
theorem dX4_placesAll_19 : decode cX4_placesAll 19 = .ok (.istore_n 1, 1) := by decide +kernel
theorem dX4_placesAll_20 : decode cX4_placesAll 20 = .ok (.iinc 2 1, 3) := by decide +kernel
theorem dX4_placesAll_23 : decode cX4_placesAll 23 = .ok (.goto (-19), 3) := by decide +kernel
theorem dX4_placesAll_26 : decode cX4_placesAll 26 = .ok (.iload_n 1, 1) := by decide +kernel
theorem dX4_placesAll_27 : decode cX4_placesAll 27 = .ok (.invokestatic 115, 3) := by decide +kernel
theorem dX4_placesAll_30 : decode cX4_placesAll 30 = .ok (.ireturn, 1) := by decide +kernel
theorem dX4_mornings_0 : decode cX4_mornings 0 = .ok (.iload_n 1, 1) := by decide +kernel
theorem dX4_mornings_1 : decode cX4_mornings 1 = .ok (.i2l, 1) := by decide +kernel
theorem dX4_mornings_2 : decode cX4_mornings 2 = .ok (.lconst 1, 1) := by decide +kernel
theorem dX4_mornings_3 : decode cX4_mornings 3 = .ok (.ldc2_w 173, 3) := by decide +kernel
theorem dX4_mornings_6 : decode cX4_mornings 6 = .ok (.invokestatic 43, 3) := by decide +kernel
theorem dX4_mornings_9 : decode cX4_mornings 9 = .ok (.ifCond .eq 19, 3) := by decide +kernel
theorem dX4_mornings_12 : decode cX4_mornings 12 = .ok (.iload_n 2, 1) := by decide +kernel
theorem dX4_mornings_13 : decode cX4_mornings 13 = .ok (.ifCond .lt 15, 3) := by decide +kernel
theorem dX4_mornings_16 : decode cX4_mornings 16 = .ok (.iload_n 3, 1) := by decide +kernel
theorem dX4_mornings_17 : decode cX4_mornings 17 = .ok (.i2l, 1) := by decide +kernel
theorem dX4_mornings_18 : decode cX4_mornings 18 = .ok (.lconst 0, 1) := by decide +kernel
theorem dX4_mornings_19 : decode cX4_mornings 19 = .ok (.ldc2_w 175, 3) := by decide +kernel
theorem dX4_mornings_22 : decode cX4_mornings 22 = .ok (.invokestatic 43, 3) := by decide +kernel
theorem dX4_mornings_25 : decode cX4_mornings 25 = .ok (.ifCond .ne 6, 3) := by decide +kernel
theorem dX4_mornings_28 : decode cX4_mornings 28 = .ok (.bipush (-102), 2) := by decide +kernel
theorem dX4_mornings_30 : decode cX4_mornings 30 = .ok (.ireturn, 1) := by decide +kernel
theorem dX4_mornings_31 : decode cX4_mornings 31 = .ok (.aload_n 0, 1) := by decide +kernel
theorem dX4_mornings_32 : decode cX4_mornings 32 = .ok (.invokevirtual 142, 3) := by decide +kernel
theorem dX4_mornings_35 : decode cX4_mornings 35 = .ok (.ifCond .eq 6, 3) := by decide +kernel
theorem dX4_mornings_38 : decode cX4_mornings 38 = .ok (.bipush (-103), 2) := by decide +kernel
theorem dX4_mornings_40 : decode cX4_mornings 40 = .ok (.ireturn, 1) := by decide +kernel
theorem dX4_mornings_41 : decode cX4_mornings 41 = .ok (.aload_n 0, 1) := by decide +kernel
theorem dX4_mornings_42 : decode cX4_mornings 42 = .ok (.getfield 16, 3) := by decide +kernel
theorem dX4_mornings_45 : decode cX4_mornings 45 = .ok (.aload_n 0, 1) := by decide +kernel
theorem dX4_mornings_46 : decode cX4_mornings 46 = .ok (.getfield 28, 3) := by decide +kernel
theorem dX4_mornings_49 : decode cX4_mornings 49 = .ok (.invokestatic 177, 3) := by decide +kernel
theorem dX4_mornings_52 : decode cX4_mornings 52 = .ok (.aload_n 0, 1) := by decide +kernel
theorem dX4_mornings_53 : decode cX4_mornings 53 = .ok (.iload_n 2, 1) := by decide +kernel
theorem dX4_mornings_54 : decode cX4_mornings 54 = .ok (.putfield 165, 3) := by decide +kernel
theorem dX4_mornings_57 : decode cX4_mornings 57 = .ok (.iconst 0, 1) := by decide +kernel
theorem dX4_mornings_58 : decode cX4_mornings 58 = .ok (.istore 4, 2) := by decide +kernel
theorem dX4_mornings_60 : decode cX4_mornings 60 = .ok (.iconst 0, 1) := by decide +kernel
theorem dX4_mornings_61 : decode cX4_mornings 61 = .ok (.istore 5, 2) := by decide +kernel
theorem dX4_mornings_63 : decode cX4_mornings 63 = .ok (.iload 5, 2) := by decide +kernel
theorem dX4_mornings_65 : decode cX4_mornings 65 = .ok (.iload_n 1, 1) := by decide +kernel
theorem dX4_mornings_66 : decode cX4_mornings 66 = .ok (.if_icmp .ge 53, 3) := by decide +kernel
theorem dX4_mornings_69 : decode cX4_mornings 69 = .ok (.iconst 0, 1) := by decide +kernel
theorem dX4_mornings_70 : decode cX4_mornings 70 = .ok (.istore 6, 2) := by decide +kernel
theorem dX4_mornings_72 : decode cX4_mornings 72 = .ok (.iload 6, 2) := by decide +kernel
theorem dX4_mornings_74 : decode cX4_mornings 74 = .ok (.aload_n 0, 1) := by decide +kernel
theorem dX4_mornings_75 : decode cX4_mornings 75 = .ok (.getfield 75, 3) := by decide +kernel
theorem dX4_mornings_78 : decode cX4_mornings 78 = .ok (.if_icmp .ge 26, 3) := by decide +kernel
theorem dX4_mornings_81 : decode cX4_mornings 81 = .ok (.aload_n 0, 1) := by decide +kernel
theorem dX4_mornings_82 : decode cX4_mornings 82 = .ok (.getfield 16, 3) := by decide +kernel
theorem dX4_mornings_85 : decode cX4_mornings 85 = .ok (.bipush 9, 2) := by decide +kernel
theorem dX4_mornings_87 : decode cX4_mornings 87 = .ok (.iload 6, 2) := by decide +kernel
theorem dX4_mornings_89 : decode cX4_mornings 89 = .ok (.imul, 1) := by decide +kernel
theorem dX4_mornings_90 : decode cX4_mornings 90 = .ok (.iconst 2, 1) := by decide +kernel
theorem dX4_mornings_91 : decode cX4_mornings 91 = .ok (.iadd, 1) := by decide +kernel
theorem dX4_mornings_92 : decode cX4_mornings 92 = .ok (.aload_n 0, 1) := by decide +kernel
theorem dX4_mornings_93 : decode cX4_mornings 93 = .ok (.iconst 4, 1) := by decide +kernel
theorem dX4_mornings_94 : decode cX4_mornings 94 = .ok (.invokevirtual 181, 3) := by decide +kernel
theorem dX4_mornings_97 : decode cX4_mornings 97 = .ok (.iastore, 1) := by decide +kernel
theorem dX4_mornings_98 : decode cX4_mornings 98 = .ok (.iinc 6 1, 3) := by decide +kernel
theorem dX4_mornings_101 : decode cX4_mornings 101 = .ok (.goto (-29), 3) := by decide +kernel
theorem dX4_mornings_104 : decode cX4_mornings 104 = .ok (.iload 4, 2) := by decide +kernel
theorem dX4_mornings_106 : decode cX4_mornings 106 = .ok (.aload_n 0, 1) := by decide +kernel
theorem dX4_mornings_107 : decode cX4_mornings 107 = .ok (.invokevirtual 184, 3) := by decide +kernel
theorem dX4_mornings_110 : decode cX4_mornings 110 = .ok (.iadd, 1) := by decide +kernel
theorem dX4_mornings_111 : decode cX4_mornings 111 = .ok (.istore 4, 2) := by decide +kernel
theorem dX4_mornings_113 : decode cX4_mornings 113 = .ok (.iinc 5 1, 3) := by decide +kernel
theorem dX4_mornings_116 : decode cX4_mornings 116 = .ok (.goto (-53), 3) := by decide +kernel
theorem dX4_mornings_119 : decode cX4_mornings 119 = .ok (.aload_n 0, 1) := by decide +kernel
theorem dX4_mornings_120 : decode cX4_mornings 120 = .ok (.invokevirtual 187, 3) := by decide +kernel
theorem dX4_mornings_123 : decode cX4_mornings 123 = .ok (.istore 5, 2) := by decide +kernel
theorem dX4_mornings_125 : decode cX4_mornings 125 = .ok (.aload_n 0, 1) := by decide +kernel
theorem dX4_mornings_126 : decode cX4_mornings 126 = .ok (.getfield 28, 3) := by decide +kernel
theorem dX4_mornings_129 : decode cX4_mornings 129 = .ok (.aload_n 0, 1) := by decide +kernel
theorem dX4_mornings_130 : decode cX4_mornings 130 = .ok (.getfield 16, 3) := by decide +kernel
theorem dX4_mornings_133 : decode cX4_mornings 133 = .ok (.invokestatic 177, 3) := by decide +kernel
theorem dX4_mornings_136 : decode cX4_mornings 136 = .ok (.iload_n 3, 1) := by decide +kernel
theorem dX4_mornings_137 : decode cX4_mornings 137 = .ok (.ifCond .ne 8, 3) := by decide +kernel
theorem dX4_mornings_140 : decode cX4_mornings 140 = .ok (.iload 4, 2) := by decide +kernel
theorem dX4_mornings_142 : decode cX4_mornings 142 = .ok (.goto 17, 3) := by decide +kernel
theorem dX4_mornings_145 : decode cX4_mornings 145 = .ok (.iload_n 3, 1) := by decide +kernel
theorem dX4_mornings_146 : decode cX4_mornings 146 = .ok (.iconst 1, 1) := by decide +kernel
theorem dX4_mornings_147 : decode cX4_mornings 147 = .ok (.if_icmp .ne 8, 3) := by decide +kernel
theorem dX4_mornings_150 : decode cX4_mornings 150 = .ok (.iload 5, 2) := by decide +kernel
theorem dX4_mornings_152 : decode cX4_mornings 152 = .ok (.goto 7, 3) := by decide +kernel
theorem dX4_mornings_155 : decode cX4_mornings 155 = .ok (.aload_n 0, 1) := by decide +kernel
theorem dX4_mornings_156 : decode cX4_mornings 156 = .ok (.getfield 165, 3) := by decide +kernel
theorem dX4_mornings_159 : decode cX4_mornings 159 = .ok (.ireturn, 1) := by decide +kernel
theorem dX4_image_0 : decode cX4_image 0 = .ok (.aload_n 0, 1) := by decide +kernel
theorem dX4_image_1 : decode cX4_image 1 = .ok (.invokevirtual 142, 3) := by decide +kernel
theorem dX4_image_4 : decode cX4_image 4 = .ok (.ifCond .eq 6, 3) := by decide +kernel
theorem dX4_image_7 : decode cX4_image 7 = .ok (.bipush (-103), 2) := by decide +kernel
theorem dX4_image_9 : decode cX4_image 9 = .ok (.ireturn, 1) := by decide +kernel
theorem dX4_image_10 : decode cX4_image 10 = .ok (.aload_n 0, 1) := by decide +kernel
theorem dX4_image_11 : decode cX4_image 11 = .ok (.getfield 16, 3) := by decide +kernel
theorem dX4_image_14 : decode cX4_image 14 = .ok (.aload_n 0, 1) := by decide +kernel
theorem dX4_image_15 : decode cX4_image 15 = .ok (.getfield 31, 3) := by decide +kernel
theorem dX4_image_18 : decode cX4_image 18 = .ok (.invokestatic 177, 3) := by decide +kernel
theorem dX4_image_21 : decode cX4_image 21 = .ok (.aload_n 0, 1) := by decide +kernel
theorem dX4_image_22 : decode cX4_image 22 = .ok (.getfield 22, 3) := by decide +kernel
theorem dX4_image_25 : decode cX4_image 25 = .ok (.aload_n 0, 1) := by decide +kernel
theorem dX4_image_26 : decode cX4_image 26 = .ok (.getfield 34, 3) := by decide +kernel
theorem dX4_image_29 : decode cX4_image 29 = .ok (.invokestatic 177, 3) := by decide +kernel
theorem dX4_image_32 : decode cX4_image 32 = .ok (.aload_n 0, 1) := by decide +kernel
theorem dX4_image_33 : decode cX4_image 33 = .ok (.aload_n 0, 1) := by decide +kernel
theorem dX4_image_34 : decode cX4_image 34 = .ok (.getfield 75, 3) := by decide +kernel
theorem dX4_image_37 : decode cX4_image 37 = .ok (.putfield 190, 3) := by decide +kernel
theorem dX4_image_40 : decode cX4_image 40 = .ok (.aload_n 0, 1) := by decide +kernel
theorem dX4_image_41 : decode cX4_image 41 = .ok (.aload_n 0, 1) := by decide +kernel
theorem dX4_image_42 : decode cX4_image 42 = .ok (.getfield 78, 3) := by decide +kernel
theorem dX4_image_45 : decode cX4_image 45 = .ok (.putfield 193, 3) := by decide +kernel
theorem dX4_image_48 : decode cX4_image 48 = .ok (.aload_n 0, 1) := by decide +kernel
theorem dX4_image_49 : decode cX4_image 49 = .ok (.aload_n 0, 1) := by decide +kernel
theorem dX4_image_50 : decode cX4_image 50 = .ok (.getfield 81, 3) := by decide +kernel
theorem dX4_image_53 : decode cX4_image 53 = .ok (.putfield 196, 3) := by decide +kernel
theorem dX4_image_56 : decode cX4_image 56 = .ok (.aload_n 0, 1) := by decide +kernel
theorem dX4_image_57 : decode cX4_image 57 = .ok (.aload_n 0, 1) := by decide +kernel
theorem dX4_image_58 : decode cX4_image 58 = .ok (.getfield 84, 3) := by decide +kernel
theorem dX4_image_61 : decode cX4_image 61 = .ok (.putfield 37, 3) := by decide +kernel
theorem dX4_image_64 : decode cX4_image 64 = .ok (.aload_n 0, 1) := by decide +kernel
theorem dX4_image_65 : decode cX4_image 65 = .ok (.getfield 78, 3) := by decide +kernel
theorem dX4_image_68 : decode cX4_image 68 = .ok (.ireturn, 1) := by decide +kernel
theorem dX4_restore_0 : decode cX4_restore 0 = .ok (.aload_n 0, 1) := by decide +kernel
theorem dX4_restore_1 : decode cX4_restore 1 = .ok (.getfield 37, 3) := by decide +kernel
theorem dX4_restore_4 : decode cX4_restore 4 = .ok (.aload_n 0, 1) := by decide +kernel
theorem dX4_restore_5 : decode cX4_restore 5 = .ok (.getfield 84, 3) := by decide +kernel
theorem dX4_restore_8 : decode cX4_restore 8 = .ok (.if_icmp .eq 6, 3) := by decide +kernel
theorem dX4_restore_11 : decode cX4_restore 11 = .ok (.bipush (-103), 2) := by decide +kernel
theorem dX4_restore_13 : decode cX4_restore 13 = .ok (.ireturn, 1) := by decide +kernel
theorem dX4_restore_14 : decode cX4_restore 14 = .ok (.aload_n 0, 1) := by decide +kernel
theorem dX4_restore_15 : decode cX4_restore 15 = .ok (.getfield 31, 3) := by decide +kernel
theorem dX4_restore_18 : decode cX4_restore 18 = .ok (.aload_n 0, 1) := by decide +kernel
theorem dX4_restore_19 : decode cX4_restore 19 = .ok (.getfield 16, 3) := by decide +kernel
theorem dX4_restore_22 : decode cX4_restore 22 = .ok (.invokestatic 177, 3) := by decide +kernel
theorem dX4_restore_25 : decode cX4_restore 25 = .ok (.aload_n 0, 1) := by decide +kernel
theorem dX4_restore_26 : decode cX4_restore 26 = .ok (.getfield 34, 3) := by decide +kernel
theorem dX4_restore_29 : decode cX4_restore 29 = .ok (.aload_n 0, 1) := by decide +kernel
theorem dX4_restore_30 : decode cX4_restore 30 = .ok (.getfield 22, 3) := by decide +kernel
theorem dX4_restore_33 : decode cX4_restore 33 = .ok (.invokestatic 177, 3) := by decide +kernel
theorem dX4_restore_36 : decode cX4_restore 36 = .ok (.aload_n 0, 1) := by decide +kernel
theorem dX4_restore_37 : decode cX4_restore 37 = .ok (.aload_n 0, 1) := by decide +kernel
theorem dX4_restore_38 : decode cX4_restore 38 = .ok (.getfield 190, 3) := by decide +kernel
theorem dX4_restore_41 : decode cX4_restore 41 = .ok (.putfield 75, 3) := by decide +kernel
theorem dX4_restore_44 : decode cX4_restore 44 = .ok (.aload_n 0, 1) := by decide +kernel
theorem dX4_restore_45 : decode cX4_restore 45 = .ok (.aload_n 0, 1) := by decide +kernel
theorem dX4_restore_46 : decode cX4_restore 46 = .ok (.getfield 193, 3) := by decide +kernel
theorem dX4_restore_49 : decode cX4_restore 49 = .ok (.putfield 78, 3) := by decide +kernel
theorem dX4_restore_52 : decode cX4_restore 52 = .ok (.aload_n 0, 1) := by decide +kernel
theorem dX4_restore_53 : decode cX4_restore 53 = .ok (.aload_n 0, 1) := by decide +kernel
theorem dX4_restore_54 : decode cX4_restore 54 = .ok (.getfield 196, 3) := by decide +kernel
theorem dX4_restore_57 : decode cX4_restore 57 = .ok (.putfield 81, 3) := by decide +kernel
theorem dX4_restore_60 : decode cX4_restore 60 = .ok (.aload_n 0, 1) := by decide +kernel
theorem dX4_restore_61 : decode cX4_restore 61 = .ok (.getfield 78, 3) := by decide +kernel
theorem dX4_restore_64 : decode cX4_restore 64 = .ok (.ireturn, 1) := by decide +kernel
theorem dX4_stepsAll_0 : decode cX4_stepsAll 0 = .ok (.iconst 0, 1) := by decide +kernel
theorem dX4_stepsAll_1 : decode cX4_stepsAll 1 = .ok (.istore_n 1, 1) := by decide +kernel
theorem dX4_stepsAll_2 : decode cX4_stepsAll 2 = .ok (.iconst 0, 1) := by decide +kernel
theorem dX4_stepsAll_3 : decode cX4_stepsAll 3 = .ok (.istore_n 2, 1) := by decide +kernel
theorem dX4_stepsAll_4 : decode cX4_stepsAll 4 = .ok (.iload_n 2, 1) := by decide +kernel
theorem dX4_stepsAll_5 : decode cX4_stepsAll 5 = .ok (.aload_n 0, 1) := by decide +kernel
theorem dX4_stepsAll_6 : decode cX4_stepsAll 6 = .ok (.getfield 75, 3) := by decide +kernel
theorem dX4_stepsAll_9 : decode cX4_stepsAll 9 = .ok (.if_icmp .ge 23, 3) := by decide +kernel
theorem dX4_stepsAll_12 : decode cX4_stepsAll 12 = .ok (.iload_n 1, 1) := by decide +kernel
theorem dX4_stepsAll_13 : decode cX4_stepsAll 13 = .ok (.aload_n 0, 1) := by decide +kernel
theorem dX4_stepsAll_14 : decode cX4_stepsAll 14 = .ok (.getfield 16, 3) := by decide +kernel
theorem dX4_stepsAll_17 : decode cX4_stepsAll 17 = .ok (.bipush 9, 2) := by decide +kernel
theorem dX4_stepsAll_19 : decode cX4_stepsAll 19 = .ok (.iload_n 2, 1) := by decide +kernel
theorem dX4_stepsAll_20 : decode cX4_stepsAll 20 = .ok (.imul, 1) := by decide +kernel
theorem dX4_stepsAll_21 : decode cX4_stepsAll 21 = .ok (.iconst 3, 1) := by decide +kernel
theorem dX4_stepsAll_22 : decode cX4_stepsAll 22 = .ok (.iadd, 1) := by decide +kernel
theorem dX4_stepsAll_23 : decode cX4_stepsAll 23 = .ok (.iaload, 1) := by decide +kernel
theorem dX4_stepsAll_24 : decode cX4_stepsAll 24 = .ok (.iadd, 1) := by decide +kernel
theorem dX4_stepsAll_25 : decode cX4_stepsAll 25 = .ok (.istore_n 1, 1) := by decide +kernel
theorem dX4_stepsAll_26 : decode cX4_stepsAll 26 = .ok (.iinc 2 1, 3) := by decide +kernel
theorem dX4_stepsAll_29 : decode cX4_stepsAll 29 = .ok (.goto (-25), 3) := by decide +kernel
theorem dX4_stepsAll_32 : decode cX4_stepsAll 32 = .ok (.iload_n 1, 1) := by decide +kernel
theorem dX4_stepsAll_33 : decode cX4_stepsAll 33 = .ok (.ireturn, 1) := by decide +kernel
theorem dX4_countOf_0 : decode cX4_countOf 0 = .ok (.iload_n 1, 1) := by decide +kernel
theorem dX4_countOf_1 : decode cX4_countOf 1 = .ok (.tableswitch 87 0 7 #[47, 52, 57, 62, 67, 72, 77, 82], 47) := by decide +kernel
theorem dX4_countOf_48 : decode cX4_countOf 48 = .ok (.aload_n 0, 1) := by decide +kernel
theorem dX4_countOf_49 : decode cX4_countOf 49 = .ok (.getfield 75, 3) := by decide +kernel
theorem dX4_countOf_52 : decode cX4_countOf 52 = .ok (.ireturn, 1) := by decide +kernel
theorem dX4_countOf_53 : decode cX4_countOf 53 = .ok (.aload_n 0, 1) := by decide +kernel
theorem dX4_countOf_54 : decode cX4_countOf 54 = .ok (.invokevirtual 199, 3) := by decide +kernel
theorem dX4_countOf_57 : decode cX4_countOf 57 = .ok (.ireturn, 1) := by decide +kernel
theorem dX4_countOf_58 : decode cX4_countOf 58 = .ok (.aload_n 0, 1) := by decide +kernel
theorem dX4_countOf_59 : decode cX4_countOf 59 = .ok (.invokevirtual 187, 3) := by decide +kernel
theorem dX4_countOf_62 : decode cX4_countOf 62 = .ok (.ireturn, 1) := by decide +kernel
theorem dX4_countOf_63 : decode cX4_countOf 63 = .ok (.aload_n 0, 1) := by decide +kernel
theorem dX4_countOf_64 : decode cX4_countOf 64 = .ok (.invokevirtual 184, 3) := by decide +kernel
theorem dX4_countOf_67 : decode cX4_countOf 67 = .ok (.ireturn, 1) := by decide +kernel
theorem dX4_countOf_68 : decode cX4_countOf 68 = .ok (.aload_n 0, 1) := by decide +kernel
theorem dX4_countOf_69 : decode cX4_countOf 69 = .ok (.getfield 78, 3) := by decide +kernel
theorem dX4_countOf_72 : decode cX4_countOf 72 = .ok (.ireturn, 1) := by decide +kernel
theorem dX4_countOf_73 : decode cX4_countOf 73 = .ok (.aload_n 0, 1) := by decide +kernel
theorem dX4_countOf_74 : decode cX4_countOf 74 = .ok (.getfield 81, 3) := by decide +kernel
theorem dX4_countOf_77 : decode cX4_countOf 77 = .ok (.ireturn, 1) := by decide +kernel
theorem dX4_countOf_78 : decode cX4_countOf 78 = .ok (.aload_n 0, 1) := by decide +kernel
theorem dX4_countOf_79 : decode cX4_countOf 79 = .ok (.getfield 47, 3) := by decide +kernel
theorem dX4_countOf_82 : decode cX4_countOf 82 = .ok (.ireturn, 1) := by decide +kernel
theorem dX4_countOf_83 : decode cX4_countOf 83 = .ok (.aload_n 0, 1) := by decide +kernel
theorem dX4_countOf_84 : decode cX4_countOf 84 = .ok (.getfield 84, 3) := by decide +kernel
theorem dX4_countOf_87 : decode cX4_countOf 87 = .ok (.ireturn, 1) := by decide +kernel
theorem dX4_countOf_88 : decode cX4_countOf 88 = .ok (.bipush (-102), 2) := by decide +kernel
theorem dX4_countOf_90 : decode cX4_countOf 90 = .ok (.ireturn, 1) := by decide +kernel
theorem dX4_count_0 : decode cX4_count 0 = .ok (.aload_n 0, 1) := by decide +kernel
theorem dX4_count_1 : decode cX4_count 1 = .ok (.iload_n 1, 1) := by decide +kernel
theorem dX4_count_2 : decode cX4_count 2 = .ok (.invokevirtual 202, 3) := by decide +kernel
theorem dX4_count_5 : decode cX4_count 5 = .ok (.ireturn, 1) := by decide +kernel
theorem dX4_say_0 : decode cX4_say 0 = .ok (.aload_n 0, 1) := by decide +kernel
theorem dX4_say_1 : decode cX4_say 1 = .ok (.ldc2_w 205, 3) := by decide +kernel
theorem dX4_say_4 : decode cX4_say 4 = .ok (.aload_n 0, 1) := by decide +kernel
theorem dX4_say_5 : decode cX4_say 5 = .ok (.getfield 207, 3) := by decide +kernel
theorem dX4_say_8 : decode cX4_say 8 = .ok (.lmul, 1) := by decide +kernel
theorem dX4_say_9 : decode cX4_say 9 = .ok (.lload_n 1, 1) := by decide +kernel
theorem dX4_say_10 : decode cX4_say 10 = .ok (.ladd, 1) := by decide +kernel
theorem dX4_say_11 : decode cX4_say 11 = .ok (.putfield 207, 3) := by decide +kernel
theorem dX4_say_14 : decode cX4_say 14 = .ok (.return_, 1) := by decide +kernel
theorem dX4_sayStick_0 : decode cX4_sayStick 0 = .ok (.iconst 0, 1) := by decide +kernel
theorem dX4_sayStick_1 : decode cX4_sayStick 1 = .ok (.istore_n 2, 1) := by decide +kernel
theorem dX4_sayStick_2 : decode cX4_sayStick 2 = .ok (.iload_n 2, 1) := by decide +kernel
theorem dX4_sayStick_3 : decode cX4_sayStick 3 = .ok (.bipush 15, 2) := by decide +kernel
theorem dX4_sayStick_5 : decode cX4_sayStick 5 = .ok (.if_icmp .ge 32, 3) := by decide +kernel
theorem dX4_sayStick_8 : decode cX4_sayStick 8 = .ok (.iload_n 2, 1) := by decide +kernel
theorem dX4_sayStick_9 : decode cX4_sayStick 9 = .ok (.bipush 7, 2) := by decide +kernel
theorem dX4_sayStick_11 : decode cX4_sayStick 11 = .ok (.if_icmp .lt 9, 3) := by decide +kernel
theorem dX4_sayStick_14 : decode cX4_sayStick 14 = .ok (.iload_n 2, 1) := by decide +kernel
theorem dX4_sayStick_15 : decode cX4_sayStick 15 = .ok (.bipush 9, 2) := by decide +kernel
theorem dX4_sayStick_17 : decode cX4_sayStick 17 = .ok (.if_icmp .le 14, 3) := by decide +kernel
theorem dX4_sayStick_20 : decode cX4_sayStick 20 = .ok (.aload_n 0, 1) := by decide +kernel
theorem dX4_sayStick_21 : decode cX4_sayStick 21 = .ok (.aload_n 0, 1) := by decide +kernel
theorem dX4_sayStick_22 : decode cX4_sayStick 22 = .ok (.iload_n 1, 1) := by decide +kernel
theorem dX4_sayStick_23 : decode cX4_sayStick 23 = .ok (.iload_n 2, 1) := by decide +kernel
theorem dX4_sayStick_24 : decode cX4_sayStick 24 = .ok (.invokevirtual 118, 3) := by decide +kernel
theorem dX4_sayStick_27 : decode cX4_sayStick 27 = .ok (.i2l, 1) := by decide +kernel
theorem dX4_sayStick_28 : decode cX4_sayStick 28 = .ok (.invokevirtual 211, 3) := by decide +kernel
theorem dX4_sayStick_31 : decode cX4_sayStick 31 = .ok (.iinc 2 1, 3) := by decide +kernel
theorem dX4_sayStick_34 : decode cX4_sayStick 34 = .ok (.goto (-32), 3) := by decide +kernel
theorem dX4_sayStick_37 : decode cX4_sayStick 37 = .ok (.aload_n 0, 1) := by decide +kernel
theorem dX4_sayStick_38 : decode cX4_sayStick 38 = .ok (.aload_n 0, 1) := by decide +kernel
theorem dX4_sayStick_39 : decode cX4_sayStick 39 = .ok (.iload_n 1, 1) := by decide +kernel
theorem dX4_sayStick_40 : decode cX4_sayStick 40 = .ok (.iconst 1, 1) := by decide +kernel
theorem dX4_sayStick_41 : decode cX4_sayStick 41 = .ok (.invokevirtual 102, 3) := by decide +kernel
theorem dX4_sayStick_44 : decode cX4_sayStick 44 = .ok (.i2l, 1) := by decide +kernel
theorem dX4_sayStick_45 : decode cX4_sayStick 45 = .ok (.invokevirtual 211, 3) := by decide +kernel
theorem dX4_sayStick_48 : decode cX4_sayStick 48 = .ok (.aload_n 0, 1) := by decide +kernel
theorem dX4_sayStick_49 : decode cX4_sayStick 49 = .ok (.aload_n 0, 1) := by decide +kernel
theorem dX4_sayStick_50 : decode cX4_sayStick 50 = .ok (.iload_n 1, 1) := by decide +kernel
theorem dX4_sayStick_51 : decode cX4_sayStick 51 = .ok (.iconst 5, 1) := by decide +kernel
theorem dX4_sayStick_52 : decode cX4_sayStick 52 = .ok (.invokevirtual 102, 3) := by decide +kernel
theorem dX4_sayStick_55 : decode cX4_sayStick 55 = .ok (.i2l, 1) := by decide +kernel
theorem dX4_sayStick_56 : decode cX4_sayStick 56 = .ok (.invokevirtual 211, 3) := by decide +kernel
theorem dX4_sayStick_59 : decode cX4_sayStick 59 = .ok (.aload_n 0, 1) := by decide +kernel
theorem dX4_sayStick_60 : decode cX4_sayStick 60 = .ok (.aload_n 0, 1) := by decide +kernel
theorem dX4_sayStick_61 : decode cX4_sayStick 61 = .ok (.iload_n 1, 1) := by decide +kernel
theorem dX4_sayStick_62 : decode cX4_sayStick 62 = .ok (.bipush 30, 2) := by decide +kernel
theorem dX4_sayStick_64 : decode cX4_sayStick 64 = .ok (.invokevirtual 102, 3) := by decide +kernel
theorem dX4_sayStick_67 : decode cX4_sayStick 67 = .ok (.i2l, 1) := by decide +kernel
theorem dX4_sayStick_68 : decode cX4_sayStick 68 = .ok (.invokevirtual 211, 3) := by decide +kernel
theorem dX4_sayStick_71 : decode cX4_sayStick 71 = .ok (.aload_n 0, 1) := by decide +kernel
theorem dX4_sayStick_72 : decode cX4_sayStick 72 = .ok (.aload_n 0, 1) := by decide +kernel
theorem dX4_sayStick_73 : decode cX4_sayStick 73 = .ok (.iconst 0, 1) := by decide +kernel
theorem dX4_sayStick_74 : decode cX4_sayStick 74 = .ok (.iload_n 1, 1) := by decide +kernel
theorem dX4_sayStick_75 : decode cX4_sayStick 75 = .ok (.invokevirtual 154, 3) := by decide +kernel
theorem dX4_sayStick_78 : decode cX4_sayStick 78 = .ok (.i2l, 1) := by decide +kernel
theorem dX4_sayStick_79 : decode cX4_sayStick 79 = .ok (.invokevirtual 211, 3) := by decide +kernel
theorem dX4_sayStick_82 : decode cX4_sayStick 82 = .ok (.return_, 1) := by decide +kernel
theorem dX4_digest_0 : decode cX4_digest 0 = .ok (.aload_n 0, 1) := by decide +kernel
theorem dX4_digest_1 : decode cX4_digest 1 = .ok (.ldc2_w 215, 3) := by decide +kernel
theorem dX4_digest_4 : decode cX4_digest 4 = .ok (.putfield 207, 3) := by decide +kernel
theorem dX4_digest_7 : decode cX4_digest 7 = .ok (.iconst 0, 1) := by decide +kernel
theorem dX4_digest_8 : decode cX4_digest 8 = .ok (.istore_n 1, 1) := by decide +kernel
theorem dX4_digest_9 : decode cX4_digest 9 = .ok (.iload_n 1, 1) := by decide +kernel
theorem dX4_digest_10 : decode cX4_digest 10 = .ok (.aload_n 0, 1) := by decide +kernel
theorem dX4_digest_11 : decode cX4_digest 11 = .ok (.getfield 75, 3) := by decide +kernel
theorem dX4_digest_14 : decode cX4_digest 14 = .ok (.if_icmp .ge 14, 3) := by decide +kernel
theorem dX4_digest_17 : decode cX4_digest 17 = .ok (.aload_n 0, 1) := by decide +kernel
theorem dX4_digest_18 : decode cX4_digest 18 = .ok (.iload_n 1, 1) := by decide +kernel
theorem dX4_digest_19 : decode cX4_digest 19 = .ok (.invokevirtual 217, 3) := by decide +kernel
theorem dX4_digest_22 : decode cX4_digest 22 = .ok (.iinc 1 1, 3) := by decide +kernel
theorem dX4_digest_25 : decode cX4_digest 25 = .ok (.goto (-16), 3) := by decide +kernel
theorem dX4_digest_28 : decode cX4_digest 28 = .ok (.aload_n 0, 1) := by decide +kernel
theorem dX4_digest_29 : decode cX4_digest 29 = .ok (.invokevirtual 142, 3) := by decide +kernel
theorem dX4_digest_32 : decode cX4_digest 32 = .ok (.ifCond .ne 45, 3) := by decide +kernel
theorem dX4_digest_35 : decode cX4_digest 35 = .ok (.aload_n 0, 1) := by decide +kernel
theorem dX4_digest_36 : decode cX4_digest 36 = .ok (.aload_n 0, 1) := by decide +kernel
theorem dX4_digest_37 : decode cX4_digest 37 = .ok (.invokevirtual 157, 3) := by decide +kernel
theorem dX4_digest_40 : decode cX4_digest 40 = .ok (.i2l, 1) := by decide +kernel
theorem dX4_digest_41 : decode cX4_digest 41 = .ok (.invokevirtual 211, 3) := by decide +kernel
theorem dX4_digest_44 : decode cX4_digest 44 = .ok (.aload_n 0, 1) := by decide +kernel
theorem dX4_digest_45 : decode cX4_digest 45 = .ok (.aload_n 0, 1) := by decide +kernel
theorem dX4_digest_46 : decode cX4_digest 46 = .ok (.invokevirtual 160, 3) := by decide +kernel
theorem dX4_digest_49 : decode cX4_digest 49 = .ok (.i2l, 1) := by decide +kernel
theorem dX4_digest_50 : decode cX4_digest 50 = .ok (.invokevirtual 211, 3) := by decide +kernel
theorem dX4_digest_53 : decode cX4_digest 53 = .ok (.aload_n 0, 1) := by decide +kernel
theorem dX4_digest_54 : decode cX4_digest 54 = .ok (.aload_n 0, 1) := by decide +kernel
theorem dX4_digest_55 : decode cX4_digest 55 = .ok (.bipush 33, 2) := by decide +kernel
theorem dX4_digest_57 : decode cX4_digest 57 = .ok (.iconst 0, 1) := by decide +kernel
theorem dX4_digest_58 : decode cX4_digest 58 = .ok (.invokevirtual 146, 3) := by decide +kernel
theorem dX4_digest_61 : decode cX4_digest 61 = .ok (.i2l, 1) := by decide +kernel
theorem dX4_digest_62 : decode cX4_digest 62 = .ok (.invokevirtual 211, 3) := by decide +kernel
theorem dX4_digest_65 : decode cX4_digest 65 = .ok (.aload_n 0, 1) := by decide +kernel
theorem dX4_digest_66 : decode cX4_digest 66 = .ok (.aload_n 0, 1) := by decide +kernel
theorem dX4_digest_67 : decode cX4_digest 67 = .ok (.bipush 33, 2) := by decide +kernel
theorem dX4_digest_69 : decode cX4_digest 69 = .ok (.iconst 1, 1) := by decide +kernel
theorem dX4_digest_70 : decode cX4_digest 70 = .ok (.invokevirtual 146, 3) := by decide +kernel
theorem dX4_digest_73 : decode cX4_digest 73 = .ok (.i2l, 1) := by decide +kernel
theorem dX4_digest_74 : decode cX4_digest 74 = .ok (.invokevirtual 211, 3) := by decide +kernel
theorem dX4_digest_77 : decode cX4_digest 77 = .ok (.iconst 0, 1) := by decide +kernel
theorem dX4_digest_78 : decode cX4_digest 78 = .ok (.istore_n 1, 1) := by decide +kernel
theorem dX4_digest_79 : decode cX4_digest 79 = .ok (.iload_n 1, 1) := by decide +kernel
theorem dX4_digest_80 : decode cX4_digest 80 = .ok (.aload_n 0, 1) := by decide +kernel
theorem dX4_digest_81 : decode cX4_digest 81 = .ok (.getfield 47, 3) := by decide +kernel
theorem dX4_digest_84 : decode cX4_digest 84 = .ok (.if_icmp .ge 20, 3) := by decide +kernel
theorem dX4_digest_87 : decode cX4_digest 87 = .ok (.aload_n 0, 1) := by decide +kernel
theorem dX4_digest_88 : decode cX4_digest 88 = .ok (.aload_n 0, 1) := by decide +kernel
theorem dX4_digest_89 : decode cX4_digest 89 = .ok (.getfield 7, 3) := by decide +kernel
theorem dX4_digest_92 : decode cX4_digest 92 = .ok (.iload_n 1, 1) := by decide +kernel
theorem dX4_digest_93 : decode cX4_digest 93 = .ok (.iaload, 1) := by decide +kernel
theorem dX4_digest_94 : decode cX4_digest 94 = .ok (.i2l, 1) := by decide +kernel
theorem dX4_digest_95 : decode cX4_digest 95 = .ok (.invokevirtual 211, 3) := by decide +kernel
theorem dX4_digest_98 : decode cX4_digest 98 = .ok (.iinc 1 1, 3) := by decide +kernel
theorem dX4_digest_101 : decode cX4_digest 101 = .ok (.goto (-22), 3) := by decide +kernel
theorem dX4_digest_104 : decode cX4_digest 104 = .ok (.iconst 0, 1) := by decide +kernel
theorem dX4_digest_105 : decode cX4_digest 105 = .ok (.istore_n 1, 1) := by decide +kernel
theorem dX4_digest_106 : decode cX4_digest 106 = .ok (.iload_n 1, 1) := by decide +kernel
theorem dX4_digest_107 : decode cX4_digest 107 = .ok (.bipush 8, 2) := by decide +kernel
theorem dX4_digest_109 : decode cX4_digest 109 = .ok (.if_icmp .ge 19, 3) := by decide +kernel
theorem dX4_digest_112 : decode cX4_digest 112 = .ok (.aload_n 0, 1) := by decide +kernel
theorem dX4_digest_113 : decode cX4_digest 113 = .ok (.aload_n 0, 1) := by decide +kernel
theorem dX4_digest_114 : decode cX4_digest 114 = .ok (.iload_n 1, 1) := by decide +kernel
theorem dX4_digest_115 : decode cX4_digest 115 = .ok (.invokevirtual 202, 3) := by decide +kernel
theorem dX4_digest_118 : decode cX4_digest 118 = .ok (.i2l, 1) := by decide +kernel
theorem dX4_digest_119 : decode cX4_digest 119 = .ok (.invokevirtual 211, 3) := by decide +kernel
theorem dX4_digest_122 : decode cX4_digest 122 = .ok (.iinc 1 1, 3) := by decide +kernel
theorem dX4_digest_125 : decode cX4_digest 125 = .ok (.goto (-19), 3) := by decide +kernel
theorem dX4_digest_128 : decode cX4_digest 128 = .ok (.aload_n 0, 1) := by decide +kernel
theorem dX4_digest_129 : decode cX4_digest 129 = .ok (.getfield 207, 3) := by decide +kernel
theorem dX4_digest_132 : decode cX4_digest 132 = .ok (.lreturn, 1) := by decide +kernel
theorem dL_law_0 : decode cL_law 0 = .ok (.new 7, 3) := by decide +kernel
theorem dL_law_3 : decode cL_law 3 = .ok (.dup, 1) := by decide +kernel
theorem dL_law_4 : decode cL_law 4 = .ok (.invokespecial 9, 3) := by decide +kernel
theorem dL_law_7 : decode cL_law 7 = .ok (.astore_n 1, 1) := by decide +kernel
theorem dL_law_8 : decode cL_law 8 = .ok (.new 10, 3) := by decide +kernel
theorem dL_law_11 : decode cL_law 11 = .ok (.dup, 1) := by decide +kernel
theorem dL_law_12 : decode cL_law 12 = .ok (.invokespecial 12, 3) := by decide +kernel
theorem dL_law_15 : decode cL_law 15 = .ok (.astore_n 2, 1) := by decide +kernel
theorem dL_law_16 : decode cL_law 16 = .ok (.iconst 0, 1) := by decide +kernel
theorem dL_law_17 : decode cL_law 17 = .ok (.istore_n 3, 1) := by decide +kernel
theorem dL_law_18 : decode cL_law 18 = .ok (.iload_n 3, 1) := by decide +kernel
theorem dL_law_19 : decode cL_law 19 = .ok (.aload_n 0, 1) := by decide +kernel
theorem dL_law_20 : decode cL_law 20 = .ok (.arraylength, 1) := by decide +kernel
theorem dL_law_21 : decode cL_law 21 = .ok (.iconst 4, 1) := by decide +kernel
theorem dL_law_22 : decode cL_law 22 = .ok (.isub, 1) := by decide +kernel
theorem dL_law_23 : decode cL_law 23 = .ok (.if_icmp .gt 693, 3) := by decide +kernel
theorem dL_law_26 : decode cL_law 26 = .ok (.aload_n 0, 1) := by decide +kernel
theorem dL_law_27 : decode cL_law 27 = .ok (.iload_n 3, 1) := by decide +kernel
theorem dL_law_28 : decode cL_law 28 = .ok (.iaload, 1) := by decide +kernel
theorem dL_law_29 : decode cL_law 29 = .ok (.bipush 31, 2) := by decide +kernel
theorem dL_law_31 : decode cL_law 31 = .ok (.iand, 1) := by decide +kernel
theorem dL_law_32 : decode cL_law 32 = .ok (.tableswitch 678 0 22 #[108, 131, 144, 157, 170, 203, 236, 269, 302, 335, 368, 401, 434, 467, 500, 533, 546, 559, 572, 615, 628, 641, 664], 108) := by decide +kernel
theorem dL_law_140 : decode cL_law 140 = .ok (.aload_n 1, 1) := by decide +kernel
theorem dL_law_141 : decode cL_law 141 = .ok (.aload_n 0, 1) := by decide +kernel
theorem dL_law_142 : decode cL_law 142 = .ok (.iload_n 3, 1) := by decide +kernel
theorem dL_law_143 : decode cL_law 143 = .ok (.iconst 1, 1) := by decide +kernel
theorem dL_law_144 : decode cL_law 144 = .ok (.iadd, 1) := by decide +kernel
theorem dL_law_145 : decode cL_law 145 = .ok (.iaload, 1) := by decide +kernel
theorem dL_law_146 : decode cL_law 146 = .ok (.invokevirtual 13, 3) := by decide +kernel
theorem dL_law_149 : decode cL_law 149 = .ok (.aload_n 2, 1) := by decide +kernel
theorem dL_law_150 : decode cL_law 150 = .ok (.aload_n 0, 1) := by decide +kernel
theorem dL_law_151 : decode cL_law 151 = .ok (.iload_n 3, 1) := by decide +kernel
theorem dL_law_152 : decode cL_law 152 = .ok (.iconst 1, 1) := by decide +kernel
theorem dL_law_153 : decode cL_law 153 = .ok (.iadd, 1) := by decide +kernel
theorem dL_law_154 : decode cL_law 154 = .ok (.iaload, 1) := by decide +kernel
theorem dL_law_155 : decode cL_law 155 = .ok (.invokevirtual 17, 3) := by decide +kernel
theorem dL_law_158 : decode cL_law 158 = .ok (.if_icmp .eq 552, 3) := by decide +kernel
theorem dL_law_161 : decode cL_law 161 = .ok (.iconst 0, 1) := by decide +kernel
theorem dL_law_162 : decode cL_law 162 = .ok (.ireturn, 1) := by decide +kernel
theorem dL_law_163 : decode cL_law 163 = .ok (.aload_n 1, 1) := by decide +kernel
theorem dL_law_164 : decode cL_law 164 = .ok (.invokevirtual 18, 3) := by decide +kernel
theorem dL_law_167 : decode cL_law 167 = .ok (.aload_n 2, 1) := by decide +kernel
theorem dL_law_168 : decode cL_law 168 = .ok (.invokevirtual 22, 3) := by decide +kernel
theorem dL_law_171 : decode cL_law 171 = .ok (.if_icmp .eq 539, 3) := by decide +kernel
theorem dL_law_174 : decode cL_law 174 = .ok (.iconst 0, 1) := by decide +kernel
theorem dL_law_175 : decode cL_law 175 = .ok (.ireturn, 1) := by decide +kernel
theorem dL_law_176 : decode cL_law 176 = .ok (.aload_n 1, 1) := by decide +kernel
theorem dL_law_177 : decode cL_law 177 = .ok (.invokevirtual 23, 3) := by decide +kernel
theorem dL_law_180 : decode cL_law 180 = .ok (.aload_n 2, 1) := by decide +kernel
theorem dL_law_181 : decode cL_law 181 = .ok (.invokevirtual 26, 3) := by decide +kernel
theorem dL_law_184 : decode cL_law 184 = .ok (.if_icmp .eq 526, 3) := by decide +kernel
theorem dL_law_187 : decode cL_law 187 = .ok (.iconst 0, 1) := by decide +kernel
theorem dL_law_188 : decode cL_law 188 = .ok (.ireturn, 1) := by decide +kernel
theorem dL_law_189 : decode cL_law 189 = .ok (.aload_n 1, 1) := by decide +kernel
theorem dL_law_190 : decode cL_law 190 = .ok (.invokevirtual 27, 3) := by decide +kernel
theorem dL_law_193 : decode cL_law 193 = .ok (.aload_n 2, 1) := by decide +kernel
theorem dL_law_194 : decode cL_law 194 = .ok (.invokevirtual 30, 3) := by decide +kernel
theorem dL_law_197 : decode cL_law 197 = .ok (.if_icmp .eq 513, 3) := by decide +kernel
theorem dL_law_200 : decode cL_law 200 = .ok (.iconst 0, 1) := by decide +kernel
theorem dL_law_201 : decode cL_law 201 = .ok (.ireturn, 1) := by decide +kernel
theorem dL_law_202 : decode cL_law 202 = .ok (.aload_n 1, 1) := by decide +kernel
theorem dL_law_203 : decode cL_law 203 = .ok (.aload_n 0, 1) := by decide +kernel
theorem dL_law_204 : decode cL_law 204 = .ok (.iload_n 3, 1) := by decide +kernel
theorem dL_law_205 : decode cL_law 205 = .ok (.iconst 1, 1) := by decide +kernel
theorem dL_law_206 : decode cL_law 206 = .ok (.iadd, 1) := by decide +kernel
theorem dL_law_207 : decode cL_law 207 = .ok (.iaload, 1) := by decide +kernel
theorem dL_law_208 : decode cL_law 208 = .ok (.aload_n 0, 1) := by decide +kernel
theorem dL_law_209 : decode cL_law 209 = .ok (.iload_n 3, 1) := by decide +kernel
theorem dL_law_210 : decode cL_law 210 = .ok (.iconst 2, 1) := by decide +kernel
theorem dL_law_211 : decode cL_law 211 = .ok (.iadd, 1) := by decide +kernel
theorem dL_law_212 : decode cL_law 212 = .ok (.iaload, 1) := by decide +kernel
theorem dL_law_213 : decode cL_law 213 = .ok (.invokevirtual 31, 3) := by decide +kernel
theorem dL_law_216 : decode cL_law 216 = .ok (.aload_n 2, 1) := by decide +kernel
theorem dL_law_217 : decode cL_law 217 = .ok (.aload_n 0, 1) := by decide +kernel
theorem dL_law_218 : decode cL_law 218 = .ok (.iload_n 3, 1) := by decide +kernel
theorem dL_law_219 : decode cL_law 219 = .ok (.iconst 1, 1) := by decide +kernel
theorem dL_law_220 : decode cL_law 220 = .ok (.iadd, 1) := by decide +kernel
theorem dL_law_221 : decode cL_law 221 = .ok (.iaload, 1) := by decide +kernel
theorem dL_law_222 : decode cL_law 222 = .ok (.aload_n 0, 1) := by decide +kernel
theorem dL_law_223 : decode cL_law 223 = .ok (.iload_n 3, 1) := by decide +kernel
theorem dL_law_224 : decode cL_law 224 = .ok (.iconst 2, 1) := by decide +kernel
theorem dL_law_225 : decode cL_law 225 = .ok (.iadd, 1) := by decide +kernel
theorem dL_law_226 : decode cL_law 226 = .ok (.iaload, 1) := by decide +kernel
theorem dL_law_227 : decode cL_law 227 = .ok (.invokevirtual 35, 3) := by decide +kernel
theorem dL_law_230 : decode cL_law 230 = .ok (.if_icmp .eq 480, 3) := by decide +kernel
theorem dL_law_233 : decode cL_law 233 = .ok (.iconst 0, 1) := by decide +kernel
theorem dL_law_234 : decode cL_law 234 = .ok (.ireturn, 1) := by decide +kernel
theorem dL_law_235 : decode cL_law 235 = .ok (.aload_n 1, 1) := by decide +kernel
theorem dL_law_236 : decode cL_law 236 = .ok (.aload_n 0, 1) := by decide +kernel
theorem dL_law_237 : decode cL_law 237 = .ok (.iload_n 3, 1) := by decide +kernel
theorem dL_law_238 : decode cL_law 238 = .ok (.iconst 1, 1) := by decide +kernel
theorem dL_law_239 : decode cL_law 239 = .ok (.iadd, 1) := by decide +kernel
theorem dL_law_240 : decode cL_law 240 = .ok (.iaload, 1) := by decide +kernel
theorem dL_law_241 : decode cL_law 241 = .ok (.aload_n 0, 1) := by decide +kernel
theorem dL_law_242 : decode cL_law 242 = .ok (.iload_n 3, 1) := by decide +kernel
theorem dL_law_243 : decode cL_law 243 = .ok (.iconst 2, 1) := by decide +kernel
theorem dL_law_244 : decode cL_law 244 = .ok (.iadd, 1) := by decide +kernel
theorem dL_law_245 : decode cL_law 245 = .ok (.iaload, 1) := by decide +kernel
theorem dL_law_246 : decode cL_law 246 = .ok (.invokevirtual 36, 3) := by decide +kernel
theorem dL_law_249 : decode cL_law 249 = .ok (.aload_n 2, 1) := by decide +kernel
theorem dL_law_250 : decode cL_law 250 = .ok (.aload_n 0, 1) := by decide +kernel
theorem dL_law_251 : decode cL_law 251 = .ok (.iload_n 3, 1) := by decide +kernel
theorem dL_law_252 : decode cL_law 252 = .ok (.iconst 1, 1) := by decide +kernel
theorem dL_law_253 : decode cL_law 253 = .ok (.iadd, 1) := by decide +kernel
theorem dL_law_254 : decode cL_law 254 = .ok (.iaload, 1) := by decide +kernel
theorem dL_law_255 : decode cL_law 255 = .ok (.aload_n 0, 1) := by decide +kernel
theorem dL_law_256 : decode cL_law 256 = .ok (.iload_n 3, 1) := by decide +kernel
theorem dL_law_257 : decode cL_law 257 = .ok (.iconst 2, 1) := by decide +kernel
theorem dL_law_258 : decode cL_law 258 = .ok (.iadd, 1) := by decide +kernel
theorem dL_law_259 : decode cL_law 259 = .ok (.iaload, 1) := by decide +kernel
theorem dL_law_260 : decode cL_law 260 = .ok (.invokevirtual 39, 3) := by decide +kernel
theorem dL_law_263 : decode cL_law 263 = .ok (.if_icmp .eq 447, 3) := by decide +kernel
theorem dL_law_266 : decode cL_law 266 = .ok (.iconst 0, 1) := by decide +kernel
theorem dL_law_267 : decode cL_law 267 = .ok (.ireturn, 1) := by decide +kernel
theorem dL_law_268 : decode cL_law 268 = .ok (.aload_n 1, 1) := by decide +kernel
theorem dL_law_269 : decode cL_law 269 = .ok (.aload_n 0, 1) := by decide +kernel
theorem dL_law_270 : decode cL_law 270 = .ok (.iload_n 3, 1) := by decide +kernel
theorem dL_law_271 : decode cL_law 271 = .ok (.iconst 1, 1) := by decide +kernel
theorem dL_law_272 : decode cL_law 272 = .ok (.iadd, 1) := by decide +kernel
theorem dL_law_273 : decode cL_law 273 = .ok (.iaload, 1) := by decide +kernel
theorem dL_law_274 : decode cL_law 274 = .ok (.aload_n 0, 1) := by decide +kernel
theorem dL_law_275 : decode cL_law 275 = .ok (.iload_n 3, 1) := by decide +kernel
theorem dL_law_276 : decode cL_law 276 = .ok (.iconst 2, 1) := by decide +kernel
theorem dL_law_277 : decode cL_law 277 = .ok (.iadd, 1) := by decide +kernel
theorem dL_law_278 : decode cL_law 278 = .ok (.iaload, 1) := by decide +kernel
theorem dL_law_279 : decode cL_law 279 = .ok (.invokevirtual 40, 3) := by decide +kernel
theorem dL_law_282 : decode cL_law 282 = .ok (.aload_n 2, 1) := by decide +kernel
theorem dL_law_283 : decode cL_law 283 = .ok (.aload_n 0, 1) := by decide +kernel
theorem dL_law_284 : decode cL_law 284 = .ok (.iload_n 3, 1) := by decide +kernel
theorem dL_law_285 : decode cL_law 285 = .ok (.iconst 1, 1) := by decide +kernel
theorem dL_law_286 : decode cL_law 286 = .ok (.iadd, 1) := by decide +kernel
theorem dL_law_287 : decode cL_law 287 = .ok (.iaload, 1) := by decide +kernel
theorem dL_law_288 : decode cL_law 288 = .ok (.aload_n 0, 1) := by decide +kernel
theorem dL_law_289 : decode cL_law 289 = .ok (.iload_n 3, 1) := by decide +kernel
theorem dL_law_290 : decode cL_law 290 = .ok (.iconst 2, 1) := by decide +kernel
theorem dL_law_291 : decode cL_law 291 = .ok (.iadd, 1) := by decide +kernel
theorem dL_law_292 : decode cL_law 292 = .ok (.iaload, 1) := by decide +kernel
theorem dL_law_293 : decode cL_law 293 = .ok (.invokevirtual 43, 3) := by decide +kernel
theorem dL_law_296 : decode cL_law 296 = .ok (.if_icmp .eq 414, 3) := by decide +kernel
theorem dL_law_299 : decode cL_law 299 = .ok (.iconst 0, 1) := by decide +kernel
theorem dL_law_300 : decode cL_law 300 = .ok (.ireturn, 1) := by decide +kernel
theorem dL_law_301 : decode cL_law 301 = .ok (.aload_n 1, 1) := by decide +kernel
theorem dL_law_302 : decode cL_law 302 = .ok (.aload_n 0, 1) := by decide +kernel
theorem dL_law_303 : decode cL_law 303 = .ok (.iload_n 3, 1) := by decide +kernel
theorem dL_law_304 : decode cL_law 304 = .ok (.iconst 1, 1) := by decide +kernel
theorem dL_law_305 : decode cL_law 305 = .ok (.iadd, 1) := by decide +kernel
theorem dL_law_306 : decode cL_law 306 = .ok (.iaload, 1) := by decide +kernel
theorem dL_law_307 : decode cL_law 307 = .ok (.aload_n 0, 1) := by decide +kernel
theorem dL_law_308 : decode cL_law 308 = .ok (.iload_n 3, 1) := by decide +kernel
theorem dL_law_309 : decode cL_law 309 = .ok (.iconst 2, 1) := by decide +kernel
theorem dL_law_310 : decode cL_law 310 = .ok (.iadd, 1) := by decide +kernel
theorem dL_law_311 : decode cL_law 311 = .ok (.iaload, 1) := by decide +kernel
theorem dL_law_312 : decode cL_law 312 = .ok (.invokevirtual 44, 3) := by decide +kernel
theorem dL_law_315 : decode cL_law 315 = .ok (.aload_n 2, 1) := by decide +kernel
theorem dL_law_316 : decode cL_law 316 = .ok (.aload_n 0, 1) := by decide +kernel
theorem dL_law_317 : decode cL_law 317 = .ok (.iload_n 3, 1) := by decide +kernel
theorem dL_law_318 : decode cL_law 318 = .ok (.iconst 1, 1) := by decide +kernel
theorem dL_law_319 : decode cL_law 319 = .ok (.iadd, 1) := by decide +kernel
theorem dL_law_320 : decode cL_law 320 = .ok (.iaload, 1) := by decide +kernel
theorem dL_law_321 : decode cL_law 321 = .ok (.aload_n 0, 1) := by decide +kernel
theorem dL_law_322 : decode cL_law 322 = .ok (.iload_n 3, 1) := by decide +kernel
theorem dL_law_323 : decode cL_law 323 = .ok (.iconst 2, 1) := by decide +kernel
theorem dL_law_324 : decode cL_law 324 = .ok (.iadd, 1) := by decide +kernel
theorem dL_law_325 : decode cL_law 325 = .ok (.iaload, 1) := by decide +kernel
theorem dL_law_326 : decode cL_law 326 = .ok (.invokevirtual 47, 3) := by decide +kernel
theorem dL_law_329 : decode cL_law 329 = .ok (.if_icmp .eq 381, 3) := by decide +kernel
theorem dL_law_332 : decode cL_law 332 = .ok (.iconst 0, 1) := by decide +kernel
theorem dL_law_333 : decode cL_law 333 = .ok (.ireturn, 1) := by decide +kernel
theorem dL_law_334 : decode cL_law 334 = .ok (.aload_n 1, 1) := by decide +kernel
theorem dL_law_335 : decode cL_law 335 = .ok (.aload_n 0, 1) := by decide +kernel
theorem dL_law_336 : decode cL_law 336 = .ok (.iload_n 3, 1) := by decide +kernel
theorem dL_law_337 : decode cL_law 337 = .ok (.iconst 1, 1) := by decide +kernel
theorem dL_law_338 : decode cL_law 338 = .ok (.iadd, 1) := by decide +kernel
theorem dL_law_339 : decode cL_law 339 = .ok (.iaload, 1) := by decide +kernel
theorem dL_law_340 : decode cL_law 340 = .ok (.aload_n 0, 1) := by decide +kernel
theorem dL_law_341 : decode cL_law 341 = .ok (.iload_n 3, 1) := by decide +kernel
theorem dL_law_342 : decode cL_law 342 = .ok (.iconst 2, 1) := by decide +kernel
theorem dL_law_343 : decode cL_law 343 = .ok (.iadd, 1) := by decide +kernel
theorem dL_law_344 : decode cL_law 344 = .ok (.iaload, 1) := by decide +kernel
theorem dL_law_345 : decode cL_law 345 = .ok (.invokevirtual 48, 3) := by decide +kernel
theorem dL_law_348 : decode cL_law 348 = .ok (.aload_n 2, 1) := by decide +kernel
theorem dL_law_349 : decode cL_law 349 = .ok (.aload_n 0, 1) := by decide +kernel
theorem dL_law_350 : decode cL_law 350 = .ok (.iload_n 3, 1) := by decide +kernel
theorem dL_law_351 : decode cL_law 351 = .ok (.iconst 1, 1) := by decide +kernel
theorem dL_law_352 : decode cL_law 352 = .ok (.iadd, 1) := by decide +kernel
theorem dL_law_353 : decode cL_law 353 = .ok (.iaload, 1) := by decide +kernel
theorem dL_law_354 : decode cL_law 354 = .ok (.aload_n 0, 1) := by decide +kernel
theorem dL_law_355 : decode cL_law 355 = .ok (.iload_n 3, 1) := by decide +kernel
theorem dL_law_356 : decode cL_law 356 = .ok (.iconst 2, 1) := by decide +kernel
theorem dL_law_357 : decode cL_law 357 = .ok (.iadd, 1) := by decide +kernel
theorem dL_law_358 : decode cL_law 358 = .ok (.iaload, 1) := by decide +kernel
theorem dL_law_359 : decode cL_law 359 = .ok (.invokevirtual 51, 3) := by decide +kernel
theorem dL_law_362 : decode cL_law 362 = .ok (.if_icmp .eq 348, 3) := by decide +kernel
theorem dL_law_365 : decode cL_law 365 = .ok (.iconst 0, 1) := by decide +kernel
theorem dL_law_366 : decode cL_law 366 = .ok (.ireturn, 1) := by decide +kernel
theorem dL_law_367 : decode cL_law 367 = .ok (.aload_n 1, 1) := by decide +kernel
theorem dL_law_368 : decode cL_law 368 = .ok (.aload_n 0, 1) := by decide +kernel
theorem dL_law_369 : decode cL_law 369 = .ok (.iload_n 3, 1) := by decide +kernel
theorem dL_law_370 : decode cL_law 370 = .ok (.iconst 1, 1) := by decide +kernel
theorem dL_law_371 : decode cL_law 371 = .ok (.iadd, 1) := by decide +kernel
theorem dL_law_372 : decode cL_law 372 = .ok (.iaload, 1) := by decide +kernel
theorem dL_law_373 : decode cL_law 373 = .ok (.aload_n 0, 1) := by decide +kernel
theorem dL_law_374 : decode cL_law 374 = .ok (.iload_n 3, 1) := by decide +kernel
theorem dL_law_375 : decode cL_law 375 = .ok (.iconst 2, 1) := by decide +kernel
theorem dL_law_376 : decode cL_law 376 = .ok (.iadd, 1) := by decide +kernel
theorem dL_law_377 : decode cL_law 377 = .ok (.iaload, 1) := by decide +kernel
theorem dL_law_378 : decode cL_law 378 = .ok (.invokevirtual 52, 3) := by decide +kernel
theorem dL_law_381 : decode cL_law 381 = .ok (.aload_n 2, 1) := by decide +kernel
theorem dL_law_382 : decode cL_law 382 = .ok (.aload_n 0, 1) := by decide +kernel
theorem dL_law_383 : decode cL_law 383 = .ok (.iload_n 3, 1) := by decide +kernel
theorem dL_law_384 : decode cL_law 384 = .ok (.iconst 1, 1) := by decide +kernel
theorem dL_law_385 : decode cL_law 385 = .ok (.iadd, 1) := by decide +kernel
theorem dL_law_386 : decode cL_law 386 = .ok (.iaload, 1) := by decide +kernel
theorem dL_law_387 : decode cL_law 387 = .ok (.aload_n 0, 1) := by decide +kernel
theorem dL_law_388 : decode cL_law 388 = .ok (.iload_n 3, 1) := by decide +kernel
theorem dL_law_389 : decode cL_law 389 = .ok (.iconst 2, 1) := by decide +kernel
theorem dL_law_390 : decode cL_law 390 = .ok (.iadd, 1) := by decide +kernel
theorem dL_law_391 : decode cL_law 391 = .ok (.iaload, 1) := by decide +kernel
theorem dL_law_392 : decode cL_law 392 = .ok (.invokevirtual 55, 3) := by decide +kernel
theorem dL_law_395 : decode cL_law 395 = .ok (.if_icmp .eq 315, 3) := by decide +kernel
theorem dL_law_398 : decode cL_law 398 = .ok (.iconst 0, 1) := by decide +kernel
theorem dL_law_399 : decode cL_law 399 = .ok (.ireturn, 1) := by decide +kernel
theorem dL_law_400 : decode cL_law 400 = .ok (.aload_n 1, 1) := by decide +kernel
theorem dL_law_401 : decode cL_law 401 = .ok (.aload_n 0, 1) := by decide +kernel
theorem dL_law_402 : decode cL_law 402 = .ok (.iload_n 3, 1) := by decide +kernel
theorem dL_law_403 : decode cL_law 403 = .ok (.iconst 1, 1) := by decide +kernel
theorem dL_law_404 : decode cL_law 404 = .ok (.iadd, 1) := by decide +kernel
theorem dL_law_405 : decode cL_law 405 = .ok (.iaload, 1) := by decide +kernel
theorem dL_law_406 : decode cL_law 406 = .ok (.aload_n 0, 1) := by decide +kernel
theorem dL_law_407 : decode cL_law 407 = .ok (.iload_n 3, 1) := by decide +kernel
theorem dL_law_408 : decode cL_law 408 = .ok (.iconst 2, 1) := by decide +kernel
theorem dL_law_409 : decode cL_law 409 = .ok (.iadd, 1) := by decide +kernel
theorem dL_law_410 : decode cL_law 410 = .ok (.iaload, 1) := by decide +kernel
theorem dL_law_411 : decode cL_law 411 = .ok (.invokevirtual 56, 3) := by decide +kernel
theorem dL_law_414 : decode cL_law 414 = .ok (.aload_n 2, 1) := by decide +kernel
theorem dL_law_415 : decode cL_law 415 = .ok (.aload_n 0, 1) := by decide +kernel
theorem dL_law_416 : decode cL_law 416 = .ok (.iload_n 3, 1) := by decide +kernel
theorem dL_law_417 : decode cL_law 417 = .ok (.iconst 1, 1) := by decide +kernel
theorem dL_law_418 : decode cL_law 418 = .ok (.iadd, 1) := by decide +kernel
theorem dL_law_419 : decode cL_law 419 = .ok (.iaload, 1) := by decide +kernel
theorem dL_law_420 : decode cL_law 420 = .ok (.aload_n 0, 1) := by decide +kernel
theorem dL_law_421 : decode cL_law 421 = .ok (.iload_n 3, 1) := by decide +kernel
theorem dL_law_422 : decode cL_law 422 = .ok (.iconst 2, 1) := by decide +kernel
theorem dL_law_423 : decode cL_law 423 = .ok (.iadd, 1) := by decide +kernel
theorem dL_law_424 : decode cL_law 424 = .ok (.iaload, 1) := by decide +kernel
theorem dL_law_425 : decode cL_law 425 = .ok (.invokevirtual 59, 3) := by decide +kernel
theorem dL_law_428 : decode cL_law 428 = .ok (.if_icmp .eq 282, 3) := by decide +kernel
theorem dL_law_431 : decode cL_law 431 = .ok (.iconst 0, 1) := by decide +kernel
theorem dL_law_432 : decode cL_law 432 = .ok (.ireturn, 1) := by decide +kernel
theorem dL_law_433 : decode cL_law 433 = .ok (.aload_n 1, 1) := by decide +kernel
theorem dL_law_434 : decode cL_law 434 = .ok (.aload_n 0, 1) := by decide +kernel
theorem dL_law_435 : decode cL_law 435 = .ok (.iload_n 3, 1) := by decide +kernel
theorem dL_law_436 : decode cL_law 436 = .ok (.iconst 1, 1) := by decide +kernel
theorem dL_law_437 : decode cL_law 437 = .ok (.iadd, 1) := by decide +kernel
theorem dL_law_438 : decode cL_law 438 = .ok (.iaload, 1) := by decide +kernel
theorem dL_law_439 : decode cL_law 439 = .ok (.aload_n 0, 1) := by decide +kernel
theorem dL_law_440 : decode cL_law 440 = .ok (.iload_n 3, 1) := by decide +kernel
theorem dL_law_441 : decode cL_law 441 = .ok (.iconst 2, 1) := by decide +kernel
theorem dL_law_442 : decode cL_law 442 = .ok (.iadd, 1) := by decide +kernel
theorem dL_law_443 : decode cL_law 443 = .ok (.iaload, 1) := by decide +kernel
theorem dL_law_444 : decode cL_law 444 = .ok (.invokevirtual 60, 3) := by decide +kernel
theorem dL_law_447 : decode cL_law 447 = .ok (.aload_n 2, 1) := by decide +kernel
theorem dL_law_448 : decode cL_law 448 = .ok (.aload_n 0, 1) := by decide +kernel
theorem dL_law_449 : decode cL_law 449 = .ok (.iload_n 3, 1) := by decide +kernel
theorem dL_law_450 : decode cL_law 450 = .ok (.iconst 1, 1) := by decide +kernel
theorem dL_law_451 : decode cL_law 451 = .ok (.iadd, 1) := by decide +kernel
theorem dL_law_452 : decode cL_law 452 = .ok (.iaload, 1) := by decide +kernel
theorem dL_law_453 : decode cL_law 453 = .ok (.aload_n 0, 1) := by decide +kernel
theorem dL_law_454 : decode cL_law 454 = .ok (.iload_n 3, 1) := by decide +kernel
theorem dL_law_455 : decode cL_law 455 = .ok (.iconst 2, 1) := by decide +kernel
theorem dL_law_456 : decode cL_law 456 = .ok (.iadd, 1) := by decide +kernel
theorem dL_law_457 : decode cL_law 457 = .ok (.iaload, 1) := by decide +kernel
theorem dL_law_458 : decode cL_law 458 = .ok (.invokevirtual 63, 3) := by decide +kernel
theorem dL_law_461 : decode cL_law 461 = .ok (.if_icmp .eq 249, 3) := by decide +kernel
theorem dL_law_464 : decode cL_law 464 = .ok (.iconst 0, 1) := by decide +kernel
theorem dL_law_465 : decode cL_law 465 = .ok (.ireturn, 1) := by decide +kernel
theorem dL_law_466 : decode cL_law 466 = .ok (.aload_n 1, 1) := by decide +kernel
theorem dL_law_467 : decode cL_law 467 = .ok (.aload_n 0, 1) := by decide +kernel
theorem dL_law_468 : decode cL_law 468 = .ok (.iload_n 3, 1) := by decide +kernel
theorem dL_law_469 : decode cL_law 469 = .ok (.iconst 1, 1) := by decide +kernel
theorem dL_law_470 : decode cL_law 470 = .ok (.iadd, 1) := by decide +kernel
theorem dL_law_471 : decode cL_law 471 = .ok (.iaload, 1) := by decide +kernel
theorem dL_law_472 : decode cL_law 472 = .ok (.aload_n 0, 1) := by decide +kernel
theorem dL_law_473 : decode cL_law 473 = .ok (.iload_n 3, 1) := by decide +kernel
theorem dL_law_474 : decode cL_law 474 = .ok (.iconst 2, 1) := by decide +kernel
theorem dL_law_475 : decode cL_law 475 = .ok (.iadd, 1) := by decide +kernel
theorem dL_law_476 : decode cL_law 476 = .ok (.iaload, 1) := by decide +kernel
theorem dL_law_477 : decode cL_law 477 = .ok (.invokevirtual 64, 3) := by decide +kernel
theorem dL_law_480 : decode cL_law 480 = .ok (.aload_n 2, 1) := by decide +kernel
theorem dL_law_481 : decode cL_law 481 = .ok (.aload_n 0, 1) := by decide +kernel
theorem dL_law_482 : decode cL_law 482 = .ok (.iload_n 3, 1) := by decide +kernel
theorem dL_law_483 : decode cL_law 483 = .ok (.iconst 1, 1) := by decide +kernel
theorem dL_law_484 : decode cL_law 484 = .ok (.iadd, 1) := by decide +kernel
theorem dL_law_485 : decode cL_law 485 = .ok (.iaload, 1) := by decide +kernel
theorem dL_law_486 : decode cL_law 486 = .ok (.aload_n 0, 1) := by decide +kernel
theorem dL_law_487 : decode cL_law 487 = .ok (.iload_n 3, 1) := by decide +kernel
theorem dL_law_488 : decode cL_law 488 = .ok (.iconst 2, 1) := by decide +kernel
theorem dL_law_489 : decode cL_law 489 = .ok (.iadd, 1) := by decide +kernel
theorem dL_law_490 : decode cL_law 490 = .ok (.iaload, 1) := by decide +kernel
theorem dL_law_491 : decode cL_law 491 = .ok (.invokevirtual 67, 3) := by decide +kernel
theorem dL_law_494 : decode cL_law 494 = .ok (.if_icmp .eq 216, 3) := by decide +kernel
theorem dL_law_497 : decode cL_law 497 = .ok (.iconst 0, 1) := by decide +kernel
theorem dL_law_498 : decode cL_law 498 = .ok (.ireturn, 1) := by decide +kernel
theorem dL_law_499 : decode cL_law 499 = .ok (.aload_n 1, 1) := by decide +kernel
theorem dL_law_500 : decode cL_law 500 = .ok (.aload_n 0, 1) := by decide +kernel
theorem dL_law_501 : decode cL_law 501 = .ok (.iload_n 3, 1) := by decide +kernel
theorem dL_law_502 : decode cL_law 502 = .ok (.iconst 1, 1) := by decide +kernel
theorem dL_law_503 : decode cL_law 503 = .ok (.iadd, 1) := by decide +kernel
theorem dL_law_504 : decode cL_law 504 = .ok (.iaload, 1) := by decide +kernel
theorem dL_law_505 : decode cL_law 505 = .ok (.aload_n 0, 1) := by decide +kernel
theorem dL_law_506 : decode cL_law 506 = .ok (.iload_n 3, 1) := by decide +kernel
theorem dL_law_507 : decode cL_law 507 = .ok (.iconst 2, 1) := by decide +kernel
theorem dL_law_508 : decode cL_law 508 = .ok (.iadd, 1) := by decide +kernel
theorem dL_law_509 : decode cL_law 509 = .ok (.iaload, 1) := by decide +kernel
theorem dL_law_510 : decode cL_law 510 = .ok (.invokevirtual 68, 3) := by decide +kernel
theorem dL_law_513 : decode cL_law 513 = .ok (.aload_n 2, 1) := by decide +kernel
theorem dL_law_514 : decode cL_law 514 = .ok (.aload_n 0, 1) := by decide +kernel
theorem dL_law_515 : decode cL_law 515 = .ok (.iload_n 3, 1) := by decide +kernel
theorem dL_law_516 : decode cL_law 516 = .ok (.iconst 1, 1) := by decide +kernel
theorem dL_law_517 : decode cL_law 517 = .ok (.iadd, 1) := by decide +kernel
theorem dL_law_518 : decode cL_law 518 = .ok (.iaload, 1) := by decide +kernel
theorem dL_law_519 : decode cL_law 519 = .ok (.aload_n 0, 1) := by decide +kernel
theorem dL_law_520 : decode cL_law 520 = .ok (.iload_n 3, 1) := by decide +kernel
theorem dL_law_521 : decode cL_law 521 = .ok (.iconst 2, 1) := by decide +kernel
theorem dL_law_522 : decode cL_law 522 = .ok (.iadd, 1) := by decide +kernel
theorem dL_law_523 : decode cL_law 523 = .ok (.iaload, 1) := by decide +kernel
theorem dL_law_524 : decode cL_law 524 = .ok (.invokevirtual 71, 3) := by decide +kernel
theorem dL_law_527 : decode cL_law 527 = .ok (.if_icmp .eq 183, 3) := by decide +kernel
theorem dL_law_530 : decode cL_law 530 = .ok (.iconst 0, 1) := by decide +kernel
theorem dL_law_531 : decode cL_law 531 = .ok (.ireturn, 1) := by decide +kernel
theorem dL_law_532 : decode cL_law 532 = .ok (.aload_n 1, 1) := by decide +kernel
theorem dL_law_533 : decode cL_law 533 = .ok (.aload_n 0, 1) := by decide +kernel
theorem dL_law_534 : decode cL_law 534 = .ok (.iload_n 3, 1) := by decide +kernel
theorem dL_law_535 : decode cL_law 535 = .ok (.iconst 1, 1) := by decide +kernel
theorem dL_law_536 : decode cL_law 536 = .ok (.iadd, 1) := by decide +kernel
theorem dL_law_537 : decode cL_law 537 = .ok (.iaload, 1) := by decide +kernel
theorem dL_law_538 : decode cL_law 538 = .ok (.aload_n 0, 1) := by decide +kernel
theorem dL_law_539 : decode cL_law 539 = .ok (.iload_n 3, 1) := by decide +kernel
theorem dL_law_540 : decode cL_law 540 = .ok (.iconst 2, 1) := by decide +kernel
theorem dL_law_541 : decode cL_law 541 = .ok (.iadd, 1) := by decide +kernel
theorem dL_law_542 : decode cL_law 542 = .ok (.iaload, 1) := by decide +kernel
theorem dL_law_543 : decode cL_law 543 = .ok (.invokevirtual 72, 3) := by decide +kernel
theorem dL_law_546 : decode cL_law 546 = .ok (.aload_n 2, 1) := by decide +kernel
theorem dL_law_547 : decode cL_law 547 = .ok (.aload_n 0, 1) := by decide +kernel
theorem dL_law_548 : decode cL_law 548 = .ok (.iload_n 3, 1) := by decide +kernel
theorem dL_law_549 : decode cL_law 549 = .ok (.iconst 1, 1) := by decide +kernel
theorem dL_law_550 : decode cL_law 550 = .ok (.iadd, 1) := by decide +kernel
theorem dL_law_551 : decode cL_law 551 = .ok (.iaload, 1) := by decide +kernel
theorem dL_law_552 : decode cL_law 552 = .ok (.aload_n 0, 1) := by decide +kernel
theorem dL_law_553 : decode cL_law 553 = .ok (.iload_n 3, 1) := by decide +kernel
theorem dL_law_554 : decode cL_law 554 = .ok (.iconst 2, 1) := by decide +kernel
theorem dL_law_555 : decode cL_law 555 = .ok (.iadd, 1) := by decide +kernel
theorem dL_law_556 : decode cL_law 556 = .ok (.iaload, 1) := by decide +kernel
theorem dL_law_557 : decode cL_law 557 = .ok (.invokevirtual 75, 3) := by decide +kernel
theorem dL_law_560 : decode cL_law 560 = .ok (.if_icmp .eq 150, 3) := by decide +kernel
theorem dL_law_563 : decode cL_law 563 = .ok (.iconst 0, 1) := by decide +kernel
theorem dL_law_564 : decode cL_law 564 = .ok (.ireturn, 1) := by decide +kernel
theorem dL_law_565 : decode cL_law 565 = .ok (.aload_n 1, 1) := by decide +kernel
theorem dL_law_566 : decode cL_law 566 = .ok (.invokevirtual 76, 3) := by decide +kernel
theorem dL_law_569 : decode cL_law 569 = .ok (.aload_n 2, 1) := by decide +kernel
theorem dL_law_570 : decode cL_law 570 = .ok (.invokevirtual 79, 3) := by decide +kernel
theorem dL_law_573 : decode cL_law 573 = .ok (.if_icmp .eq 137, 3) := by decide +kernel
theorem dL_law_576 : decode cL_law 576 = .ok (.iconst 0, 1) := by decide +kernel
theorem dL_law_577 : decode cL_law 577 = .ok (.ireturn, 1) := by decide +kernel
theorem dL_law_578 : decode cL_law 578 = .ok (.aload_n 1, 1) := by decide +kernel
theorem dL_law_579 : decode cL_law 579 = .ok (.invokevirtual 80, 3) := by decide +kernel
theorem dL_law_582 : decode cL_law 582 = .ok (.aload_n 2, 1) := by decide +kernel
theorem dL_law_583 : decode cL_law 583 = .ok (.invokevirtual 83, 3) := by decide +kernel
theorem dL_law_586 : decode cL_law 586 = .ok (.if_icmp .eq 124, 3) := by decide +kernel
theorem dL_law_589 : decode cL_law 589 = .ok (.iconst 0, 1) := by decide +kernel
theorem dL_law_590 : decode cL_law 590 = .ok (.ireturn, 1) := by decide +kernel
theorem dL_law_591 : decode cL_law 591 = .ok (.aload_n 1, 1) := by decide +kernel
theorem dL_law_592 : decode cL_law 592 = .ok (.invokevirtual 84, 3) := by decide +kernel
theorem dL_law_595 : decode cL_law 595 = .ok (.aload_n 2, 1) := by decide +kernel
theorem dL_law_596 : decode cL_law 596 = .ok (.invokevirtual 87, 3) := by decide +kernel
theorem dL_law_599 : decode cL_law 599 = .ok (.if_icmp .eq 111, 3) := by decide +kernel
theorem dL_law_602 : decode cL_law 602 = .ok (.iconst 0, 1) := by decide +kernel
theorem dL_law_603 : decode cL_law 603 = .ok (.ireturn, 1) := by decide +kernel
theorem dL_law_604 : decode cL_law 604 = .ok (.aload_n 1, 1) := by decide +kernel
theorem dL_law_605 : decode cL_law 605 = .ok (.aload_n 0, 1) := by decide +kernel
theorem dL_law_606 : decode cL_law 606 = .ok (.iload_n 3, 1) := by decide +kernel
theorem dL_law_607 : decode cL_law 607 = .ok (.iconst 1, 1) := by decide +kernel
theorem dL_law_608 : decode cL_law 608 = .ok (.iadd, 1) := by decide +kernel
theorem dL_law_609 : decode cL_law 609 = .ok (.iaload, 1) := by decide +kernel
theorem dL_law_610 : decode cL_law 610 = .ok (.aload_n 0, 1) := by decide +kernel
theorem dL_law_611 : decode cL_law 611 = .ok (.iload_n 3, 1) := by decide +kernel
theorem dL_law_612 : decode cL_law 612 = .ok (.iconst 2, 1) := by decide +kernel
theorem dL_law_613 : decode cL_law 613 = .ok (.iadd, 1) := by decide +kernel
theorem dL_law_614 : decode cL_law 614 = .ok (.iaload, 1) := by decide +kernel
theorem dL_law_615 : decode cL_law 615 = .ok (.aload_n 0, 1) := by decide +kernel
theorem dL_law_616 : decode cL_law 616 = .ok (.iload_n 3, 1) := by decide +kernel
theorem dL_law_617 : decode cL_law 617 = .ok (.iconst 3, 1) := by decide +kernel
theorem dL_law_618 : decode cL_law 618 = .ok (.iadd, 1) := by decide +kernel
theorem dL_law_619 : decode cL_law 619 = .ok (.iaload, 1) := by decide +kernel
theorem dL_law_620 : decode cL_law 620 = .ok (.invokevirtual 88, 3) := by decide +kernel
theorem dL_law_623 : decode cL_law 623 = .ok (.aload_n 2, 1) := by decide +kernel
theorem dL_law_624 : decode cL_law 624 = .ok (.aload_n 0, 1) := by decide +kernel
theorem dL_law_625 : decode cL_law 625 = .ok (.iload_n 3, 1) := by decide +kernel
theorem dL_law_626 : decode cL_law 626 = .ok (.iconst 1, 1) := by decide +kernel
theorem dL_law_627 : decode cL_law 627 = .ok (.iadd, 1) := by decide +kernel
theorem dL_law_628 : decode cL_law 628 = .ok (.iaload, 1) := by decide +kernel
theorem dL_law_629 : decode cL_law 629 = .ok (.aload_n 0, 1) := by decide +kernel
theorem dL_law_630 : decode cL_law 630 = .ok (.iload_n 3, 1) := by decide +kernel
theorem dL_law_631 : decode cL_law 631 = .ok (.iconst 2, 1) := by decide +kernel
theorem dL_law_632 : decode cL_law 632 = .ok (.iadd, 1) := by decide +kernel
theorem dL_law_633 : decode cL_law 633 = .ok (.iaload, 1) := by decide +kernel
theorem dL_law_634 : decode cL_law 634 = .ok (.aload_n 0, 1) := by decide +kernel
theorem dL_law_635 : decode cL_law 635 = .ok (.iload_n 3, 1) := by decide +kernel
theorem dL_law_636 : decode cL_law 636 = .ok (.iconst 3, 1) := by decide +kernel
theorem dL_law_637 : decode cL_law 637 = .ok (.iadd, 1) := by decide +kernel
theorem dL_law_638 : decode cL_law 638 = .ok (.iaload, 1) := by decide +kernel
theorem dL_law_639 : decode cL_law 639 = .ok (.invokevirtual 92, 3) := by decide +kernel
theorem dL_law_642 : decode cL_law 642 = .ok (.if_icmp .eq 68, 3) := by decide +kernel
theorem dL_law_645 : decode cL_law 645 = .ok (.iconst 0, 1) := by decide +kernel
theorem dL_law_646 : decode cL_law 646 = .ok (.ireturn, 1) := by decide +kernel
theorem dL_law_647 : decode cL_law 647 = .ok (.aload_n 1, 1) := by decide +kernel
theorem dL_law_648 : decode cL_law 648 = .ok (.invokevirtual 93, 3) := by decide +kernel
theorem dL_law_651 : decode cL_law 651 = .ok (.aload_n 2, 1) := by decide +kernel
theorem dL_law_652 : decode cL_law 652 = .ok (.invokevirtual 96, 3) := by decide +kernel
theorem dL_law_655 : decode cL_law 655 = .ok (.if_icmp .eq 55, 3) := by decide +kernel
theorem dL_law_658 : decode cL_law 658 = .ok (.iconst 0, 1) := by decide +kernel
theorem dL_law_659 : decode cL_law 659 = .ok (.ireturn, 1) := by decide +kernel
theorem dL_law_660 : decode cL_law 660 = .ok (.aload_n 1, 1) := by decide +kernel
theorem dL_law_661 : decode cL_law 661 = .ok (.invokevirtual 97, 3) := by decide +kernel
theorem dL_law_664 : decode cL_law 664 = .ok (.aload_n 2, 1) := by decide +kernel
theorem dL_law_665 : decode cL_law 665 = .ok (.invokevirtual 100, 3) := by decide +kernel
theorem dL_law_668 : decode cL_law 668 = .ok (.if_icmp .eq 42, 3) := by decide +kernel
theorem dL_law_671 : decode cL_law 671 = .ok (.iconst 0, 1) := by decide +kernel
theorem dL_law_672 : decode cL_law 672 = .ok (.ireturn, 1) := by decide +kernel
theorem dL_law_673 : decode cL_law 673 = .ok (.aload_n 1, 1) := by decide +kernel
theorem dL_law_674 : decode cL_law 674 = .ok (.aload_n 0, 1) := by decide +kernel
theorem dL_law_675 : decode cL_law 675 = .ok (.iload_n 3, 1) := by decide +kernel
theorem dL_law_676 : decode cL_law 676 = .ok (.iconst 1, 1) := by decide +kernel
theorem dL_law_677 : decode cL_law 677 = .ok (.iadd, 1) := by decide +kernel
theorem dL_law_678 : decode cL_law 678 = .ok (.iaload, 1) := by decide +kernel
theorem dL_law_679 : decode cL_law 679 = .ok (.invokevirtual 101, 3) := by decide +kernel
theorem dL_law_682 : decode cL_law 682 = .ok (.aload_n 2, 1) := by decide +kernel
theorem dL_law_683 : decode cL_law 683 = .ok (.aload_n 0, 1) := by decide +kernel
theorem dL_law_684 : decode cL_law 684 = .ok (.iload_n 3, 1) := by decide +kernel
theorem dL_law_685 : decode cL_law 685 = .ok (.iconst 1, 1) := by decide +kernel
theorem dL_law_686 : decode cL_law 686 = .ok (.iadd, 1) := by decide +kernel
theorem dL_law_687 : decode cL_law 687 = .ok (.iaload, 1) := by decide +kernel
theorem dL_law_688 : decode cL_law 688 = .ok (.invokevirtual 104, 3) := by decide +kernel
theorem dL_law_691 : decode cL_law 691 = .ok (.if_icmp .eq 19, 3) := by decide +kernel
theorem dL_law_694 : decode cL_law 694 = .ok (.iconst 0, 1) := by decide +kernel
theorem dL_law_695 : decode cL_law 695 = .ok (.ireturn, 1) := by decide +kernel
theorem dL_law_696 : decode cL_law 696 = .ok (.aload_n 1, 1) := by decide +kernel
theorem dL_law_697 : decode cL_law 697 = .ok (.invokevirtual 105, 3) := by decide +kernel
theorem dL_law_700 : decode cL_law 700 = .ok (.aload_n 2, 1) := by decide +kernel
theorem dL_law_701 : decode cL_law 701 = .ok (.invokevirtual 109, 3) := by decide +kernel
theorem dL_law_704 : decode cL_law 704 = .ok (.lcmp, 1) := by decide +kernel
theorem dL_law_705 : decode cL_law 705 = .ok (.ifCond .eq 5, 3) := by decide +kernel
theorem dL_law_708 : decode cL_law 708 = .ok (.iconst 0, 1) := by decide +kernel
theorem dL_law_709 : decode cL_law 709 = .ok (.ireturn, 1) := by decide +kernel
theorem dL_law_710 : decode cL_law 710 = .ok (.iinc 3 4, 3) := by decide +kernel
theorem dL_law_713 : decode cL_law 713 = .ok (.goto (-695), 3) := by decide +kernel
theorem dL_law_716 : decode cL_law 716 = .ok (.iconst 1, 1) := by decide +kernel
theorem dL_law_717 : decode cL_law 717 = .ok (.ireturn, 1) := by decide +kernel
