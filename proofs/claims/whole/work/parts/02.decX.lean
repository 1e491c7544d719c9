theorem dX0_init_0 : decode cX0_init 0 = .ok (.aload_n 0, 1) := by decide +kernel
theorem dX0_init_1 : decode cX0_init 1 = .ok (.invokespecial 3, 3) := by decide +kernel
theorem dX0_init_4 : decode cX0_init 4 = .ok (.aload_n 0, 1) := by decide +kernel
theorem dX0_init_5 : decode cX0_init 5 = .ok (.bipush 6, 2) := by decide +kernel
theorem dX0_init_7 : decode cX0_init 7 = .ok (.anewarray 9, 3) := by decide +kernel
theorem dX0_init_10 : decode cX0_init 10 = .ok (.putfield 11, 3) := by decide +kernel
theorem dX0_init_13 : decode cX0_init 13 = .ok (.iconst 0, 1) := by decide +kernel
theorem dX0_init_14 : decode cX0_init 14 = .ok (.istore_n 1, 1) := by decide +kernel
theorem dX0_init_15 : decode cX0_init 15 = .ok (.iload_n 1, 1) := by decide +kernel
theorem dX0_init_16 : decode cX0_init 16 = .ok (.bipush 6, 2) := by decide +kernel
theorem dX0_init_18 : decode cX0_init 18 = .ok (.if_icmp .ge 22, 3) := by decide +kernel
theorem dX0_init_21 : decode cX0_init 21 = .ok (.aload_n 0, 1) := by decide +kernel
theorem dX0_init_22 : decode cX0_init 22 = .ok (.getfield 11, 3) := by decide +kernel
theorem dX0_init_25 : decode cX0_init 25 = .ok (.iload_n 1, 1) := by decide +kernel
theorem dX0_init_26 : decode cX0_init 26 = .ok (.new 9, 3) := by decide +kernel
theorem dX0_init_29 : decode cX0_init 29 = .ok (.dup, 1) := by decide +kernel
theorem dX0_init_30 : decode cX0_init 30 = .ok (.invokespecial 17, 3) := by decide +kernel
theorem dX0_init_33 : decode cX0_init 33 = .ok (.aastore, 1) := by decide +kernel
theorem dX0_init_34 : decode cX0_init 34 = .ok (.iinc 1 1, 3) := by decide +kernel
theorem dX0_init_37 : decode cX0_init 37 = .ok (.goto (-22), 3) := by decide +kernel
theorem dX0_init_40 : decode cX0_init 40 = .ok (.aload_n 0, 1) := by decide +kernel
theorem dX0_init_41 : decode cX0_init 41 = .ok (.bipush 6, 2) := by decide +kernel
theorem dX0_init_43 : decode cX0_init 43 = .ok (.newarray .int, 2) := by decide +kernel
theorem dX0_init_45 : decode cX0_init 45 = .ok (.putfield 18, 3) := by decide +kernel
theorem dX0_init_48 : decode cX0_init 48 = .ok (.aload_n 0, 1) := by decide +kernel
theorem dX0_init_49 : decode cX0_init 49 = .ok (.bipush 8, 2) := by decide +kernel
theorem dX0_init_51 : decode cX0_init 51 = .ok (.newarray .int, 2) := by decide +kernel
theorem dX0_init_53 : decode cX0_init 53 = .ok (.putfield 22, 3) := by decide +kernel
theorem dX0_init_56 : decode cX0_init 56 = .ok (.aload_n 0, 1) := by decide +kernel
theorem dX0_init_57 : decode cX0_init 57 = .ok (.bipush 8, 2) := by decide +kernel
theorem dX0_init_59 : decode cX0_init 59 = .ok (.newarray .int, 2) := by decide +kernel
theorem dX0_init_61 : decode cX0_init 61 = .ok (.putfield 25, 3) := by decide +kernel
theorem dX0_init_64 : decode cX0_init 64 = .ok (.aload_n 0, 1) := by decide +kernel
theorem dX0_init_65 : decode cX0_init 65 = .ok (.invokevirtual 28, 3) := by decide +kernel
theorem dX0_init_68 : decode cX0_init 68 = .ok (.return_, 1) := by decide +kernel
theorem dX0_clear_0 : decode cX0_clear 0 = .ok (.aload_n 0, 1) := by decide +kernel
theorem dX0_clear_1 : decode cX0_clear 1 = .ok (.iconst 0, 1) := by decide +kernel
theorem dX0_clear_2 : decode cX0_clear 2 = .ok (.putfield 31, 3) := by decide +kernel
theorem dX0_clear_5 : decode cX0_clear 5 = .ok (.aload_n 0, 1) := by decide +kernel
theorem dX0_clear_6 : decode cX0_clear 6 = .ok (.iconst 0, 1) := by decide +kernel
theorem dX0_clear_7 : decode cX0_clear 7 = .ok (.putfield 35, 3) := by decide +kernel
theorem dX0_clear_10 : decode cX0_clear 10 = .ok (.aload_n 0, 1) := by decide +kernel
theorem dX0_clear_11 : decode cX0_clear 11 = .ok (.iconst 0, 1) := by decide +kernel
theorem dX0_clear_12 : decode cX0_clear 12 = .ok (.putfield 38, 3) := by decide +kernel
theorem dX0_clear_15 : decode cX0_clear 15 = .ok (.return_, 1) := by decide +kernel
theorem dX0_copyFrom_0 : decode cX0_copyFrom 0 = .ok (.aload_n 0, 1) := by decide +kernel
theorem dX0_copyFrom_1 : decode cX0_copyFrom 1 = .ok (.aload_n 1, 1) := by decide +kernel
theorem dX0_copyFrom_2 : decode cX0_copyFrom 2 = .ok (.getfield 31, 3) := by decide +kernel
theorem dX0_copyFrom_5 : decode cX0_copyFrom 5 = .ok (.putfield 31, 3) := by decide +kernel
theorem dX0_copyFrom_8 : decode cX0_copyFrom 8 = .ok (.iconst 0, 1) := by decide +kernel
theorem dX0_copyFrom_9 : decode cX0_copyFrom 9 = .ok (.istore_n 2, 1) := by decide +kernel
theorem dX0_copyFrom_10 : decode cX0_copyFrom 10 = .ok (.iload_n 2, 1) := by decide +kernel
theorem dX0_copyFrom_11 : decode cX0_copyFrom 11 = .ok (.bipush 6, 2) := by decide +kernel
theorem dX0_copyFrom_13 : decode cX0_copyFrom 13 = .ok (.if_icmp .ge 24, 3) := by decide +kernel
theorem dX0_copyFrom_16 : decode cX0_copyFrom 16 = .ok (.aload_n 0, 1) := by decide +kernel
theorem dX0_copyFrom_17 : decode cX0_copyFrom 17 = .ok (.getfield 11, 3) := by decide +kernel
theorem dX0_copyFrom_20 : decode cX0_copyFrom 20 = .ok (.iload_n 2, 1) := by decide +kernel
theorem dX0_copyFrom_21 : decode cX0_copyFrom 21 = .ok (.aaload, 1) := by decide +kernel
theorem dX0_copyFrom_22 : decode cX0_copyFrom 22 = .ok (.aload_n 1, 1) := by decide +kernel
theorem dX0_copyFrom_23 : decode cX0_copyFrom 23 = .ok (.getfield 11, 3) := by decide +kernel
theorem dX0_copyFrom_26 : decode cX0_copyFrom 26 = .ok (.iload_n 2, 1) := by decide +kernel
theorem dX0_copyFrom_27 : decode cX0_copyFrom 27 = .ok (.aaload, 1) := by decide +kernel
theorem dX0_copyFrom_28 : decode cX0_copyFrom 28 = .ok (.invokevirtual 41, 3) := by decide +kernel
theorem dX0_copyFrom_31 : decode cX0_copyFrom 31 = .ok (.iinc 2 1, 3) := by decide +kernel
theorem dX0_copyFrom_34 : decode cX0_copyFrom 34 = .ok (.goto (-24), 3) := by decide +kernel
theorem dX0_copyFrom_37 : decode cX0_copyFrom 37 = .ok (.aload_n 1, 1) := by decide +kernel
theorem dX0_copyFrom_38 : decode cX0_copyFrom 38 = .ok (.getfield 18, 3) := by decide +kernel
theorem dX0_copyFrom_41 : decode cX0_copyFrom 41 = .ok (.iconst 0, 1) := by decide +kernel
theorem dX0_copyFrom_42 : decode cX0_copyFrom 42 = .ok (.aload_n 0, 1) := by decide +kernel
theorem dX0_copyFrom_43 : decode cX0_copyFrom 43 = .ok (.getfield 18, 3) := by decide +kernel
theorem dX0_copyFrom_46 : decode cX0_copyFrom 46 = .ok (.iconst 0, 1) := by decide +kernel
theorem dX0_copyFrom_47 : decode cX0_copyFrom 47 = .ok (.bipush 6, 2) := by decide +kernel
theorem dX0_copyFrom_49 : decode cX0_copyFrom 49 = .ok (.invokestatic 45, 3) := by decide +kernel
theorem dX0_copyFrom_52 : decode cX0_copyFrom 52 = .ok (.aload_n 0, 1) := by decide +kernel
theorem dX0_copyFrom_53 : decode cX0_copyFrom 53 = .ok (.aload_n 1, 1) := by decide +kernel
theorem dX0_copyFrom_54 : decode cX0_copyFrom 54 = .ok (.getfield 35, 3) := by decide +kernel
theorem dX0_copyFrom_57 : decode cX0_copyFrom 57 = .ok (.putfield 35, 3) := by decide +kernel
theorem dX0_copyFrom_60 : decode cX0_copyFrom 60 = .ok (.aload_n 0, 1) := by decide +kernel
theorem dX0_copyFrom_61 : decode cX0_copyFrom 61 = .ok (.aload_n 1, 1) := by decide +kernel
theorem dX0_copyFrom_62 : decode cX0_copyFrom 62 = .ok (.getfield 38, 3) := by decide +kernel
theorem dX0_copyFrom_65 : decode cX0_copyFrom 65 = .ok (.putfield 38, 3) := by decide +kernel
theorem dX0_copyFrom_68 : decode cX0_copyFrom 68 = .ok (.aload_n 1, 1) := by decide +kernel
theorem dX0_copyFrom_69 : decode cX0_copyFrom 69 = .ok (.getfield 22, 3) := by decide +kernel
theorem dX0_copyFrom_72 : decode cX0_copyFrom 72 = .ok (.iconst 0, 1) := by decide +kernel
theorem dX0_copyFrom_73 : decode cX0_copyFrom 73 = .ok (.aload_n 0, 1) := by decide +kernel
theorem dX0_copyFrom_74 : decode cX0_copyFrom 74 = .ok (.getfield 22, 3) := by decide +kernel
theorem dX0_copyFrom_77 : decode cX0_copyFrom 77 = .ok (.iconst 0, 1) := by decide +kernel
theorem dX0_copyFrom_78 : decode cX0_copyFrom 78 = .ok (.bipush 8, 2) := by decide +kernel
theorem dX0_copyFrom_80 : decode cX0_copyFrom 80 = .ok (.invokestatic 45, 3) := by decide +kernel
theorem dX0_copyFrom_83 : decode cX0_copyFrom 83 = .ok (.aload_n 1, 1) := by decide +kernel
theorem dX0_copyFrom_84 : decode cX0_copyFrom 84 = .ok (.getfield 25, 3) := by decide +kernel
theorem dX0_copyFrom_87 : decode cX0_copyFrom 87 = .ok (.iconst 0, 1) := by decide +kernel
theorem dX0_copyFrom_88 : decode cX0_copyFrom 88 = .ok (.aload_n 0, 1) := by decide +kernel
theorem dX0_copyFrom_89 : decode cX0_copyFrom 89 = .ok (.getfield 25, 3) := by decide +kernel
theorem dX0_copyFrom_92 : decode cX0_copyFrom 92 = .ok (.iconst 0, 1) := by decide +kernel
theorem dX0_copyFrom_93 : decode cX0_copyFrom 93 = .ok (.bipush 8, 2) := by decide +kernel
theorem dX0_copyFrom_95 : decode cX0_copyFrom 95 = .ok (.invokestatic 45, 3) := by decide +kernel
theorem dX0_copyFrom_98 : decode cX0_copyFrom 98 = .ok (.return_, 1) := by decide +kernel
theorem dX0_has_0 : decode cX0_has 0 = .ok (.iload_n 1, 1) := by decide +kernel
theorem dX0_has_1 : decode cX0_has 1 = .ok (.ifCond .lt 15, 3) := by decide +kernel
theorem dX0_has_4 : decode cX0_has 4 = .ok (.iload_n 1, 1) := by decide +kernel
theorem dX0_has_5 : decode cX0_has 5 = .ok (.aload_n 0, 1) := by decide +kernel
theorem dX0_has_6 : decode cX0_has 6 = .ok (.getfield 31, 3) := by decide +kernel
theorem dX0_has_9 : decode cX0_has 9 = .ok (.if_icmp .ge 7, 3) := by decide +kernel
theorem dX0_has_12 : decode cX0_has 12 = .ok (.iconst 1, 1) := by decide +kernel
theorem dX0_has_13 : decode cX0_has 13 = .ok (.goto 4, 3) := by decide +kernel
theorem dX0_has_16 : decode cX0_has 16 = .ok (.iconst 0, 1) := by decide +kernel
theorem dX0_has_17 : decode cX0_has 17 = .ok (.ireturn, 1) := by decide +kernel
theorem dX0_hasBoth_0 : decode cX0_hasBoth 0 = .ok (.aload_n 0, 1) := by decide +kernel
theorem dX0_hasBoth_1 : decode cX0_hasBoth 1 = .ok (.iload_n 1, 1) := by decide +kernel
theorem dX0_hasBoth_2 : decode cX0_hasBoth 2 = .ok (.invokevirtual 51, 3) := by decide +kernel
theorem dX0_hasBoth_5 : decode cX0_hasBoth 5 = .ok (.ifCond .eq 20, 3) := by decide +kernel
theorem dX0_hasBoth_8 : decode cX0_hasBoth 8 = .ok (.aload_n 0, 1) := by decide +kernel
theorem dX0_hasBoth_9 : decode cX0_hasBoth 9 = .ok (.iload_n 2, 1) := by decide +kernel
theorem dX0_hasBoth_10 : decode cX0_hasBoth 10 = .ok (.invokevirtual 51, 3) := by decide +kernel
theorem dX0_hasBoth_13 : decode cX0_hasBoth 13 = .ok (.ifCond .eq 12, 3) := by decide +kernel
theorem dX0_hasBoth_16 : decode cX0_hasBoth 16 = .ok (.iload_n 1, 1) := by decide +kernel
theorem dX0_hasBoth_17 : decode cX0_hasBoth 17 = .ok (.iload_n 2, 1) := by decide +kernel
theorem dX0_hasBoth_18 : decode cX0_hasBoth 18 = .ok (.if_icmp .eq 7, 3) := by decide +kernel
theorem dX0_hasBoth_21 : decode cX0_hasBoth 21 = .ok (.iconst 1, 1) := by decide +kernel
theorem dX0_hasBoth_22 : decode cX0_hasBoth 22 = .ok (.goto 4, 3) := by decide +kernel
theorem dX0_hasBoth_25 : decode cX0_hasBoth 25 = .ok (.iconst 0, 1) := by decide +kernel
theorem dX0_hasBoth_26 : decode cX0_hasBoth 26 = .ok (.ireturn, 1) := by decide +kernel
theorem dX0_add_0 : decode cX0_add 0 = .ok (.aload_n 0, 1) := by decide +kernel
theorem dX0_add_1 : decode cX0_add 1 = .ok (.getfield 31, 3) := by decide +kernel
theorem dX0_add_4 : decode cX0_add 4 = .ok (.bipush 6, 2) := by decide +kernel
theorem dX0_add_6 : decode cX0_add 6 = .ok (.if_icmp .lt 5, 3) := by decide +kernel
theorem dX0_add_9 : decode cX0_add 9 = .ok (.aconst_null, 1) := by decide +kernel
theorem dX0_add_10 : decode cX0_add 10 = .ok (.areturn, 1) := by decide +kernel
theorem dX0_add_11 : decode cX0_add 11 = .ok (.aload_n 0, 1) := by decide +kernel
theorem dX0_add_12 : decode cX0_add 12 = .ok (.getfield 11, 3) := by decide +kernel
theorem dX0_add_15 : decode cX0_add 15 = .ok (.aload_n 0, 1) := by decide +kernel
theorem dX0_add_16 : decode cX0_add 16 = .ok (.getfield 31, 3) := by decide +kernel
theorem dX0_add_19 : decode cX0_add 19 = .ok (.aaload, 1) := by decide +kernel
theorem dX0_add_20 : decode cX0_add 20 = .ok (.astore_n 3, 1) := by decide +kernel
theorem dX0_add_21 : decode cX0_add 21 = .ok (.aload_n 3, 1) := by decide +kernel
theorem dX0_add_22 : decode cX0_add 22 = .ok (.iload_n 1, 1) := by decide +kernel
theorem dX0_add_23 : decode cX0_add 23 = .ok (.iload_n 2, 1) := by decide +kernel
theorem dX0_add_24 : decode cX0_add 24 = .ok (.invokevirtual 55, 3) := by decide +kernel
theorem dX0_add_27 : decode cX0_add 27 = .ok (.aload_n 0, 1) := by decide +kernel
theorem dX0_add_28 : decode cX0_add 28 = .ok (.getfield 18, 3) := by decide +kernel
theorem dX0_add_31 : decode cX0_add 31 = .ok (.aload_n 0, 1) := by decide +kernel
theorem dX0_add_32 : decode cX0_add 32 = .ok (.getfield 31, 3) := by decide +kernel
theorem dX0_add_35 : decode cX0_add 35 = .ok (.iconst 0, 1) := by decide +kernel
theorem dX0_add_36 : decode cX0_add 36 = .ok (.iastore, 1) := by decide +kernel
theorem dX0_add_37 : decode cX0_add 37 = .ok (.aload_n 0, 1) := by decide +kernel
theorem dX0_add_38 : decode cX0_add 38 = .ok (.dup, 1) := by decide +kernel
theorem dX0_add_39 : decode cX0_add 39 = .ok (.getfield 31, 3) := by decide +kernel
theorem dX0_add_42 : decode cX0_add 42 = .ok (.iconst 1, 1) := by decide +kernel
theorem dX0_add_43 : decode cX0_add 43 = .ok (.iadd, 1) := by decide +kernel
theorem dX0_add_44 : decode cX0_add 44 = .ok (.putfield 31, 3) := by decide +kernel
theorem dX0_add_47 : decode cX0_add 47 = .ok (.aload_n 3, 1) := by decide +kernel
theorem dX0_add_48 : decode cX0_add 48 = .ok (.areturn, 1) := by decide +kernel
theorem dX0_divide_0 : decode cX0_divide 0 = .ok (.aload_n 0, 1) := by decide +kernel
theorem dX0_divide_1 : decode cX0_divide 1 = .ok (.getfield 11, 3) := by decide +kernel
theorem dX0_divide_4 : decode cX0_divide 4 = .ok (.iload_n 1, 1) := by decide +kernel
theorem dX0_divide_5 : decode cX0_divide 5 = .ok (.aaload, 1) := by decide +kernel
theorem dX0_divide_6 : decode cX0_divide 6 = .ok (.astore_n 3, 1) := by decide +kernel
theorem dX0_divide_7 : decode cX0_divide 7 = .ok (.aload_n 0, 1) := by decide +kernel
theorem dX0_divide_8 : decode cX0_divide 8 = .ok (.aload_n 3, 1) := by decide +kernel
theorem dX0_divide_9 : decode cX0_divide 9 = .ok (.getfield 59, 3) := by decide +kernel
theorem dX0_divide_12 : decode cX0_divide 12 = .ok (.aload_n 3, 1) := by decide +kernel
theorem dX0_divide_13 : decode cX0_divide 13 = .ok (.iload_n 2, 1) := by decide +kernel
theorem dX0_divide_14 : decode cX0_divide 14 = .ok (.invokevirtual 62, 3) := by decide +kernel
theorem dX0_divide_17 : decode cX0_divide 17 = .ok (.invokevirtual 66, 3) := by decide +kernel
theorem dX0_divide_20 : decode cX0_divide 20 = .ok (.astore 4, 2) := by decide +kernel
theorem dX0_divide_22 : decode cX0_divide 22 = .ok (.aload 4, 2) := by decide +kernel
theorem dX0_divide_24 : decode cX0_divide 24 = .ok (.ifnonnull 4, 3) := by decide +kernel
theorem dX0_divide_27 : decode cX0_divide 27 = .ok (.return_, 1) := by decide +kernel
theorem dX0_divide_28 : decode cX0_divide 28 = .ok (.iload_n 2, 1) := by decide +kernel
theorem dX0_divide_29 : decode cX0_divide 29 = .ok (.istore 5, 2) := by decide +kernel
theorem dX0_divide_31 : decode cX0_divide 31 = .ok (.iload 5, 2) := by decide +kernel
theorem dX0_divide_33 : decode cX0_divide 33 = .ok (.aload_n 3, 1) := by decide +kernel
theorem dX0_divide_34 : decode cX0_divide 34 = .ok (.getfield 70, 3) := by decide +kernel
theorem dX0_divide_37 : decode cX0_divide 37 = .ok (.if_icmp .ge 20, 3) := by decide +kernel
theorem dX0_divide_40 : decode cX0_divide 40 = .ok (.aload 4, 2) := by decide +kernel
theorem dX0_divide_42 : decode cX0_divide 42 = .ok (.aload_n 3, 1) := by decide +kernel
theorem dX0_divide_43 : decode cX0_divide 43 = .ok (.iload 5, 2) := by decide +kernel
theorem dX0_divide_45 : decode cX0_divide 45 = .ok (.invokevirtual 73, 3) := by decide +kernel
theorem dX0_divide_48 : decode cX0_divide 48 = .ok (.invokevirtual 76, 3) := by decide +kernel
theorem dX0_divide_51 : decode cX0_divide 51 = .ok (.iinc 5 1, 3) := by decide +kernel
theorem dX0_divide_54 : decode cX0_divide 54 = .ok (.goto (-23), 3) := by decide +kernel
theorem dX0_divide_57 : decode cX0_divide 57 = .ok (.aload_n 3, 1) := by decide +kernel
theorem dX0_divide_58 : decode cX0_divide 58 = .ok (.iload_n 2, 1) := by decide +kernel
theorem dX0_divide_59 : decode cX0_divide 59 = .ok (.invokevirtual 80, 3) := by decide +kernel
theorem dX0_divide_62 : decode cX0_divide 62 = .ok (.return_, 1) := by decide +kernel
theorem dX0_placeAt_0 : decode cX0_placeAt 0 = .ok (.aload_n 0, 1) := by decide +kernel
theorem dX0_placeAt_1 : decode cX0_placeAt 1 = .ok (.getfield 11, 3) := by decide +kernel
theorem dX0_placeAt_4 : decode cX0_placeAt 4 = .ok (.iload_n 1, 1) := by decide +kernel
theorem dX0_placeAt_5 : decode cX0_placeAt 5 = .ok (.aaload, 1) := by decide +kernel
theorem dX0_placeAt_6 : decode cX0_placeAt 6 = .ok (.iload_n 2, 1) := by decide +kernel
theorem dX0_placeAt_7 : decode cX0_placeAt 7 = .ok (.aload_n 0, 1) := by decide +kernel
theorem dX0_placeAt_8 : decode cX0_placeAt 8 = .ok (.getfield 18, 3) := by decide +kernel
theorem dX0_placeAt_11 : decode cX0_placeAt 11 = .ok (.iload_n 1, 1) := by decide +kernel
theorem dX0_placeAt_12 : decode cX0_placeAt 12 = .ok (.iaload, 1) := by decide +kernel
theorem dX0_placeAt_13 : decode cX0_placeAt 13 = .ok (.invokevirtual 83, 3) := by decide +kernel
theorem dX0_placeAt_16 : decode cX0_placeAt 16 = .ok (.ireturn, 1) := by decide +kernel
theorem dX0_hoursTogether_0 : decode cX0_hoursTogether 0 = .ok (.iconst 0, 1) := by decide +kernel
theorem dX0_hoursTogether_1 : decode cX0_hoursTogether 1 = .ok (.istore 5, 2) := by decide +kernel
theorem dX0_hoursTogether_3 : decode cX0_hoursTogether 3 = .ok (.iconst 0, 1) := by decide +kernel
theorem dX0_hoursTogether_4 : decode cX0_hoursTogether 4 = .ok (.istore 6, 2) := by decide +kernel
theorem dX0_hoursTogether_6 : decode cX0_hoursTogether 6 = .ok (.iload 6, 2) := by decide +kernel
theorem dX0_hoursTogether_8 : decode cX0_hoursTogether 8 = .ok (.bipush 30, 2) := by decide +kernel
theorem dX0_hoursTogether_10 : decode cX0_hoursTogether 10 = .ok (.if_icmp .gt 40, 3) := by decide +kernel
theorem dX0_hoursTogether_13 : decode cX0_hoursTogether 13 = .ok (.aload_n 0, 1) := by decide +kernel
theorem dX0_hoursTogether_14 : decode cX0_hoursTogether 14 = .ok (.getfield 11, 3) := by decide +kernel
theorem dX0_hoursTogether_17 : decode cX0_hoursTogether 17 = .ok (.iload_n 1, 1) := by decide +kernel
theorem dX0_hoursTogether_18 : decode cX0_hoursTogether 18 = .ok (.aaload, 1) := by decide +kernel
theorem dX0_hoursTogether_19 : decode cX0_hoursTogether 19 = .ok (.iload 6, 2) := by decide +kernel
theorem dX0_hoursTogether_21 : decode cX0_hoursTogether 21 = .ok (.iload_n 2, 1) := by decide +kernel
theorem dX0_hoursTogether_22 : decode cX0_hoursTogether 22 = .ok (.invokevirtual 83, 3) := by decide +kernel
theorem dX0_hoursTogether_25 : decode cX0_hoursTogether 25 = .ok (.aload_n 0, 1) := by decide +kernel
theorem dX0_hoursTogether_26 : decode cX0_hoursTogether 26 = .ok (.getfield 11, 3) := by decide +kernel
theorem dX0_hoursTogether_29 : decode cX0_hoursTogether 29 = .ok (.iload_n 3, 1) := by decide +kernel
theorem dX0_hoursTogether_30 : decode cX0_hoursTogether 30 = .ok (.aaload, 1) := by decide +kernel
theorem dX0_hoursTogether_31 : decode cX0_hoursTogether 31 = .ok (.iload 6, 2) := by decide +kernel
theorem dX0_hoursTogether_33 : decode cX0_hoursTogether 33 = .ok (.iload 4, 2) := by decide +kernel
theorem dX0_hoursTogether_35 : decode cX0_hoursTogether 35 = .ok (.invokevirtual 83, 3) := by decide +kernel
theorem dX0_hoursTogether_38 : decode cX0_hoursTogether 38 = .ok (.if_icmp .ne 6, 3) := by decide +kernel
theorem dX0_hoursTogether_41 : decode cX0_hoursTogether 41 = .ok (.iinc 5 1, 3) := by decide +kernel
theorem dX0_hoursTogether_44 : decode cX0_hoursTogether 44 = .ok (.iinc 6 1, 3) := by decide +kernel
theorem dX0_hoursTogether_47 : decode cX0_hoursTogether 47 = .ok (.goto (-41), 3) := by decide +kernel
theorem dX0_hoursTogether_50 : decode cX0_hoursTogether 50 = .ok (.iload 5, 2) := by decide +kernel
theorem dX0_hoursTogether_52 : decode cX0_hoursTogether 52 = .ok (.ireturn, 1) := by decide +kernel
theorem dX0_meetings_0 : decode cX0_meetings 0 = .ok (.iconst 0, 1) := by decide +kernel
theorem dX0_meetings_1 : decode cX0_meetings 1 = .ok (.istore_n 2, 1) := by decide +kernel
theorem dX0_meetings_2 : decode cX0_meetings 2 = .ok (.iconst 0, 1) := by decide +kernel
theorem dX0_meetings_3 : decode cX0_meetings 3 = .ok (.istore_n 3, 1) := by decide +kernel
theorem dX0_meetings_4 : decode cX0_meetings 4 = .ok (.iload_n 3, 1) := by decide +kernel
theorem dX0_meetings_5 : decode cX0_meetings 5 = .ok (.aload_n 0, 1) := by decide +kernel
theorem dX0_meetings_6 : decode cX0_meetings 6 = .ok (.getfield 31, 3) := by decide +kernel
theorem dX0_meetings_9 : decode cX0_meetings 9 = .ok (.if_icmp .ge 46, 3) := by decide +kernel
theorem dX0_meetings_12 : decode cX0_meetings 12 = .ok (.iload_n 3, 1) := by decide +kernel
theorem dX0_meetings_13 : decode cX0_meetings 13 = .ok (.iconst 1, 1) := by decide +kernel
theorem dX0_meetings_14 : decode cX0_meetings 14 = .ok (.iadd, 1) := by decide +kernel
theorem dX0_meetings_15 : decode cX0_meetings 15 = .ok (.istore 4, 2) := by decide +kernel
theorem dX0_meetings_17 : decode cX0_meetings 17 = .ok (.iload 4, 2) := by decide +kernel
theorem dX0_meetings_19 : decode cX0_meetings 19 = .ok (.aload_n 0, 1) := by decide +kernel
theorem dX0_meetings_20 : decode cX0_meetings 20 = .ok (.getfield 31, 3) := by decide +kernel
theorem dX0_meetings_23 : decode cX0_meetings 23 = .ok (.if_icmp .ge 26, 3) := by decide +kernel
theorem dX0_meetings_26 : decode cX0_meetings 26 = .ok (.iload_n 2, 1) := by decide +kernel
theorem dX0_meetings_27 : decode cX0_meetings 27 = .ok (.aload_n 0, 1) := by decide +kernel
theorem dX0_meetings_28 : decode cX0_meetings 28 = .ok (.iload_n 3, 1) := by decide +kernel
theorem dX0_meetings_29 : decode cX0_meetings 29 = .ok (.aload_n 1, 1) := by decide +kernel
theorem dX0_meetings_30 : decode cX0_meetings 30 = .ok (.iload_n 3, 1) := by decide +kernel
theorem dX0_meetings_31 : decode cX0_meetings 31 = .ok (.iaload, 1) := by decide +kernel
theorem dX0_meetings_32 : decode cX0_meetings 32 = .ok (.iload 4, 2) := by decide +kernel
theorem dX0_meetings_34 : decode cX0_meetings 34 = .ok (.aload_n 1, 1) := by decide +kernel
theorem dX0_meetings_35 : decode cX0_meetings 35 = .ok (.iload 4, 2) := by decide +kernel
theorem dX0_meetings_37 : decode cX0_meetings 37 = .ok (.iaload, 1) := by decide +kernel
theorem dX0_meetings_38 : decode cX0_meetings 38 = .ok (.invokevirtual 87, 3) := by decide +kernel
theorem dX0_meetings_41 : decode cX0_meetings 41 = .ok (.iadd, 1) := by decide +kernel
theorem dX0_meetings_42 : decode cX0_meetings 42 = .ok (.istore_n 2, 1) := by decide +kernel
theorem dX0_meetings_43 : decode cX0_meetings 43 = .ok (.iinc 4 1, 3) := by decide +kernel
theorem dX0_meetings_46 : decode cX0_meetings 46 = .ok (.goto (-29), 3) := by decide +kernel
theorem dX0_meetings_49 : decode cX0_meetings 49 = .ok (.iinc 3 1, 3) := by decide +kernel
theorem dX0_meetings_52 : decode cX0_meetings 52 = .ok (.goto (-48), 3) := by decide +kernel
theorem dX0_meetings_55 : decode cX0_meetings 55 = .ok (.iload_n 2, 1) := by decide +kernel
theorem dX0_meetings_56 : decode cX0_meetings 56 = .ok (.ireturn, 1) := by decide +kernel
theorem dX0_stepsOfAll_0 : decode cX0_stepsOfAll 0 = .ok (.iconst 0, 1) := by decide +kernel
theorem dX0_stepsOfAll_1 : decode cX0_stepsOfAll 1 = .ok (.istore_n 1, 1) := by decide +kernel
theorem dX0_stepsOfAll_2 : decode cX0_stepsOfAll 2 = .ok (.iconst 0, 1) := by decide +kernel
theorem dX0_stepsOfAll_3 : decode cX0_stepsOfAll 3 = .ok (.istore_n 2, 1) := by decide +kernel
theorem dX0_stepsOfAll_4 : decode cX0_stepsOfAll 4 = .ok (.iload_n 2, 1) := by decide +kernel
theorem dX0_stepsOfAll_5 : decode cX0_stepsOfAll 5 = .ok (.aload_n 0, 1) := by decide +kernel
theorem dX0_stepsOfAll_6 : decode cX0_stepsOfAll 6 = .ok (.getfield 31, 3) := by decide +kernel
theorem dX0_stepsOfAll_9 : decode cX0_stepsOfAll 9 = .ok (.if_icmp .ge 21, 3) := by decide +kernel
theorem dX0_stepsOfAll_12 : decode cX0_stepsOfAll 12 = .ok (.iload_n 1, 1) := by decide +kernel
theorem dX0_stepsOfAll_13 : decode cX0_stepsOfAll 13 = .ok (.aload_n 0, 1) := by decide +kernel
theorem dX0_stepsOfAll_14 : decode cX0_stepsOfAll 14 = .ok (.getfield 11, 3) := by decide +kernel
theorem dX0_stepsOfAll_17 : decode cX0_stepsOfAll 17 = .ok (.iload_n 2, 1) := by decide +kernel
theorem dX0_stepsOfAll_18 : decode cX0_stepsOfAll 18 = .ok (.aaload, 1) := by decide +kernel
theorem dX0_stepsOfAll_19 : decode cX0_stepsOfAll 19 = .ok (.getfield 70, 3) := by decide +kernel
theorem dX0_stepsOfAll_22 : decode cX0_stepsOfAll 22 = .ok (.iadd, 1) := by decide +kernel
theorem dX0_stepsOfAll_23 : decode cX0_stepsOfAll 23 = .ok (.istore_n 1, 1) := by decide +kernel
theorem dX0_stepsOfAll_24 : decode cX0_stepsOfAll 24 = .ok (.iinc 2 1, 3) := by decide +kernel
theorem dX0_stepsOfAll_27 : decode cX0_stepsOfAll 27 = .ok (.goto (-23), 3) := by decide +kernel
theorem dX0_stepsOfAll_30 : decode cX0_stepsOfAll 30 = .ok (.iload_n 1, 1) := by decide +kernel
theorem dX0_stepsOfAll_31 : decode cX0_stepsOfAll 31 = .ok (.ireturn, 1) := by decide +kernel
theorem dX0_placesSeen_0 : decode cX0_placesSeen 0 = .ok (.aload_n 0, 1) := by decide +kernel
theorem dX0_placesSeen_1 : decode cX0_placesSeen 1 = .ok (.iconst 1, 1) := by decide +kernel
theorem dX0_placesSeen_2 : decode cX0_placesSeen 2 = .ok (.aload_n 0, 1) := by decide +kernel
theorem dX0_placesSeen_3 : decode cX0_placesSeen 3 = .ok (.getfield 31, 3) := by decide +kernel
theorem dX0_placesSeen_6 : decode cX0_placesSeen 6 = .ok (.ishl, 1) := by decide +kernel
theorem dX0_placesSeen_7 : decode cX0_placesSeen 7 = .ok (.iconst 1, 1) := by decide +kernel
theorem dX0_placesSeen_8 : decode cX0_placesSeen 8 = .ok (.isub, 1) := by decide +kernel
theorem dX0_placesSeen_9 : decode cX0_placesSeen 9 = .ok (.invokevirtual 91, 3) := by decide +kernel
theorem dX0_placesSeen_12 : decode cX0_placesSeen 12 = .ok (.ireturn, 1) := by decide +kernel
theorem dX0_placesSeenBy_0 : decode cX0_placesSeenBy 0 = .ok (.iconst 0, 1) := by decide +kernel
theorem dX0_placesSeenBy_1 : decode cX0_placesSeenBy 1 = .ok (.istore_n 2, 1) := by decide +kernel
theorem dX0_placesSeenBy_2 : decode cX0_placesSeenBy 2 = .ok (.iconst 0, 1) := by decide +kernel
theorem dX0_placesSeenBy_3 : decode cX0_placesSeenBy 3 = .ok (.istore_n 3, 1) := by decide +kernel
theorem dX0_placesSeenBy_4 : decode cX0_placesSeenBy 4 = .ok (.iload_n 3, 1) := by decide +kernel
theorem dX0_placesSeenBy_5 : decode cX0_placesSeenBy 5 = .ok (.aload_n 0, 1) := by decide +kernel
theorem dX0_placesSeenBy_6 : decode cX0_placesSeenBy 6 = .ok (.getfield 31, 3) := by decide +kernel
theorem dX0_placesSeenBy_9 : decode cX0_placesSeenBy 9 = .ok (.if_icmp .ge 30, 3) := by decide +kernel
theorem dX0_placesSeenBy_12 : decode cX0_placesSeenBy 12 = .ok (.iload_n 1, 1) := by decide +kernel
theorem dX0_placesSeenBy_13 : decode cX0_placesSeenBy 13 = .ok (.iload_n 3, 1) := by decide +kernel
theorem dX0_placesSeenBy_14 : decode cX0_placesSeenBy 14 = .ok (.ishr, 1) := by decide +kernel
theorem dX0_placesSeenBy_15 : decode cX0_placesSeenBy 15 = .ok (.iconst 1, 1) := by decide +kernel
theorem dX0_placesSeenBy_16 : decode cX0_placesSeenBy 16 = .ok (.iand, 1) := by decide +kernel
theorem dX0_placesSeenBy_17 : decode cX0_placesSeenBy 17 = .ok (.iconst 1, 1) := by decide +kernel
theorem dX0_placesSeenBy_18 : decode cX0_placesSeenBy 18 = .ok (.if_icmp .ne 15, 3) := by decide +kernel
theorem dX0_placesSeenBy_21 : decode cX0_placesSeenBy 21 = .ok (.iload_n 2, 1) := by decide +kernel
theorem dX0_placesSeenBy_22 : decode cX0_placesSeenBy 22 = .ok (.aload_n 0, 1) := by decide +kernel
theorem dX0_placesSeenBy_23 : decode cX0_placesSeenBy 23 = .ok (.getfield 11, 3) := by decide +kernel
theorem dX0_placesSeenBy_26 : decode cX0_placesSeenBy 26 = .ok (.iload_n 3, 1) := by decide +kernel
theorem dX0_placesSeenBy_27 : decode cX0_placesSeenBy 27 = .ok (.aaload, 1) := by decide +kernel
theorem dX0_placesSeenBy_28 : decode cX0_placesSeenBy 28 = .ok (.getfield 94, 3) := by decide +kernel
theorem dX0_placesSeenBy_31 : decode cX0_placesSeenBy 31 = .ok (.ior, 1) := by decide +kernel
theorem dX0_placesSeenBy_32 : decode cX0_placesSeenBy 32 = .ok (.istore_n 2, 1) := by decide +kernel
theorem dX0_placesSeenBy_33 : decode cX0_placesSeenBy 33 = .ok (.iinc 3 1, 3) := by decide +kernel
theorem dX0_placesSeenBy_36 : decode cX0_placesSeenBy 36 = .ok (.goto (-32), 3) := by decide +kernel
theorem dX0_placesSeenBy_39 : decode cX0_placesSeenBy 39 = .ok (.iload_n 2, 1) := by decide +kernel
theorem dX0_placesSeenBy_40 : decode cX0_placesSeenBy 40 = .ok (.ireturn, 1) := by decide +kernel
theorem dX0_fewestSeeing_0 : decode cX0_fewestSeeing 0 = .ok (.iconst (-1), 1) := by decide +kernel
theorem dX0_fewestSeeing_1 : decode cX0_fewestSeeing 1 = .ok (.istore_n 2, 1) := by decide +kernel
theorem dX0_fewestSeeing_2 : decode cX0_fewestSeeing 2 = .ok (.iconst 0, 1) := by decide +kernel
theorem dX0_fewestSeeing_3 : decode cX0_fewestSeeing 3 = .ok (.istore_n 3, 1) := by decide +kernel
theorem dX0_fewestSeeing_4 : decode cX0_fewestSeeing 4 = .ok (.iload_n 3, 1) := by decide +kernel
theorem dX0_fewestSeeing_5 : decode cX0_fewestSeeing 5 = .ok (.iconst 1, 1) := by decide +kernel
theorem dX0_fewestSeeing_6 : decode cX0_fewestSeeing 6 = .ok (.aload_n 0, 1) := by decide +kernel
theorem dX0_fewestSeeing_7 : decode cX0_fewestSeeing 7 = .ok (.getfield 31, 3) := by decide +kernel
theorem dX0_fewestSeeing_10 : decode cX0_fewestSeeing 10 = .ok (.ishl, 1) := by decide +kernel
theorem dX0_fewestSeeing_11 : decode cX0_fewestSeeing 11 = .ok (.if_icmp .ge 51, 3) := by decide +kernel
theorem dX0_fewestSeeing_14 : decode cX0_fewestSeeing 14 = .ok (.iload_n 2, 1) := by decide +kernel
theorem dX0_fewestSeeing_15 : decode cX0_fewestSeeing 15 = .ok (.iconst (-1), 1) := by decide +kernel
theorem dX0_fewestSeeing_16 : decode cX0_fewestSeeing 16 = .ok (.if_icmp .eq 14, 3) := by decide +kernel
theorem dX0_fewestSeeing_19 : decode cX0_fewestSeeing 19 = .ok (.iload_n 3, 1) := by decide +kernel
theorem dX0_fewestSeeing_20 : decode cX0_fewestSeeing 20 = .ok (.invokestatic 97, 3) := by decide +kernel
theorem dX0_fewestSeeing_23 : decode cX0_fewestSeeing 23 = .ok (.iload_n 2, 1) := by decide +kernel
theorem dX0_fewestSeeing_24 : decode cX0_fewestSeeing 24 = .ok (.invokestatic 97, 3) := by decide +kernel
theorem dX0_fewestSeeing_27 : decode cX0_fewestSeeing 27 = .ok (.if_icmp .ge 7, 3) := by decide +kernel
theorem dX0_fewestSeeing_30 : decode cX0_fewestSeeing 30 = .ok (.iconst 1, 1) := by decide +kernel
theorem dX0_fewestSeeing_31 : decode cX0_fewestSeeing 31 = .ok (.goto 4, 3) := by decide +kernel
theorem dX0_fewestSeeing_34 : decode cX0_fewestSeeing 34 = .ok (.iconst 0, 1) := by decide +kernel
theorem dX0_fewestSeeing_35 : decode cX0_fewestSeeing 35 = .ok (.istore 4, 2) := by decide +kernel
theorem dX0_fewestSeeing_37 : decode cX0_fewestSeeing 37 = .ok (.iload 4, 2) := by decide +kernel
theorem dX0_fewestSeeing_39 : decode cX0_fewestSeeing 39 = .ok (.ifCond .eq 17, 3) := by decide +kernel
theorem dX0_fewestSeeing_42 : decode cX0_fewestSeeing 42 = .ok (.iload_n 1, 1) := by decide +kernel
theorem dX0_fewestSeeing_43 : decode cX0_fewestSeeing 43 = .ok (.aload_n 0, 1) := by decide +kernel
theorem dX0_fewestSeeing_44 : decode cX0_fewestSeeing 44 = .ok (.iload_n 3, 1) := by decide +kernel
theorem dX0_fewestSeeing_45 : decode cX0_fewestSeeing 45 = .ok (.invokevirtual 91, 3) := by decide +kernel
theorem dX0_fewestSeeing_48 : decode cX0_fewestSeeing 48 = .ok (.iconst (-1), 1) := by decide +kernel
theorem dX0_fewestSeeing_49 : decode cX0_fewestSeeing 49 = .ok (.ixor, 1) := by decide +kernel
theorem dX0_fewestSeeing_50 : decode cX0_fewestSeeing 50 = .ok (.iand, 1) := by decide +kernel
theorem dX0_fewestSeeing_51 : decode cX0_fewestSeeing 51 = .ok (.ifCond .ne 5, 3) := by decide +kernel
theorem dX0_fewestSeeing_54 : decode cX0_fewestSeeing 54 = .ok (.iload_n 3, 1) := by decide +kernel
theorem dX0_fewestSeeing_55 : decode cX0_fewestSeeing 55 = .ok (.istore_n 2, 1) := by decide +kernel
theorem dX0_fewestSeeing_56 : decode cX0_fewestSeeing 56 = .ok (.iinc 3 1, 3) := by decide +kernel
theorem dX0_fewestSeeing_59 : decode cX0_fewestSeeing 59 = .ok (.goto (-55), 3) := by decide +kernel
theorem dX0_fewestSeeing_62 : decode cX0_fewestSeeing 62 = .ok (.iload_n 2, 1) := by decide +kernel
theorem dX0_fewestSeeing_63 : decode cX0_fewestSeeing 63 = .ok (.ireturn, 1) := by decide +kernel
theorem dX0_firstCatch_0 : decode cX0_firstCatch 0 = .ok (.iconst 0, 1) := by decide +kernel
theorem dX0_firstCatch_1 : decode cX0_firstCatch 1 = .ok (.istore_n 3, 1) := by decide +kernel
theorem dX0_firstCatch_2 : decode cX0_firstCatch 2 = .ok (.iload_n 3, 1) := by decide +kernel
theorem dX0_firstCatch_3 : decode cX0_firstCatch 3 = .ok (.bipush 30, 2) := by decide +kernel
theorem dX0_firstCatch_5 : decode cX0_firstCatch 5 = .ok (.if_icmp .gt 25, 3) := by decide +kernel
theorem dX0_firstCatch_8 : decode cX0_firstCatch 8 = .ok (.iload_n 1, 1) := by decide +kernel
theorem dX0_firstCatch_9 : decode cX0_firstCatch 9 = .ok (.aload_n 0, 1) := by decide +kernel
theorem dX0_firstCatch_10 : decode cX0_firstCatch 10 = .ok (.iload_n 2, 1) := by decide +kernel
theorem dX0_firstCatch_11 : decode cX0_firstCatch 11 = .ok (.iload_n 3, 1) := by decide +kernel
theorem dX0_firstCatch_12 : decode cX0_firstCatch 12 = .ok (.invokevirtual 102, 3) := by decide +kernel
theorem dX0_firstCatch_15 : decode cX0_firstCatch 15 = .ok (.invokestatic 103, 3) := by decide +kernel
theorem dX0_firstCatch_18 : decode cX0_firstCatch 18 = .ok (.iload_n 3, 1) := by decide +kernel
theorem dX0_firstCatch_19 : decode cX0_firstCatch 19 = .ok (.if_icmp .gt 5, 3) := by decide +kernel
theorem dX0_firstCatch_22 : decode cX0_firstCatch 22 = .ok (.iload_n 3, 1) := by decide +kernel
theorem dX0_firstCatch_23 : decode cX0_firstCatch 23 = .ok (.ireturn, 1) := by decide +kernel
theorem dX0_firstCatch_24 : decode cX0_firstCatch 24 = .ok (.iinc 3 1, 3) := by decide +kernel
theorem dX0_firstCatch_27 : decode cX0_firstCatch 27 = .ok (.goto (-25), 3) := by decide +kernel
theorem dX0_firstCatch_30 : decode cX0_firstCatch 30 = .ok (.iconst (-1), 1) := by decide +kernel
theorem dX0_firstCatch_31 : decode cX0_firstCatch 31 = .ok (.ireturn, 1) := by decide +kernel
theorem dX0_noteSeen_0 : decode cX0_noteSeen 0 = .ok (.aload_n 0, 1) := by decide +kernel
theorem dX0_noteSeen_1 : decode cX0_noteSeen 1 = .ok (.getfield 38, 3) := by decide +kernel
theorem dX0_noteSeen_4 : decode cX0_noteSeen 4 = .ok (.bipush 8, 2) := by decide +kernel
theorem dX0_noteSeen_6 : decode cX0_noteSeen 6 = .ok (.if_icmp .lt 5, 3) := by decide +kernel
theorem dX0_noteSeen_9 : decode cX0_noteSeen 9 = .ok (.iconst 0, 1) := by decide +kernel
theorem dX0_noteSeen_10 : decode cX0_noteSeen 10 = .ok (.ireturn, 1) := by decide +kernel
theorem dX0_noteSeen_11 : decode cX0_noteSeen 11 = .ok (.aload_n 0, 1) := by decide +kernel
theorem dX0_noteSeen_12 : decode cX0_noteSeen 12 = .ok (.getfield 22, 3) := by decide +kernel
theorem dX0_noteSeen_15 : decode cX0_noteSeen 15 = .ok (.aload_n 0, 1) := by decide +kernel
theorem dX0_noteSeen_16 : decode cX0_noteSeen 16 = .ok (.getfield 38, 3) := by decide +kernel
theorem dX0_noteSeen_19 : decode cX0_noteSeen 19 = .ok (.iload_n 1, 1) := by decide +kernel
theorem dX0_noteSeen_20 : decode cX0_noteSeen 20 = .ok (.iastore, 1) := by decide +kernel
theorem dX0_noteSeen_21 : decode cX0_noteSeen 21 = .ok (.aload_n 0, 1) := by decide +kernel
theorem dX0_noteSeen_22 : decode cX0_noteSeen 22 = .ok (.getfield 25, 3) := by decide +kernel
theorem dX0_noteSeen_25 : decode cX0_noteSeen 25 = .ok (.aload_n 0, 1) := by decide +kernel
theorem dX0_noteSeen_26 : decode cX0_noteSeen 26 = .ok (.getfield 38, 3) := by decide +kernel
theorem dX0_noteSeen_29 : decode cX0_noteSeen 29 = .ok (.iload_n 2, 1) := by decide +kernel
theorem dX0_noteSeen_30 : decode cX0_noteSeen 30 = .ok (.iastore, 1) := by decide +kernel
theorem dX0_noteSeen_31 : decode cX0_noteSeen 31 = .ok (.aload_n 0, 1) := by decide +kernel
theorem dX0_noteSeen_32 : decode cX0_noteSeen 32 = .ok (.dup, 1) := by decide +kernel
theorem dX0_noteSeen_33 : decode cX0_noteSeen 33 = .ok (.getfield 38, 3) := by decide +kernel
theorem dX0_noteSeen_36 : decode cX0_noteSeen 36 = .ok (.iconst 1, 1) := by decide +kernel
theorem dX0_noteSeen_37 : decode cX0_noteSeen 37 = .ok (.iadd, 1) := by decide +kernel
theorem dX0_noteSeen_38 : decode cX0_noteSeen 38 = .ok (.putfield 38, 3) := by decide +kernel
theorem dX0_noteSeen_41 : decode cX0_noteSeen 41 = .ok (.iconst 1, 1) := by decide +kernel
theorem dX0_noteSeen_42 : decode cX0_noteSeen 42 = .ok (.ireturn, 1) := by decide +kernel
theorem dX0_possible_0 : decode cX0_possible 0 = .ok (.iconst 0, 1) := by decide +kernel
theorem dX0_possible_1 : decode cX0_possible 1 = .ok (.istore_n 1, 1) := by decide +kernel
theorem dX0_possible_2 : decode cX0_possible 2 = .ok (.iconst 0, 1) := by decide +kernel
theorem dX0_possible_3 : decode cX0_possible 3 = .ok (.istore_n 2, 1) := by decide +kernel
theorem dX0_possible_4 : decode cX0_possible 4 = .ok (.iload_n 2, 1) := by decide +kernel
theorem dX0_possible_5 : decode cX0_possible 5 = .ok (.aload_n 0, 1) := by decide +kernel
theorem dX0_possible_6 : decode cX0_possible 6 = .ok (.getfield 31, 3) := by decide +kernel
theorem dX0_possible_9 : decode cX0_possible 9 = .ok (.if_icmp .ge 23, 3) := by decide +kernel
theorem dX0_possible_12 : decode cX0_possible 12 = .ok (.aload_n 0, 1) := by decide +kernel
theorem dX0_possible_13 : decode cX0_possible 13 = .ok (.iload_n 2, 1) := by decide +kernel
theorem dX0_possible_14 : decode cX0_possible 14 = .ok (.invokevirtual 106, 3) := by decide +kernel
theorem dX0_possible_17 : decode cX0_possible 17 = .ok (.ifCond .eq 9, 3) := by decide +kernel
theorem dX0_possible_20 : decode cX0_possible 20 = .ok (.iload_n 1, 1) := by decide +kernel
theorem dX0_possible_21 : decode cX0_possible 21 = .ok (.iconst 1, 1) := by decide +kernel
theorem dX0_possible_22 : decode cX0_possible 22 = .ok (.iload_n 2, 1) := by decide +kernel
theorem dX0_possible_23 : decode cX0_possible 23 = .ok (.ishl, 1) := by decide +kernel
theorem dX0_possible_24 : decode cX0_possible 24 = .ok (.ior, 1) := by decide +kernel
theorem dX0_possible_25 : decode cX0_possible 25 = .ok (.istore_n 1, 1) := by decide +kernel
theorem dX0_possible_26 : decode cX0_possible 26 = .ok (.iinc 2 1, 3) := by decide +kernel
theorem dX0_possible_29 : decode cX0_possible 29 = .ok (.goto (-25), 3) := by decide +kernel
theorem dX0_possible_32 : decode cX0_possible 32 = .ok (.iload_n 1, 1) := by decide +kernel
theorem dX0_possible_33 : decode cX0_possible 33 = .ok (.ireturn, 1) := by decide +kernel
theorem dX0_wasWhereSeen_0 : decode cX0_wasWhereSeen 0 = .ok (.iconst 0, 1) := by decide +kernel
theorem dX0_wasWhereSeen_1 : decode cX0_wasWhereSeen 1 = .ok (.istore_n 2, 1) := by decide +kernel
theorem dX0_wasWhereSeen_2 : decode cX0_wasWhereSeen 2 = .ok (.iload_n 2, 1) := by decide +kernel
theorem dX0_wasWhereSeen_3 : decode cX0_wasWhereSeen 3 = .ok (.aload_n 0, 1) := by decide +kernel
theorem dX0_wasWhereSeen_4 : decode cX0_wasWhereSeen 4 = .ok (.getfield 38, 3) := by decide +kernel
theorem dX0_wasWhereSeen_7 : decode cX0_wasWhereSeen 7 = .ok (.if_icmp .ge 31, 3) := by decide +kernel
theorem dX0_wasWhereSeen_10 : decode cX0_wasWhereSeen 10 = .ok (.aload_n 0, 1) := by decide +kernel
theorem dX0_wasWhereSeen_11 : decode cX0_wasWhereSeen 11 = .ok (.iload_n 1, 1) := by decide +kernel
theorem dX0_wasWhereSeen_12 : decode cX0_wasWhereSeen 12 = .ok (.aload_n 0, 1) := by decide +kernel
theorem dX0_wasWhereSeen_13 : decode cX0_wasWhereSeen 13 = .ok (.getfield 25, 3) := by decide +kernel
theorem dX0_wasWhereSeen_16 : decode cX0_wasWhereSeen 16 = .ok (.iload_n 2, 1) := by decide +kernel
theorem dX0_wasWhereSeen_17 : decode cX0_wasWhereSeen 17 = .ok (.iaload, 1) := by decide +kernel
theorem dX0_wasWhereSeen_18 : decode cX0_wasWhereSeen 18 = .ok (.invokevirtual 102, 3) := by decide +kernel
theorem dX0_wasWhereSeen_21 : decode cX0_wasWhereSeen 21 = .ok (.aload_n 0, 1) := by decide +kernel
theorem dX0_wasWhereSeen_22 : decode cX0_wasWhereSeen 22 = .ok (.getfield 22, 3) := by decide +kernel
theorem dX0_wasWhereSeen_25 : decode cX0_wasWhereSeen 25 = .ok (.iload_n 2, 1) := by decide +kernel
theorem dX0_wasWhereSeen_26 : decode cX0_wasWhereSeen 26 = .ok (.iaload, 1) := by decide +kernel
theorem dX0_wasWhereSeen_27 : decode cX0_wasWhereSeen 27 = .ok (.if_icmp .eq 5, 3) := by decide +kernel
theorem dX0_wasWhereSeen_30 : decode cX0_wasWhereSeen 30 = .ok (.iconst 0, 1) := by decide +kernel
theorem dX0_wasWhereSeen_31 : decode cX0_wasWhereSeen 31 = .ok (.ireturn, 1) := by decide +kernel
theorem dX0_wasWhereSeen_32 : decode cX0_wasWhereSeen 32 = .ok (.iinc 2 1, 3) := by decide +kernel
theorem dX0_wasWhereSeen_35 : decode cX0_wasWhereSeen 35 = .ok (.goto (-33), 3) := by decide +kernel
theorem dX0_wasWhereSeen_38 : decode cX0_wasWhereSeen 38 = .ok (.iconst 1, 1) := by decide +kernel
theorem dX0_wasWhereSeen_39 : decode cX0_wasWhereSeen 39 = .ok (.ireturn, 1) := by decide +kernel
theorem dX0_bestHourToLook_0 : decode cX0_bestHourToLook 0 = .ok (.aload_n 0, 1) := by decide +kernel
theorem dX0_bestHourToLook_1 : decode cX0_bestHourToLook 1 = .ok (.invokevirtual 109, 3) := by decide +kernel
theorem dX0_bestHourToLook_4 : decode cX0_bestHourToLook 4 = .ok (.istore_n 1, 1) := by decide +kernel
theorem dX0_bestHourToLook_5 : decode cX0_bestHourToLook 5 = .ok (.iload_n 1, 1) := by decide +kernel
theorem dX0_bestHourToLook_6 : decode cX0_bestHourToLook 6 = .ok (.ifCond .ne 5, 3) := by decide +kernel
theorem dX0_bestHourToLook_9 : decode cX0_bestHourToLook 9 = .ok (.iconst (-1), 1) := by decide +kernel
theorem dX0_bestHourToLook_10 : decode cX0_bestHourToLook 10 = .ok (.ireturn, 1) := by decide +kernel
theorem dX0_bestHourToLook_11 : decode cX0_bestHourToLook 11 = .ok (.iconst 0, 1) := by decide +kernel
theorem dX0_bestHourToLook_12 : decode cX0_bestHourToLook 12 = .ok (.istore_n 2, 1) := by decide +kernel
theorem dX0_bestHourToLook_13 : decode cX0_bestHourToLook 13 = .ok (.aload_n 0, 1) := by decide +kernel
theorem dX0_bestHourToLook_14 : decode cX0_bestHourToLook 14 = .ok (.iload_n 1, 1) := by decide +kernel
theorem dX0_bestHourToLook_15 : decode cX0_bestHourToLook 15 = .ok (.iconst 0, 1) := by decide +kernel
theorem dX0_bestHourToLook_16 : decode cX0_bestHourToLook 16 = .ok (.invokevirtual 113, 3) := by decide +kernel
theorem dX0_bestHourToLook_19 : decode cX0_bestHourToLook 19 = .ok (.istore_n 3, 1) := by decide +kernel
theorem dX0_bestHourToLook_20 : decode cX0_bestHourToLook 20 = .ok (.iconst 1, 1) := by decide +kernel
theorem dX0_bestHourToLook_21 : decode cX0_bestHourToLook 21 = .ok (.istore 4, 2) := by decide +kernel
theorem dX0_bestHourToLook_23 : decode cX0_bestHourToLook 23 = .ok (.iload 4, 2) := by decide +kernel
theorem dX0_bestHourToLook_25 : decode cX0_bestHourToLook 25 = .ok (.bipush 30, 2) := by decide +kernel
theorem dX0_bestHourToLook_27 : decode cX0_bestHourToLook 27 = .ok (.if_icmp .gt 30, 3) := by decide +kernel
theorem dX0_bestHourToLook_30 : decode cX0_bestHourToLook 30 = .ok (.aload_n 0, 1) := by decide +kernel
theorem dX0_bestHourToLook_31 : decode cX0_bestHourToLook 31 = .ok (.iload_n 1, 1) := by decide +kernel
theorem dX0_bestHourToLook_32 : decode cX0_bestHourToLook 32 = .ok (.iload 4, 2) := by decide +kernel
theorem dX0_bestHourToLook_34 : decode cX0_bestHourToLook 34 = .ok (.invokevirtual 113, 3) := by decide +kernel
theorem dX0_bestHourToLook_37 : decode cX0_bestHourToLook 37 = .ok (.istore 5, 2) := by decide +kernel
theorem dX0_bestHourToLook_39 : decode cX0_bestHourToLook 39 = .ok (.iload 5, 2) := by decide +kernel
theorem dX0_bestHourToLook_41 : decode cX0_bestHourToLook 41 = .ok (.iload_n 3, 1) := by decide +kernel
theorem dX0_bestHourToLook_42 : decode cX0_bestHourToLook 42 = .ok (.if_icmp .ge 9, 3) := by decide +kernel
theorem dX0_bestHourToLook_45 : decode cX0_bestHourToLook 45 = .ok (.iload 4, 2) := by decide +kernel
theorem dX0_bestHourToLook_47 : decode cX0_bestHourToLook 47 = .ok (.istore_n 2, 1) := by decide +kernel
theorem dX0_bestHourToLook_48 : decode cX0_bestHourToLook 48 = .ok (.iload 5, 2) := by decide +kernel
theorem dX0_bestHourToLook_50 : decode cX0_bestHourToLook 50 = .ok (.istore_n 3, 1) := by decide +kernel
theorem dX0_bestHourToLook_51 : decode cX0_bestHourToLook 51 = .ok (.iinc 4 1, 3) := by decide +kernel
theorem dX0_bestHourToLook_54 : decode cX0_bestHourToLook 54 = .ok (.goto (-31), 3) := by decide +kernel
theorem dX0_bestHourToLook_57 : decode cX0_bestHourToLook 57 = .ok (.iload_n 2, 1) := by decide +kernel
theorem dX0_bestHourToLook_58 : decode cX0_bestHourToLook 58 = .ok (.ireturn, 1) := by decide +kernel
theorem dX0_mostLeft_0 : decode cX0_mostLeft 0 = .ok (.iconst 0, 1) := by decide +kernel
theorem dX0_mostLeft_1 : decode cX0_mostLeft 1 = .ok (.istore_n 3, 1) := by decide +kernel
theorem dX0_mostLeft_2 : decode cX0_mostLeft 2 = .ok (.iconst 0, 1) := by decide +kernel
theorem dX0_mostLeft_3 : decode cX0_mostLeft 3 = .ok (.istore 4, 2) := by decide +kernel
theorem dX0_mostLeft_5 : decode cX0_mostLeft 5 = .ok (.iload 4, 2) := by decide +kernel
theorem dX0_mostLeft_7 : decode cX0_mostLeft 7 = .ok (.aload_n 0, 1) := by decide +kernel
theorem dX0_mostLeft_8 : decode cX0_mostLeft 8 = .ok (.getfield 31, 3) := by decide +kernel
theorem dX0_mostLeft_11 : decode cX0_mostLeft 11 = .ok (.if_icmp .ge 32, 3) := by decide +kernel
theorem dX0_mostLeft_14 : decode cX0_mostLeft 14 = .ok (.iload_n 1, 1) := by decide +kernel
theorem dX0_mostLeft_15 : decode cX0_mostLeft 15 = .ok (.iload 4, 2) := by decide +kernel
theorem dX0_mostLeft_17 : decode cX0_mostLeft 17 = .ok (.ishr, 1) := by decide +kernel
theorem dX0_mostLeft_18 : decode cX0_mostLeft 18 = .ok (.iconst 1, 1) := by decide +kernel
theorem dX0_mostLeft_19 : decode cX0_mostLeft 19 = .ok (.iand, 1) := by decide +kernel
theorem dX0_mostLeft_20 : decode cX0_mostLeft 20 = .ok (.iconst 1, 1) := by decide +kernel
theorem dX0_mostLeft_21 : decode cX0_mostLeft 21 = .ok (.if_icmp .ne 16, 3) := by decide +kernel
theorem dX0_mostLeft_24 : decode cX0_mostLeft 24 = .ok (.iload_n 3, 1) := by decide +kernel
theorem dX0_mostLeft_25 : decode cX0_mostLeft 25 = .ok (.aload_n 0, 1) := by decide +kernel
theorem dX0_mostLeft_26 : decode cX0_mostLeft 26 = .ok (.iload 4, 2) := by decide +kernel
theorem dX0_mostLeft_28 : decode cX0_mostLeft 28 = .ok (.iload_n 1, 1) := by decide +kernel
theorem dX0_mostLeft_29 : decode cX0_mostLeft 29 = .ok (.iload_n 2, 1) := by decide +kernel
theorem dX0_mostLeft_30 : decode cX0_mostLeft 30 = .ok (.invokevirtual 116, 3) := by decide +kernel
theorem dX0_mostLeft_33 : decode cX0_mostLeft 33 = .ok (.invokestatic 120, 3) := by decide +kernel
theorem dX0_mostLeft_36 : decode cX0_mostLeft 36 = .ok (.istore_n 3, 1) := by decide +kernel
theorem dX0_mostLeft_37 : decode cX0_mostLeft 37 = .ok (.iinc 4 1, 3) := by decide +kernel
theorem dX0_mostLeft_40 : decode cX0_mostLeft 40 = .ok (.goto (-35), 3) := by decide +kernel
theorem dX0_mostLeft_43 : decode cX0_mostLeft 43 = .ok (.iload_n 3, 1) := by decide +kernel
theorem dX0_mostLeft_44 : decode cX0_mostLeft 44 = .ok (.ireturn, 1) := by decide +kernel
theorem dX0_togetherWith_0 : decode cX0_togetherWith 0 = .ok (.iconst 0, 1) := by decide +kernel
theorem dX0_togetherWith_1 : decode cX0_togetherWith 1 = .ok (.istore 4, 2) := by decide +kernel
theorem dX0_togetherWith_3 : decode cX0_togetherWith 3 = .ok (.iconst 0, 1) := by decide +kernel
theorem dX0_togetherWith_4 : decode cX0_togetherWith 4 = .ok (.istore 5, 2) := by decide +kernel
theorem dX0_togetherWith_6 : decode cX0_togetherWith 6 = .ok (.iload 5, 2) := by decide +kernel
theorem dX0_togetherWith_8 : decode cX0_togetherWith 8 = .ok (.aload_n 0, 1) := by decide +kernel
theorem dX0_togetherWith_9 : decode cX0_togetherWith 9 = .ok (.getfield 31, 3) := by decide +kernel
theorem dX0_togetherWith_12 : decode cX0_togetherWith 12 = .ok (.if_icmp .ge 50, 3) := by decide +kernel
theorem dX0_togetherWith_15 : decode cX0_togetherWith 15 = .ok (.iload_n 2, 1) := by decide +kernel
theorem dX0_togetherWith_16 : decode cX0_togetherWith 16 = .ok (.iload 5, 2) := by decide +kernel
theorem dX0_togetherWith_18 : decode cX0_togetherWith 18 = .ok (.ishr, 1) := by decide +kernel
theorem dX0_togetherWith_19 : decode cX0_togetherWith 19 = .ok (.iconst 1, 1) := by decide +kernel
theorem dX0_togetherWith_20 : decode cX0_togetherWith 20 = .ok (.iand, 1) := by decide +kernel
theorem dX0_togetherWith_21 : decode cX0_togetherWith 21 = .ok (.iconst 1, 1) := by decide +kernel
theorem dX0_togetherWith_22 : decode cX0_togetherWith 22 = .ok (.if_icmp .ne 7, 3) := by decide +kernel
theorem dX0_togetherWith_25 : decode cX0_togetherWith 25 = .ok (.iconst 1, 1) := by decide +kernel
theorem dX0_togetherWith_26 : decode cX0_togetherWith 26 = .ok (.goto 4, 3) := by decide +kernel
theorem dX0_togetherWith_29 : decode cX0_togetherWith 29 = .ok (.iconst 0, 1) := by decide +kernel
theorem dX0_togetherWith_30 : decode cX0_togetherWith 30 = .ok (.istore 6, 2) := by decide +kernel
theorem dX0_togetherWith_32 : decode cX0_togetherWith 32 = .ok (.iload 6, 2) := by decide +kernel
theorem dX0_togetherWith_34 : decode cX0_togetherWith 34 = .ok (.ifCond .eq 22, 3) := by decide +kernel
theorem dX0_togetherWith_37 : decode cX0_togetherWith 37 = .ok (.aload_n 0, 1) := by decide +kernel
theorem dX0_togetherWith_38 : decode cX0_togetherWith 38 = .ok (.iload 5, 2) := by decide +kernel
theorem dX0_togetherWith_40 : decode cX0_togetherWith 40 = .ok (.iload_n 3, 1) := by decide +kernel
theorem dX0_togetherWith_41 : decode cX0_togetherWith 41 = .ok (.invokevirtual 102, 3) := by decide +kernel
theorem dX0_togetherWith_44 : decode cX0_togetherWith 44 = .ok (.aload_n 0, 1) := by decide +kernel
theorem dX0_togetherWith_45 : decode cX0_togetherWith 45 = .ok (.iload_n 1, 1) := by decide +kernel
theorem dX0_togetherWith_46 : decode cX0_togetherWith 46 = .ok (.iload_n 3, 1) := by decide +kernel
theorem dX0_togetherWith_47 : decode cX0_togetherWith 47 = .ok (.invokevirtual 102, 3) := by decide +kernel
theorem dX0_togetherWith_50 : decode cX0_togetherWith 50 = .ok (.if_icmp .ne 6, 3) := by decide +kernel
theorem dX0_togetherWith_53 : decode cX0_togetherWith 53 = .ok (.iinc 4 1, 3) := by decide +kernel
theorem dX0_togetherWith_56 : decode cX0_togetherWith 56 = .ok (.iinc 5 1, 3) := by decide +kernel
theorem dX0_togetherWith_59 : decode cX0_togetherWith 59 = .ok (.goto (-53), 3) := by decide +kernel
theorem dX0_togetherWith_62 : decode cX0_togetherWith 62 = .ok (.iload 4, 2) := by decide +kernel
theorem dX0_togetherWith_64 : decode cX0_togetherWith 64 = .ok (.ireturn, 1) := by decide +kernel
theorem dX1_init_0 : decode cX1_init 0 = .ok (.aload_n 0, 1) := by decide +kernel
theorem dX1_init_1 : decode cX1_init 1 = .ok (.invokespecial 3, 3) := by decide +kernel
theorem dX1_init_4 : decode cX1_init 4 = .ok (.aload_n 0, 1) := by decide +kernel
theorem dX1_init_5 : decode cX1_init 5 = .ok (.bipush 32, 2) := by decide +kernel
theorem dX1_init_7 : decode cX1_init 7 = .ok (.newarray .char, 2) := by decide +kernel
theorem dX1_init_9 : decode cX1_init 9 = .ok (.putfield 9, 3) := by decide +kernel
theorem dX1_init_12 : decode cX1_init 12 = .ok (.aload_n 0, 1) := by decide +kernel
theorem dX1_init_13 : decode cX1_init 13 = .ok (.iconst 0, 1) := by decide +kernel
theorem dX1_init_14 : decode cX1_init 14 = .ok (.putfield 15, 3) := by decide +kernel
theorem dX1_init_17 : decode cX1_init 17 = .ok (.return_, 1) := by decide +kernel
theorem dX1_append_0 : decode cX1_append 0 = .ok (.aload_n 0, 1) := by decide +kernel
theorem dX1_append_1 : decode cX1_append 1 = .ok (.getfield 15, 3) := by decide +kernel
theorem dX1_append_4 : decode cX1_append 4 = .ok (.bipush 32, 2) := by decide +kernel
theorem dX1_append_6 : decode cX1_append 6 = .ok (.if_icmp .lt 5, 3) := by decide +kernel
theorem dX1_append_9 : decode cX1_append 9 = .ok (.iconst 0, 1) := by decide +kernel
theorem dX1_append_10 : decode cX1_append 10 = .ok (.ireturn, 1) := by decide +kernel
theorem dX1_append_11 : decode cX1_append 11 = .ok (.aload_n 0, 1) := by decide +kernel
theorem dX1_append_12 : decode cX1_append 12 = .ok (.getfield 9, 3) := by decide +kernel
theorem dX1_append_15 : decode cX1_append 15 = .ok (.aload_n 0, 1) := by decide +kernel
theorem dX1_append_16 : decode cX1_append 16 = .ok (.getfield 15, 3) := by decide +kernel
theorem dX1_append_19 : decode cX1_append 19 = .ok (.iload_n 1, 1) := by decide +kernel
theorem dX1_append_20 : decode cX1_append 20 = .ok (.castore, 1) := by decide +kernel
theorem dX1_append_21 : decode cX1_append 21 = .ok (.aload_n 0, 1) := by decide +kernel
theorem dX1_append_22 : decode cX1_append 22 = .ok (.dup, 1) := by decide +kernel
theorem dX1_append_23 : decode cX1_append 23 = .ok (.getfield 15, 3) := by decide +kernel
theorem dX1_append_26 : decode cX1_append 26 = .ok (.iconst 1, 1) := by decide +kernel
theorem dX1_append_27 : decode cX1_append 27 = .ok (.iadd, 1) := by decide +kernel
theorem dX1_append_28 : decode cX1_append 28 = .ok (.putfield 15, 3) := by decide +kernel
theorem dX1_append_31 : decode cX1_append 31 = .ok (.iconst 1, 1) := by decide +kernel
theorem dX1_append_32 : decode cX1_append 32 = .ok (.ireturn, 1) := by decide +kernel
theorem dX1_firstFault_0 : decode cX1_firstFault 0 = .ok (.iconst 0, 1) := by decide +kernel
theorem dX1_firstFault_1 : decode cX1_firstFault 1 = .ok (.istore_n 1, 1) := by decide +kernel
theorem dX1_firstFault_2 : decode cX1_firstFault 2 = .ok (.iconst 0, 1) := by decide +kernel
theorem dX1_firstFault_3 : decode cX1_firstFault 3 = .ok (.istore_n 2, 1) := by decide +kernel
theorem dX1_firstFault_4 : decode cX1_firstFault 4 = .ok (.iconst 0, 1) := by decide +kernel
theorem dX1_firstFault_5 : decode cX1_firstFault 5 = .ok (.istore_n 3, 1) := by decide +kernel
theorem dX1_firstFault_6 : decode cX1_firstFault 6 = .ok (.iload_n 3, 1) := by decide +kernel
theorem dX1_firstFault_7 : decode cX1_firstFault 7 = .ok (.aload_n 0, 1) := by decide +kernel
theorem dX1_firstFault_8 : decode cX1_firstFault 8 = .ok (.getfield 15, 3) := by decide +kernel
theorem dX1_firstFault_11 : decode cX1_firstFault 11 = .ok (.if_icmp .ge 44, 3) := by decide +kernel
theorem dX1_firstFault_14 : decode cX1_firstFault 14 = .ok (.aload_n 0, 1) := by decide +kernel
theorem dX1_firstFault_15 : decode cX1_firstFault 15 = .ok (.getfield 9, 3) := by decide +kernel
theorem dX1_firstFault_18 : decode cX1_firstFault 18 = .ok (.iload_n 3, 1) := by decide +kernel
theorem dX1_firstFault_19 : decode cX1_firstFault 19 = .ok (.caload, 1) := by decide +kernel
theorem dX1_firstFault_20 : decode cX1_firstFault 20 = .ok (.iload_n 1, 1) := by decide +kernel
theorem dX1_firstFault_21 : decode cX1_firstFault 21 = .ok (.iload_n 2, 1) := by decide +kernel
theorem dX1_firstFault_22 : decode cX1_firstFault 22 = .ok (.invokestatic 19, 3) := by decide +kernel
theorem dX1_firstFault_25 : decode cX1_firstFault 25 = .ok (.ifCond .ne 5, 3) := by decide +kernel
theorem dX1_firstFault_28 : decode cX1_firstFault 28 = .ok (.iload_n 3, 1) := by decide +kernel
theorem dX1_firstFault_29 : decode cX1_firstFault 29 = .ok (.ireturn, 1) := by decide +kernel
theorem dX1_firstFault_30 : decode cX1_firstFault 30 = .ok (.iinc 1 1, 3) := by decide +kernel
theorem dX1_firstFault_33 : decode cX1_firstFault 33 = .ok (.aload_n 0, 1) := by decide +kernel
theorem dX1_firstFault_34 : decode cX1_firstFault 34 = .ok (.getfield 9, 3) := by decide +kernel
theorem dX1_firstFault_37 : decode cX1_firstFault 37 = .ok (.iload_n 3, 1) := by decide +kernel
theorem dX1_firstFault_38 : decode cX1_firstFault 38 = .ok (.caload, 1) := by decide +kernel
theorem dX1_firstFault_39 : decode cX1_firstFault 39 = .ok (.bipush 44, 2) := by decide +kernel
theorem dX1_firstFault_41 : decode cX1_firstFault 41 = .ok (.if_icmp .ne 8, 3) := by decide +kernel
theorem dX1_firstFault_44 : decode cX1_firstFault 44 = .ok (.iconst 0, 1) := by decide +kernel
theorem dX1_firstFault_45 : decode cX1_firstFault 45 = .ok (.istore_n 1, 1) := by decide +kernel
theorem dX1_firstFault_46 : decode cX1_firstFault 46 = .ok (.iinc 2 1, 3) := by decide +kernel
theorem dX1_firstFault_49 : decode cX1_firstFault 49 = .ok (.iinc 3 1, 3) := by decide +kernel
theorem dX1_firstFault_52 : decode cX1_firstFault 52 = .ok (.goto (-46), 3) := by decide +kernel
theorem dX1_firstFault_55 : decode cX1_firstFault 55 = .ok (.aload_n 0, 1) := by decide +kernel
theorem dX1_firstFault_56 : decode cX1_firstFault 56 = .ok (.getfield 15, 3) := by decide +kernel
theorem dX1_firstFault_59 : decode cX1_firstFault 59 = .ok (.ireturn, 1) := by decide +kernel
theorem dX1_fits_0 : decode cX1_fits 0 = .ok (.iload_n 1, 1) := by decide +kernel
theorem dX1_fits_1 : decode cX1_fits 1 = .ok (.ifCond .ne 18, 3) := by decide +kernel
theorem dX1_fits_4 : decode cX1_fits 4 = .ok (.ldc 23, 2) := by decide +kernel
theorem dX1_fits_6 : decode cX1_fits 6 = .ok (.iload_n 0, 1) := by decide +kernel
theorem dX1_fits_7 : decode cX1_fits 7 = .ok (.invokevirtual 25, 3) := by decide +kernel
theorem dX1_fits_10 : decode cX1_fits 10 = .ok (.ifCond .lt 7, 3) := by decide +kernel
theorem dX1_fits_13 : decode cX1_fits 13 = .ok (.iconst 1, 1) := by decide +kernel
theorem dX1_fits_14 : decode cX1_fits 14 = .ok (.goto 4, 3) := by decide +kernel
theorem dX1_fits_17 : decode cX1_fits 17 = .ok (.iconst 0, 1) := by decide +kernel
theorem dX1_fits_18 : decode cX1_fits 18 = .ok (.ireturn, 1) := by decide +kernel
theorem dX1_fits_19 : decode cX1_fits 19 = .ok (.iload_n 1, 1) := by decide +kernel
theorem dX1_fits_20 : decode cX1_fits 20 = .ok (.iconst 1, 1) := by decide +kernel
theorem dX1_fits_21 : decode cX1_fits 21 = .ok (.if_icmp .ne 11, 3) := by decide +kernel
theorem dX1_fits_24 : decode cX1_fits 24 = .ok (.iload_n 0, 1) := by decide +kernel
theorem dX1_fits_25 : decode cX1_fits 25 = .ok (.bipush 97, 2) := by decide +kernel
theorem dX1_fits_27 : decode cX1_fits 27 = .ok (.isub, 1) := by decide +kernel
theorem dX1_fits_28 : decode cX1_fits 28 = .ok (.invokestatic 31, 3) := by decide +kernel
theorem dX1_fits_31 : decode cX1_fits 31 = .ok (.ireturn, 1) := by decide +kernel
theorem dX1_fits_32 : decode cX1_fits 32 = .ok (.iload_n 0, 1) := by decide +kernel
theorem dX1_fits_33 : decode cX1_fits 33 = .ok (.bipush 44, 2) := by decide +kernel
theorem dX1_fits_35 : decode cX1_fits 35 = .ok (.if_icmp .ne 19, 3) := by decide +kernel
theorem dX1_fits_38 : decode cX1_fits 38 = .ok (.iload_n 1, 1) := by decide +kernel
theorem dX1_fits_39 : decode cX1_fits 39 = .ok (.iconst 2, 1) := by decide +kernel
theorem dX1_fits_40 : decode cX1_fits 40 = .ok (.if_icmp .le 12, 3) := by decide +kernel
theorem dX1_fits_43 : decode cX1_fits 43 = .ok (.iload_n 2, 1) := by decide +kernel
theorem dX1_fits_44 : decode cX1_fits 44 = .ok (.iconst 3, 1) := by decide +kernel
theorem dX1_fits_45 : decode cX1_fits 45 = .ok (.if_icmp .ge 7, 3) := by decide +kernel
theorem dX1_fits_48 : decode cX1_fits 48 = .ok (.iconst 1, 1) := by decide +kernel
theorem dX1_fits_49 : decode cX1_fits 49 = .ok (.goto 4, 3) := by decide +kernel
theorem dX1_fits_52 : decode cX1_fits 52 = .ok (.iconst 0, 1) := by decide +kernel
theorem dX1_fits_53 : decode cX1_fits 53 = .ok (.ireturn, 1) := by decide +kernel
theorem dX1_fits_54 : decode cX1_fits 54 = .ok (.iload_n 1, 1) := by decide +kernel
theorem dX1_fits_55 : decode cX1_fits 55 = .ok (.bipush 7, 2) := by decide +kernel
theorem dX1_fits_57 : decode cX1_fits 57 = .ok (.if_icmp .ge 16, 3) := by decide +kernel
theorem dX1_fits_60 : decode cX1_fits 60 = .ok (.ldc 35, 2) := by decide +kernel
theorem dX1_fits_62 : decode cX1_fits 62 = .ok (.iload_n 0, 1) := by decide +kernel
theorem dX1_fits_63 : decode cX1_fits 63 = .ok (.invokevirtual 25, 3) := by decide +kernel
theorem dX1_fits_66 : decode cX1_fits 66 = .ok (.ifCond .lt 7, 3) := by decide +kernel
theorem dX1_fits_69 : decode cX1_fits 69 = .ok (.iconst 1, 1) := by decide +kernel
theorem dX1_fits_70 : decode cX1_fits 70 = .ok (.goto 4, 3) := by decide +kernel
theorem dX1_fits_73 : decode cX1_fits 73 = .ok (.iconst 0, 1) := by decide +kernel
theorem dX1_fits_74 : decode cX1_fits 74 = .ok (.ireturn, 1) := by decide +kernel
theorem dX1_tellsHills_0 : decode cX1_tellsHills 0 = .ok (.aload_n 0, 1) := by decide +kernel
theorem dX1_tellsHills_1 : decode cX1_tellsHills 1 = .ok (.invokevirtual 37, 3) := by decide +kernel
theorem dX1_tellsHills_4 : decode cX1_tellsHills 4 = .ok (.aload_n 0, 1) := by decide +kernel
theorem dX1_tellsHills_5 : decode cX1_tellsHills 5 = .ok (.getfield 15, 3) := by decide +kernel
theorem dX1_tellsHills_8 : decode cX1_tellsHills 8 = .ok (.if_icmp .ne 15, 3) := by decide +kernel
theorem dX1_tellsHills_11 : decode cX1_tellsHills 11 = .ok (.aload_n 0, 1) := by decide +kernel
theorem dX1_tellsHills_12 : decode cX1_tellsHills 12 = .ok (.invokevirtual 41, 3) := by decide +kernel
theorem dX1_tellsHills_15 : decode cX1_tellsHills 15 = .ok (.iconst 2, 1) := by decide +kernel
theorem dX1_tellsHills_16 : decode cX1_tellsHills 16 = .ok (.if_icmp .le 7, 3) := by decide +kernel
theorem dX1_tellsHills_19 : decode cX1_tellsHills 19 = .ok (.iconst 1, 1) := by decide +kernel
theorem dX1_tellsHills_20 : decode cX1_tellsHills 20 = .ok (.goto 4, 3) := by decide +kernel
theorem dX1_tellsHills_23 : decode cX1_tellsHills 23 = .ok (.iconst 0, 1) := by decide +kernel
theorem dX1_tellsHills_24 : decode cX1_tellsHills 24 = .ok (.ireturn, 1) := by decide +kernel
theorem dX1_lettersOfLastStick_0 : decode cX1_lettersOfLastStick 0 = .ok (.iconst 0, 1) := by decide +kernel
theorem dX1_lettersOfLastStick_1 : decode cX1_lettersOfLastStick 1 = .ok (.istore_n 1, 1) := by decide +kernel
theorem dX1_lettersOfLastStick_2 : decode cX1_lettersOfLastStick 2 = .ok (.iconst 0, 1) := by decide +kernel
theorem dX1_lettersOfLastStick_3 : decode cX1_lettersOfLastStick 3 = .ok (.istore_n 2, 1) := by decide +kernel
theorem dX1_lettersOfLastStick_4 : decode cX1_lettersOfLastStick 4 = .ok (.iload_n 2, 1) := by decide +kernel
theorem dX1_lettersOfLastStick_5 : decode cX1_lettersOfLastStick 5 = .ok (.aload_n 0, 1) := by decide +kernel
theorem dX1_lettersOfLastStick_6 : decode cX1_lettersOfLastStick 6 = .ok (.getfield 15, 3) := by decide +kernel
theorem dX1_lettersOfLastStick_9 : decode cX1_lettersOfLastStick 9 = .ok (.if_icmp .ge 28, 3) := by decide +kernel
theorem dX1_lettersOfLastStick_12 : decode cX1_lettersOfLastStick 12 = .ok (.aload_n 0, 1) := by decide +kernel
theorem dX1_lettersOfLastStick_13 : decode cX1_lettersOfLastStick 13 = .ok (.getfield 9, 3) := by decide +kernel
theorem dX1_lettersOfLastStick_16 : decode cX1_lettersOfLastStick 16 = .ok (.iload_n 2, 1) := by decide +kernel
theorem dX1_lettersOfLastStick_17 : decode cX1_lettersOfLastStick 17 = .ok (.caload, 1) := by decide +kernel
theorem dX1_lettersOfLastStick_18 : decode cX1_lettersOfLastStick 18 = .ok (.bipush 44, 2) := by decide +kernel
theorem dX1_lettersOfLastStick_20 : decode cX1_lettersOfLastStick 20 = .ok (.if_icmp .ne 7, 3) := by decide +kernel
theorem dX1_lettersOfLastStick_23 : decode cX1_lettersOfLastStick 23 = .ok (.iconst 0, 1) := by decide +kernel
theorem dX1_lettersOfLastStick_24 : decode cX1_lettersOfLastStick 24 = .ok (.goto 6, 3) := by decide +kernel
theorem dX1_lettersOfLastStick_27 : decode cX1_lettersOfLastStick 27 = .ok (.iload_n 1, 1) := by decide +kernel
theorem dX1_lettersOfLastStick_28 : decode cX1_lettersOfLastStick 28 = .ok (.iconst 1, 1) := by decide +kernel
theorem dX1_lettersOfLastStick_29 : decode cX1_lettersOfLastStick 29 = .ok (.iadd, 1) := by decide +kernel
theorem dX1_lettersOfLastStick_30 : decode cX1_lettersOfLastStick 30 = .ok (.istore_n 1, 1) := by decide +kernel
theorem dX1_lettersOfLastStick_31 : decode cX1_lettersOfLastStick 31 = .ok (.iinc 2 1, 3) := by decide +kernel
theorem dX1_lettersOfLastStick_34 : decode cX1_lettersOfLastStick 34 = .ok (.goto (-30), 3) := by decide +kernel
theorem dX1_lettersOfLastStick_37 : decode cX1_lettersOfLastStick 37 = .ok (.iload_n 1, 1) := by decide +kernel
theorem dX1_lettersOfLastStick_38 : decode cX1_lettersOfLastStick 38 = .ok (.ireturn, 1) := by decide +kernel
theorem dX1_readInto_0 : decode cX1_readInto 0 = .ok (.aload_n 1, 1) := by decide +kernel
theorem dX1_readInto_1 : decode cX1_readInto 1 = .ok (.invokevirtual 44, 3) := by decide +kernel
theorem dX1_readInto_4 : decode cX1_readInto 4 = .ok (.iconst 0, 1) := by decide +kernel
theorem dX1_readInto_5 : decode cX1_readInto 5 = .ok (.istore_n 2, 1) := by decide +kernel
theorem dX1_readInto_6 : decode cX1_readInto 6 = .ok (.iconst 0, 1) := by decide +kernel
theorem dX1_readInto_7 : decode cX1_readInto 7 = .ok (.istore_n 3, 1) := by decide +kernel
theorem dX1_readInto_8 : decode cX1_readInto 8 = .ok (.aconst_null, 1) := by decide +kernel
theorem dX1_readInto_9 : decode cX1_readInto 9 = .ok (.astore 4, 2) := by decide +kernel
theorem dX1_readInto_11 : decode cX1_readInto 11 = .ok (.iconst 0, 1) := by decide +kernel
theorem dX1_readInto_12 : decode cX1_readInto 12 = .ok (.istore 5, 2) := by decide +kernel
theorem dX1_readInto_14 : decode cX1_readInto 14 = .ok (.iload 5, 2) := by decide +kernel
theorem dX1_readInto_16 : decode cX1_readInto 16 = .ok (.aload_n 0, 1) := by decide +kernel
theorem dX1_readInto_17 : decode cX1_readInto 17 = .ok (.getfield 15, 3) := by decide +kernel
theorem dX1_readInto_20 : decode cX1_readInto 20 = .ok (.if_icmp .ge 85, 3) := by decide +kernel
theorem dX1_readInto_23 : decode cX1_readInto 23 = .ok (.aload_n 0, 1) := by decide +kernel
theorem dX1_readInto_24 : decode cX1_readInto 24 = .ok (.getfield 9, 3) := by decide +kernel
theorem dX1_readInto_27 : decode cX1_readInto 27 = .ok (.iload 5, 2) := by decide +kernel
theorem dX1_readInto_29 : decode cX1_readInto 29 = .ok (.caload, 1) := by decide +kernel
theorem dX1_readInto_30 : decode cX1_readInto 30 = .ok (.istore 6, 2) := by decide +kernel
theorem dX1_readInto_32 : decode cX1_readInto 32 = .ok (.iload 6, 2) := by decide +kernel
theorem dX1_readInto_34 : decode cX1_readInto 34 = .ok (.bipush 44, 2) := by decide +kernel
theorem dX1_readInto_36 : decode cX1_readInto 36 = .ok (.if_icmp .ne 8, 3) := by decide +kernel
theorem dX1_readInto_39 : decode cX1_readInto 39 = .ok (.iconst 0, 1) := by decide +kernel
theorem dX1_readInto_40 : decode cX1_readInto 40 = .ok (.istore_n 2, 1) := by decide +kernel
theorem dX1_readInto_41 : decode cX1_readInto 41 = .ok (.goto 58, 3) := by decide +kernel
theorem dX1_readInto_44 : decode cX1_readInto 44 = .ok (.iload_n 2, 1) := by decide +kernel
theorem dX1_readInto_45 : decode cX1_readInto 45 = .ok (.ifCond .ne 14, 3) := by decide +kernel
theorem dX1_readInto_48 : decode cX1_readInto 48 = .ok (.ldc 23, 2) := by decide +kernel
theorem dX1_readInto_50 : decode cX1_readInto 50 = .ok (.iload 6, 2) := by decide +kernel
theorem dX1_readInto_52 : decode cX1_readInto 52 = .ok (.invokevirtual 25, 3) := by decide +kernel
theorem dX1_readInto_55 : decode cX1_readInto 55 = .ok (.istore_n 3, 1) := by decide +kernel
theorem dX1_readInto_56 : decode cX1_readInto 56 = .ok (.goto 40, 3) := by decide +kernel
theorem dX1_readInto_59 : decode cX1_readInto 59 = .ok (.iload_n 2, 1) := by decide +kernel
theorem dX1_readInto_60 : decode cX1_readInto 60 = .ok (.iconst 1, 1) := by decide +kernel
theorem dX1_readInto_61 : decode cX1_readInto 61 = .ok (.if_icmp .ne 18, 3) := by decide +kernel
theorem dX1_readInto_64 : decode cX1_readInto 64 = .ok (.aload_n 1, 1) := by decide +kernel
theorem dX1_readInto_65 : decode cX1_readInto 65 = .ok (.iload_n 3, 1) := by decide +kernel
theorem dX1_readInto_66 : decode cX1_readInto 66 = .ok (.iload 6, 2) := by decide +kernel
theorem dX1_readInto_68 : decode cX1_readInto 68 = .ok (.bipush 97, 2) := by decide +kernel
theorem dX1_readInto_70 : decode cX1_readInto 70 = .ok (.isub, 1) := by decide +kernel
theorem dX1_readInto_71 : decode cX1_readInto 71 = .ok (.invokevirtual 49, 3) := by decide +kernel
theorem dX1_readInto_74 : decode cX1_readInto 74 = .ok (.astore 4, 2) := by decide +kernel
theorem dX1_readInto_76 : decode cX1_readInto 76 = .ok (.goto 20, 3) := by decide +kernel
theorem dX1_readInto_79 : decode cX1_readInto 79 = .ok (.aload 4, 2) := by decide +kernel
theorem dX1_readInto_81 : decode cX1_readInto 81 = .ok (.ifnull 15, 3) := by decide +kernel
theorem dX1_readInto_84 : decode cX1_readInto 84 = .ok (.aload 4, 2) := by decide +kernel
theorem dX1_readInto_86 : decode cX1_readInto 86 = .ok (.ldc 35, 2) := by decide +kernel
theorem dX1_readInto_88 : decode cX1_readInto 88 = .ok (.iload 6, 2) := by decide +kernel
theorem dX1_readInto_90 : decode cX1_readInto 90 = .ok (.invokevirtual 25, 3) := by decide +kernel
theorem dX1_readInto_93 : decode cX1_readInto 93 = .ok (.invokevirtual 53, 3) := by decide +kernel
theorem dX1_readInto_96 : decode cX1_readInto 96 = .ok (.iinc 2 1, 3) := by decide +kernel
theorem dX1_readInto_99 : decode cX1_readInto 99 = .ok (.iinc 5 1, 3) := by decide +kernel
theorem dX1_readInto_102 : decode cX1_readInto 102 = .ok (.goto (-88), 3) := by decide +kernel
theorem dX1_readInto_105 : decode cX1_readInto 105 = .ok (.return_, 1) := by decide +kernel
theorem dX2_init_0 : decode cX2_init 0 = .ok (.aload_n 0, 1) := by decide +kernel
theorem dX2_init_1 : decode cX2_init 1 = .ok (.invokespecial 3, 3) := by decide +kernel
theorem dX2_init_4 : decode cX2_init 4 = .ok (.aload_n 0, 1) := by decide +kernel
theorem dX2_init_5 : decode cX2_init 5 = .ok (.iconst 0, 1) := by decide +kernel
theorem dX2_init_6 : decode cX2_init 6 = .ok (.putfield 9, 3) := by decide +kernel
theorem dX2_init_9 : decode cX2_init 9 = .ok (.aload_n 0, 1) := by decide +kernel
theorem dX2_init_10 : decode cX2_init 10 = .ok (.iconst 0, 1) := by decide +kernel
theorem dX2_init_11 : decode cX2_init 11 = .ok (.putfield 15, 3) := by decide +kernel
theorem dX2_init_14 : decode cX2_init 14 = .ok (.aload_n 0, 1) := by decide +kernel
theorem dX2_init_15 : decode cX2_init 15 = .ok (.iconst 0, 1) := by decide +kernel
theorem dX2_init_16 : decode cX2_init 16 = .ok (.putfield 18, 3) := by decide +kernel
theorem dX2_init_19 : decode cX2_init 19 = .ok (.aload_n 0, 1) := by decide +kernel
theorem dX2_init_20 : decode cX2_init 20 = .ok (.iconst 5, 1) := by decide +kernel
theorem dX2_init_21 : decode cX2_init 21 = .ok (.newarray .int, 2) := by decide +kernel
theorem dX2_init_23 : decode cX2_init 23 = .ok (.putfield 21, 3) := by decide +kernel
theorem dX2_init_26 : decode cX2_init 26 = .ok (.aload_n 0, 1) := by decide +kernel
theorem dX2_init_27 : decode cX2_init 27 = .ok (.bipush 31, 2) := by decide +kernel
theorem dX2_init_29 : decode cX2_init 29 = .ok (.newarray .int, 2) := by decide +kernel
theorem dX2_init_31 : decode cX2_init 31 = .ok (.putfield 25, 3) := by decide +kernel
theorem dX2_init_34 : decode cX2_init 34 = .ok (.aload_n 0, 1) := by decide +kernel
theorem dX2_init_35 : decode cX2_init 35 = .ok (.iconst 0, 1) := by decide +kernel
theorem dX2_init_36 : decode cX2_init 36 = .ok (.putfield 28, 3) := by decide +kernel
theorem dX2_init_39 : decode cX2_init 39 = .ok (.return_, 1) := by decide +kernel
theorem dX2_startAnew_0 : decode cX2_startAnew 0 = .ok (.aload_n 0, 1) := by decide +kernel
theorem dX2_startAnew_1 : decode cX2_startAnew 1 = .ok (.iload_n 1, 1) := by decide +kernel
theorem dX2_startAnew_2 : decode cX2_startAnew 2 = .ok (.putfield 9, 3) := by decide +kernel
theorem dX2_startAnew_5 : decode cX2_startAnew 5 = .ok (.aload_n 0, 1) := by decide +kernel
theorem dX2_startAnew_6 : decode cX2_startAnew 6 = .ok (.iload_n 2, 1) := by decide +kernel
theorem dX2_startAnew_7 : decode cX2_startAnew 7 = .ok (.putfield 15, 3) := by decide +kernel
theorem dX2_startAnew_10 : decode cX2_startAnew 10 = .ok (.aload_n 0, 1) := by decide +kernel
theorem dX2_startAnew_11 : decode cX2_startAnew 11 = .ok (.iconst 0, 1) := by decide +kernel
theorem dX2_startAnew_12 : decode cX2_startAnew 12 = .ok (.putfield 18, 3) := by decide +kernel
theorem dX2_startAnew_15 : decode cX2_startAnew 15 = .ok (.aload_n 0, 1) := by decide +kernel
theorem dX2_startAnew_16 : decode cX2_startAnew 16 = .ok (.invokevirtual 31, 3) := by decide +kernel
theorem dX2_startAnew_19 : decode cX2_startAnew 19 = .ok (.return_, 1) := by decide +kernel
theorem dX2_addStep_0 : decode cX2_addStep 0 = .ok (.aload_n 0, 1) := by decide +kernel
theorem dX2_addStep_1 : decode cX2_addStep 1 = .ok (.getfield 18, 3) := by decide +kernel
theorem dX2_addStep_4 : decode cX2_addStep 4 = .ok (.iconst 5, 1) := by decide +kernel
theorem dX2_addStep_5 : decode cX2_addStep 5 = .ok (.if_icmp .ge 27, 3) := by decide +kernel
theorem dX2_addStep_8 : decode cX2_addStep 8 = .ok (.aload_n 0, 1) := by decide +kernel
theorem dX2_addStep_9 : decode cX2_addStep 9 = .ok (.getfield 21, 3) := by decide +kernel
theorem dX2_addStep_12 : decode cX2_addStep 12 = .ok (.aload_n 0, 1) := by decide +kernel
theorem dX2_addStep_13 : decode cX2_addStep 13 = .ok (.getfield 18, 3) := by decide +kernel
theorem dX2_addStep_16 : decode cX2_addStep 16 = .ok (.iload_n 1, 1) := by decide +kernel
theorem dX2_addStep_17 : decode cX2_addStep 17 = .ok (.iastore, 1) := by decide +kernel
theorem dX2_addStep_18 : decode cX2_addStep 18 = .ok (.aload_n 0, 1) := by decide +kernel
theorem dX2_addStep_19 : decode cX2_addStep 19 = .ok (.dup, 1) := by decide +kernel
theorem dX2_addStep_20 : decode cX2_addStep 20 = .ok (.getfield 18, 3) := by decide +kernel
theorem dX2_addStep_23 : decode cX2_addStep 23 = .ok (.iconst 1, 1) := by decide +kernel
theorem dX2_addStep_24 : decode cX2_addStep 24 = .ok (.iadd, 1) := by decide +kernel
theorem dX2_addStep_25 : decode cX2_addStep 25 = .ok (.putfield 18, 3) := by decide +kernel
theorem dX2_addStep_28 : decode cX2_addStep 28 = .ok (.aload_n 0, 1) := by decide +kernel
theorem dX2_addStep_29 : decode cX2_addStep 29 = .ok (.invokevirtual 31, 3) := by decide +kernel
theorem dX2_addStep_32 : decode cX2_addStep 32 = .ok (.return_, 1) := by decide +kernel
theorem dX2_shortenTo_0 : decode cX2_shortenTo 0 = .ok (.aload_n 0, 1) := by decide +kernel
theorem dX2_shortenTo_1 : decode cX2_shortenTo 1 = .ok (.aload_n 0, 1) := by decide +kernel
theorem dX2_shortenTo_2 : decode cX2_shortenTo 2 = .ok (.getfield 18, 3) := by decide +kernel
theorem dX2_shortenTo_5 : decode cX2_shortenTo 5 = .ok (.iload_n 1, 1) := by decide +kernel
theorem dX2_shortenTo_6 : decode cX2_shortenTo 6 = .ok (.invokestatic 34, 3) := by decide +kernel
theorem dX2_shortenTo_9 : decode cX2_shortenTo 9 = .ok (.putfield 18, 3) := by decide +kernel
theorem dX2_shortenTo_12 : decode cX2_shortenTo 12 = .ok (.aload_n 0, 1) := by decide +kernel
theorem dX2_shortenTo_13 : decode cX2_shortenTo 13 = .ok (.invokevirtual 31, 3) := by decide +kernel
theorem dX2_shortenTo_16 : decode cX2_shortenTo 16 = .ok (.return_, 1) := by decide +kernel
theorem dX2_copyFrom_0 : decode cX2_copyFrom 0 = .ok (.aload_n 0, 1) := by decide +kernel
theorem dX2_copyFrom_1 : decode cX2_copyFrom 1 = .ok (.aload_n 1, 1) := by decide +kernel
theorem dX2_copyFrom_2 : decode cX2_copyFrom 2 = .ok (.getfield 9, 3) := by decide +kernel
theorem dX2_copyFrom_5 : decode cX2_copyFrom 5 = .ok (.putfield 9, 3) := by decide +kernel
theorem dX2_copyFrom_8 : decode cX2_copyFrom 8 = .ok (.aload_n 0, 1) := by decide +kernel
theorem dX2_copyFrom_9 : decode cX2_copyFrom 9 = .ok (.aload_n 1, 1) := by decide +kernel
theorem dX2_copyFrom_10 : decode cX2_copyFrom 10 = .ok (.getfield 15, 3) := by decide +kernel
theorem dX2_copyFrom_13 : decode cX2_copyFrom 13 = .ok (.putfield 15, 3) := by decide +kernel
theorem dX2_copyFrom_16 : decode cX2_copyFrom 16 = .ok (.aload_n 0, 1) := by decide +kernel
theorem dX2_copyFrom_17 : decode cX2_copyFrom 17 = .ok (.aload_n 1, 1) := by decide +kernel
theorem dX2_copyFrom_18 : decode cX2_copyFrom 18 = .ok (.getfield 18, 3) := by decide +kernel
theorem dX2_copyFrom_21 : decode cX2_copyFrom 21 = .ok (.putfield 18, 3) := by decide +kernel
theorem dX2_copyFrom_24 : decode cX2_copyFrom 24 = .ok (.aload_n 1, 1) := by decide +kernel
theorem dX2_copyFrom_25 : decode cX2_copyFrom 25 = .ok (.getfield 21, 3) := by decide +kernel
theorem dX2_copyFrom_28 : decode cX2_copyFrom 28 = .ok (.iconst 0, 1) := by decide +kernel
theorem dX2_copyFrom_29 : decode cX2_copyFrom 29 = .ok (.aload_n 0, 1) := by decide +kernel
theorem dX2_copyFrom_30 : decode cX2_copyFrom 30 = .ok (.getfield 21, 3) := by decide +kernel
theorem dX2_copyFrom_33 : decode cX2_copyFrom 33 = .ok (.iconst 0, 1) := by decide +kernel
theorem dX2_copyFrom_34 : decode cX2_copyFrom 34 = .ok (.iconst 5, 1) := by decide +kernel
theorem dX2_copyFrom_35 : decode cX2_copyFrom 35 = .ok (.invokestatic 40, 3) := by decide +kernel
theorem dX2_copyFrom_38 : decode cX2_copyFrom 38 = .ok (.aload_n 0, 1) := by decide +kernel
theorem dX2_copyFrom_39 : decode cX2_copyFrom 39 = .ok (.invokevirtual 31, 3) := by decide +kernel
theorem dX2_copyFrom_42 : decode cX2_copyFrom 42 = .ok (.return_, 1) := by decide +kernel
theorem dX2_stepOrNone_0 : decode cX2_stepOrNone 0 = .ok (.iload_n 1, 1) := by decide +kernel
theorem dX2_stepOrNone_1 : decode cX2_stepOrNone 1 = .ok (.ifCond .lt 20, 3) := by decide +kernel
theorem dX2_stepOrNone_4 : decode cX2_stepOrNone 4 = .ok (.iload_n 1, 1) := by decide +kernel
theorem dX2_stepOrNone_5 : decode cX2_stepOrNone 5 = .ok (.aload_n 0, 1) := by decide +kernel
theorem dX2_stepOrNone_6 : decode cX2_stepOrNone 6 = .ok (.getfield 18, 3) := by decide +kernel
theorem dX2_stepOrNone_9 : decode cX2_stepOrNone 9 = .ok (.if_icmp .ge 12, 3) := by decide +kernel
theorem dX2_stepOrNone_12 : decode cX2_stepOrNone 12 = .ok (.aload_n 0, 1) := by decide +kernel
theorem dX2_stepOrNone_13 : decode cX2_stepOrNone 13 = .ok (.getfield 21, 3) := by decide +kernel
theorem dX2_stepOrNone_16 : decode cX2_stepOrNone 16 = .ok (.iload_n 1, 1) := by decide +kernel
theorem dX2_stepOrNone_17 : decode cX2_stepOrNone 17 = .ok (.iaload, 1) := by decide +kernel
theorem dX2_stepOrNone_18 : decode cX2_stepOrNone 18 = .ok (.goto 4, 3) := by decide +kernel
theorem dX2_stepOrNone_21 : decode cX2_stepOrNone 21 = .ok (.iconst (-1), 1) := by decide +kernel
theorem dX2_stepOrNone_22 : decode cX2_stepOrNone 22 = .ok (.ireturn, 1) := by decide +kernel
theorem dX2_isOfKind_0 : decode cX2_isOfKind 0 = .ok (.iload_n 1, 1) := by decide +kernel
theorem dX2_isOfKind_1 : decode cX2_isOfKind 1 = .ok (.ifCond .eq 24, 3) := by decide +kernel
theorem dX2_isOfKind_4 : decode cX2_isOfKind 4 = .ok (.iload_n 1, 1) := by decide +kernel
theorem dX2_isOfKind_5 : decode cX2_isOfKind 5 = .ok (.aload_n 0, 1) := by decide +kernel
theorem dX2_isOfKind_6 : decode cX2_isOfKind 6 = .ok (.getfield 9, 3) := by decide +kernel
theorem dX2_isOfKind_9 : decode cX2_isOfKind 9 = .ok (.if_icmp .eq 16, 3) := by decide +kernel
theorem dX2_isOfKind_12 : decode cX2_isOfKind 12 = .ok (.iload_n 1, 1) := by decide +kernel
theorem dX2_isOfKind_13 : decode cX2_isOfKind 13 = .ok (.iconst 1, 1) := by decide +kernel
theorem dX2_isOfKind_14 : decode cX2_isOfKind 14 = .ok (.if_icmp .ne 15, 3) := by decide +kernel
theorem dX2_isOfKind_17 : decode cX2_isOfKind 17 = .ok (.aload_n 0, 1) := by decide +kernel
theorem dX2_isOfKind_18 : decode cX2_isOfKind 18 = .ok (.getfield 9, 3) := by decide +kernel
theorem dX2_isOfKind_21 : decode cX2_isOfKind 21 = .ok (.iconst 4, 1) := by decide +kernel
theorem dX2_isOfKind_22 : decode cX2_isOfKind 22 = .ok (.if_icmp .ne 7, 3) := by decide +kernel
theorem dX2_isOfKind_25 : decode cX2_isOfKind 25 = .ok (.iconst 1, 1) := by decide +kernel
theorem dX2_isOfKind_26 : decode cX2_isOfKind 26 = .ok (.goto 4, 3) := by decide +kernel
theorem dX2_isOfKind_29 : decode cX2_isOfKind 29 = .ok (.iconst 0, 1) := by decide +kernel
theorem dX2_isOfKind_30 : decode cX2_isOfKind 30 = .ok (.ireturn, 1) := by decide +kernel
theorem dX2_placeAt_0 : decode cX2_placeAt 0 = .ok (.iload_n 1, 1) := by decide +kernel
theorem dX2_placeAt_1 : decode cX2_placeAt 1 = .ok (.iload_n 2, 1) := by decide +kernel
theorem dX2_placeAt_2 : decode cX2_placeAt 2 = .ok (.isub, 1) := by decide +kernel
theorem dX2_placeAt_3 : decode cX2_placeAt 3 = .ok (.istore_n 3, 1) := by decide +kernel
theorem dX2_placeAt_4 : decode cX2_placeAt 4 = .ok (.iload_n 3, 1) := by decide +kernel
theorem dX2_placeAt_5 : decode cX2_placeAt 5 = .ok (.ifCond .ge 8, 3) := by decide +kernel
theorem dX2_placeAt_8 : decode cX2_placeAt 8 = .ok (.aload_n 0, 1) := by decide +kernel
theorem dX2_placeAt_9 : decode cX2_placeAt 9 = .ok (.getfield 15, 3) := by decide +kernel
theorem dX2_placeAt_12 : decode cX2_placeAt 12 = .ok (.ireturn, 1) := by decide +kernel
theorem dX2_placeAt_13 : decode cX2_placeAt 13 = .ok (.aload_n 0, 1) := by decide +kernel
theorem dX2_placeAt_14 : decode cX2_placeAt 14 = .ok (.getfield 25, 3) := by decide +kernel
theorem dX2_placeAt_17 : decode cX2_placeAt 17 = .ok (.iload_n 3, 1) := by decide +kernel
theorem dX2_placeAt_18 : decode cX2_placeAt 18 = .ok (.bipush 30, 2) := by decide +kernel
theorem dX2_placeAt_20 : decode cX2_placeAt 20 = .ok (.if_icmp .gt 7, 3) := by decide +kernel
theorem dX2_placeAt_23 : decode cX2_placeAt 23 = .ok (.iload_n 3, 1) := by decide +kernel
theorem dX2_placeAt_24 : decode cX2_placeAt 24 = .ok (.goto 5, 3) := by decide +kernel
theorem dX2_placeAt_27 : decode cX2_placeAt 27 = .ok (.bipush 30, 2) := by decide +kernel
theorem dX2_placeAt_29 : decode cX2_placeAt 29 = .ok (.iaload, 1) := by decide +kernel
theorem dX2_placeAt_30 : decode cX2_placeAt 30 = .ok (.ireturn, 1) := by decide +kernel
theorem dX2_placeBehind_0 : decode cX2_placeBehind 0 = .ok (.aload_n 0, 1) := by decide +kernel
theorem dX2_placeBehind_1 : decode cX2_placeBehind 1 = .ok (.getfield 15, 3) := by decide +kernel
theorem dX2_placeBehind_4 : decode cX2_placeBehind 4 = .ok (.istore_n 2, 1) := by decide +kernel
theorem dX2_placeBehind_5 : decode cX2_placeBehind 5 = .ok (.iconst 0, 1) := by decide +kernel
theorem dX2_placeBehind_6 : decode cX2_placeBehind 6 = .ok (.istore_n 3, 1) := by decide +kernel
theorem dX2_placeBehind_7 : decode cX2_placeBehind 7 = .ok (.iload_n 3, 1) := by decide +kernel
theorem dX2_placeBehind_8 : decode cX2_placeBehind 8 = .ok (.iload_n 1, 1) := by decide +kernel
theorem dX2_placeBehind_9 : decode cX2_placeBehind 9 = .ok (.if_icmp .ge 28, 3) := by decide +kernel
theorem dX2_placeBehind_12 : decode cX2_placeBehind 12 = .ok (.iload_n 3, 1) := by decide +kernel
theorem dX2_placeBehind_13 : decode cX2_placeBehind 13 = .ok (.aload_n 0, 1) := by decide +kernel
theorem dX2_placeBehind_14 : decode cX2_placeBehind 14 = .ok (.getfield 18, 3) := by decide +kernel
theorem dX2_placeBehind_17 : decode cX2_placeBehind 17 = .ok (.if_icmp .ge 20, 3) := by decide +kernel
theorem dX2_placeBehind_20 : decode cX2_placeBehind 20 = .ok (.iload_n 2, 1) := by decide +kernel
theorem dX2_placeBehind_21 : decode cX2_placeBehind 21 = .ok (.aload_n 0, 1) := by decide +kernel
theorem dX2_placeBehind_22 : decode cX2_placeBehind 22 = .ok (.getfield 21, 3) := by decide +kernel
theorem dX2_placeBehind_25 : decode cX2_placeBehind 25 = .ok (.iload_n 3, 1) := by decide +kernel
theorem dX2_placeBehind_26 : decode cX2_placeBehind 26 = .ok (.iaload, 1) := by decide +kernel
theorem dX2_placeBehind_27 : decode cX2_placeBehind 27 = .ok (.invokestatic 46, 3) := by decide +kernel
theorem dX2_placeBehind_30 : decode cX2_placeBehind 30 = .ok (.istore_n 2, 1) := by decide +kernel
theorem dX2_placeBehind_31 : decode cX2_placeBehind 31 = .ok (.iinc 3 1, 3) := by decide +kernel
theorem dX2_placeBehind_34 : decode cX2_placeBehind 34 = .ok (.goto (-27), 3) := by decide +kernel
theorem dX2_placeBehind_37 : decode cX2_placeBehind 37 = .ok (.iload_n 2, 1) := by decide +kernel
theorem dX2_placeBehind_38 : decode cX2_placeBehind 38 = .ok (.ireturn, 1) := by decide +kernel
theorem dX2_hoursOfWalk_0 : decode cX2_hoursOfWalk 0 = .ok (.aload_n 0, 1) := by decide +kernel
theorem dX2_hoursOfWalk_1 : decode cX2_hoursOfWalk 1 = .ok (.invokevirtual 49, 3) := by decide +kernel
theorem dX2_hoursOfWalk_4 : decode cX2_hoursOfWalk 4 = .ok (.aload_n 0, 1) := by decide +kernel
theorem dX2_hoursOfWalk_5 : decode cX2_hoursOfWalk 5 = .ok (.invokevirtual 53, 3) := by decide +kernel
theorem dX2_hoursOfWalk_8 : decode cX2_hoursOfWalk 8 = .ok (.imul, 1) := by decide +kernel
theorem dX2_hoursOfWalk_9 : decode cX2_hoursOfWalk 9 = .ok (.ireturn, 1) := by decide +kernel
theorem dX2_stepsOfWalk_0 : decode cX2_stepsOfWalk 0 = .ok (.aload_n 0, 1) := by decide +kernel
theorem dX2_stepsOfWalk_1 : decode cX2_stepsOfWalk 1 = .ok (.getfield 9, 3) := by decide +kernel
theorem dX2_stepsOfWalk_4 : decode cX2_stepsOfWalk 4 = .ok (.lookupswitch 42 #[(1, 28), (4, 35)], 28) := by decide +kernel
theorem dX2_stepsOfWalk_32 : decode cX2_stepsOfWalk 32 = .ok (.iconst 2, 1) := by decide +kernel
theorem dX2_stepsOfWalk_33 : decode cX2_stepsOfWalk 33 = .ok (.aload_n 0, 1) := by decide +kernel
theorem dX2_stepsOfWalk_34 : decode cX2_stepsOfWalk 34 = .ok (.getfield 18, 3) := by decide +kernel
theorem dX2_stepsOfWalk_37 : decode cX2_stepsOfWalk 37 = .ok (.imul, 1) := by decide +kernel
theorem dX2_stepsOfWalk_38 : decode cX2_stepsOfWalk 38 = .ok (.ireturn, 1) := by decide +kernel
theorem dX2_stepsOfWalk_39 : decode cX2_stepsOfWalk 39 = .ok (.iconst 4, 1) := by decide +kernel
theorem dX2_stepsOfWalk_40 : decode cX2_stepsOfWalk 40 = .ok (.aload_n 0, 1) := by decide +kernel
theorem dX2_stepsOfWalk_41 : decode cX2_stepsOfWalk 41 = .ok (.getfield 18, 3) := by decide +kernel
theorem dX2_stepsOfWalk_44 : decode cX2_stepsOfWalk 44 = .ok (.imul, 1) := by decide +kernel
theorem dX2_stepsOfWalk_45 : decode cX2_stepsOfWalk 45 = .ok (.ireturn, 1) := by decide +kernel
theorem dX2_stepsOfWalk_46 : decode cX2_stepsOfWalk 46 = .ok (.aload_n 0, 1) := by decide +kernel
theorem dX2_stepsOfWalk_47 : decode cX2_stepsOfWalk 47 = .ok (.getfield 18, 3) := by decide +kernel
theorem dX2_stepsOfWalk_50 : decode cX2_stepsOfWalk 50 = .ok (.ireturn, 1) := by decide +kernel
theorem dX2_hoursPerStep_0 : decode cX2_hoursPerStep 0 = .ok (.aload_n 0, 1) := by decide +kernel
theorem dX2_hoursPerStep_1 : decode cX2_hoursPerStep 1 = .ok (.getfield 9, 3) := by decide +kernel
theorem dX2_hoursPerStep_4 : decode cX2_hoursPerStep 4 = .ok (.iconst 2, 1) := by decide +kernel
theorem dX2_hoursPerStep_5 : decode cX2_hoursPerStep 5 = .ok (.if_icmp .ne 7, 3) := by decide +kernel
theorem dX2_hoursPerStep_8 : decode cX2_hoursPerStep 8 = .ok (.iconst 2, 1) := by decide +kernel
theorem dX2_hoursPerStep_9 : decode cX2_hoursPerStep 9 = .ok (.goto 4, 3) := by decide +kernel
theorem dX2_hoursPerStep_12 : decode cX2_hoursPerStep 12 = .ok (.iconst 1, 1) := by decide +kernel
theorem dX2_hoursPerStep_13 : decode cX2_hoursPerStep 13 = .ok (.ireturn, 1) := by decide +kernel
theorem dX2_retrace_0 : decode cX2_retrace 0 = .ok (.aload_n 0, 1) := by decide +kernel
theorem dX2_retrace_1 : decode cX2_retrace 1 = .ok (.getfield 15, 3) := by decide +kernel
theorem dX2_retrace_4 : decode cX2_retrace 4 = .ok (.istore_n 1, 1) := by decide +kernel
theorem dX2_retrace_5 : decode cX2_retrace 5 = .ok (.iconst 0, 1) := by decide +kernel
theorem dX2_retrace_6 : decode cX2_retrace 6 = .ok (.istore_n 2, 1) := by decide +kernel
theorem dX2_retrace_7 : decode cX2_retrace 7 = .ok (.aload_n 0, 1) := by decide +kernel
theorem dX2_retrace_8 : decode cX2_retrace 8 = .ok (.getfield 25, 3) := by decide +kernel
theorem dX2_retrace_11 : decode cX2_retrace 11 = .ok (.iconst 0, 1) := by decide +kernel
theorem dX2_retrace_12 : decode cX2_retrace 12 = .ok (.iload_n 1, 1) := by decide +kernel
theorem dX2_retrace_13 : decode cX2_retrace 13 = .ok (.iastore, 1) := by decide +kernel
theorem dX2_retrace_14 : decode cX2_retrace 14 = .ok (.aload_n 0, 1) := by decide +kernel
theorem dX2_retrace_15 : decode cX2_retrace 15 = .ok (.iconst 1, 1) := by decide +kernel
theorem dX2_retrace_16 : decode cX2_retrace 16 = .ok (.iload_n 1, 1) := by decide +kernel
theorem dX2_retrace_17 : decode cX2_retrace 17 = .ok (.ishl, 1) := by decide +kernel
theorem dX2_retrace_18 : decode cX2_retrace 18 = .ok (.putfield 28, 3) := by decide +kernel
theorem dX2_retrace_21 : decode cX2_retrace 21 = .ok (.iconst 1, 1) := by decide +kernel
theorem dX2_retrace_22 : decode cX2_retrace 22 = .ok (.istore_n 3, 1) := by decide +kernel
theorem dX2_retrace_23 : decode cX2_retrace 23 = .ok (.iload_n 3, 1) := by decide +kernel
theorem dX2_retrace_24 : decode cX2_retrace 24 = .ok (.bipush 30, 2) := by decide +kernel
theorem dX2_retrace_26 : decode cX2_retrace 26 = .ok (.if_icmp .gt 58, 3) := by decide +kernel
theorem dX2_retrace_29 : decode cX2_retrace 29 = .ok (.iload_n 3, 1) := by decide +kernel
theorem dX2_retrace_30 : decode cX2_retrace 30 = .ok (.aload_n 0, 1) := by decide +kernel
theorem dX2_retrace_31 : decode cX2_retrace 31 = .ok (.invokevirtual 56, 3) := by decide +kernel
theorem dX2_retrace_34 : decode cX2_retrace 34 = .ok (.if_icmp .gt 25, 3) := by decide +kernel
theorem dX2_retrace_37 : decode cX2_retrace 37 = .ok (.iload_n 3, 1) := by decide +kernel
theorem dX2_retrace_38 : decode cX2_retrace 38 = .ok (.aload_n 0, 1) := by decide +kernel
theorem dX2_retrace_39 : decode cX2_retrace 39 = .ok (.invokevirtual 53, 3) := by decide +kernel
theorem dX2_retrace_42 : decode cX2_retrace 42 = .ok (.irem, 1) := by decide +kernel
theorem dX2_retrace_43 : decode cX2_retrace 43 = .ok (.ifCond .ne 16, 3) := by decide +kernel
theorem dX2_retrace_46 : decode cX2_retrace 46 = .ok (.iload_n 1, 1) := by decide +kernel
theorem dX2_retrace_47 : decode cX2_retrace 47 = .ok (.aload_n 0, 1) := by decide +kernel
theorem dX2_retrace_48 : decode cX2_retrace 48 = .ok (.iload_n 2, 1) := by decide +kernel
theorem dX2_retrace_49 : decode cX2_retrace 49 = .ok (.invokevirtual 59, 3) := by decide +kernel
theorem dX2_retrace_52 : decode cX2_retrace 52 = .ok (.invokestatic 46, 3) := by decide +kernel
theorem dX2_retrace_55 : decode cX2_retrace 55 = .ok (.istore_n 1, 1) := by decide +kernel
theorem dX2_retrace_56 : decode cX2_retrace 56 = .ok (.iinc 2 1, 3) := by decide +kernel
theorem dX2_retrace_59 : decode cX2_retrace 59 = .ok (.aload_n 0, 1) := by decide +kernel
theorem dX2_retrace_60 : decode cX2_retrace 60 = .ok (.getfield 25, 3) := by decide +kernel
theorem dX2_retrace_63 : decode cX2_retrace 63 = .ok (.iload_n 3, 1) := by decide +kernel
theorem dX2_retrace_64 : decode cX2_retrace 64 = .ok (.iload_n 1, 1) := by decide +kernel
theorem dX2_retrace_65 : decode cX2_retrace 65 = .ok (.iastore, 1) := by decide +kernel
theorem dX2_retrace_66 : decode cX2_retrace 66 = .ok (.aload_n 0, 1) := by decide +kernel
theorem dX2_retrace_67 : decode cX2_retrace 67 = .ok (.dup, 1) := by decide +kernel
theorem dX2_retrace_68 : decode cX2_retrace 68 = .ok (.getfield 28, 3) := by decide +kernel
theorem dX2_retrace_71 : decode cX2_retrace 71 = .ok (.iconst 1, 1) := by decide +kernel
theorem dX2_retrace_72 : decode cX2_retrace 72 = .ok (.iload_n 1, 1) := by decide +kernel
theorem dX2_retrace_73 : decode cX2_retrace 73 = .ok (.ishl, 1) := by decide +kernel
theorem dX2_retrace_74 : decode cX2_retrace 74 = .ok (.ior, 1) := by decide +kernel
theorem dX2_retrace_75 : decode cX2_retrace 75 = .ok (.putfield 28, 3) := by decide +kernel
theorem dX2_retrace_78 : decode cX2_retrace 78 = .ok (.iinc 3 1, 3) := by decide +kernel
theorem dX2_retrace_81 : decode cX2_retrace 81 = .ok (.goto (-58), 3) := by decide +kernel
theorem dX2_retrace_84 : decode cX2_retrace 84 = .ok (.return_, 1) := by decide +kernel
theorem dX2_directionOf_0 : decode cX2_directionOf 0 = .ok (.aload_n 0, 1) := by decide +kernel
theorem dX2_directionOf_1 : decode cX2_directionOf 1 = .ok (.getfield 18, 3) := by decide +kernel
theorem dX2_directionOf_4 : decode cX2_directionOf 4 = .ok (.ifCond .ne 5, 3) := by decide +kernel
theorem dX2_directionOf_7 : decode cX2_directionOf 7 = .ok (.iconst (-1), 1) := by decide +kernel
theorem dX2_directionOf_8 : decode cX2_directionOf 8 = .ok (.ireturn, 1) := by decide +kernel
theorem dX2_directionOf_9 : decode cX2_directionOf 9 = .ok (.iload_n 1, 1) := by decide +kernel
theorem dX2_directionOf_10 : decode cX2_directionOf 10 = .ok (.aload_n 0, 1) := by decide +kernel
theorem dX2_directionOf_11 : decode cX2_directionOf 11 = .ok (.getfield 18, 3) := by decide +kernel
theorem dX2_directionOf_14 : decode cX2_directionOf 14 = .ok (.irem, 1) := by decide +kernel
theorem dX2_directionOf_15 : decode cX2_directionOf 15 = .ok (.istore_n 2, 1) := by decide +kernel
theorem dX2_directionOf_16 : decode cX2_directionOf 16 = .ok (.iload_n 1, 1) := by decide +kernel
theorem dX2_directionOf_17 : decode cX2_directionOf 17 = .ok (.aload_n 0, 1) := by decide +kernel
theorem dX2_directionOf_18 : decode cX2_directionOf 18 = .ok (.getfield 18, 3) := by decide +kernel
theorem dX2_directionOf_21 : decode cX2_directionOf 21 = .ok (.idiv, 1) := by decide +kernel
theorem dX2_directionOf_22 : decode cX2_directionOf 22 = .ok (.iconst 2, 1) := by decide +kernel
theorem dX2_directionOf_23 : decode cX2_directionOf 23 = .ok (.irem, 1) := by decide +kernel
theorem dX2_directionOf_24 : decode cX2_directionOf 24 = .ok (.iconst 1, 1) := by decide +kernel
theorem dX2_directionOf_25 : decode cX2_directionOf 25 = .ok (.if_icmp .ne 7, 3) := by decide +kernel
theorem dX2_directionOf_28 : decode cX2_directionOf 28 = .ok (.iconst 1, 1) := by decide +kernel
theorem dX2_directionOf_29 : decode cX2_directionOf 29 = .ok (.goto 4, 3) := by decide +kernel
theorem dX2_directionOf_32 : decode cX2_directionOf 32 = .ok (.iconst 0, 1) := by decide +kernel
theorem dX2_directionOf_33 : decode cX2_directionOf 33 = .ok (.istore_n 3, 1) := by decide +kernel
theorem dX2_directionOf_34 : decode cX2_directionOf 34 = .ok (.iload_n 3, 1) := by decide +kernel
theorem dX2_directionOf_35 : decode cX2_directionOf 35 = .ok (.ifCond .eq 19, 3) := by decide +kernel
theorem dX2_directionOf_38 : decode cX2_directionOf 38 = .ok (.aload_n 0, 1) := by decide +kernel
theorem dX2_directionOf_39 : decode cX2_directionOf 39 = .ok (.getfield 21, 3) := by decide +kernel
theorem dX2_directionOf_42 : decode cX2_directionOf 42 = .ok (.aload_n 0, 1) := by decide +kernel
theorem dX2_directionOf_43 : decode cX2_directionOf 43 = .ok (.getfield 18, 3) := by decide +kernel
theorem dX2_directionOf_46 : decode cX2_directionOf 46 = .ok (.iconst 1, 1) := by decide +kernel
theorem dX2_directionOf_47 : decode cX2_directionOf 47 = .ok (.isub, 1) := by decide +kernel
theorem dX2_directionOf_48 : decode cX2_directionOf 48 = .ok (.iload_n 2, 1) := by decide +kernel
theorem dX2_directionOf_49 : decode cX2_directionOf 49 = .ok (.isub, 1) := by decide +kernel
theorem dX2_directionOf_50 : decode cX2_directionOf 50 = .ok (.iaload, 1) := by decide +kernel
theorem dX2_directionOf_51 : decode cX2_directionOf 51 = .ok (.goto 9, 3) := by decide +kernel
theorem dX2_directionOf_54 : decode cX2_directionOf 54 = .ok (.aload_n 0, 1) := by decide +kernel
theorem dX2_directionOf_55 : decode cX2_directionOf 55 = .ok (.getfield 21, 3) := by decide +kernel
theorem dX2_directionOf_58 : decode cX2_directionOf 58 = .ok (.iload_n 2, 1) := by decide +kernel
theorem dX2_directionOf_59 : decode cX2_directionOf 59 = .ok (.iaload, 1) := by decide +kernel
theorem dX2_directionOf_60 : decode cX2_directionOf 60 = .ok (.istore 4, 2) := by decide +kernel
theorem dX2_directionOf_62 : decode cX2_directionOf 62 = .ok (.iload_n 3, 1) := by decide +kernel
theorem dX2_directionOf_63 : decode cX2_directionOf 63 = .ok (.ifCond .ne 11, 3) := by decide +kernel
theorem dX2_directionOf_66 : decode cX2_directionOf 66 = .ok (.aload_n 0, 1) := by decide +kernel
theorem dX2_directionOf_67 : decode cX2_directionOf 67 = .ok (.getfield 9, 3) := by decide +kernel
theorem dX2_directionOf_70 : decode cX2_directionOf 70 = .ok (.iconst 3, 1) := by decide +kernel
theorem dX2_directionOf_71 : decode cX2_directionOf 71 = .ok (.if_icmp .ne 12, 3) := by decide +kernel
theorem dX2_directionOf_74 : decode cX2_directionOf 74 = .ok (.iload 4, 2) := by decide +kernel
theorem dX2_directionOf_76 : decode cX2_directionOf 76 = .ok (.iconst 2, 1) := by decide +kernel
theorem dX2_directionOf_77 : decode cX2_directionOf 77 = .ok (.iadd, 1) := by decide +kernel
theorem dX2_directionOf_78 : decode cX2_directionOf 78 = .ok (.iconst 4, 1) := by decide +kernel
theorem dX2_directionOf_79 : decode cX2_directionOf 79 = .ok (.irem, 1) := by decide +kernel
theorem dX2_directionOf_80 : decode cX2_directionOf 80 = .ok (.goto 5, 3) := by decide +kernel
theorem dX2_directionOf_83 : decode cX2_directionOf 83 = .ok (.iload 4, 2) := by decide +kernel
theorem dX2_directionOf_85 : decode cX2_directionOf 85 = .ok (.ireturn, 1) := by decide +kernel
theorem dX3_init_0 : decode cX3_init 0 = .ok (.aload_n 0, 1) := by decide +kernel
theorem dX3_init_1 : decode cX3_init 1 = .ok (.invokespecial 1, 3) := by decide +kernel
theorem dX3_init_4 : decode cX3_init 4 = .ok (.aload_n 0, 1) := by decide +kernel
theorem dX3_init_5 : decode cX3_init 5 = .ok (.new 7, 3) := by decide +kernel
theorem dX3_init_8 : decode cX3_init 8 = .ok (.dup, 1) := by decide +kernel
theorem dX3_init_9 : decode cX3_init 9 = .ok (.invokespecial 9, 3) := by decide +kernel
theorem dX3_init_12 : decode cX3_init 12 = .ok (.putfield 10, 3) := by decide +kernel
theorem dX3_init_15 : decode cX3_init 15 = .ok (.aload_n 0, 1) := by decide +kernel
theorem dX3_init_16 : decode cX3_init 16 = .ok (.new 16, 3) := by decide +kernel
theorem dX3_init_19 : decode cX3_init 19 = .ok (.dup, 1) := by decide +kernel
theorem dX3_init_20 : decode cX3_init 20 = .ok (.invokespecial 18, 3) := by decide +kernel
theorem dX3_init_23 : decode cX3_init 23 = .ok (.putfield 19, 3) := by decide +kernel
theorem dX3_init_26 : decode cX3_init 26 = .ok (.aload_n 0, 1) := by decide +kernel
theorem dX3_init_27 : decode cX3_init 27 = .ok (.new 16, 3) := by decide +kernel
theorem dX3_init_30 : decode cX3_init 30 = .ok (.dup, 1) := by decide +kernel
theorem dX3_init_31 : decode cX3_init 31 = .ok (.invokespecial 18, 3) := by decide +kernel
theorem dX3_init_34 : decode cX3_init 34 = .ok (.putfield 23, 3) := by decide +kernel
theorem dX3_init_37 : decode cX3_init 37 = .ok (.aload_n 0, 1) := by decide +kernel
theorem dX3_init_38 : decode cX3_init 38 = .ok (.bipush 6, 2) := by decide +kernel
theorem dX3_init_40 : decode cX3_init 40 = .ok (.newarray .int, 2) := by decide +kernel
theorem dX3_init_42 : decode cX3_init 42 = .ok (.putfield 26, 3) := by decide +kernel
theorem dX3_init_45 : decode cX3_init 45 = .ok (.aload_n 0, 1) := by decide +kernel
theorem dX3_init_46 : decode cX3_init 46 = .ok (.iconst 0, 1) := by decide +kernel
theorem dX3_init_47 : decode cX3_init 47 = .ok (.putfield 30, 3) := by decide +kernel
theorem dX3_init_50 : decode cX3_init 50 = .ok (.aload_n 0, 1) := by decide +kernel
theorem dX3_init_51 : decode cX3_init 51 = .ok (.iconst 0, 1) := by decide +kernel
theorem dX3_init_52 : decode cX3_init 52 = .ok (.putfield 34, 3) := by decide +kernel
theorem dX3_init_55 : decode cX3_init 55 = .ok (.return_, 1) := by decide +kernel
theorem dX3_letter_0 : decode cX3_letter 0 = .ok (.iload_n 1, 1) := by decide +kernel
theorem dX3_letter_1 : decode cX3_letter 1 = .ok (.iconst 1, 1) := by decide +kernel
theorem dX3_letter_2 : decode cX3_letter 2 = .ok (.if_icmp .lt 9, 3) := by decide +kernel
theorem dX3_letter_5 : decode cX3_letter 5 = .ok (.iload_n 1, 1) := by decide +kernel
theorem dX3_letter_6 : decode cX3_letter 6 = .ok (.bipush 126, 2) := by decide +kernel
theorem dX3_letter_8 : decode cX3_letter 8 = .ok (.if_icmp .le 6, 3) := by decide +kernel
theorem dX3_letter_11 : decode cX3_letter 11 = .ok (.bipush (-102), 2) := by decide +kernel
theorem dX3_letter_13 : decode cX3_letter 13 = .ok (.ireturn, 1) := by decide +kernel
theorem dX3_letter_14 : decode cX3_letter 14 = .ok (.aload_n 0, 1) := by decide +kernel
theorem dX3_letter_15 : decode cX3_letter 15 = .ok (.getfield 10, 3) := by decide +kernel
theorem dX3_letter_18 : decode cX3_letter 18 = .ok (.iload_n 1, 1) := by decide +kernel
theorem dX3_letter_19 : decode cX3_letter 19 = .ok (.i2c, 1) := by decide +kernel
theorem dX3_letter_20 : decode cX3_letter 20 = .ok (.invokevirtual 38, 3) := by decide +kernel
theorem dX3_letter_23 : decode cX3_letter 23 = .ok (.ifCond .eq 13, 3) := by decide +kernel
theorem dX3_letter_26 : decode cX3_letter 26 = .ok (.aload_n 0, 1) := by decide +kernel
theorem dX3_letter_27 : decode cX3_letter 27 = .ok (.getfield 10, 3) := by decide +kernel
theorem dX3_letter_30 : decode cX3_letter 30 = .ok (.getfield 42, 3) := by decide +kernel
theorem dX3_letter_33 : decode cX3_letter 33 = .ok (.goto 5, 3) := by decide +kernel
theorem dX3_letter_36 : decode cX3_letter 36 = .ok (.bipush (-104), 2) := by decide +kernel
theorem dX3_letter_38 : decode cX3_letter 38 = .ok (.ireturn, 1) := by decide +kernel
theorem dX3_blank_0 : decode cX3_blank 0 = .ok (.aload_n 0, 1) := by decide +kernel
theorem dX3_blank_1 : decode cX3_blank 1 = .ok (.getfield 10, 3) := by decide +kernel
theorem dX3_blank_4 : decode cX3_blank 4 = .ok (.getfield 42, 3) := by decide +kernel
theorem dX3_blank_7 : decode cX3_blank 7 = .ok (.istore_n 1, 1) := by decide +kernel
theorem dX3_blank_8 : decode cX3_blank 8 = .ok (.aload_n 0, 1) := by decide +kernel
theorem dX3_blank_9 : decode cX3_blank 9 = .ok (.getfield 10, 3) := by decide +kernel
theorem dX3_blank_12 : decode cX3_blank 12 = .ok (.iconst 0, 1) := by decide +kernel
theorem dX3_blank_13 : decode cX3_blank 13 = .ok (.putfield 42, 3) := by decide +kernel
theorem dX3_blank_16 : decode cX3_blank 16 = .ok (.iload_n 1, 1) := by decide +kernel
theorem dX3_blank_17 : decode cX3_blank 17 = .ok (.ireturn, 1) := by decide +kernel
theorem dX3_fault_0 : decode cX3_fault 0 = .ok (.aload_n 0, 1) := by decide +kernel
theorem dX3_fault_1 : decode cX3_fault 1 = .ok (.getfield 10, 3) := by decide +kernel
theorem dX3_fault_4 : decode cX3_fault 4 = .ok (.invokevirtual 45, 3) := by decide +kernel
theorem dX3_fault_7 : decode cX3_fault 7 = .ok (.ireturn, 1) := by decide +kernel
theorem dX3_hills_0 : decode cX3_hills 0 = .ok (.aload_n 0, 1) := by decide +kernel
theorem dX3_hills_1 : decode cX3_hills 1 = .ok (.getfield 10, 3) := by decide +kernel
theorem dX3_hills_4 : decode cX3_hills 4 = .ok (.invokevirtual 49, 3) := by decide +kernel
theorem dX3_hills_7 : decode cX3_hills 7 = .ok (.ifCond .ne 6, 3) := by decide +kernel
theorem dX3_hills_10 : decode cX3_hills 10 = .ok (.bipush (-103), 2) := by decide +kernel
theorem dX3_hills_12 : decode cX3_hills 12 = .ok (.ireturn, 1) := by decide +kernel
theorem dX3_hills_13 : decode cX3_hills 13 = .ok (.aload_n 0, 1) := by decide +kernel
theorem dX3_hills_14 : decode cX3_hills 14 = .ok (.getfield 10, 3) := by decide +kernel
theorem dX3_hills_17 : decode cX3_hills 17 = .ok (.aload_n 0, 1) := by decide +kernel
theorem dX3_hills_18 : decode cX3_hills 18 = .ok (.getfield 19, 3) := by decide +kernel
theorem dX3_hills_21 : decode cX3_hills 21 = .ok (.invokevirtual 53, 3) := by decide +kernel
theorem dX3_hills_24 : decode cX3_hills 24 = .ok (.aload_n 0, 1) := by decide +kernel
theorem dX3_hills_25 : decode cX3_hills 25 = .ok (.getfield 10, 3) := by decide +kernel
theorem dX3_hills_28 : decode cX3_hills 28 = .ok (.iconst 0, 1) := by decide +kernel
theorem dX3_hills_29 : decode cX3_hills 29 = .ok (.putfield 42, 3) := by decide +kernel
theorem dX3_hills_32 : decode cX3_hills 32 = .ok (.aload_n 0, 1) := by decide +kernel
theorem dX3_hills_33 : decode cX3_hills 33 = .ok (.iconst 0, 1) := by decide +kernel
theorem dX3_hills_34 : decode cX3_hills 34 = .ok (.putfield 30, 3) := by decide +kernel
theorem dX3_hills_37 : decode cX3_hills 37 = .ok (.aload_n 0, 1) := by decide +kernel
theorem dX3_hills_38 : decode cX3_hills 38 = .ok (.dup, 1) := by decide +kernel
theorem dX3_hills_39 : decode cX3_hills 39 = .ok (.getfield 34, 3) := by decide +kernel
theorem dX3_hills_42 : decode cX3_hills 42 = .ok (.iconst 1, 1) := by decide +kernel
theorem dX3_hills_43 : decode cX3_hills 43 = .ok (.iadd, 1) := by decide +kernel
theorem dX3_hills_44 : decode cX3_hills 44 = .ok (.putfield 34, 3) := by decide +kernel
theorem dX3_hills_47 : decode cX3_hills 47 = .ok (.aload_n 0, 1) := by decide +kernel
theorem dX3_hills_48 : decode cX3_hills 48 = .ok (.getfield 19, 3) := by decide +kernel
theorem dX3_hills_51 : decode cX3_hills 51 = .ok (.getfield 57, 3) := by decide +kernel
theorem dX3_hills_54 : decode cX3_hills 54 = .ok (.ireturn, 1) := by decide +kernel
theorem dX3_stick_0 : decode cX3_stick 0 = .ok (.aload_n 0, 1) := by decide +kernel
theorem dX3_stick_1 : decode cX3_stick 1 = .ok (.getfield 19, 3) := by decide +kernel
theorem dX3_stick_4 : decode cX3_stick 4 = .ok (.iload_n 1, 1) := by decide +kernel
theorem dX3_stick_5 : decode cX3_stick 5 = .ok (.invokevirtual 60, 3) := by decide +kernel
theorem dX3_stick_8 : decode cX3_stick 8 = .ok (.ifCond .ne 6, 3) := by decide +kernel
theorem dX3_stick_11 : decode cX3_stick 11 = .ok (.bipush (-101), 2) := by decide +kernel
theorem dX3_stick_13 : decode cX3_stick 13 = .ok (.ireturn, 1) := by decide +kernel
theorem dX3_stick_14 : decode cX3_stick 14 = .ok (.aload_n 0, 1) := by decide +kernel
theorem dX3_stick_15 : decode cX3_stick 15 = .ok (.getfield 19, 3) := by decide +kernel
theorem dX3_stick_18 : decode cX3_stick 18 = .ok (.getfield 64, 3) := by decide +kernel
theorem dX3_stick_21 : decode cX3_stick 21 = .ok (.iload_n 1, 1) := by decide +kernel
theorem dX3_stick_22 : decode cX3_stick 22 = .ok (.aaload, 1) := by decide +kernel
theorem dX3_stick_23 : decode cX3_stick 23 = .ok (.astore_n 3, 1) := by decide +kernel
theorem dX3_stick_24 : decode cX3_stick 24 = .ok (.iload_n 2, 1) := by decide +kernel
theorem dX3_stick_25 : decode cX3_stick 25 = .ok (.bipush 10, 2) := by decide +kernel
theorem dX3_stick_27 : decode cX3_stick 27 = .ok (.if_icmp .lt 18, 3) := by decide +kernel
theorem dX3_stick_30 : decode cX3_stick 30 = .ok (.iload_n 2, 1) := by decide +kernel
theorem dX3_stick_31 : decode cX3_stick 31 = .ok (.bipush 15, 2) := by decide +kernel
theorem dX3_stick_33 : decode cX3_stick 33 = .ok (.if_icmp .ge 12, 3) := by decide +kernel
theorem dX3_stick_36 : decode cX3_stick 36 = .ok (.aload_n 3, 1) := by decide +kernel
theorem dX3_stick_37 : decode cX3_stick 37 = .ok (.iload_n 2, 1) := by decide +kernel
theorem dX3_stick_38 : decode cX3_stick 38 = .ok (.bipush 10, 2) := by decide +kernel
theorem dX3_stick_40 : decode cX3_stick 40 = .ok (.isub, 1) := by decide +kernel
theorem dX3_stick_41 : decode cX3_stick 41 = .ok (.invokevirtual 68, 3) := by decide +kernel
theorem dX3_stick_44 : decode cX3_stick 44 = .ok (.ireturn, 1) := by decide +kernel
theorem dX3_stick_45 : decode cX3_stick 45 = .ok (.iload_n 2, 1) := by decide +kernel
theorem dX3_stick_46 : decode cX3_stick 46 = .ok (.tableswitch 98 0 6 #[42, 47, 52, 57, 67, 82, 90], 42) := by decide +kernel
theorem dX3_stick_88 : decode cX3_stick 88 = .ok (.aload_n 3, 1) := by decide +kernel
theorem dX3_stick_89 : decode cX3_stick 89 = .ok (.getfield 74, 3) := by decide +kernel
theorem dX3_stick_92 : decode cX3_stick 92 = .ok (.ireturn, 1) := by decide +kernel
theorem dX3_stick_93 : decode cX3_stick 93 = .ok (.aload_n 3, 1) := by decide +kernel
theorem dX3_stick_94 : decode cX3_stick 94 = .ok (.getfield 77, 3) := by decide +kernel
theorem dX3_stick_97 : decode cX3_stick 97 = .ok (.ireturn, 1) := by decide +kernel
theorem dX3_stick_98 : decode cX3_stick 98 = .ok (.aload_n 3, 1) := by decide +kernel
theorem dX3_stick_99 : decode cX3_stick 99 = .ok (.getfield 80, 3) := by decide +kernel
theorem dX3_stick_102 : decode cX3_stick 102 = .ok (.ireturn, 1) := by decide +kernel
theorem dX3_stick_103 : decode cX3_stick 103 = .ok (.aload_n 0, 1) := by decide +kernel
theorem dX3_stick_104 : decode cX3_stick 104 = .ok (.getfield 19, 3) := by decide +kernel
theorem dX3_stick_107 : decode cX3_stick 107 = .ok (.getfield 83, 3) := by decide +kernel
theorem dX3_stick_110 : decode cX3_stick 110 = .ok (.iload_n 1, 1) := by decide +kernel
theorem dX3_stick_111 : decode cX3_stick 111 = .ok (.iaload, 1) := by decide +kernel
theorem dX3_stick_112 : decode cX3_stick 112 = .ok (.ireturn, 1) := by decide +kernel
theorem dX3_stick_113 : decode cX3_stick 113 = .ok (.aload_n 0, 1) := by decide +kernel
theorem dX3_stick_114 : decode cX3_stick 114 = .ok (.getfield 19, 3) := by decide +kernel
theorem dX3_stick_117 : decode cX3_stick 117 = .ok (.getfield 83, 3) := by decide +kernel
theorem dX3_stick_120 : decode cX3_stick 120 = .ok (.iload_n 1, 1) := by decide +kernel
theorem dX3_stick_121 : decode cX3_stick 121 = .ok (.iaload, 1) := by decide +kernel
theorem dX3_stick_122 : decode cX3_stick 122 = .ok (.aload_n 3, 1) := by decide +kernel
theorem dX3_stick_123 : decode cX3_stick 123 = .ok (.invokevirtual 86, 3) := by decide +kernel
theorem dX3_stick_126 : decode cX3_stick 126 = .ok (.iadd, 1) := by decide +kernel
theorem dX3_stick_127 : decode cX3_stick 127 = .ok (.ireturn, 1) := by decide +kernel
theorem dX3_stick_128 : decode cX3_stick 128 = .ok (.aload_n 3, 1) := by decide +kernel
theorem dX3_stick_129 : decode cX3_stick 129 = .ok (.getfield 89, 3) := by decide +kernel
theorem dX3_stick_132 : decode cX3_stick 132 = .ok (.bipush 30, 2) := by decide +kernel
theorem dX3_stick_134 : decode cX3_stick 134 = .ok (.iaload, 1) := by decide +kernel
theorem dX3_stick_135 : decode cX3_stick 135 = .ok (.ireturn, 1) := by decide +kernel
theorem dX3_stick_136 : decode cX3_stick 136 = .ok (.aload_n 3, 1) := by decide +kernel
theorem dX3_stick_137 : decode cX3_stick 137 = .ok (.getfield 92, 3) := by decide +kernel
theorem dX3_stick_140 : decode cX3_stick 140 = .ok (.invokestatic 95, 3) := by decide +kernel
theorem dX3_stick_143 : decode cX3_stick 143 = .ok (.ireturn, 1) := by decide +kernel
theorem dX3_stick_144 : decode cX3_stick 144 = .ok (.bipush (-102), 2) := by decide +kernel
theorem dX3_stick_146 : decode cX3_stick 146 = .ok (.ireturn, 1) := by decide +kernel
theorem dX3_as_0 : decode cX3_as 0 = .ok (.aload_n 0, 1) := by decide +kernel
theorem dX3_as_1 : decode cX3_as 1 = .ok (.getfield 19, 3) := by decide +kernel
theorem dX3_as_4 : decode cX3_as 4 = .ok (.iload_n 1, 1) := by decide +kernel
theorem dX3_as_5 : decode cX3_as 5 = .ok (.invokevirtual 60, 3) := by decide +kernel
theorem dX3_as_8 : decode cX3_as 8 = .ok (.ifCond .ne 6, 3) := by decide +kernel
theorem dX3_as_11 : decode cX3_as 11 = .ok (.bipush (-101), 2) := by decide +kernel
theorem dX3_as_13 : decode cX3_as 13 = .ok (.ireturn, 1) := by decide +kernel
theorem dX3_as_14 : decode cX3_as 14 = .ok (.iload_n 2, 1) := by decide +kernel
theorem dX3_as_15 : decode cX3_as 15 = .ok (.ifCond .lt 12, 3) := by decide +kernel
theorem dX3_as_18 : decode cX3_as 18 = .ok (.iload_n 2, 1) := by decide +kernel
theorem dX3_as_19 : decode cX3_as 19 = .ok (.ldc 100, 2) := by decide +kernel
theorem dX3_as_21 : decode cX3_as 21 = .ok (.invokevirtual 102, 3) := by decide +kernel
theorem dX3_as_24 : decode cX3_as 24 = .ok (.if_icmp .lt 6, 3) := by decide +kernel
theorem dX3_as_27 : decode cX3_as 27 = .ok (.bipush (-102), 2) := by decide +kernel
theorem dX3_as_29 : decode cX3_as 29 = .ok (.ireturn, 1) := by decide +kernel
theorem dX3_as_30 : decode cX3_as 30 = .ok (.aload_n 0, 1) := by decide +kernel
theorem dX3_as_31 : decode cX3_as 31 = .ok (.getfield 19, 3) := by decide +kernel
theorem dX3_as_34 : decode cX3_as 34 = .ok (.getfield 64, 3) := by decide +kernel
theorem dX3_as_37 : decode cX3_as 37 = .ok (.iload_n 1, 1) := by decide +kernel
theorem dX3_as_38 : decode cX3_as 38 = .ok (.aaload, 1) := by decide +kernel
theorem dX3_as_39 : decode cX3_as 39 = .ok (.iload_n 2, 1) := by decide +kernel
theorem dX3_as_40 : decode cX3_as 40 = .ok (.invokevirtual 106, 3) := by decide +kernel
theorem dX3_as_43 : decode cX3_as 43 = .ok (.ifCond .eq 7, 3) := by decide +kernel
theorem dX3_as_46 : decode cX3_as 46 = .ok (.iload_n 1, 1) := by decide +kernel
theorem dX3_as_47 : decode cX3_as 47 = .ok (.goto 4, 3) := by decide +kernel
theorem dX3_as_50 : decode cX3_as 50 = .ok (.iconst (-1), 1) := by decide +kernel
theorem dX3_as_51 : decode cX3_as 51 = .ok (.ireturn, 1) := by decide +kernel
theorem dX3_at_0 : decode cX3_at 0 = .ok (.aload_n 0, 1) := by decide +kernel
theorem dX3_at_1 : decode cX3_at 1 = .ok (.getfield 19, 3) := by decide +kernel
theorem dX3_at_4 : decode cX3_at 4 = .ok (.iload_n 1, 1) := by decide +kernel
theorem dX3_at_5 : decode cX3_at 5 = .ok (.invokevirtual 60, 3) := by decide +kernel
theorem dX3_at_8 : decode cX3_at 8 = .ok (.ifCond .ne 6, 3) := by decide +kernel
theorem dX3_at_11 : decode cX3_at 11 = .ok (.bipush (-101), 2) := by decide +kernel
theorem dX3_at_13 : decode cX3_at 13 = .ok (.ireturn, 1) := by decide +kernel
theorem dX3_at_14 : decode cX3_at 14 = .ok (.iload_n 2, 1) := by decide +kernel
theorem dX3_at_15 : decode cX3_at 15 = .ok (.invokestatic 109, 3) := by decide +kernel
theorem dX3_at_18 : decode cX3_at 18 = .ok (.ifCond .eq 15, 3) := by decide +kernel
theorem dX3_at_21 : decode cX3_at 21 = .ok (.aload_n 0, 1) := by decide +kernel
theorem dX3_at_22 : decode cX3_at 22 = .ok (.getfield 19, 3) := by decide +kernel
theorem dX3_at_25 : decode cX3_at 25 = .ok (.iload_n 1, 1) := by decide +kernel
theorem dX3_at_26 : decode cX3_at 26 = .ok (.iload_n 2, 1) := by decide +kernel
theorem dX3_at_27 : decode cX3_at 27 = .ok (.invokevirtual 112, 3) := by decide +kernel
theorem dX3_at_30 : decode cX3_at 30 = .ok (.goto 5, 3) := by decide +kernel
theorem dX3_at_33 : decode cX3_at 33 = .ok (.bipush (-102), 2) := by decide +kernel
theorem dX3_at_35 : decode cX3_at 35 = .ok (.ireturn, 1) := by decide +kernel
theorem dX3_meet_0 : decode cX3_meet 0 = .ok (.aload_n 0, 1) := by decide +kernel
theorem dX3_meet_1 : decode cX3_meet 1 = .ok (.getfield 19, 3) := by decide +kernel
theorem dX3_meet_4 : decode cX3_meet 4 = .ok (.iload_n 1, 1) := by decide +kernel
theorem dX3_meet_5 : decode cX3_meet 5 = .ok (.iload_n 2, 1) := by decide +kernel
theorem dX3_meet_6 : decode cX3_meet 6 = .ok (.invokevirtual 116, 3) := by decide +kernel
theorem dX3_meet_9 : decode cX3_meet 9 = .ok (.ifCond .ne 6, 3) := by decide +kernel
theorem dX3_meet_12 : decode cX3_meet 12 = .ok (.bipush (-101), 2) := by decide +kernel
theorem dX3_meet_14 : decode cX3_meet 14 = .ok (.ireturn, 1) := by decide +kernel
theorem dX3_meet_15 : decode cX3_meet 15 = .ok (.aload_n 0, 1) := by decide +kernel
theorem dX3_meet_16 : decode cX3_meet 16 = .ok (.getfield 19, 3) := by decide +kernel
theorem dX3_meet_19 : decode cX3_meet 19 = .ok (.iload_n 1, 1) := by decide +kernel
theorem dX3_meet_20 : decode cX3_meet 20 = .ok (.aload_n 0, 1) := by decide +kernel
theorem dX3_meet_21 : decode cX3_meet 21 = .ok (.getfield 19, 3) := by decide +kernel
theorem dX3_meet_24 : decode cX3_meet 24 = .ok (.getfield 83, 3) := by decide +kernel
theorem dX3_meet_27 : decode cX3_meet 27 = .ok (.iload_n 1, 1) := by decide +kernel
theorem dX3_meet_28 : decode cX3_meet 28 = .ok (.iaload, 1) := by decide +kernel
theorem dX3_meet_29 : decode cX3_meet 29 = .ok (.iload_n 2, 1) := by decide +kernel
theorem dX3_meet_30 : decode cX3_meet 30 = .ok (.aload_n 0, 1) := by decide +kernel
theorem dX3_meet_31 : decode cX3_meet 31 = .ok (.getfield 19, 3) := by decide +kernel
theorem dX3_meet_34 : decode cX3_meet 34 = .ok (.getfield 83, 3) := by decide +kernel
theorem dX3_meet_37 : decode cX3_meet 37 = .ok (.iload_n 2, 1) := by decide +kernel
theorem dX3_meet_38 : decode cX3_meet 38 = .ok (.iaload, 1) := by decide +kernel
theorem dX3_meet_39 : decode cX3_meet 39 = .ok (.invokevirtual 120, 3) := by decide +kernel
theorem dX3_meet_42 : decode cX3_meet 42 = .ok (.ireturn, 1) := by decide +kernel
theorem dX3_late_0 : decode cX3_late 0 = .ok (.aload_n 0, 1) := by decide +kernel
theorem dX3_late_1 : decode cX3_late 1 = .ok (.getfield 19, 3) := by decide +kernel
theorem dX3_late_4 : decode cX3_late 4 = .ok (.iload_n 1, 1) := by decide +kernel
theorem dX3_late_5 : decode cX3_late 5 = .ok (.invokevirtual 60, 3) := by decide +kernel
theorem dX3_late_8 : decode cX3_late 8 = .ok (.ifCond .ne 6, 3) := by decide +kernel
theorem dX3_late_11 : decode cX3_late 11 = .ok (.bipush (-101), 2) := by decide +kernel
theorem dX3_late_13 : decode cX3_late 13 = .ok (.ireturn, 1) := by decide +kernel
theorem dX3_late_14 : decode cX3_late 14 = .ok (.iload_n 2, 1) := by decide +kernel
theorem dX3_late_15 : decode cX3_late 15 = .ok (.ifCond .lt 9, 3) := by decide +kernel
theorem dX3_late_18 : decode cX3_late 18 = .ok (.iload_n 2, 1) := by decide +kernel
theorem dX3_late_19 : decode cX3_late 19 = .ok (.bipush 9, 2) := by decide +kernel
theorem dX3_late_21 : decode cX3_late 21 = .ok (.if_icmp .le 6, 3) := by decide +kernel
theorem dX3_late_24 : decode cX3_late 24 = .ok (.bipush (-102), 2) := by decide +kernel
theorem dX3_late_26 : decode cX3_late 26 = .ok (.ireturn, 1) := by decide +kernel
theorem dX3_late_27 : decode cX3_late 27 = .ok (.aload_n 0, 1) := by decide +kernel
theorem dX3_late_28 : decode cX3_late 28 = .ok (.getfield 19, 3) := by decide +kernel
theorem dX3_late_31 : decode cX3_late 31 = .ok (.getfield 83, 3) := by decide +kernel
theorem dX3_late_34 : decode cX3_late 34 = .ok (.iload_n 1, 1) := by decide +kernel
theorem dX3_late_35 : decode cX3_late 35 = .ok (.iaload, 1) := by decide +kernel
theorem dX3_late_36 : decode cX3_late 36 = .ok (.istore_n 3, 1) := by decide +kernel
theorem dX3_late_37 : decode cX3_late 37 = .ok (.aload_n 0, 1) := by decide +kernel
theorem dX3_late_38 : decode cX3_late 38 = .ok (.getfield 19, 3) := by decide +kernel
theorem dX3_late_41 : decode cX3_late 41 = .ok (.getfield 83, 3) := by decide +kernel
theorem dX3_late_44 : decode cX3_late 44 = .ok (.iload_n 1, 1) := by decide +kernel
theorem dX3_late_45 : decode cX3_late 45 = .ok (.iload_n 2, 1) := by decide +kernel
theorem dX3_late_46 : decode cX3_late 46 = .ok (.iastore, 1) := by decide +kernel
theorem dX3_late_47 : decode cX3_late 47 = .ok (.aload_n 0, 1) := by decide +kernel
theorem dX3_late_48 : decode cX3_late 48 = .ok (.getfield 19, 3) := by decide +kernel
theorem dX3_late_51 : decode cX3_late 51 = .ok (.dup, 1) := by decide +kernel
theorem dX3_late_52 : decode cX3_late 52 = .ok (.getfield 124, 3) := by decide +kernel
theorem dX3_late_55 : decode cX3_late 55 = .ok (.iconst 1, 1) := by decide +kernel
theorem dX3_late_56 : decode cX3_late 56 = .ok (.iadd, 1) := by decide +kernel
theorem dX3_late_57 : decode cX3_late 57 = .ok (.putfield 124, 3) := by decide +kernel
theorem dX3_late_60 : decode cX3_late 60 = .ok (.iload_n 3, 1) := by decide +kernel
theorem dX3_late_61 : decode cX3_late 61 = .ok (.ireturn, 1) := by decide +kernel
theorem dX3_cut_0 : decode cX3_cut 0 = .ok (.aload_n 0, 1) := by decide +kernel
theorem dX3_cut_1 : decode cX3_cut 1 = .ok (.getfield 19, 3) := by decide +kernel
theorem dX3_cut_4 : decode cX3_cut 4 = .ok (.iload_n 1, 1) := by decide +kernel
theorem dX3_cut_5 : decode cX3_cut 5 = .ok (.invokevirtual 60, 3) := by decide +kernel
theorem dX3_cut_8 : decode cX3_cut 8 = .ok (.ifCond .ne 6, 3) := by decide +kernel
theorem dX3_cut_11 : decode cX3_cut 11 = .ok (.bipush (-101), 2) := by decide +kernel
theorem dX3_cut_13 : decode cX3_cut 13 = .ok (.ireturn, 1) := by decide +kernel
theorem dX3_cut_14 : decode cX3_cut 14 = .ok (.aload_n 0, 1) := by decide +kernel
theorem dX3_cut_15 : decode cX3_cut 15 = .ok (.getfield 19, 3) := by decide +kernel
theorem dX3_cut_18 : decode cX3_cut 18 = .ok (.getfield 64, 3) := by decide +kernel
theorem dX3_cut_21 : decode cX3_cut 21 = .ok (.iload_n 1, 1) := by decide +kernel
theorem dX3_cut_22 : decode cX3_cut 22 = .ok (.aaload, 1) := by decide +kernel
theorem dX3_cut_23 : decode cX3_cut 23 = .ok (.getfield 80, 3) := by decide +kernel
theorem dX3_cut_26 : decode cX3_cut 26 = .ok (.istore_n 3, 1) := by decide +kernel
theorem dX3_cut_27 : decode cX3_cut 27 = .ok (.iload_n 2, 1) := by decide +kernel
theorem dX3_cut_28 : decode cX3_cut 28 = .ok (.iconst 1, 1) := by decide +kernel
theorem dX3_cut_29 : decode cX3_cut 29 = .ok (.if_icmp .lt 8, 3) := by decide +kernel
theorem dX3_cut_32 : decode cX3_cut 32 = .ok (.iload_n 2, 1) := by decide +kernel
theorem dX3_cut_33 : decode cX3_cut 33 = .ok (.iload_n 3, 1) := by decide +kernel
theorem dX3_cut_34 : decode cX3_cut 34 = .ok (.if_icmp .le 6, 3) := by decide +kernel
theorem dX3_cut_37 : decode cX3_cut 37 = .ok (.bipush (-102), 2) := by decide +kernel
theorem dX3_cut_39 : decode cX3_cut 39 = .ok (.ireturn, 1) := by decide +kernel
theorem dX3_cut_40 : decode cX3_cut 40 = .ok (.aload_n 0, 1) := by decide +kernel
theorem dX3_cut_41 : decode cX3_cut 41 = .ok (.getfield 19, 3) := by decide +kernel
theorem dX3_cut_44 : decode cX3_cut 44 = .ok (.getfield 64, 3) := by decide +kernel
theorem dX3_cut_47 : decode cX3_cut 47 = .ok (.iload_n 1, 1) := by decide +kernel
theorem dX3_cut_48 : decode cX3_cut 48 = .ok (.aaload, 1) := by decide +kernel
theorem dX3_cut_49 : decode cX3_cut 49 = .ok (.iload_n 2, 1) := by decide +kernel
theorem dX3_cut_50 : decode cX3_cut 50 = .ok (.invokevirtual 127, 3) := by decide +kernel
theorem dX3_cut_53 : decode cX3_cut 53 = .ok (.aload_n 0, 1) := by decide +kernel
theorem dX3_cut_54 : decode cX3_cut 54 = .ok (.getfield 19, 3) := by decide +kernel
theorem dX3_cut_57 : decode cX3_cut 57 = .ok (.dup, 1) := by decide +kernel
theorem dX3_cut_58 : decode cX3_cut 58 = .ok (.getfield 124, 3) := by decide +kernel
theorem dX3_cut_61 : decode cX3_cut 61 = .ok (.iconst 1, 1) := by decide +kernel
theorem dX3_cut_62 : decode cX3_cut 62 = .ok (.iadd, 1) := by decide +kernel
theorem dX3_cut_63 : decode cX3_cut 63 = .ok (.putfield 124, 3) := by decide +kernel
theorem dX3_cut_66 : decode cX3_cut 66 = .ok (.iload_n 3, 1) := by decide +kernel
theorem dX3_cut_67 : decode cX3_cut 67 = .ok (.ireturn, 1) := by decide +kernel
theorem dX3_saw_0 : decode cX3_saw 0 = .ok (.aload_n 0, 1) := by decide +kernel
theorem dX3_saw_1 : decode cX3_saw 1 = .ok (.getfield 19, 3) := by decide +kernel
theorem dX3_saw_4 : decode cX3_saw 4 = .ok (.iload_n 1, 1) := by decide +kernel
theorem dX3_saw_5 : decode cX3_saw 5 = .ok (.invokevirtual 60, 3) := by decide +kernel
theorem dX3_saw_8 : decode cX3_saw 8 = .ok (.ifCond .ne 6, 3) := by decide +kernel
theorem dX3_saw_11 : decode cX3_saw 11 = .ok (.bipush (-101), 2) := by decide +kernel
theorem dX3_saw_13 : decode cX3_saw 13 = .ok (.ireturn, 1) := by decide +kernel
theorem dX3_saw_14 : decode cX3_saw 14 = .ok (.iload_n 2, 1) := by decide +kernel
theorem dX3_saw_15 : decode cX3_saw 15 = .ok (.iconst 1, 1) := by decide +kernel
theorem dX3_saw_16 : decode cX3_saw 16 = .ok (.if_icmp .lt 19, 3) := by decide +kernel
theorem dX3_saw_19 : decode cX3_saw 19 = .ok (.iload_n 2, 1) := by decide +kernel
theorem dX3_saw_20 : decode cX3_saw 20 = .ok (.aload_n 0, 1) := by decide +kernel
theorem dX3_saw_21 : decode cX3_saw 21 = .ok (.getfield 19, 3) := by decide +kernel
theorem dX3_saw_24 : decode cX3_saw 24 = .ok (.getfield 64, 3) := by decide +kernel
theorem dX3_saw_27 : decode cX3_saw 27 = .ok (.iload_n 1, 1) := by decide +kernel
theorem dX3_saw_28 : decode cX3_saw 28 = .ok (.aaload, 1) := by decide +kernel
theorem dX3_saw_29 : decode cX3_saw 29 = .ok (.getfield 80, 3) := by decide +kernel
theorem dX3_saw_32 : decode cX3_saw 32 = .ok (.if_icmp .lt 6, 3) := by decide +kernel
theorem dX3_saw_35 : decode cX3_saw 35 = .ok (.bipush (-102), 2) := by decide +kernel
theorem dX3_saw_37 : decode cX3_saw 37 = .ok (.ireturn, 1) := by decide +kernel
theorem dX3_saw_38 : decode cX3_saw 38 = .ok (.aload_n 0, 1) := by decide +kernel
theorem dX3_saw_39 : decode cX3_saw 39 = .ok (.getfield 19, 3) := by decide +kernel
theorem dX3_saw_42 : decode cX3_saw 42 = .ok (.getfield 57, 3) := by decide +kernel
theorem dX3_saw_45 : decode cX3_saw 45 = .ok (.bipush 6, 2) := by decide +kernel
theorem dX3_saw_47 : decode cX3_saw 47 = .ok (.if_icmp .lt 6, 3) := by decide +kernel
theorem dX3_saw_50 : decode cX3_saw 50 = .ok (.bipush (-104), 2) := by decide +kernel
theorem dX3_saw_52 : decode cX3_saw 52 = .ok (.ireturn, 1) := by decide +kernel
theorem dX3_saw_53 : decode cX3_saw 53 = .ok (.aload_n 0, 1) := by decide +kernel
theorem dX3_saw_54 : decode cX3_saw 54 = .ok (.getfield 19, 3) := by decide +kernel
theorem dX3_saw_57 : decode cX3_saw 57 = .ok (.iload_n 1, 1) := by decide +kernel
theorem dX3_saw_58 : decode cX3_saw 58 = .ok (.iload_n 2, 1) := by decide +kernel
theorem dX3_saw_59 : decode cX3_saw 59 = .ok (.invokevirtual 131, 3) := by decide +kernel
theorem dX3_saw_62 : decode cX3_saw 62 = .ok (.aload_n 0, 1) := by decide +kernel
theorem dX3_saw_63 : decode cX3_saw 63 = .ok (.getfield 19, 3) := by decide +kernel
theorem dX3_saw_66 : decode cX3_saw 66 = .ok (.dup, 1) := by decide +kernel
theorem dX3_saw_67 : decode cX3_saw 67 = .ok (.getfield 124, 3) := by decide +kernel
theorem dX3_saw_70 : decode cX3_saw 70 = .ok (.iconst 1, 1) := by decide +kernel
theorem dX3_saw_71 : decode cX3_saw 71 = .ok (.iadd, 1) := by decide +kernel
theorem dX3_saw_72 : decode cX3_saw 72 = .ok (.putfield 124, 3) := by decide +kernel
theorem dX3_saw_75 : decode cX3_saw 75 = .ok (.aload_n 0, 1) := by decide +kernel
theorem dX3_saw_76 : decode cX3_saw 76 = .ok (.getfield 19, 3) := by decide +kernel
theorem dX3_saw_79 : decode cX3_saw 79 = .ok (.getfield 57, 3) := by decide +kernel
theorem dX3_saw_82 : decode cX3_saw 82 = .ok (.iconst 1, 1) := by decide +kernel
theorem dX3_saw_83 : decode cX3_saw 83 = .ok (.isub, 1) := by decide +kernel
theorem dX3_saw_84 : decode cX3_saw 84 = .ok (.ireturn, 1) := by decide +kernel
theorem dX3_later_0 : decode cX3_later 0 = .ok (.aload_n 0, 1) := by decide +kernel
theorem dX3_later_1 : decode cX3_later 1 = .ok (.getfield 19, 3) := by decide +kernel
theorem dX3_later_4 : decode cX3_later 4 = .ok (.iload_n 1, 1) := by decide +kernel
theorem dX3_later_5 : decode cX3_later 5 = .ok (.iload_n 2, 1) := by decide +kernel
theorem dX3_later_6 : decode cX3_later 6 = .ok (.invokevirtual 116, 3) := by decide +kernel
theorem dX3_later_9 : decode cX3_later 9 = .ok (.ifCond .ne 6, 3) := by decide +kernel
theorem dX3_later_12 : decode cX3_later 12 = .ok (.bipush (-101), 2) := by decide +kernel
theorem dX3_later_14 : decode cX3_later 14 = .ok (.ireturn, 1) := by decide +kernel
theorem dX3_later_15 : decode cX3_later 15 = .ok (.iconst 0, 1) := by decide +kernel
theorem dX3_later_16 : decode cX3_later 16 = .ok (.istore_n 3, 1) := by decide +kernel
theorem dX3_later_17 : decode cX3_later 17 = .ok (.iload_n 3, 1) := by decide +kernel
theorem dX3_later_18 : decode cX3_later 18 = .ok (.bipush 9, 2) := by decide +kernel
theorem dX3_later_20 : decode cX3_later 20 = .ok (.if_icmp .gt 33, 3) := by decide +kernel
theorem dX3_later_23 : decode cX3_later 23 = .ok (.aload_n 0, 1) := by decide +kernel
theorem dX3_later_24 : decode cX3_later 24 = .ok (.getfield 19, 3) := by decide +kernel
theorem dX3_later_27 : decode cX3_later 27 = .ok (.iload_n 1, 1) := by decide +kernel
theorem dX3_later_28 : decode cX3_later 28 = .ok (.aload_n 0, 1) := by decide +kernel
theorem dX3_later_29 : decode cX3_later 29 = .ok (.getfield 19, 3) := by decide +kernel
theorem dX3_later_32 : decode cX3_later 32 = .ok (.getfield 83, 3) := by decide +kernel
theorem dX3_later_35 : decode cX3_later 35 = .ok (.iload_n 1, 1) := by decide +kernel
theorem dX3_later_36 : decode cX3_later 36 = .ok (.iaload, 1) := by decide +kernel
theorem dX3_later_37 : decode cX3_later 37 = .ok (.iload_n 2, 1) := by decide +kernel
theorem dX3_later_38 : decode cX3_later 38 = .ok (.iload_n 3, 1) := by decide +kernel
theorem dX3_later_39 : decode cX3_later 39 = .ok (.invokevirtual 120, 3) := by decide +kernel
theorem dX3_later_42 : decode cX3_later 42 = .ok (.ifCond .le 5, 3) := by decide +kernel
theorem dX3_later_45 : decode cX3_later 45 = .ok (.iload_n 3, 1) := by decide +kernel
theorem dX3_later_46 : decode cX3_later 46 = .ok (.ireturn, 1) := by decide +kernel
theorem dX3_later_47 : decode cX3_later 47 = .ok (.iinc 3 1, 3) := by decide +kernel
theorem dX3_later_50 : decode cX3_later 50 = .ok (.goto (-33), 3) := by decide +kernel
theorem dX3_later_53 : decode cX3_later 53 = .ok (.iconst (-1), 1) := by decide +kernel
theorem dX3_later_54 : decode cX3_later 54 = .ok (.ireturn, 1) := by decide +kernel
theorem dX3_cover_0 : decode cX3_cover 0 = .ok (.iload_n 1, 1) := by decide +kernel
theorem dX3_cover_1 : decode cX3_cover 1 = .ok (.ifCond .lt 18, 3) := by decide +kernel
theorem dX3_cover_4 : decode cX3_cover 4 = .ok (.iload_n 1, 1) := by decide +kernel
theorem dX3_cover_5 : decode cX3_cover 5 = .ok (.ldc 135, 2) := by decide +kernel
theorem dX3_cover_7 : decode cX3_cover 7 = .ok (.if_icmp .ge 12, 3) := by decide +kernel
theorem dX3_cover_10 : decode cX3_cover 10 = .ok (.iload_n 2, 1) := by decide +kernel
theorem dX3_cover_11 : decode cX3_cover 11 = .ok (.ifCond .lt 8, 3) := by decide +kernel
theorem dX3_cover_14 : decode cX3_cover 14 = .ok (.iload_n 2, 1) := by decide +kernel
theorem dX3_cover_15 : decode cX3_cover 15 = .ok (.iconst 1, 1) := by decide +kernel
theorem dX3_cover_16 : decode cX3_cover 16 = .ok (.if_icmp .le 6, 3) := by decide +kernel
theorem dX3_cover_19 : decode cX3_cover 19 = .ok (.bipush (-102), 2) := by decide +kernel
theorem dX3_cover_21 : decode cX3_cover 21 = .ok (.ireturn, 1) := by decide +kernel
theorem dX3_cover_22 : decode cX3_cover 22 = .ok (.aload_n 0, 1) := by decide +kernel
theorem dX3_cover_23 : decode cX3_cover 23 = .ok (.getfield 19, 3) := by decide +kernel
theorem dX3_cover_26 : decode cX3_cover 26 = .ok (.getfield 57, 3) := by decide +kernel
theorem dX3_cover_29 : decode cX3_cover 29 = .ok (.ifCond .ne 6, 3) := by decide +kernel
theorem dX3_cover_32 : decode cX3_cover 32 = .ok (.bipush (-103), 2) := by decide +kernel
theorem dX3_cover_34 : decode cX3_cover 34 = .ok (.ireturn, 1) := by decide +kernel
theorem dX3_cover_35 : decode cX3_cover 35 = .ok (.aload_n 0, 1) := by decide +kernel
theorem dX3_cover_36 : decode cX3_cover 36 = .ok (.getfield 19, 3) := by decide +kernel
theorem dX3_cover_39 : decode cX3_cover 39 = .ok (.iload_n 1, 1) := by decide +kernel
theorem dX3_cover_40 : decode cX3_cover 40 = .ok (.invokevirtual 136, 3) := by decide +kernel
theorem dX3_cover_43 : decode cX3_cover 43 = .ok (.istore_n 3, 1) := by decide +kernel
theorem dX3_cover_44 : decode cX3_cover 44 = .ok (.iload_n 2, 1) := by decide +kernel
theorem dX3_cover_45 : decode cX3_cover 45 = .ok (.iconst 1, 1) := by decide +kernel
theorem dX3_cover_46 : decode cX3_cover 46 = .ok (.if_icmp .eq 8, 3) := by decide +kernel
theorem dX3_cover_49 : decode cX3_cover 49 = .ok (.iload_n 3, 1) := by decide +kernel
theorem dX3_cover_50 : decode cX3_cover 50 = .ok (.iconst (-1), 1) := by decide +kernel
theorem dX3_cover_51 : decode cX3_cover 51 = .ok (.if_icmp .ne 7, 3) := by decide +kernel
theorem dX3_cover_54 : decode cX3_cover 54 = .ok (.iload_n 3, 1) := by decide +kernel
theorem dX3_cover_55 : decode cX3_cover 55 = .ok (.goto 7, 3) := by decide +kernel
theorem dX3_cover_58 : decode cX3_cover 58 = .ok (.iload_n 3, 1) := by decide +kernel
theorem dX3_cover_59 : decode cX3_cover 59 = .ok (.invokestatic 95, 3) := by decide +kernel
theorem dX3_cover_62 : decode cX3_cover 62 = .ok (.ireturn, 1) := by decide +kernel
theorem dX3_catches_0 : decode cX3_catches 0 = .ok (.aload_n 0, 1) := by decide +kernel
theorem dX3_catches_1 : decode cX3_catches 1 = .ok (.getfield 19, 3) := by decide +kernel
theorem dX3_catches_4 : decode cX3_catches 4 = .ok (.iload_n 2, 1) := by decide +kernel
theorem dX3_catches_5 : decode cX3_catches 5 = .ok (.invokevirtual 60, 3) := by decide +kernel
theorem dX3_catches_8 : decode cX3_catches 8 = .ok (.ifCond .ne 6, 3) := by decide +kernel
theorem dX3_catches_11 : decode cX3_catches 11 = .ok (.bipush (-101), 2) := by decide +kernel
theorem dX3_catches_13 : decode cX3_catches 13 = .ok (.ireturn, 1) := by decide +kernel
theorem dX3_catches_14 : decode cX3_catches 14 = .ok (.iload_n 1, 1) := by decide +kernel
theorem dX3_catches_15 : decode cX3_catches 15 = .ok (.invokestatic 139, 3) := by decide +kernel
theorem dX3_catches_18 : decode cX3_catches 18 = .ok (.ifCond .eq 15, 3) := by decide +kernel
theorem dX3_catches_21 : decode cX3_catches 21 = .ok (.aload_n 0, 1) := by decide +kernel
theorem dX3_catches_22 : decode cX3_catches 22 = .ok (.getfield 19, 3) := by decide +kernel
theorem dX3_catches_25 : decode cX3_catches 25 = .ok (.iload_n 1, 1) := by decide +kernel
theorem dX3_catches_26 : decode cX3_catches 26 = .ok (.iload_n 2, 1) := by decide +kernel
theorem dX3_catches_27 : decode cX3_catches 27 = .ok (.invokevirtual 142, 3) := by decide +kernel
theorem dX3_catches_30 : decode cX3_catches 30 = .ok (.goto 5, 3) := by decide +kernel
theorem dX3_catches_33 : decode cX3_catches 33 = .ok (.bipush (-102), 2) := by decide +kernel
theorem dX3_catches_35 : decode cX3_catches 35 = .ok (.ireturn, 1) := by decide +kernel
theorem dX3_see_0 : decode cX3_see 0 = .ok (.iload_n 1, 1) := by decide +kernel
theorem dX3_see_1 : decode cX3_see 1 = .ok (.invokestatic 139, 3) := by decide +kernel
theorem dX3_see_4 : decode cX3_see 4 = .ok (.ifCond .eq 10, 3) := by decide +kernel
theorem dX3_see_7 : decode cX3_see 7 = .ok (.iload_n 2, 1) := by decide +kernel
theorem dX3_see_8 : decode cX3_see 8 = .ok (.invokestatic 109, 3) := by decide +kernel
theorem dX3_see_11 : decode cX3_see 11 = .ok (.ifCond .ne 6, 3) := by decide +kernel
theorem dX3_see_14 : decode cX3_see 14 = .ok (.bipush (-102), 2) := by decide +kernel
theorem dX3_see_16 : decode cX3_see 16 = .ok (.ireturn, 1) := by decide +kernel
theorem dX3_see_17 : decode cX3_see 17 = .ok (.aload_n 0, 1) := by decide +kernel
theorem dX3_see_18 : decode cX3_see 18 = .ok (.getfield 19, 3) := by decide +kernel
theorem dX3_see_21 : decode cX3_see 21 = .ok (.iload_n 1, 1) := by decide +kernel
theorem dX3_see_22 : decode cX3_see 22 = .ok (.iload_n 2, 1) := by decide +kernel
theorem dX3_see_23 : decode cX3_see 23 = .ok (.invokevirtual 145, 3) := by decide +kernel
theorem dX3_see_26 : decode cX3_see 26 = .ok (.ifCond .eq 13, 3) := by decide +kernel
theorem dX3_see_29 : decode cX3_see 29 = .ok (.aload_n 0, 1) := by decide +kernel
theorem dX3_see_30 : decode cX3_see 30 = .ok (.getfield 19, 3) := by decide +kernel
theorem dX3_see_33 : decode cX3_see 33 = .ok (.getfield 148, 3) := by decide +kernel
theorem dX3_see_36 : decode cX3_see 36 = .ok (.goto 5, 3) := by decide +kernel
theorem dX3_see_39 : decode cX3_see 39 = .ok (.bipush (-104), 2) := by decide +kernel
theorem dX3_see_41 : decode cX3_see 41 = .ok (.ireturn, 1) := by decide +kernel
theorem dX3_forget_0 : decode cX3_forget 0 = .ok (.aload_n 0, 1) := by decide +kernel
theorem dX3_forget_1 : decode cX3_forget 1 = .ok (.getfield 19, 3) := by decide +kernel
theorem dX3_forget_4 : decode cX3_forget 4 = .ok (.getfield 148, 3) := by decide +kernel
theorem dX3_forget_7 : decode cX3_forget 7 = .ok (.istore_n 1, 1) := by decide +kernel
theorem dX3_forget_8 : decode cX3_forget 8 = .ok (.aload_n 0, 1) := by decide +kernel
theorem dX3_forget_9 : decode cX3_forget 9 = .ok (.getfield 19, 3) := by decide +kernel
theorem dX3_forget_12 : decode cX3_forget 12 = .ok (.iconst 0, 1) := by decide +kernel
theorem dX3_forget_13 : decode cX3_forget 13 = .ok (.putfield 148, 3) := by decide +kernel
theorem dX3_forget_16 : decode cX3_forget 16 = .ok (.iload_n 1, 1) := by decide +kernel
theorem dX3_forget_17 : decode cX3_forget 17 = .ok (.ireturn, 1) := by decide +kernel
theorem dX3_whose_0 : decode cX3_whose 0 = .ok (.aload_n 0, 1) := by decide +kernel
theorem dX3_whose_1 : decode cX3_whose 1 = .ok (.getfield 19, 3) := by decide +kernel
theorem dX3_whose_4 : decode cX3_whose 4 = .ok (.getfield 57, 3) := by decide +kernel
theorem dX3_whose_7 : decode cX3_whose 7 = .ok (.ifCond .ne 8, 3) := by decide +kernel
theorem dX3_whose_10 : decode cX3_whose 10 = .ok (.bipush (-103), 2) := by decide +kernel
theorem dX3_whose_12 : decode cX3_whose 12 = .ok (.goto 10, 3) := by decide +kernel
theorem dX3_whose_15 : decode cX3_whose 15 = .ok (.aload_n 0, 1) := by decide +kernel
theorem dX3_whose_16 : decode cX3_whose 16 = .ok (.getfield 19, 3) := by decide +kernel
theorem dX3_whose_19 : decode cX3_whose 19 = .ok (.invokevirtual 151, 3) := by decide +kernel
theorem dX3_whose_22 : decode cX3_whose 22 = .ok (.ireturn, 1) := by decide +kernel
theorem dX3_look_0 : decode cX3_look 0 = .ok (.aload_n 0, 1) := by decide +kernel
theorem dX3_look_1 : decode cX3_look 1 = .ok (.getfield 19, 3) := by decide +kernel
theorem dX3_look_4 : decode cX3_look 4 = .ok (.getfield 57, 3) := by decide +kernel
theorem dX3_look_7 : decode cX3_look 7 = .ok (.ifCond .ne 8, 3) := by decide +kernel
theorem dX3_look_10 : decode cX3_look 10 = .ok (.bipush (-103), 2) := by decide +kernel
theorem dX3_look_12 : decode cX3_look 12 = .ok (.goto 10, 3) := by decide +kernel
theorem dX3_look_15 : decode cX3_look 15 = .ok (.aload_n 0, 1) := by decide +kernel
theorem dX3_look_16 : decode cX3_look 16 = .ok (.getfield 19, 3) := by decide +kernel
theorem dX3_look_19 : decode cX3_look 19 = .ok (.invokevirtual 154, 3) := by decide +kernel
theorem dX3_look_22 : decode cX3_look 22 = .ok (.ireturn, 1) := by decide +kernel
theorem dX3_mornings_0 : decode cX3_mornings 0 = .ok (.iload_n 1, 1) := by decide +kernel
theorem dX3_mornings_1 : decode cX3_mornings 1 = .ok (.iconst 1, 1) := by decide +kernel
theorem dX3_mornings_2 : decode cX3_mornings 2 = .ok (.if_icmp .lt 22, 3) := by decide +kernel
theorem dX3_mornings_5 : decode cX3_mornings 5 = .ok (.iload_n 1, 1) := by decide +kernel
theorem dX3_mornings_6 : decode cX3_mornings 6 = .ok (.bipush 20, 2) := by decide +kernel
theorem dX3_mornings_8 : decode cX3_mornings 8 = .ok (.if_icmp .gt 16, 3) := by decide +kernel
theorem dX3_mornings_11 : decode cX3_mornings 11 = .ok (.iload_n 2, 1) := by decide +kernel
theorem dX3_mornings_12 : decode cX3_mornings 12 = .ok (.ifCond .lt 12, 3) := by decide +kernel
theorem dX3_mornings_15 : decode cX3_mornings 15 = .ok (.iload_n 3, 1) := by decide +kernel
theorem dX3_mornings_16 : decode cX3_mornings 16 = .ok (.ifCond .lt 8, 3) := by decide +kernel
theorem dX3_mornings_19 : decode cX3_mornings 19 = .ok (.iload_n 3, 1) := by decide +kernel
theorem dX3_mornings_20 : decode cX3_mornings 20 = .ok (.iconst 2, 1) := by decide +kernel
theorem dX3_mornings_21 : decode cX3_mornings 21 = .ok (.if_icmp .le 6, 3) := by decide +kernel
theorem dX3_mornings_24 : decode cX3_mornings 24 = .ok (.bipush (-102), 2) := by decide +kernel
theorem dX3_mornings_26 : decode cX3_mornings 26 = .ok (.ireturn, 1) := by decide +kernel
theorem dX3_mornings_27 : decode cX3_mornings 27 = .ok (.aload_n 0, 1) := by decide +kernel
theorem dX3_mornings_28 : decode cX3_mornings 28 = .ok (.getfield 19, 3) := by decide +kernel
theorem dX3_mornings_31 : decode cX3_mornings 31 = .ok (.getfield 57, 3) := by decide +kernel
theorem dX3_mornings_34 : decode cX3_mornings 34 = .ok (.ifCond .ne 6, 3) := by decide +kernel
theorem dX3_mornings_37 : decode cX3_mornings 37 = .ok (.bipush (-103), 2) := by decide +kernel
theorem dX3_mornings_39 : decode cX3_mornings 39 = .ok (.ireturn, 1) := by decide +kernel
theorem dX3_mornings_40 : decode cX3_mornings 40 = .ok (.iconst 0, 1) := by decide +kernel
theorem dX3_mornings_41 : decode cX3_mornings 41 = .ok (.istore 4, 2) := by decide +kernel
theorem dX3_mornings_43 : decode cX3_mornings 43 = .ok (.iload_n 2, 1) := by decide +kernel
theorem dX3_mornings_44 : decode cX3_mornings 44 = .ok (.istore 5, 2) := by decide +kernel
theorem dX3_mornings_46 : decode cX3_mornings 46 = .ok (.iconst 0, 1) := by decide +kernel
theorem dX3_mornings_47 : decode cX3_mornings 47 = .ok (.istore 6, 2) := by decide +kernel
theorem dX3_mornings_49 : decode cX3_mornings 49 = .ok (.iload 6, 2) := by decide +kernel
theorem dX3_mornings_51 : decode cX3_mornings 51 = .ok (.iload_n 1, 1) := by decide +kernel
theorem dX3_mornings_52 : decode cX3_mornings 52 = .ok (.if_icmp .ge 33, 3) := by decide +kernel
theorem dX3_mornings_55 : decode cX3_mornings 55 = .ok (.aload_n 0, 1) := by decide +kernel
theorem dX3_mornings_56 : decode cX3_mornings 56 = .ok (.iload 5, 2) := by decide +kernel
theorem dX3_mornings_58 : decode cX3_mornings 58 = .ok (.invokevirtual 157, 3) := by decide +kernel
theorem dX3_mornings_61 : decode cX3_mornings 61 = .ok (.istore 5, 2) := by decide +kernel
theorem dX3_mornings_63 : decode cX3_mornings 63 = .ok (.iload 4, 2) := by decide +kernel
theorem dX3_mornings_65 : decode cX3_mornings 65 = .ok (.aload_n 0, 1) := by decide +kernel
theorem dX3_mornings_66 : decode cX3_mornings 66 = .ok (.getfield 19, 3) := by decide +kernel
theorem dX3_mornings_69 : decode cX3_mornings 69 = .ok (.aload_n 0, 1) := by decide +kernel
theorem dX3_mornings_70 : decode cX3_mornings 70 = .ok (.getfield 26, 3) := by decide +kernel
theorem dX3_mornings_73 : decode cX3_mornings 73 = .ok (.invokevirtual 160, 3) := by decide +kernel
theorem dX3_mornings_76 : decode cX3_mornings 76 = .ok (.iadd, 1) := by decide +kernel
theorem dX3_mornings_77 : decode cX3_mornings 77 = .ok (.istore 4, 2) := by decide +kernel
theorem dX3_mornings_79 : decode cX3_mornings 79 = .ok (.iinc 6 1, 3) := by decide +kernel
theorem dX3_mornings_82 : decode cX3_mornings 82 = .ok (.goto (-33), 3) := by decide +kernel
theorem dX3_mornings_85 : decode cX3_mornings 85 = .ok (.iload_n 3, 1) := by decide +kernel
theorem dX3_mornings_86 : decode cX3_mornings 86 = .ok (.lookupswitch 40 #[(0, 26), (1, 29)], 26) := by decide +kernel
theorem dX3_mornings_112 : decode cX3_mornings 112 = .ok (.iload 4, 2) := by decide +kernel
theorem dX3_mornings_114 : decode cX3_mornings 114 = .ok (.ireturn, 1) := by decide +kernel
theorem dX3_mornings_115 : decode cX3_mornings 115 = .ok (.aload_n 0, 1) := by decide +kernel
theorem dX3_mornings_116 : decode cX3_mornings 116 = .ok (.getfield 19, 3) := by decide +kernel
theorem dX3_mornings_119 : decode cX3_mornings 119 = .ok (.invokevirtual 164, 3) := by decide +kernel
theorem dX3_mornings_122 : decode cX3_mornings 122 = .ok (.invokestatic 95, 3) := by decide +kernel
theorem dX3_mornings_125 : decode cX3_mornings 125 = .ok (.ireturn, 1) := by decide +kernel
theorem dX3_mornings_126 : decode cX3_mornings 126 = .ok (.iload 5, 2) := by decide +kernel
theorem dX3_mornings_128 : decode cX3_mornings 128 = .ok (.ireturn, 1) := by decide +kernel
theorem dX3_image_0 : decode cX3_image 0 = .ok (.aload_n 0, 1) := by decide +kernel
theorem dX3_image_1 : decode cX3_image 1 = .ok (.getfield 19, 3) := by decide +kernel
theorem dX3_image_4 : decode cX3_image 4 = .ok (.getfield 57, 3) := by decide +kernel
theorem dX3_image_7 : decode cX3_image 7 = .ok (.ifCond .ne 6, 3) := by decide +kernel
theorem dX3_image_10 : decode cX3_image 10 = .ok (.bipush (-103), 2) := by decide +kernel
theorem dX3_image_12 : decode cX3_image 12 = .ok (.ireturn, 1) := by decide +kernel
theorem dX3_image_13 : decode cX3_image 13 = .ok (.aload_n 0, 1) := by decide +kernel
theorem dX3_image_14 : decode cX3_image 14 = .ok (.getfield 23, 3) := by decide +kernel
theorem dX3_image_17 : decode cX3_image 17 = .ok (.aload_n 0, 1) := by decide +kernel
theorem dX3_image_18 : decode cX3_image 18 = .ok (.getfield 19, 3) := by decide +kernel
theorem dX3_image_21 : decode cX3_image 21 = .ok (.invokevirtual 167, 3) := by decide +kernel
theorem dX3_image_24 : decode cX3_image 24 = .ok (.aload_n 0, 1) := by decide +kernel
theorem dX3_image_25 : decode cX3_image 25 = .ok (.iconst 1, 1) := by decide +kernel
theorem dX3_image_26 : decode cX3_image 26 = .ok (.putfield 30, 3) := by decide +kernel
theorem dX3_image_29 : decode cX3_image 29 = .ok (.aload_n 0, 1) := by decide +kernel
theorem dX3_image_30 : decode cX3_image 30 = .ok (.getfield 19, 3) := by decide +kernel
theorem dX3_image_33 : decode cX3_image 33 = .ok (.getfield 124, 3) := by decide +kernel
theorem dX3_image_36 : decode cX3_image 36 = .ok (.ireturn, 1) := by decide +kernel
theorem dX3_restore_0 : decode cX3_restore 0 = .ok (.aload_n 0, 1) := by decide +kernel
theorem dX3_restore_1 : decode cX3_restore 1 = .ok (.getfield 30, 3) := by decide +kernel
theorem dX3_restore_4 : decode cX3_restore 4 = .ok (.ifCond .ne 6, 3) := by decide +kernel
theorem dX3_restore_7 : decode cX3_restore 7 = .ok (.bipush (-103), 2) := by decide +kernel
theorem dX3_restore_9 : decode cX3_restore 9 = .ok (.ireturn, 1) := by decide +kernel
theorem dX3_restore_10 : decode cX3_restore 10 = .ok (.aload_n 0, 1) := by decide +kernel
theorem dX3_restore_11 : decode cX3_restore 11 = .ok (.getfield 19, 3) := by decide +kernel
theorem dX3_restore_14 : decode cX3_restore 14 = .ok (.aload_n 0, 1) := by decide +kernel
theorem dX3_restore_15 : decode cX3_restore 15 = .ok (.getfield 23, 3) := by decide +kernel
theorem dX3_restore_18 : decode cX3_restore 18 = .ok (.invokevirtual 167, 3) := by decide +kernel
theorem dX3_restore_21 : decode cX3_restore 21 = .ok (.aload_n 0, 1) := by decide +kernel
theorem dX3_restore_22 : decode cX3_restore 22 = .ok (.getfield 19, 3) := by decide +kernel
theorem dX3_restore_25 : decode cX3_restore 25 = .ok (.getfield 124, 3) := by decide +kernel
theorem dX3_restore_28 : decode cX3_restore 28 = .ok (.ireturn, 1) := by decide +kernel
theorem dX3_count_0 : decode cX3_count 0 = .ok (.iload_n 1, 1) := by decide +kernel
theorem dX3_count_1 : decode cX3_count 1 = .ok (.tableswitch 118 0 7 #[47, 55, 63, 74, 89, 97, 105, 113], 47) := by decide +kernel
theorem dX3_count_48 : decode cX3_count 48 = .ok (.aload_n 0, 1) := by decide +kernel
theorem dX3_count_49 : decode cX3_count 49 = .ok (.getfield 19, 3) := by decide +kernel
theorem dX3_count_52 : decode cX3_count 52 = .ok (.getfield 57, 3) := by decide +kernel
theorem dX3_count_55 : decode cX3_count 55 = .ok (.ireturn, 1) := by decide +kernel
theorem dX3_count_56 : decode cX3_count 56 = .ok (.aload_n 0, 1) := by decide +kernel
theorem dX3_count_57 : decode cX3_count 57 = .ok (.getfield 19, 3) := by decide +kernel
theorem dX3_count_60 : decode cX3_count 60 = .ok (.invokevirtual 170, 3) := by decide +kernel
theorem dX3_count_63 : decode cX3_count 63 = .ok (.ireturn, 1) := by decide +kernel
theorem dX3_count_64 : decode cX3_count 64 = .ok (.aload_n 0, 1) := by decide +kernel
theorem dX3_count_65 : decode cX3_count 65 = .ok (.getfield 19, 3) := by decide +kernel
theorem dX3_count_68 : decode cX3_count 68 = .ok (.invokevirtual 164, 3) := by decide +kernel
theorem dX3_count_71 : decode cX3_count 71 = .ok (.invokestatic 95, 3) := by decide +kernel
theorem dX3_count_74 : decode cX3_count 74 = .ok (.ireturn, 1) := by decide +kernel
theorem dX3_count_75 : decode cX3_count 75 = .ok (.aload_n 0, 1) := by decide +kernel
theorem dX3_count_76 : decode cX3_count 76 = .ok (.getfield 19, 3) := by decide +kernel
theorem dX3_count_79 : decode cX3_count 79 = .ok (.aload_n 0, 1) := by decide +kernel
theorem dX3_count_80 : decode cX3_count 80 = .ok (.getfield 19, 3) := by decide +kernel
theorem dX3_count_83 : decode cX3_count 83 = .ok (.getfield 83, 3) := by decide +kernel
theorem dX3_count_86 : decode cX3_count 86 = .ok (.invokevirtual 160, 3) := by decide +kernel
theorem dX3_count_89 : decode cX3_count 89 = .ok (.ireturn, 1) := by decide +kernel
theorem dX3_count_90 : decode cX3_count 90 = .ok (.aload_n 0, 1) := by decide +kernel
theorem dX3_count_91 : decode cX3_count 91 = .ok (.getfield 19, 3) := by decide +kernel
theorem dX3_count_94 : decode cX3_count 94 = .ok (.getfield 124, 3) := by decide +kernel
theorem dX3_count_97 : decode cX3_count 97 = .ok (.ireturn, 1) := by decide +kernel
theorem dX3_count_98 : decode cX3_count 98 = .ok (.aload_n 0, 1) := by decide +kernel
theorem dX3_count_99 : decode cX3_count 99 = .ok (.getfield 19, 3) := by decide +kernel
theorem dX3_count_102 : decode cX3_count 102 = .ok (.getfield 148, 3) := by decide +kernel
theorem dX3_count_105 : decode cX3_count 105 = .ok (.ireturn, 1) := by decide +kernel
theorem dX3_count_106 : decode cX3_count 106 = .ok (.aload_n 0, 1) := by decide +kernel
theorem dX3_count_107 : decode cX3_count 107 = .ok (.getfield 10, 3) := by decide +kernel
theorem dX3_count_110 : decode cX3_count 110 = .ok (.getfield 42, 3) := by decide +kernel
theorem dX3_count_113 : decode cX3_count 113 = .ok (.ireturn, 1) := by decide +kernel
theorem dX3_count_114 : decode cX3_count 114 = .ok (.aload_n 0, 1) := by decide +kernel
theorem dX3_count_115 : decode cX3_count 115 = .ok (.getfield 34, 3) := by decide +kernel
theorem dX3_count_118 : decode cX3_count 118 = .ok (.ireturn, 1) := by decide +kernel
theorem dX3_count_119 : decode cX3_count 119 = .ok (.bipush (-102), 2) := by decide +kernel
theorem dX3_count_121 : decode cX3_count 121 = .ok (.ireturn, 1) := by decide +kernel
theorem dX3_digest_0 : decode cX3_digest 0 = .ok (.ldc2_w 173, 3) := by decide +kernel
theorem dX3_digest_3 : decode cX3_digest 3 = .ok (.lstore_n 1, 1) := by decide +kernel
theorem dX3_digest_4 : decode cX3_digest 4 = .ok (.iconst 0, 1) := by decide +kernel
theorem dX3_digest_5 : decode cX3_digest 5 = .ok (.istore_n 3, 1) := by decide +kernel
theorem dX3_digest_6 : decode cX3_digest 6 = .ok (.iload_n 3, 1) := by decide +kernel
theorem dX3_digest_7 : decode cX3_digest 7 = .ok (.aload_n 0, 1) := by decide +kernel
theorem dX3_digest_8 : decode cX3_digest 8 = .ok (.getfield 19, 3) := by decide +kernel
theorem dX3_digest_11 : decode cX3_digest 11 = .ok (.getfield 57, 3) := by decide +kernel
theorem dX3_digest_14 : decode cX3_digest 14 = .ok (.if_icmp .ge 16, 3) := by decide +kernel
theorem dX3_digest_17 : decode cX3_digest 17 = .ok (.aload_n 0, 1) := by decide +kernel
theorem dX3_digest_18 : decode cX3_digest 18 = .ok (.lload_n 1, 1) := by decide +kernel
theorem dX3_digest_19 : decode cX3_digest 19 = .ok (.iload_n 3, 1) := by decide +kernel
theorem dX3_digest_20 : decode cX3_digest 20 = .ok (.invokevirtual 175, 3) := by decide +kernel
theorem dX3_digest_23 : decode cX3_digest 23 = .ok (.lstore_n 1, 1) := by decide +kernel
theorem dX3_digest_24 : decode cX3_digest 24 = .ok (.iinc 3 1, 3) := by decide +kernel
theorem dX3_digest_27 : decode cX3_digest 27 = .ok (.goto (-21), 3) := by decide +kernel
theorem dX3_digest_30 : decode cX3_digest 30 = .ok (.aload_n 0, 1) := by decide +kernel
theorem dX3_digest_31 : decode cX3_digest 31 = .ok (.getfield 19, 3) := by decide +kernel
theorem dX3_digest_34 : decode cX3_digest 34 = .ok (.getfield 57, 3) := by decide +kernel
theorem dX3_digest_37 : decode cX3_digest 37 = .ok (.ifCond .le 50, 3) := by decide +kernel
theorem dX3_digest_40 : decode cX3_digest 40 = .ok (.bipush 33, 2) := by decide +kernel
theorem dX3_digest_42 : decode cX3_digest 42 = .ok (.istore_n 3, 1) := by decide +kernel
theorem dX3_digest_43 : decode cX3_digest 43 = .ok (.lload_n 1, 1) := by decide +kernel
theorem dX3_digest_44 : decode cX3_digest 44 = .ok (.aload_n 0, 1) := by decide +kernel
theorem dX3_digest_45 : decode cX3_digest 45 = .ok (.invokevirtual 179, 3) := by decide +kernel
theorem dX3_digest_48 : decode cX3_digest 48 = .ok (.i2l, 1) := by decide +kernel
theorem dX3_digest_49 : decode cX3_digest 49 = .ok (.invokestatic 182, 3) := by decide +kernel
theorem dX3_digest_52 : decode cX3_digest 52 = .ok (.lstore_n 1, 1) := by decide +kernel
theorem dX3_digest_53 : decode cX3_digest 53 = .ok (.lload_n 1, 1) := by decide +kernel
theorem dX3_digest_54 : decode cX3_digest 54 = .ok (.aload_n 0, 1) := by decide +kernel
theorem dX3_digest_55 : decode cX3_digest 55 = .ok (.invokevirtual 186, 3) := by decide +kernel
theorem dX3_digest_58 : decode cX3_digest 58 = .ok (.i2l, 1) := by decide +kernel
theorem dX3_digest_59 : decode cX3_digest 59 = .ok (.invokestatic 182, 3) := by decide +kernel
theorem dX3_digest_62 : decode cX3_digest 62 = .ok (.lstore_n 1, 1) := by decide +kernel
theorem dX3_digest_63 : decode cX3_digest 63 = .ok (.lload_n 1, 1) := by decide +kernel
theorem dX3_digest_64 : decode cX3_digest 64 = .ok (.aload_n 0, 1) := by decide +kernel
theorem dX3_digest_65 : decode cX3_digest 65 = .ok (.iload_n 3, 1) := by decide +kernel
theorem dX3_digest_66 : decode cX3_digest 66 = .ok (.iconst 0, 1) := by decide +kernel
theorem dX3_digest_67 : decode cX3_digest 67 = .ok (.invokevirtual 189, 3) := by decide +kernel
theorem dX3_digest_70 : decode cX3_digest 70 = .ok (.i2l, 1) := by decide +kernel
theorem dX3_digest_71 : decode cX3_digest 71 = .ok (.invokestatic 182, 3) := by decide +kernel
theorem dX3_digest_74 : decode cX3_digest 74 = .ok (.lstore_n 1, 1) := by decide +kernel
theorem dX3_digest_75 : decode cX3_digest 75 = .ok (.lload_n 1, 1) := by decide +kernel
theorem dX3_digest_76 : decode cX3_digest 76 = .ok (.aload_n 0, 1) := by decide +kernel
theorem dX3_digest_77 : decode cX3_digest 77 = .ok (.iload_n 3, 1) := by decide +kernel
theorem dX3_digest_78 : decode cX3_digest 78 = .ok (.iconst 1, 1) := by decide +kernel
theorem dX3_digest_79 : decode cX3_digest 79 = .ok (.invokevirtual 189, 3) := by decide +kernel
theorem dX3_digest_82 : decode cX3_digest 82 = .ok (.i2l, 1) := by decide +kernel
theorem dX3_digest_83 : decode cX3_digest 83 = .ok (.invokestatic 182, 3) := by decide +kernel
theorem dX3_digest_86 : decode cX3_digest 86 = .ok (.lstore_n 1, 1) := by decide +kernel
theorem dX3_digest_87 : decode cX3_digest 87 = .ok (.iconst 0, 1) := by decide +kernel
theorem dX3_digest_88 : decode cX3_digest 88 = .ok (.istore_n 3, 1) := by decide +kernel
theorem dX3_digest_89 : decode cX3_digest 89 = .ok (.iload_n 3, 1) := by decide +kernel
theorem dX3_digest_90 : decode cX3_digest 90 = .ok (.aload_n 0, 1) := by decide +kernel
theorem dX3_digest_91 : decode cX3_digest 91 = .ok (.getfield 10, 3) := by decide +kernel
theorem dX3_digest_94 : decode cX3_digest 94 = .ok (.getfield 42, 3) := by decide +kernel
theorem dX3_digest_97 : decode cX3_digest 97 = .ok (.if_icmp .ge 24, 3) := by decide +kernel
theorem dX3_digest_100 : decode cX3_digest 100 = .ok (.lload_n 1, 1) := by decide +kernel
theorem dX3_digest_101 : decode cX3_digest 101 = .ok (.aload_n 0, 1) := by decide +kernel
theorem dX3_digest_102 : decode cX3_digest 102 = .ok (.getfield 10, 3) := by decide +kernel
theorem dX3_digest_105 : decode cX3_digest 105 = .ok (.getfield 192, 3) := by decide +kernel
theorem dX3_digest_108 : decode cX3_digest 108 = .ok (.iload_n 3, 1) := by decide +kernel
theorem dX3_digest_109 : decode cX3_digest 109 = .ok (.caload, 1) := by decide +kernel
theorem dX3_digest_110 : decode cX3_digest 110 = .ok (.i2l, 1) := by decide +kernel
theorem dX3_digest_111 : decode cX3_digest 111 = .ok (.invokestatic 182, 3) := by decide +kernel
theorem dX3_digest_114 : decode cX3_digest 114 = .ok (.lstore_n 1, 1) := by decide +kernel
theorem dX3_digest_115 : decode cX3_digest 115 = .ok (.iinc 3 1, 3) := by decide +kernel
theorem dX3_digest_118 : decode cX3_digest 118 = .ok (.goto (-29), 3) := by decide +kernel
theorem dX3_digest_121 : decode cX3_digest 121 = .ok (.iconst 0, 1) := by decide +kernel
theorem dX3_digest_122 : decode cX3_digest 122 = .ok (.istore_n 3, 1) := by decide +kernel
theorem dX3_digest_123 : decode cX3_digest 123 = .ok (.iload_n 3, 1) := by decide +kernel
theorem dX3_digest_124 : decode cX3_digest 124 = .ok (.bipush 8, 2) := by decide +kernel
theorem dX3_digest_126 : decode cX3_digest 126 = .ok (.if_icmp .ge 20, 3) := by decide +kernel
theorem dX3_digest_129 : decode cX3_digest 129 = .ok (.lload_n 1, 1) := by decide +kernel
theorem dX3_digest_130 : decode cX3_digest 130 = .ok (.aload_n 0, 1) := by decide +kernel
theorem dX3_digest_131 : decode cX3_digest 131 = .ok (.iload_n 3, 1) := by decide +kernel
theorem dX3_digest_132 : decode cX3_digest 132 = .ok (.invokevirtual 196, 3) := by decide +kernel
theorem dX3_digest_135 : decode cX3_digest 135 = .ok (.i2l, 1) := by decide +kernel
theorem dX3_digest_136 : decode cX3_digest 136 = .ok (.invokestatic 182, 3) := by decide +kernel
theorem dX3_digest_139 : decode cX3_digest 139 = .ok (.lstore_n 1, 1) := by decide +kernel
theorem dX3_digest_140 : decode cX3_digest 140 = .ok (.iinc 3 1, 3) := by decide +kernel
theorem dX3_digest_143 : decode cX3_digest 143 = .ok (.goto (-20), 3) := by decide +kernel
theorem dX3_digest_146 : decode cX3_digest 146 = .ok (.lload_n 1, 1) := by decide +kernel
theorem dX3_digest_147 : decode cX3_digest 147 = .ok (.lreturn, 1) := by decide +kernel
theorem dX3_isPlace_0 : decode cX3_isPlace 0 = .ok (.iload_n 0, 1) := by decide +kernel
theorem dX3_isPlace_1 : decode cX3_isPlace 1 = .ok (.ifCond .lt 13, 3) := by decide +kernel
theorem dX3_isPlace_4 : decode cX3_isPlace 4 = .ok (.iload_n 0, 1) := by decide +kernel
theorem dX3_isPlace_5 : decode cX3_isPlace 5 = .ok (.bipush 16, 2) := by decide +kernel
theorem dX3_isPlace_7 : decode cX3_isPlace 7 = .ok (.if_icmp .ge 7, 3) := by decide +kernel
theorem dX3_isPlace_10 : decode cX3_isPlace 10 = .ok (.iconst 1, 1) := by decide +kernel
theorem dX3_isPlace_11 : decode cX3_isPlace 11 = .ok (.goto 4, 3) := by decide +kernel
theorem dX3_isPlace_14 : decode cX3_isPlace 14 = .ok (.iconst 0, 1) := by decide +kernel
theorem dX3_isPlace_15 : decode cX3_isPlace 15 = .ok (.ireturn, 1) := by decide +kernel
theorem dX3_isHour_0 : decode cX3_isHour 0 = .ok (.iload_n 0, 1) := by decide +kernel
theorem dX3_isHour_1 : decode cX3_isHour 1 = .ok (.ifCond .lt 13, 3) := by decide +kernel
theorem dX3_isHour_4 : decode cX3_isHour 4 = .ok (.iload_n 0, 1) := by decide +kernel
theorem dX3_isHour_5 : decode cX3_isHour 5 = .ok (.bipush 30, 2) := by decide +kernel
theorem dX3_isHour_7 : decode cX3_isHour 7 = .ok (.if_icmp .gt 7, 3) := by decide +kernel
theorem dX3_isHour_10 : decode cX3_isHour 10 = .ok (.iconst 1, 1) := by decide +kernel
theorem dX3_isHour_11 : decode cX3_isHour 11 = .ok (.goto 4, 3) := by decide +kernel
theorem dX3_isHour_14 : decode cX3_isHour 14 = .ok (.iconst 0, 1) := by decide +kernel
theorem dX3_isHour_15 : decode cX3_isHour 15 = .ok (.ireturn, 1) := by decide +kernel
theorem dX3_with_0 : decode cX3_with 0 = .ok (.ldc2_w 199, 3) := by decide +kernel
theorem dX3_with_3 : decode cX3_with 3 = .ok (.lload_n 0, 1) := by decide +kernel
theorem dX3_with_4 : decode cX3_with 4 = .ok (.lmul, 1) := by decide +kernel
theorem dX3_with_5 : decode cX3_with 5 = .ok (.lload_n 2, 1) := by decide +kernel
theorem dX3_with_6 : decode cX3_with 6 = .ok (.ladd, 1) := by decide +kernel
theorem dX3_with_7 : decode cX3_with 7 = .ok (.lreturn, 1) := by decide +kernel
theorem dX3_withStick_0 : decode cX3_withStick 0 = .ok (.lload_n 1, 1) := by decide +kernel
theorem dX3_withStick_1 : decode cX3_withStick 1 = .ok (.lstore 4, 2) := by decide +kernel
theorem dX3_withStick_3 : decode cX3_withStick 3 = .ok (.iconst 0, 1) := by decide +kernel
theorem dX3_withStick_4 : decode cX3_withStick 4 = .ok (.istore 6, 2) := by decide +kernel
theorem dX3_withStick_6 : decode cX3_withStick 6 = .ok (.iload 6, 2) := by decide +kernel
theorem dX3_withStick_8 : decode cX3_withStick 8 = .ok (.bipush 6, 2) := by decide +kernel
theorem dX3_withStick_10 : decode cX3_withStick 10 = .ok (.if_icmp .gt 24, 3) := by decide +kernel
theorem dX3_withStick_13 : decode cX3_withStick 13 = .ok (.lload 4, 2) := by decide +kernel
theorem dX3_withStick_15 : decode cX3_withStick 15 = .ok (.aload_n 0, 1) := by decide +kernel
theorem dX3_withStick_16 : decode cX3_withStick 16 = .ok (.iload_n 3, 1) := by decide +kernel
theorem dX3_withStick_17 : decode cX3_withStick 17 = .ok (.iload 6, 2) := by decide +kernel
theorem dX3_withStick_19 : decode cX3_withStick 19 = .ok (.invokevirtual 201, 3) := by decide +kernel
theorem dX3_withStick_22 : decode cX3_withStick 22 = .ok (.i2l, 1) := by decide +kernel
theorem dX3_withStick_23 : decode cX3_withStick 23 = .ok (.invokestatic 182, 3) := by decide +kernel
theorem dX3_withStick_26 : decode cX3_withStick 26 = .ok (.lstore 4, 2) := by decide +kernel
theorem dX3_withStick_28 : decode cX3_withStick 28 = .ok (.iinc 6 1, 3) := by decide +kernel
theorem dX3_withStick_31 : decode cX3_withStick 31 = .ok (.goto (-25), 3) := by decide +kernel
theorem dX3_withStick_34 : decode cX3_withStick 34 = .ok (.iconst 0, 1) := by decide +kernel
theorem dX3_withStick_35 : decode cX3_withStick 35 = .ok (.istore 6, 2) := by decide +kernel
theorem dX3_withStick_37 : decode cX3_withStick 37 = .ok (.iload 6, 2) := by decide +kernel
theorem dX3_withStick_39 : decode cX3_withStick 39 = .ok (.iconst 5, 1) := by decide +kernel
theorem dX3_withStick_40 : decode cX3_withStick 40 = .ok (.if_icmp .ge 27, 3) := by decide +kernel
theorem dX3_withStick_43 : decode cX3_withStick 43 = .ok (.lload 4, 2) := by decide +kernel
theorem dX3_withStick_45 : decode cX3_withStick 45 = .ok (.aload_n 0, 1) := by decide +kernel
theorem dX3_withStick_46 : decode cX3_withStick 46 = .ok (.iload_n 3, 1) := by decide +kernel
theorem dX3_withStick_47 : decode cX3_withStick 47 = .ok (.bipush 10, 2) := by decide +kernel
theorem dX3_withStick_49 : decode cX3_withStick 49 = .ok (.iload 6, 2) := by decide +kernel
theorem dX3_withStick_51 : decode cX3_withStick 51 = .ok (.iadd, 1) := by decide +kernel
theorem dX3_withStick_52 : decode cX3_withStick 52 = .ok (.invokevirtual 201, 3) := by decide +kernel
theorem dX3_withStick_55 : decode cX3_withStick 55 = .ok (.i2l, 1) := by decide +kernel
theorem dX3_withStick_56 : decode cX3_withStick 56 = .ok (.invokestatic 182, 3) := by decide +kernel
theorem dX3_withStick_59 : decode cX3_withStick 59 = .ok (.lstore 4, 2) := by decide +kernel
theorem dX3_withStick_61 : decode cX3_withStick 61 = .ok (.iinc 6 1, 3) := by decide +kernel
theorem dX3_withStick_64 : decode cX3_withStick 64 = .ok (.goto (-27), 3) := by decide +kernel
theorem dX3_withStick_67 : decode cX3_withStick 67 = .ok (.lload 4, 2) := by decide +kernel
theorem dX3_withStick_69 : decode cX3_withStick 69 = .ok (.aload_n 0, 1) := by decide +kernel
theorem dX3_withStick_70 : decode cX3_withStick 70 = .ok (.iload_n 3, 1) := by decide +kernel
theorem dX3_withStick_71 : decode cX3_withStick 71 = .ok (.iconst 1, 1) := by decide +kernel
theorem dX3_withStick_72 : decode cX3_withStick 72 = .ok (.invokevirtual 204, 3) := by decide +kernel
theorem dX3_withStick_75 : decode cX3_withStick 75 = .ok (.i2l, 1) := by decide +kernel
theorem dX3_withStick_76 : decode cX3_withStick 76 = .ok (.invokestatic 182, 3) := by decide +kernel
theorem dX3_withStick_79 : decode cX3_withStick 79 = .ok (.lstore 4, 2) := by decide +kernel
theorem dX3_withStick_81 : decode cX3_withStick 81 = .ok (.lload 4, 2) := by decide +kernel
theorem dX3_withStick_83 : decode cX3_withStick 83 = .ok (.aload_n 0, 1) := by decide +kernel
theorem dX3_withStick_84 : decode cX3_withStick 84 = .ok (.iload_n 3, 1) := by decide +kernel
theorem dX3_withStick_85 : decode cX3_withStick 85 = .ok (.iconst 5, 1) := by decide +kernel
theorem dX3_withStick_86 : decode cX3_withStick 86 = .ok (.invokevirtual 204, 3) := by decide +kernel
theorem dX3_withStick_89 : decode cX3_withStick 89 = .ok (.i2l, 1) := by decide +kernel
theorem dX3_withStick_90 : decode cX3_withStick 90 = .ok (.invokestatic 182, 3) := by decide +kernel
theorem dX3_withStick_93 : decode cX3_withStick 93 = .ok (.lstore 4, 2) := by decide +kernel
theorem dX3_withStick_95 : decode cX3_withStick 95 = .ok (.lload 4, 2) := by decide +kernel
theorem dX3_withStick_97 : decode cX3_withStick 97 = .ok (.aload_n 0, 1) := by decide +kernel
theorem dX3_withStick_98 : decode cX3_withStick 98 = .ok (.iload_n 3, 1) := by decide +kernel
theorem dX3_withStick_99 : decode cX3_withStick 99 = .ok (.bipush 30, 2) := by decide +kernel
theorem dX3_withStick_101 : decode cX3_withStick 101 = .ok (.invokevirtual 204, 3) := by decide +kernel
theorem dX3_withStick_104 : decode cX3_withStick 104 = .ok (.i2l, 1) := by decide +kernel
theorem dX3_withStick_105 : decode cX3_withStick 105 = .ok (.invokestatic 182, 3) := by decide +kernel
theorem dX3_withStick_108 : decode cX3_withStick 108 = .ok (.lstore 4, 2) := by decide +kernel
theorem dX3_withStick_110 : decode cX3_withStick 110 = .ok (.lload 4, 2) := by decide +kernel
theorem dX3_withStick_112 : decode cX3_withStick 112 = .ok (.aload_n 0, 1) := by decide +kernel
theorem dX3_withStick_113 : decode cX3_withStick 113 = .ok (.iconst 0, 1) := by decide +kernel
theorem dX3_withStick_114 : decode cX3_withStick 114 = .ok (.iload_n 3, 1) := by decide +kernel
theorem dX3_withStick_115 : decode cX3_withStick 115 = .ok (.invokevirtual 207, 3) := by decide +kernel
theorem dX3_withStick_118 : decode cX3_withStick 118 = .ok (.i2l, 1) := by decide +kernel
theorem dX3_withStick_119 : decode cX3_withStick 119 = .ok (.invokestatic 182, 3) := by decide +kernel
theorem dX3_withStick_122 : decode cX3_withStick 122 = .ok (.lreturn, 1) := by decide +kernel
theorem dX3_drawLateness_0 : decode cX3_drawLateness 0 = .ok (.iload_n 1, 1) := by decide +kernel
theorem dX3_drawLateness_1 : decode cX3_drawLateness 1 = .ok (.istore_n 2, 1) := by decide +kernel
theorem dX3_drawLateness_2 : decode cX3_drawLateness 2 = .ok (.iconst 0, 1) := by decide +kernel
theorem dX3_drawLateness_3 : decode cX3_drawLateness 3 = .ok (.istore_n 3, 1) := by decide +kernel
theorem dX3_drawLateness_4 : decode cX3_drawLateness 4 = .ok (.iload_n 3, 1) := by decide +kernel
theorem dX3_drawLateness_5 : decode cX3_drawLateness 5 = .ok (.aload_n 0, 1) := by decide +kernel
theorem dX3_drawLateness_6 : decode cX3_drawLateness 6 = .ok (.getfield 19, 3) := by decide +kernel
theorem dX3_drawLateness_9 : decode cX3_drawLateness 9 = .ok (.getfield 57, 3) := by decide +kernel
theorem dX3_drawLateness_12 : decode cX3_drawLateness 12 = .ok (.if_icmp .ge 37, 3) := by decide +kernel
theorem dX3_drawLateness_15 : decode cX3_drawLateness 15 = .ok (.ldc2_w 210, 3) := by decide +kernel
theorem dX3_drawLateness_18 : decode cX3_drawLateness 18 = .ok (.iload_n 2, 1) := by decide +kernel
theorem dX3_drawLateness_19 : decode cX3_drawLateness 19 = .ok (.i2l, 1) := by decide +kernel
theorem dX3_drawLateness_20 : decode cX3_drawLateness 20 = .ok (.lmul, 1) := by decide +kernel
theorem dX3_drawLateness_21 : decode cX3_drawLateness 21 = .ok (.ldc2_w 212, 3) := by decide +kernel
theorem dX3_drawLateness_24 : decode cX3_drawLateness 24 = .ok (.ladd, 1) := by decide +kernel
theorem dX3_drawLateness_25 : decode cX3_drawLateness 25 = .ok (.ldc2_w 214, 3) := by decide +kernel
theorem dX3_drawLateness_28 : decode cX3_drawLateness 28 = .ok (.land, 1) := by decide +kernel
theorem dX3_drawLateness_29 : decode cX3_drawLateness 29 = .ok (.l2i, 1) := by decide +kernel
theorem dX3_drawLateness_30 : decode cX3_drawLateness 30 = .ok (.istore_n 2, 1) := by decide +kernel
theorem dX3_drawLateness_31 : decode cX3_drawLateness 31 = .ok (.aload_n 0, 1) := by decide +kernel
theorem dX3_drawLateness_32 : decode cX3_drawLateness 32 = .ok (.getfield 26, 3) := by decide +kernel
theorem dX3_drawLateness_35 : decode cX3_drawLateness 35 = .ok (.iload_n 3, 1) := by decide +kernel
theorem dX3_drawLateness_36 : decode cX3_drawLateness 36 = .ok (.iload_n 2, 1) := by decide +kernel
theorem dX3_drawLateness_37 : decode cX3_drawLateness 37 = .ok (.ldc 135, 2) := by decide +kernel
theorem dX3_drawLateness_39 : decode cX3_drawLateness 39 = .ok (.idiv, 1) := by decide +kernel
theorem dX3_drawLateness_40 : decode cX3_drawLateness 40 = .ok (.iconst 4, 1) := by decide +kernel
theorem dX3_drawLateness_41 : decode cX3_drawLateness 41 = .ok (.irem, 1) := by decide +kernel
theorem dX3_drawLateness_42 : decode cX3_drawLateness 42 = .ok (.iastore, 1) := by decide +kernel
theorem dX3_drawLateness_43 : decode cX3_drawLateness 43 = .ok (.iinc 3 1, 3) := by decide +kernel
theorem dX3_drawLateness_46 : decode cX3_drawLateness 46 = .ok (.goto (-42), 3) := by decide +kernel
theorem dX3_drawLateness_49 : decode cX3_drawLateness 49 = .ok (.iload_n 2, 1) := by decide +kernel
theorem dX3_drawLateness_50 : decode cX3_drawLateness 50 = .ok (.ireturn, 1) := by decide +kernel
theorem dX3_stepFrom_0 : decode cX3_stepFrom 0 = .ok (.iload_n 0, 1) := by decide +kernel
theorem dX3_stepFrom_1 : decode cX3_stepFrom 1 = .ok (.iconst 4, 1) := by decide +kernel
theorem dX3_stepFrom_2 : decode cX3_stepFrom 2 = .ok (.idiv, 1) := by decide +kernel
theorem dX3_stepFrom_3 : decode cX3_stepFrom 3 = .ok (.istore_n 2, 1) := by decide +kernel
theorem dX3_stepFrom_4 : decode cX3_stepFrom 4 = .ok (.iload_n 0, 1) := by decide +kernel
theorem dX3_stepFrom_5 : decode cX3_stepFrom 5 = .ok (.iconst 4, 1) := by decide +kernel
theorem dX3_stepFrom_6 : decode cX3_stepFrom 6 = .ok (.irem, 1) := by decide +kernel
theorem dX3_stepFrom_7 : decode cX3_stepFrom 7 = .ok (.istore_n 3, 1) := by decide +kernel
theorem dX3_stepFrom_8 : decode cX3_stepFrom 8 = .ok (.iload_n 1, 1) := by decide +kernel
theorem dX3_stepFrom_9 : decode cX3_stepFrom 9 = .ok (.tableswitch 81 0 3 #[31, 43, 56, 69], 31) := by decide +kernel
theorem dX3_stepFrom_40 : decode cX3_stepFrom 40 = .ok (.iload_n 2, 1) := by decide +kernel
theorem dX3_stepFrom_41 : decode cX3_stepFrom 41 = .ok (.ifCond .le 9, 3) := by decide +kernel
theorem dX3_stepFrom_44 : decode cX3_stepFrom 44 = .ok (.iload_n 0, 1) := by decide +kernel
theorem dX3_stepFrom_45 : decode cX3_stepFrom 45 = .ok (.iconst 4, 1) := by decide +kernel
theorem dX3_stepFrom_46 : decode cX3_stepFrom 46 = .ok (.isub, 1) := by decide +kernel
theorem dX3_stepFrom_47 : decode cX3_stepFrom 47 = .ok (.goto 4, 3) := by decide +kernel
theorem dX3_stepFrom_50 : decode cX3_stepFrom 50 = .ok (.iload_n 0, 1) := by decide +kernel
theorem dX3_stepFrom_51 : decode cX3_stepFrom 51 = .ok (.ireturn, 1) := by decide +kernel
theorem dX3_stepFrom_52 : decode cX3_stepFrom 52 = .ok (.iload_n 3, 1) := by decide +kernel
theorem dX3_stepFrom_53 : decode cX3_stepFrom 53 = .ok (.iconst 3, 1) := by decide +kernel
theorem dX3_stepFrom_54 : decode cX3_stepFrom 54 = .ok (.if_icmp .ge 9, 3) := by decide +kernel
theorem dX3_stepFrom_57 : decode cX3_stepFrom 57 = .ok (.iload_n 0, 1) := by decide +kernel
theorem dX3_stepFrom_58 : decode cX3_stepFrom 58 = .ok (.iconst 1, 1) := by decide +kernel
theorem dX3_stepFrom_59 : decode cX3_stepFrom 59 = .ok (.iadd, 1) := by decide +kernel
theorem dX3_stepFrom_60 : decode cX3_stepFrom 60 = .ok (.goto 4, 3) := by decide +kernel
theorem dX3_stepFrom_63 : decode cX3_stepFrom 63 = .ok (.iload_n 0, 1) := by decide +kernel
theorem dX3_stepFrom_64 : decode cX3_stepFrom 64 = .ok (.ireturn, 1) := by decide +kernel
theorem dX3_stepFrom_65 : decode cX3_stepFrom 65 = .ok (.iload_n 2, 1) := by decide +kernel
theorem dX3_stepFrom_66 : decode cX3_stepFrom 66 = .ok (.iconst 3, 1) := by decide +kernel
theorem dX3_stepFrom_67 : decode cX3_stepFrom 67 = .ok (.if_icmp .ge 9, 3) := by decide +kernel
theorem dX3_stepFrom_70 : decode cX3_stepFrom 70 = .ok (.iload_n 0, 1) := by decide +kernel
theorem dX3_stepFrom_71 : decode cX3_stepFrom 71 = .ok (.iconst 4, 1) := by decide +kernel
theorem dX3_stepFrom_72 : decode cX3_stepFrom 72 = .ok (.iadd, 1) := by decide +kernel
theorem dX3_stepFrom_73 : decode cX3_stepFrom 73 = .ok (.goto 4, 3) := by decide +kernel
theorem dX3_stepFrom_76 : decode cX3_stepFrom 76 = .ok (.iload_n 0, 1) := by decide +kernel
theorem dX3_stepFrom_77 : decode cX3_stepFrom 77 = .ok (.ireturn, 1) := by decide +kernel
theorem dX3_stepFrom_78 : decode cX3_stepFrom 78 = .ok (.iload_n 3, 1) := by decide +kernel
theorem dX3_stepFrom_79 : decode cX3_stepFrom 79 = .ok (.ifCond .le 9, 3) := by decide +kernel
theorem dX3_stepFrom_82 : decode cX3_stepFrom 82 = .ok (.iload_n 0, 1) := by decide +kernel
theorem dX3_stepFrom_83 : decode cX3_stepFrom 83 = .ok (.iconst 1, 1) := by decide +kernel
theorem dX3_stepFrom_84 : decode cX3_stepFrom 84 = .ok (.isub, 1) := by decide +kernel
theorem dX3_stepFrom_85 : decode cX3_stepFrom 85 = .ok (.goto 4, 3) := by decide +kernel
theorem dX3_stepFrom_88 : decode cX3_stepFrom 88 = .ok (.iload_n 0, 1) := by decide +kernel
theorem dX3_stepFrom_89 : decode cX3_stepFrom 89 = .ok (.ireturn, 1) := by decide +kernel
theorem dX3_stepFrom_90 : decode cX3_stepFrom 90 = .ok (.iload_n 0, 1) := by decide +kernel
theorem dX3_stepFrom_91 : decode cX3_stepFrom 91 = .ok (.ireturn, 1) := by decide +kernel
theorem dX3_stepsBetween_0 : decode cX3_stepsBetween 0 = .ok (.iload_n 0, 1) := by decide +kernel
theorem dX3_stepsBetween_1 : decode cX3_stepsBetween 1 = .ok (.iconst 4, 1) := by decide +kernel
theorem dX3_stepsBetween_2 : decode cX3_stepsBetween 2 = .ok (.idiv, 1) := by decide +kernel
theorem dX3_stepsBetween_3 : decode cX3_stepsBetween 3 = .ok (.iload_n 1, 1) := by decide +kernel
theorem dX3_stepsBetween_4 : decode cX3_stepsBetween 4 = .ok (.iconst 4, 1) := by decide +kernel
theorem dX3_stepsBetween_5 : decode cX3_stepsBetween 5 = .ok (.idiv, 1) := by decide +kernel
theorem dX3_stepsBetween_6 : decode cX3_stepsBetween 6 = .ok (.isub, 1) := by decide +kernel
theorem dX3_stepsBetween_7 : decode cX3_stepsBetween 7 = .ok (.invokestatic 216, 3) := by decide +kernel
theorem dX3_stepsBetween_10 : decode cX3_stepsBetween 10 = .ok (.iload_n 0, 1) := by decide +kernel
theorem dX3_stepsBetween_11 : decode cX3_stepsBetween 11 = .ok (.iconst 4, 1) := by decide +kernel
theorem dX3_stepsBetween_12 : decode cX3_stepsBetween 12 = .ok (.irem, 1) := by decide +kernel
theorem dX3_stepsBetween_13 : decode cX3_stepsBetween 13 = .ok (.iload_n 1, 1) := by decide +kernel
theorem dX3_stepsBetween_14 : decode cX3_stepsBetween 14 = .ok (.iconst 4, 1) := by decide +kernel
theorem dX3_stepsBetween_15 : decode cX3_stepsBetween 15 = .ok (.irem, 1) := by decide +kernel
theorem dX3_stepsBetween_16 : decode cX3_stepsBetween 16 = .ok (.isub, 1) := by decide +kernel
theorem dX3_stepsBetween_17 : decode cX3_stepsBetween 17 = .ok (.invokestatic 216, 3) := by decide +kernel
theorem dX3_stepsBetween_20 : decode cX3_stepsBetween 20 = .ok (.iadd, 1) := by decide +kernel
theorem dX3_stepsBetween_21 : decode cX3_stepsBetween 21 = .ok (.ireturn, 1) := by decide +kernel
theorem dJ6_bitCount_0f7a4_0 : decode cJ6_bitCount_0f7a4 0 = .ok (.iload_n 0, 1) := by decide +kernel
theorem dJ6_bitCount_0f7a4_1 : decode cJ6_bitCount_0f7a4 1 = .ok (.iload_n 0, 1) := by decide +kernel
theorem dJ6_bitCount_0f7a4_2 : decode cJ6_bitCount_0f7a4 2 = .ok (.iconst 1, 1) := by decide +kernel
theorem dJ6_bitCount_0f7a4_3 : decode cJ6_bitCount_0f7a4 3 = .ok (.iushr, 1) := by decide +kernel
theorem dJ6_bitCount_0f7a4_4 : decode cJ6_bitCount_0f7a4 4 = .ok (.ldc_w 265, 3) := by decide +kernel
theorem dJ6_bitCount_0f7a4_7 : decode cJ6_bitCount_0f7a4 7 = .ok (.iand, 1) := by decide +kernel
theorem dJ6_bitCount_0f7a4_8 : decode cJ6_bitCount_0f7a4 8 = .ok (.isub, 1) := by decide +kernel
theorem dJ6_bitCount_0f7a4_9 : decode cJ6_bitCount_0f7a4 9 = .ok (.istore_n 0, 1) := by decide +kernel
theorem dJ6_bitCount_0f7a4_10 : decode cJ6_bitCount_0f7a4 10 = .ok (.iload_n 0, 1) := by decide +kernel
theorem dJ6_bitCount_0f7a4_11 : decode cJ6_bitCount_0f7a4 11 = .ok (.ldc_w 266, 3) := by decide +kernel
theorem dJ6_bitCount_0f7a4_14 : decode cJ6_bitCount_0f7a4 14 = .ok (.iand, 1) := by decide +kernel
theorem dJ6_bitCount_0f7a4_15 : decode cJ6_bitCount_0f7a4 15 = .ok (.iload_n 0, 1) := by decide +kernel
theorem dJ6_bitCount_0f7a4_16 : decode cJ6_bitCount_0f7a4 16 = .ok (.iconst 2, 1) := by decide +kernel
theorem dJ6_bitCount_0f7a4_17 : decode cJ6_bitCount_0f7a4 17 = .ok (.iushr, 1) := by decide +kernel
theorem dJ6_bitCount_0f7a4_18 : decode cJ6_bitCount_0f7a4 18 = .ok (.ldc_w 266, 3) := by decide +kernel
theorem dJ6_bitCount_0f7a4_21 : decode cJ6_bitCount_0f7a4 21 = .ok (.iand, 1) := by decide +kernel
theorem dJ6_bitCount_0f7a4_22 : decode cJ6_bitCount_0f7a4 22 = .ok (.iadd, 1) := by decide +kernel
theorem dJ6_bitCount_0f7a4_23 : decode cJ6_bitCount_0f7a4 23 = .ok (.istore_n 0, 1) := by decide +kernel
theorem dJ6_bitCount_0f7a4_24 : decode cJ6_bitCount_0f7a4 24 = .ok (.iload_n 0, 1) := by decide +kernel
theorem dJ6_bitCount_0f7a4_25 : decode cJ6_bitCount_0f7a4 25 = .ok (.iload_n 0, 1) := by decide +kernel
theorem dJ6_bitCount_0f7a4_26 : decode cJ6_bitCount_0f7a4 26 = .ok (.iconst 4, 1) := by decide +kernel
theorem dJ6_bitCount_0f7a4_27 : decode cJ6_bitCount_0f7a4 27 = .ok (.iushr, 1) := by decide +kernel
theorem dJ6_bitCount_0f7a4_28 : decode cJ6_bitCount_0f7a4 28 = .ok (.iadd, 1) := by decide +kernel
theorem dJ6_bitCount_0f7a4_29 : decode cJ6_bitCount_0f7a4 29 = .ok (.ldc_w 267, 3) := by decide +kernel
theorem dJ6_bitCount_0f7a4_32 : decode cJ6_bitCount_0f7a4 32 = .ok (.iand, 1) := by decide +kernel
theorem dJ6_bitCount_0f7a4_33 : decode cJ6_bitCount_0f7a4 33 = .ok (.istore_n 0, 1) := by decide +kernel
theorem dJ6_bitCount_0f7a4_34 : decode cJ6_bitCount_0f7a4 34 = .ok (.iload_n 0, 1) := by decide +kernel
theorem dJ6_bitCount_0f7a4_35 : decode cJ6_bitCount_0f7a4 35 = .ok (.iload_n 0, 1) := by decide +kernel
theorem dJ6_bitCount_0f7a4_36 : decode cJ6_bitCount_0f7a4 36 = .ok (.bipush 8, 2) := by decide +kernel
theorem dJ6_bitCount_0f7a4_38 : decode cJ6_bitCount_0f7a4 38 = .ok (.iushr, 1) := by decide +kernel
theorem dJ6_bitCount_0f7a4_39 : decode cJ6_bitCount_0f7a4 39 = .ok (.iadd, 1) := by decide +kernel
theorem dJ6_bitCount_0f7a4_40 : decode cJ6_bitCount_0f7a4 40 = .ok (.istore_n 0, 1) := by decide +kernel
theorem dJ6_bitCount_0f7a4_41 : decode cJ6_bitCount_0f7a4 41 = .ok (.iload_n 0, 1) := by decide +kernel
theorem dJ6_bitCount_0f7a4_42 : decode cJ6_bitCount_0f7a4 42 = .ok (.iload_n 0, 1) := by decide +kernel
theorem dJ6_bitCount_0f7a4_43 : decode cJ6_bitCount_0f7a4 43 = .ok (.bipush 16, 2) := by decide +kernel
theorem dJ6_bitCount_0f7a4_45 : decode cJ6_bitCount_0f7a4 45 = .ok (.iushr, 1) := by decide +kernel
theorem dJ6_bitCount_0f7a4_46 : decode cJ6_bitCount_0f7a4 46 = .ok (.iadd, 1) := by decide +kernel
theorem dJ6_bitCount_0f7a4_47 : decode cJ6_bitCount_0f7a4 47 = .ok (.istore_n 0, 1) := by decide +kernel
theorem dJ6_bitCount_0f7a4_48 : decode cJ6_bitCount_0f7a4 48 = .ok (.iload_n 0, 1) := by decide +kernel
theorem dJ6_bitCount_0f7a4_49 : decode cJ6_bitCount_0f7a4 49 = .ok (.bipush 63, 2) := by decide +kernel
theorem dJ6_bitCount_0f7a4_51 : decode cJ6_bitCount_0f7a4 51 = .ok (.iand, 1) := by decide +kernel
theorem dJ6_bitCount_0f7a4_52 : decode cJ6_bitCount_0f7a4 52 = .ok (.ireturn, 1) := by decide +kernel
theorem dJ0_length_8abf5_0 : decode cJ0_length_8abf5 0 = .ok (.aload_n 0, 1) := by decide +kernel
theorem dJ0_length_8abf5_1 : decode cJ0_length_8abf5 1 = .ok (.getfield 9, 3) := by decide +kernel
theorem dJ0_length_8abf5_4 : decode cJ0_length_8abf5 4 = .ok (.arraylength, 1) := by decide +kernel
theorem dJ0_length_8abf5_5 : decode cJ0_length_8abf5 5 = .ok (.aload_n 0, 1) := by decide +kernel
theorem dJ0_length_8abf5_6 : decode cJ0_length_8abf5 6 = .ok (.invokevirtual 335, 3) := by decide +kernel
theorem dJ0_length_8abf5_9 : decode cJ0_length_8abf5 9 = .ok (.ishr, 1) := by decide +kernel
theorem dJ0_length_8abf5_10 : decode cJ0_length_8abf5 10 = .ok (.ireturn, 1) := by decide +kernel
theorem dJ0_indexOf_0f7a4_0 : decode cJ0_indexOf_0f7a4 0 = .ok (.aload_n 0, 1) := by decide +kernel
theorem dJ0_indexOf_0f7a4_1 : decode cJ0_indexOf_0f7a4 1 = .ok (.iload_n 1, 1) := by decide +kernel
theorem dJ0_indexOf_0f7a4_2 : decode cJ0_indexOf_0f7a4 2 = .ok (.iconst 0, 1) := by decide +kernel
theorem dJ0_indexOf_0f7a4_3 : decode cJ0_indexOf_0f7a4 3 = .ok (.invokevirtual 633, 3) := by decide +kernel
theorem dJ0_indexOf_0f7a4_6 : decode cJ0_indexOf_0f7a4 6 = .ok (.ireturn, 1) := by decide +kernel
theorem dJ0_indexOf_7cf53_0 : decode cJ0_indexOf_7cf53 0 = .ok (.aload_n 0, 1) := by decide +kernel
theorem dJ0_indexOf_7cf53_1 : decode cJ0_indexOf_7cf53 1 = .ok (.invokevirtual 492, 3) := by decide +kernel
theorem dJ0_indexOf_7cf53_4 : decode cJ0_indexOf_7cf53 4 = .ok (.ifCond .eq 19, 3) := by decide +kernel
theorem dJ0_indexOf_7cf53_7 : decode cJ0_indexOf_7cf53 7 = .ok (.aload_n 0, 1) := by decide +kernel
theorem dJ0_indexOf_7cf53_8 : decode cJ0_indexOf_7cf53 8 = .ok (.getfield 9, 3) := by decide +kernel
theorem dJ0_indexOf_7cf53_11 : decode cJ0_indexOf_7cf53 11 = .ok (.iload_n 1, 1) := by decide +kernel
theorem dJ0_indexOf_7cf53_12 : decode cJ0_indexOf_7cf53 12 = .ok (.iload_n 2, 1) := by decide +kernel
theorem dJ0_indexOf_7cf53_13 : decode cJ0_indexOf_7cf53 13 = .ok (.aload_n 0, 1) := by decide +kernel
theorem dJ0_indexOf_7cf53_14 : decode cJ0_indexOf_7cf53 14 = .ok (.invokevirtual 505, 3) := by decide +kernel
theorem dJ0_indexOf_7cf53_17 : decode cJ0_indexOf_7cf53 17 = .ok (.invokestatic 637, 3) := by decide +kernel
theorem dJ0_indexOf_7cf53_20 : decode cJ0_indexOf_7cf53 20 = .ok (.goto 16, 3) := by decide +kernel
theorem dJ0_indexOf_7cf53_23 : decode cJ0_indexOf_7cf53 23 = .ok (.aload_n 0, 1) := by decide +kernel
theorem dJ0_indexOf_7cf53_24 : decode cJ0_indexOf_7cf53 24 = .ok (.getfield 9, 3) := by decide +kernel
theorem dJ0_indexOf_7cf53_27 : decode cJ0_indexOf_7cf53 27 = .ok (.iload_n 1, 1) := by decide +kernel
theorem dJ0_indexOf_7cf53_28 : decode cJ0_indexOf_7cf53 28 = .ok (.iload_n 2, 1) := by decide +kernel
theorem dJ0_indexOf_7cf53_29 : decode cJ0_indexOf_7cf53 29 = .ok (.aload_n 0, 1) := by decide +kernel
theorem dJ0_indexOf_7cf53_30 : decode cJ0_indexOf_7cf53 30 = .ok (.invokevirtual 505, 3) := by decide +kernel
theorem dJ0_indexOf_7cf53_33 : decode cJ0_indexOf_7cf53 33 = .ok (.invokestatic 640, 3) := by decide +kernel
theorem dJ0_indexOf_7cf53_36 : decode cJ0_indexOf_7cf53 36 = .ok (.ireturn, 1) := by decide +kernel
theorem dJ0_coder_7d493_0 : decode cJ0_coder_7d493 0 = .ok (.getstatic 38, 3) := by decide +kernel
theorem dJ0_coder_7d493_3 : decode cJ0_coder_7d493 3 = .ok (.ifCond .eq 10, 3) := by decide +kernel
theorem dJ0_coder_7d493_6 : decode cJ0_coder_7d493 6 = .ok (.aload_n 0, 1) := by decide +kernel
theorem dJ0_coder_7d493_7 : decode cJ0_coder_7d493 7 = .ok (.getfield 15, 3) := by decide +kernel
theorem dJ0_coder_7d493_10 : decode cJ0_coder_7d493 10 = .ok (.goto 4, 3) := by decide +kernel
theorem dJ0_coder_7d493_13 : decode cJ0_coder_7d493 13 = .ok (.iconst 1, 1) := by decide +kernel
theorem dJ0_coder_7d493_14 : decode cJ0_coder_7d493 14 = .ok (.ireturn, 1) := by decide +kernel
theorem dJ0_isLatin1_aae02_0 : decode cJ0_isLatin1_aae02 0 = .ok (.getstatic 38, 3) := by decide +kernel
theorem dJ0_isLatin1_aae02_3 : decode cJ0_isLatin1_aae02 3 = .ok (.ifCond .eq 14, 3) := by decide +kernel
theorem dJ0_isLatin1_aae02_6 : decode cJ0_isLatin1_aae02 6 = .ok (.aload_n 0, 1) := by decide +kernel
theorem dJ0_isLatin1_aae02_7 : decode cJ0_isLatin1_aae02 7 = .ok (.getfield 15, 3) := by decide +kernel
theorem dJ0_isLatin1_aae02_10 : decode cJ0_isLatin1_aae02 10 = .ok (.ifCond .ne 7, 3) := by decide +kernel
theorem dJ0_isLatin1_aae02_13 : decode cJ0_isLatin1_aae02 13 = .ok (.iconst 1, 1) := by decide +kernel
theorem dJ0_isLatin1_aae02_14 : decode cJ0_isLatin1_aae02 14 = .ok (.goto 4, 3) := by decide +kernel
theorem dJ0_isLatin1_aae02_17 : decode cJ0_isLatin1_aae02 17 = .ok (.iconst 0, 1) := by decide +kernel
theorem dJ0_isLatin1_aae02_18 : decode cJ0_isLatin1_aae02 18 = .ok (.ireturn, 1) := by decide +kernel
theorem dJ0_checkBoundsBeginEnd_23922_0 : decode cJ0_checkBoundsBeginEnd_23922 0 = .ok (.iload_n 0, 1) := by decide +kernel
theorem dJ0_checkBoundsBeginEnd_23922_1 : decode cJ0_checkBoundsBeginEnd_23922 1 = .ok (.iload_n 1, 1) := by decide +kernel
theorem dJ0_checkBoundsBeginEnd_23922_2 : decode cJ0_checkBoundsBeginEnd_23922 2 = .ok (.iload_n 2, 1) := by decide +kernel
theorem dJ0_checkBoundsBeginEnd_23922_3 : decode cJ0_checkBoundsBeginEnd_23922 3 = .ok (.getstatic 1053, 3) := by decide +kernel
theorem dJ0_checkBoundsBeginEnd_23922_6 : decode cJ0_checkBoundsBeginEnd_23922 6 = .ok (.invokestatic 1062, 3) := by decide +kernel
theorem dJ0_checkBoundsBeginEnd_23922_9 : decode cJ0_checkBoundsBeginEnd_23922 9 = .ok (.pop, 1) := by decide +kernel
theorem dJ0_checkBoundsBeginEnd_23922_10 : decode cJ0_checkBoundsBeginEnd_23922 10 = .ok (.return_, 1) := by decide +kernel
theorem dJ1_canEncode_9a6ad_0 : decode cJ1_canEncode_9a6ad 0 = .ok (.iload_n 0, 1) := by decide +kernel
theorem dJ1_canEncode_9a6ad_1 : decode cJ1_canEncode_9a6ad 1 = .ok (.ifCond .lt 14, 3) := by decide +kernel
theorem dJ1_canEncode_9a6ad_4 : decode cJ1_canEncode_9a6ad 4 = .ok (.iload_n 0, 1) := by decide +kernel
theorem dJ1_canEncode_9a6ad_5 : decode cJ1_canEncode_9a6ad 5 = .ok (.sipush 255, 3) := by decide +kernel
theorem dJ1_canEncode_9a6ad_8 : decode cJ1_canEncode_9a6ad 8 = .ok (.if_icmp .gt 7, 3) := by decide +kernel
theorem dJ1_canEncode_9a6ad_11 : decode cJ1_canEncode_9a6ad 11 = .ok (.iconst 1, 1) := by decide +kernel
theorem dJ1_canEncode_9a6ad_12 : decode cJ1_canEncode_9a6ad 12 = .ok (.goto 4, 3) := by decide +kernel
theorem dJ1_canEncode_9a6ad_15 : decode cJ1_canEncode_9a6ad 15 = .ok (.iconst 0, 1) := by decide +kernel
theorem dJ1_canEncode_9a6ad_16 : decode cJ1_canEncode_9a6ad 16 = .ok (.ireturn, 1) := by decide +kernel
theorem dJ1_indexOf_4cfef_0 : decode cJ1_indexOf_4cfef 0 = .ok (.iload_n 1, 1) := by decide +kernel
theorem dJ1_indexOf_4cfef_1 : decode cJ1_indexOf_4cfef 1 = .ok (.invokestatic 88, 3) := by decide +kernel
theorem dJ1_indexOf_4cfef_4 : decode cJ1_indexOf_4cfef 4 = .ok (.ifCond .ne 5, 3) := by decide +kernel
theorem dJ1_indexOf_4cfef_7 : decode cJ1_indexOf_4cfef 7 = .ok (.iconst (-1), 1) := by decide +kernel
theorem dJ1_indexOf_4cfef_8 : decode cJ1_indexOf_4cfef 8 = .ok (.ireturn, 1) := by decide +kernel
theorem dJ1_indexOf_4cfef_9 : decode cJ1_indexOf_4cfef 9 = .ok (.iload_n 2, 1) := by decide +kernel
theorem dJ1_indexOf_4cfef_10 : decode cJ1_indexOf_4cfef 10 = .ok (.iconst 0, 1) := by decide +kernel
theorem dJ1_indexOf_4cfef_11 : decode cJ1_indexOf_4cfef 11 = .ok (.invokestatic 92, 3) := by decide +kernel
theorem dJ1_indexOf_4cfef_14 : decode cJ1_indexOf_4cfef 14 = .ok (.istore_n 2, 1) := by decide +kernel
theorem dJ1_indexOf_4cfef_15 : decode cJ1_indexOf_4cfef 15 = .ok (.iload_n 3, 1) := by decide +kernel
theorem dJ1_indexOf_4cfef_16 : decode cJ1_indexOf_4cfef 16 = .ok (.aload_n 0, 1) := by decide +kernel
theorem dJ1_indexOf_4cfef_17 : decode cJ1_indexOf_4cfef 17 = .ok (.arraylength, 1) := by decide +kernel
theorem dJ1_indexOf_4cfef_18 : decode cJ1_indexOf_4cfef 18 = .ok (.invokestatic 38, 3) := by decide +kernel
theorem dJ1_indexOf_4cfef_21 : decode cJ1_indexOf_4cfef 21 = .ok (.istore_n 3, 1) := by decide +kernel
theorem dJ1_indexOf_4cfef_22 : decode cJ1_indexOf_4cfef 22 = .ok (.iload_n 2, 1) := by decide +kernel
theorem dJ1_indexOf_4cfef_23 : decode cJ1_indexOf_4cfef 23 = .ok (.iload_n 3, 1) := by decide +kernel
theorem dJ1_indexOf_4cfef_24 : decode cJ1_indexOf_4cfef 24 = .ok (.if_icmp .lt 5, 3) := by decide +kernel
theorem dJ1_indexOf_4cfef_27 : decode cJ1_indexOf_4cfef 27 = .ok (.iconst (-1), 1) := by decide +kernel
theorem dJ1_indexOf_4cfef_28 : decode cJ1_indexOf_4cfef 28 = .ok (.ireturn, 1) := by decide +kernel
theorem dJ1_indexOf_4cfef_29 : decode cJ1_indexOf_4cfef 29 = .ok (.aload_n 0, 1) := by decide +kernel
theorem dJ1_indexOf_4cfef_30 : decode cJ1_indexOf_4cfef 30 = .ok (.iload_n 1, 1) := by decide +kernel
theorem dJ1_indexOf_4cfef_31 : decode cJ1_indexOf_4cfef 31 = .ok (.iload_n 2, 1) := by decide +kernel
theorem dJ1_indexOf_4cfef_32 : decode cJ1_indexOf_4cfef 32 = .ok (.iload_n 3, 1) := by decide +kernel
theorem dJ1_indexOf_4cfef_33 : decode cJ1_indexOf_4cfef 33 = .ok (.invokestatic 95, 3) := by decide +kernel
theorem dJ1_indexOf_4cfef_36 : decode cJ1_indexOf_4cfef 36 = .ok (.ireturn, 1) := by decide +kernel
theorem dJ1_indexOfChar_4cfef_0 : decode cJ1_indexOfChar_4cfef 0 = .ok (.iload_n 1, 1) := by decide +kernel
theorem dJ1_indexOfChar_4cfef_1 : decode cJ1_indexOfChar_4cfef 1 = .ok (.i2b, 1) := by decide +kernel
theorem dJ1_indexOfChar_4cfef_2 : decode cJ1_indexOfChar_4cfef 2 = .ok (.istore 4, 2) := by decide +kernel
theorem dJ1_indexOfChar_4cfef_4 : decode cJ1_indexOfChar_4cfef 4 = .ok (.iload_n 2, 1) := by decide +kernel
theorem dJ1_indexOfChar_4cfef_5 : decode cJ1_indexOfChar_4cfef 5 = .ok (.istore 5, 2) := by decide +kernel
theorem dJ1_indexOfChar_4cfef_7 : decode cJ1_indexOfChar_4cfef 7 = .ok (.iload 5, 2) := by decide +kernel
theorem dJ1_indexOfChar_4cfef_9 : decode cJ1_indexOfChar_4cfef 9 = .ok (.iload_n 3, 1) := by decide +kernel
theorem dJ1_indexOfChar_4cfef_10 : decode cJ1_indexOfChar_4cfef 10 = .ok (.if_icmp .ge 21, 3) := by decide +kernel
theorem dJ1_indexOfChar_4cfef_13 : decode cJ1_indexOfChar_4cfef 13 = .ok (.aload_n 0, 1) := by decide +kernel
theorem dJ1_indexOfChar_4cfef_14 : decode cJ1_indexOfChar_4cfef 14 = .ok (.iload 5, 2) := by decide +kernel
theorem dJ1_indexOfChar_4cfef_16 : decode cJ1_indexOfChar_4cfef 16 = .ok (.baload, 1) := by decide +kernel
theorem dJ1_indexOfChar_4cfef_17 : decode cJ1_indexOfChar_4cfef 17 = .ok (.iload 4, 2) := by decide +kernel
theorem dJ1_indexOfChar_4cfef_19 : decode cJ1_indexOfChar_4cfef 19 = .ok (.if_icmp .ne 6, 3) := by decide +kernel
theorem dJ1_indexOfChar_4cfef_22 : decode cJ1_indexOfChar_4cfef 22 = .ok (.iload 5, 2) := by decide +kernel
theorem dJ1_indexOfChar_4cfef_24 : decode cJ1_indexOfChar_4cfef 24 = .ok (.ireturn, 1) := by decide +kernel
theorem dJ1_indexOfChar_4cfef_25 : decode cJ1_indexOfChar_4cfef 25 = .ok (.iinc 5 1, 3) := by decide +kernel
theorem dJ1_indexOfChar_4cfef_28 : decode cJ1_indexOfChar_4cfef 28 = .ok (.goto (-21), 3) := by decide +kernel
theorem dJ1_indexOfChar_4cfef_31 : decode cJ1_indexOfChar_4cfef 31 = .ok (.iconst (-1), 1) := by decide +kernel
theorem dJ1_indexOfChar_4cfef_32 : decode cJ1_indexOfChar_4cfef 32 = .ok (.ireturn, 1) := by decide +kernel
