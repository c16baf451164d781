theorem dX1_sizeOf_0 : decode cX1_sizeOf 0 = .ok (.iload_n 1, 1) := by decide +kernel
theorem dX1_sizeOf_1 : decode cX1_sizeOf 1 = .ok (.invokestatic 31, 3) := by decide +kernel
theorem dX1_sizeOf_4 : decode cX1_sizeOf 4 = .ok (.ifCond .eq 12, 3) := by decide +kernel
theorem dX1_sizeOf_7 : decode cX1_sizeOf 7 = .ok (.aload_n 0, 1) := by decide +kernel
theorem dX1_sizeOf_8 : decode cX1_sizeOf 8 = .ok (.getfield 9, 3) := by decide +kernel
theorem dX1_sizeOf_11 : decode cX1_sizeOf 11 = .ok (.iload_n 1, 1) := by decide +kernel
theorem dX1_sizeOf_12 : decode cX1_sizeOf 12 = .ok (.iaload, 1) := by decide +kernel
theorem dX1_sizeOf_13 : decode cX1_sizeOf 13 = .ok (.goto 4, 3) := by decide +kernel
theorem dX1_sizeOf_16 : decode cX1_sizeOf 16 = .ok (.iconst 0, 1) := by decide +kernel
theorem dX1_sizeOf_17 : decode cX1_sizeOf 17 = .ok (.ireturn, 1) := by decide +kernel
theorem dX1_copyFrom_0 : decode cX1_copyFrom 0 = .ok (.aload_n 1, 1) := by decide +kernel
theorem dX1_copyFrom_1 : decode cX1_copyFrom 1 = .ok (.getfield 9, 3) := by decide +kernel
theorem dX1_copyFrom_4 : decode cX1_copyFrom 4 = .ok (.aload_n 0, 1) := by decide +kernel
theorem dX1_copyFrom_5 : decode cX1_copyFrom 5 = .ok (.getfield 9, 3) := by decide +kernel
theorem dX1_copyFrom_8 : decode cX1_copyFrom 8 = .ok (.invokestatic 27, 3) := by decide +kernel
theorem dX1_copyFrom_11 : decode cX1_copyFrom 11 = .ok (.aload_n 1, 1) := by decide +kernel
theorem dX1_copyFrom_12 : decode cX1_copyFrom 12 = .ok (.getfield 15, 3) := by decide +kernel
theorem dX1_copyFrom_15 : decode cX1_copyFrom 15 = .ok (.aload_n 0, 1) := by decide +kernel
theorem dX1_copyFrom_16 : decode cX1_copyFrom 16 = .ok (.getfield 15, 3) := by decide +kernel
theorem dX1_copyFrom_19 : decode cX1_copyFrom 19 = .ok (.invokestatic 27, 3) := by decide +kernel
theorem dX1_copyFrom_22 : decode cX1_copyFrom 22 = .ok (.aload_n 1, 1) := by decide +kernel
theorem dX1_copyFrom_23 : decode cX1_copyFrom 23 = .ok (.getfield 18, 3) := by decide +kernel
theorem dX1_copyFrom_26 : decode cX1_copyFrom 26 = .ok (.aload_n 0, 1) := by decide +kernel
theorem dX1_copyFrom_27 : decode cX1_copyFrom 27 = .ok (.getfield 18, 3) := by decide +kernel
theorem dX1_copyFrom_30 : decode cX1_copyFrom 30 = .ok (.invokestatic 27, 3) := by decide +kernel
theorem dX1_copyFrom_33 : decode cX1_copyFrom 33 = .ok (.aload_n 1, 1) := by decide +kernel
theorem dX1_copyFrom_34 : decode cX1_copyFrom 34 = .ok (.getfield 21, 3) := by decide +kernel
theorem dX1_copyFrom_37 : decode cX1_copyFrom 37 = .ok (.aload_n 0, 1) := by decide +kernel
theorem dX1_copyFrom_38 : decode cX1_copyFrom 38 = .ok (.getfield 21, 3) := by decide +kernel
theorem dX1_copyFrom_41 : decode cX1_copyFrom 41 = .ok (.invokestatic 27, 3) := by decide +kernel
theorem dX1_copyFrom_44 : decode cX1_copyFrom 44 = .ok (.aload_n 1, 1) := by decide +kernel
theorem dX1_copyFrom_45 : decode cX1_copyFrom 45 = .ok (.getfield 24, 3) := by decide +kernel
theorem dX1_copyFrom_48 : decode cX1_copyFrom 48 = .ok (.aload_n 0, 1) := by decide +kernel
theorem dX1_copyFrom_49 : decode cX1_copyFrom 49 = .ok (.getfield 24, 3) := by decide +kernel
theorem dX1_copyFrom_52 : decode cX1_copyFrom 52 = .ok (.invokestatic 27, 3) := by decide +kernel
theorem dX1_copyFrom_55 : decode cX1_copyFrom 55 = .ok (.return_, 1) := by decide +kernel
theorem dX0_copyFrom_0 : decode cX0_copyFrom 0 = .ok (.aload_n 0, 1) := by decide +kernel
theorem dX0_copyFrom_1 : decode cX0_copyFrom 1 = .ok (.aload_n 1, 1) := by decide +kernel
theorem dX0_copyFrom_2 : decode cX0_copyFrom 2 = .ok (.getfield 39, 3) := by decide +kernel
theorem dX0_copyFrom_5 : decode cX0_copyFrom 5 = .ok (.putfield 39, 3) := by decide +kernel
theorem dX0_copyFrom_8 : decode cX0_copyFrom 8 = .ok (.aload_n 1, 1) := by decide +kernel
theorem dX0_copyFrom_9 : decode cX0_copyFrom 9 = .ok (.getfield 9, 3) := by decide +kernel
theorem dX0_copyFrom_12 : decode cX0_copyFrom 12 = .ok (.aload_n 0, 1) := by decide +kernel
theorem dX0_copyFrom_13 : decode cX0_copyFrom 13 = .ok (.getfield 9, 3) := by decide +kernel
theorem dX0_copyFrom_16 : decode cX0_copyFrom 16 = .ok (.invokestatic 43, 3) := by decide +kernel
theorem dX0_copyFrom_19 : decode cX0_copyFrom 19 = .ok (.aload_n 1, 1) := by decide +kernel
theorem dX0_copyFrom_20 : decode cX0_copyFrom 20 = .ok (.getfield 15, 3) := by decide +kernel
theorem dX0_copyFrom_23 : decode cX0_copyFrom 23 = .ok (.aload_n 0, 1) := by decide +kernel
theorem dX0_copyFrom_24 : decode cX0_copyFrom 24 = .ok (.getfield 15, 3) := by decide +kernel
theorem dX0_copyFrom_27 : decode cX0_copyFrom 27 = .ok (.invokestatic 43, 3) := by decide +kernel
theorem dX0_copyFrom_30 : decode cX0_copyFrom 30 = .ok (.aload_n 1, 1) := by decide +kernel
theorem dX0_copyFrom_31 : decode cX0_copyFrom 31 = .ok (.getfield 18, 3) := by decide +kernel
theorem dX0_copyFrom_34 : decode cX0_copyFrom 34 = .ok (.aload_n 0, 1) := by decide +kernel
theorem dX0_copyFrom_35 : decode cX0_copyFrom 35 = .ok (.getfield 18, 3) := by decide +kernel
theorem dX0_copyFrom_38 : decode cX0_copyFrom 38 = .ok (.invokestatic 43, 3) := by decide +kernel
theorem dX0_copyFrom_41 : decode cX0_copyFrom 41 = .ok (.aload_n 1, 1) := by decide +kernel
theorem dX0_copyFrom_42 : decode cX0_copyFrom 42 = .ok (.getfield 21, 3) := by decide +kernel
theorem dX0_copyFrom_45 : decode cX0_copyFrom 45 = .ok (.aload_n 0, 1) := by decide +kernel
theorem dX0_copyFrom_46 : decode cX0_copyFrom 46 = .ok (.getfield 21, 3) := by decide +kernel
theorem dX0_copyFrom_49 : decode cX0_copyFrom 49 = .ok (.invokestatic 43, 3) := by decide +kernel
theorem dX0_copyFrom_52 : decode cX0_copyFrom 52 = .ok (.aload_n 1, 1) := by decide +kernel
theorem dX0_copyFrom_53 : decode cX0_copyFrom 53 = .ok (.getfield 24, 3) := by decide +kernel
theorem dX0_copyFrom_56 : decode cX0_copyFrom 56 = .ok (.aload_n 0, 1) := by decide +kernel
theorem dX0_copyFrom_57 : decode cX0_copyFrom 57 = .ok (.getfield 24, 3) := by decide +kernel
theorem dX0_copyFrom_60 : decode cX0_copyFrom 60 = .ok (.invokestatic 43, 3) := by decide +kernel
theorem dX0_copyFrom_63 : decode cX0_copyFrom 63 = .ok (.aload_n 1, 1) := by decide +kernel
theorem dX0_copyFrom_64 : decode cX0_copyFrom 64 = .ok (.getfield 27, 3) := by decide +kernel
theorem dX0_copyFrom_67 : decode cX0_copyFrom 67 = .ok (.aload_n 0, 1) := by decide +kernel
theorem dX0_copyFrom_68 : decode cX0_copyFrom 68 = .ok (.getfield 27, 3) := by decide +kernel
theorem dX0_copyFrom_71 : decode cX0_copyFrom 71 = .ok (.invokestatic 43, 3) := by decide +kernel
theorem dX0_copyFrom_74 : decode cX0_copyFrom 74 = .ok (.aload_n 1, 1) := by decide +kernel
theorem dX0_copyFrom_75 : decode cX0_copyFrom 75 = .ok (.getfield 30, 3) := by decide +kernel
theorem dX0_copyFrom_78 : decode cX0_copyFrom 78 = .ok (.aload_n 0, 1) := by decide +kernel
theorem dX0_copyFrom_79 : decode cX0_copyFrom 79 = .ok (.getfield 30, 3) := by decide +kernel
theorem dX0_copyFrom_82 : decode cX0_copyFrom 82 = .ok (.invokestatic 43, 3) := by decide +kernel
theorem dX0_copyFrom_85 : decode cX0_copyFrom 85 = .ok (.aload_n 1, 1) := by decide +kernel
theorem dX0_copyFrom_86 : decode cX0_copyFrom 86 = .ok (.getfield 33, 3) := by decide +kernel
theorem dX0_copyFrom_89 : decode cX0_copyFrom 89 = .ok (.aload_n 0, 1) := by decide +kernel
theorem dX0_copyFrom_90 : decode cX0_copyFrom 90 = .ok (.getfield 33, 3) := by decide +kernel
theorem dX0_copyFrom_93 : decode cX0_copyFrom 93 = .ok (.invokestatic 43, 3) := by decide +kernel
theorem dX0_copyFrom_96 : decode cX0_copyFrom 96 = .ok (.aload_n 1, 1) := by decide +kernel
theorem dX0_copyFrom_97 : decode cX0_copyFrom 97 = .ok (.getfield 36, 3) := by decide +kernel
theorem dX0_copyFrom_100 : decode cX0_copyFrom 100 = .ok (.aload_n 0, 1) := by decide +kernel
theorem dX0_copyFrom_101 : decode cX0_copyFrom 101 = .ok (.getfield 36, 3) := by decide +kernel
theorem dX0_copyFrom_104 : decode cX0_copyFrom 104 = .ok (.invokestatic 43, 3) := by decide +kernel
theorem dX0_copyFrom_107 : decode cX0_copyFrom 107 = .ok (.return_, 1) := by decide +kernel
theorem dX2_copyFrom_0 : decode cX2_copyFrom 0 = .ok (.aload_n 0, 1) := by decide +kernel
theorem dX2_copyFrom_1 : decode cX2_copyFrom 1 = .ok (.aload_n 1, 1) := by decide +kernel
theorem dX2_copyFrom_2 : decode cX2_copyFrom 2 = .ok (.getfield 30, 3) := by decide +kernel
theorem dX2_copyFrom_5 : decode cX2_copyFrom 5 = .ok (.putfield 30, 3) := by decide +kernel
theorem dX2_copyFrom_8 : decode cX2_copyFrom 8 = .ok (.aload_n 1, 1) := by decide +kernel
theorem dX2_copyFrom_9 : decode cX2_copyFrom 9 = .ok (.getfield 9, 3) := by decide +kernel
theorem dX2_copyFrom_12 : decode cX2_copyFrom 12 = .ok (.aload_n 0, 1) := by decide +kernel
theorem dX2_copyFrom_13 : decode cX2_copyFrom 13 = .ok (.getfield 9, 3) := by decide +kernel
theorem dX2_copyFrom_16 : decode cX2_copyFrom 16 = .ok (.invokestatic 34, 3) := by decide +kernel
theorem dX2_copyFrom_19 : decode cX2_copyFrom 19 = .ok (.aload_n 1, 1) := by decide +kernel
theorem dX2_copyFrom_20 : decode cX2_copyFrom 20 = .ok (.getfield 15, 3) := by decide +kernel
theorem dX2_copyFrom_23 : decode cX2_copyFrom 23 = .ok (.aload_n 0, 1) := by decide +kernel
theorem dX2_copyFrom_24 : decode cX2_copyFrom 24 = .ok (.getfield 15, 3) := by decide +kernel
theorem dX2_copyFrom_27 : decode cX2_copyFrom 27 = .ok (.invokestatic 34, 3) := by decide +kernel
theorem dX2_copyFrom_30 : decode cX2_copyFrom 30 = .ok (.aload_n 1, 1) := by decide +kernel
theorem dX2_copyFrom_31 : decode cX2_copyFrom 31 = .ok (.getfield 18, 3) := by decide +kernel
theorem dX2_copyFrom_34 : decode cX2_copyFrom 34 = .ok (.aload_n 0, 1) := by decide +kernel
theorem dX2_copyFrom_35 : decode cX2_copyFrom 35 = .ok (.getfield 18, 3) := by decide +kernel
theorem dX2_copyFrom_38 : decode cX2_copyFrom 38 = .ok (.invokestatic 34, 3) := by decide +kernel
theorem dX2_copyFrom_41 : decode cX2_copyFrom 41 = .ok (.aload_n 1, 1) := by decide +kernel
theorem dX2_copyFrom_42 : decode cX2_copyFrom 42 = .ok (.getfield 21, 3) := by decide +kernel
theorem dX2_copyFrom_45 : decode cX2_copyFrom 45 = .ok (.aload_n 0, 1) := by decide +kernel
theorem dX2_copyFrom_46 : decode cX2_copyFrom 46 = .ok (.getfield 21, 3) := by decide +kernel
theorem dX2_copyFrom_49 : decode cX2_copyFrom 49 = .ok (.invokestatic 34, 3) := by decide +kernel
theorem dX2_copyFrom_52 : decode cX2_copyFrom 52 = .ok (.return_, 1) := by decide +kernel
theorem dX1_add_0 : decode cX1_add 0 = .ok (.iload_n 1, 1) := by decide +kernel
theorem dX1_add_1 : decode cX1_add 1 = .ok (.invokestatic 31, 3) := by decide +kernel
theorem dX1_add_4 : decode cX1_add 4 = .ok (.ifCond .eq 14, 3) := by decide +kernel
theorem dX1_add_7 : decode cX1_add 7 = .ok (.aload_n 0, 1) := by decide +kernel
theorem dX1_add_8 : decode cX1_add 8 = .ok (.getfield 9, 3) := by decide +kernel
theorem dX1_add_11 : decode cX1_add 11 = .ok (.iload_n 1, 1) := by decide +kernel
theorem dX1_add_12 : decode cX1_add 12 = .ok (.iaload, 1) := by decide +kernel
theorem dX1_add_13 : decode cX1_add 13 = .ok (.bipush 6, 2) := by decide +kernel
theorem dX1_add_15 : decode cX1_add 15 = .ok (.if_icmp .lt 5, 3) := by decide +kernel
theorem dX1_add_18 : decode cX1_add 18 = .ok (.iconst (-1), 1) := by decide +kernel
theorem dX1_add_19 : decode cX1_add 19 = .ok (.ireturn, 1) := by decide +kernel
theorem dX1_add_20 : decode cX1_add 20 = .ok (.aload_n 0, 1) := by decide +kernel
theorem dX1_add_21 : decode cX1_add 21 = .ok (.getfield 9, 3) := by decide +kernel
theorem dX1_add_24 : decode cX1_add 24 = .ok (.iload_n 1, 1) := by decide +kernel
theorem dX1_add_25 : decode cX1_add 25 = .ok (.iaload, 1) := by decide +kernel
theorem dX1_add_26 : decode cX1_add 26 = .ok (.istore 5, 2) := by decide +kernel
theorem dX1_add_28 : decode cX1_add 28 = .ok (.iload_n 1, 1) := by decide +kernel
theorem dX1_add_29 : decode cX1_add 29 = .ok (.bipush 6, 2) := by decide +kernel
theorem dX1_add_31 : decode cX1_add 31 = .ok (.imul, 1) := by decide +kernel
theorem dX1_add_32 : decode cX1_add 32 = .ok (.iload 5, 2) := by decide +kernel
theorem dX1_add_34 : decode cX1_add 34 = .ok (.iadd, 1) := by decide +kernel
theorem dX1_add_35 : decode cX1_add 35 = .ok (.istore 6, 2) := by decide +kernel
theorem dX1_add_37 : decode cX1_add 37 = .ok (.aload_n 0, 1) := by decide +kernel
theorem dX1_add_38 : decode cX1_add 38 = .ok (.getfield 15, 3) := by decide +kernel
theorem dX1_add_41 : decode cX1_add 41 = .ok (.iload 6, 2) := by decide +kernel
theorem dX1_add_43 : decode cX1_add 43 = .ok (.iload_n 2, 1) := by decide +kernel
theorem dX1_add_44 : decode cX1_add 44 = .ok (.iastore, 1) := by decide +kernel
theorem dX1_add_45 : decode cX1_add 45 = .ok (.aload_n 0, 1) := by decide +kernel
theorem dX1_add_46 : decode cX1_add 46 = .ok (.getfield 18, 3) := by decide +kernel
theorem dX1_add_49 : decode cX1_add 49 = .ok (.iload 6, 2) := by decide +kernel
theorem dX1_add_51 : decode cX1_add 51 = .ok (.iload_n 3, 1) := by decide +kernel
theorem dX1_add_52 : decode cX1_add 52 = .ok (.iastore, 1) := by decide +kernel
theorem dX1_add_53 : decode cX1_add 53 = .ok (.aload_n 0, 1) := by decide +kernel
theorem dX1_add_54 : decode cX1_add 54 = .ok (.getfield 21, 3) := by decide +kernel
theorem dX1_add_57 : decode cX1_add 57 = .ok (.iload 6, 2) := by decide +kernel
theorem dX1_add_59 : decode cX1_add 59 = .ok (.iload 4, 2) := by decide +kernel
theorem dX1_add_61 : decode cX1_add 61 = .ok (.iastore, 1) := by decide +kernel
theorem dX1_add_62 : decode cX1_add 62 = .ok (.aload_n 0, 1) := by decide +kernel
theorem dX1_add_63 : decode cX1_add 63 = .ok (.getfield 24, 3) := by decide +kernel
theorem dX1_add_66 : decode cX1_add 66 = .ok (.iload 6, 2) := by decide +kernel
theorem dX1_add_68 : decode cX1_add 68 = .ok (.iconst 1, 1) := by decide +kernel
theorem dX1_add_69 : decode cX1_add 69 = .ok (.iastore, 1) := by decide +kernel
theorem dX1_add_70 : decode cX1_add 70 = .ok (.aload_n 0, 1) := by decide +kernel
theorem dX1_add_71 : decode cX1_add 71 = .ok (.getfield 9, 3) := by decide +kernel
theorem dX1_add_74 : decode cX1_add 74 = .ok (.iload_n 1, 1) := by decide +kernel
theorem dX1_add_75 : decode cX1_add 75 = .ok (.iload 5, 2) := by decide +kernel
theorem dX1_add_77 : decode cX1_add 77 = .ok (.iconst 1, 1) := by decide +kernel
theorem dX1_add_78 : decode cX1_add 78 = .ok (.iadd, 1) := by decide +kernel
theorem dX1_add_79 : decode cX1_add 79 = .ok (.iastore, 1) := by decide +kernel
theorem dX1_add_80 : decode cX1_add 80 = .ok (.iload 5, 2) := by decide +kernel
theorem dX1_add_82 : decode cX1_add 82 = .ok (.ireturn, 1) := by decide +kernel
theorem dX1_has_0 : decode cX1_has 0 = .ok (.iload_n 1, 1) := by decide +kernel
theorem dX1_has_1 : decode cX1_has 1 = .ok (.invokestatic 31, 3) := by decide +kernel
theorem dX1_has_4 : decode cX1_has 4 = .ok (.ifCond .eq 21, 3) := by decide +kernel
theorem dX1_has_7 : decode cX1_has 7 = .ok (.iload_n 2, 1) := by decide +kernel
theorem dX1_has_8 : decode cX1_has 8 = .ok (.ifCond .lt 17, 3) := by decide +kernel
theorem dX1_has_11 : decode cX1_has 11 = .ok (.iload_n 2, 1) := by decide +kernel
theorem dX1_has_12 : decode cX1_has 12 = .ok (.aload_n 0, 1) := by decide +kernel
theorem dX1_has_13 : decode cX1_has 13 = .ok (.getfield 9, 3) := by decide +kernel
theorem dX1_has_16 : decode cX1_has 16 = .ok (.iload_n 1, 1) := by decide +kernel
theorem dX1_has_17 : decode cX1_has 17 = .ok (.iaload, 1) := by decide +kernel
theorem dX1_has_18 : decode cX1_has 18 = .ok (.if_icmp .ge 7, 3) := by decide +kernel
theorem dX1_has_21 : decode cX1_has 21 = .ok (.iconst 1, 1) := by decide +kernel
theorem dX1_has_22 : decode cX1_has 22 = .ok (.goto 4, 3) := by decide +kernel
theorem dX1_has_25 : decode cX1_has 25 = .ok (.iconst 0, 1) := by decide +kernel
theorem dX1_has_26 : decode cX1_has 26 = .ok (.ireturn, 1) := by decide +kernel
theorem dX1_isOffered_0 : decode cX1_isOffered 0 = .ok (.aload_n 0, 1) := by decide +kernel
theorem dX1_isOffered_1 : decode cX1_isOffered 1 = .ok (.iload_n 1, 1) := by decide +kernel
theorem dX1_isOffered_2 : decode cX1_isOffered 2 = .ok (.iload_n 2, 1) := by decide +kernel
theorem dX1_isOffered_3 : decode cX1_isOffered 3 = .ok (.invokevirtual 35, 3) := by decide +kernel
theorem dX1_isOffered_6 : decode cX1_isOffered 6 = .ok (.ifCond .eq 22, 3) := by decide +kernel
theorem dX1_isOffered_9 : decode cX1_isOffered 9 = .ok (.aload_n 0, 1) := by decide +kernel
theorem dX1_isOffered_10 : decode cX1_isOffered 10 = .ok (.getfield 24, 3) := by decide +kernel
theorem dX1_isOffered_13 : decode cX1_isOffered 13 = .ok (.iload_n 1, 1) := by decide +kernel
theorem dX1_isOffered_14 : decode cX1_isOffered 14 = .ok (.bipush 6, 2) := by decide +kernel
theorem dX1_isOffered_16 : decode cX1_isOffered 16 = .ok (.imul, 1) := by decide +kernel
theorem dX1_isOffered_17 : decode cX1_isOffered 17 = .ok (.iload_n 2, 1) := by decide +kernel
theorem dX1_isOffered_18 : decode cX1_isOffered 18 = .ok (.iadd, 1) := by decide +kernel
theorem dX1_isOffered_19 : decode cX1_isOffered 19 = .ok (.iaload, 1) := by decide +kernel
theorem dX1_isOffered_20 : decode cX1_isOffered 20 = .ok (.iconst 1, 1) := by decide +kernel
theorem dX1_isOffered_21 : decode cX1_isOffered 21 = .ok (.if_icmp .ne 7, 3) := by decide +kernel
theorem dX1_isOffered_24 : decode cX1_isOffered 24 = .ok (.iconst 1, 1) := by decide +kernel
theorem dX1_isOffered_25 : decode cX1_isOffered 25 = .ok (.goto 4, 3) := by decide +kernel
theorem dX1_isOffered_28 : decode cX1_isOffered 28 = .ok (.iconst 0, 1) := by decide +kernel
theorem dX1_isOffered_29 : decode cX1_isOffered 29 = .ok (.ireturn, 1) := by decide +kernel
theorem dX1_remove_0 : decode cX1_remove 0 = .ok (.aload_n 0, 1) := by decide +kernel
theorem dX1_remove_1 : decode cX1_remove 1 = .ok (.iload_n 1, 1) := by decide +kernel
theorem dX1_remove_2 : decode cX1_remove 2 = .ok (.iload_n 2, 1) := by decide +kernel
theorem dX1_remove_3 : decode cX1_remove 3 = .ok (.invokevirtual 35, 3) := by decide +kernel
theorem dX1_remove_6 : decode cX1_remove 6 = .ok (.ifCond .eq 15, 3) := by decide +kernel
theorem dX1_remove_9 : decode cX1_remove 9 = .ok (.aload_n 0, 1) := by decide +kernel
theorem dX1_remove_10 : decode cX1_remove 10 = .ok (.getfield 24, 3) := by decide +kernel
theorem dX1_remove_13 : decode cX1_remove 13 = .ok (.iload_n 1, 1) := by decide +kernel
theorem dX1_remove_14 : decode cX1_remove 14 = .ok (.bipush 6, 2) := by decide +kernel
theorem dX1_remove_16 : decode cX1_remove 16 = .ok (.imul, 1) := by decide +kernel
theorem dX1_remove_17 : decode cX1_remove 17 = .ok (.iload_n 2, 1) := by decide +kernel
theorem dX1_remove_18 : decode cX1_remove 18 = .ok (.iadd, 1) := by decide +kernel
theorem dX1_remove_19 : decode cX1_remove 19 = .ok (.iconst 0, 1) := by decide +kernel
theorem dX1_remove_20 : decode cX1_remove 20 = .ok (.iastore, 1) := by decide +kernel
theorem dX1_remove_21 : decode cX1_remove 21 = .ok (.iconst 0, 1) := by decide +kernel
theorem dX1_remove_22 : decode cX1_remove 22 = .ok (.istore_n 3, 1) := by decide +kernel
theorem dX1_remove_23 : decode cX1_remove 23 = .ok (.iconst 0, 1) := by decide +kernel
theorem dX1_remove_24 : decode cX1_remove 24 = .ok (.istore 4, 2) := by decide +kernel
theorem dX1_remove_26 : decode cX1_remove 26 = .ok (.iload 4, 2) := by decide +kernel
theorem dX1_remove_28 : decode cX1_remove 28 = .ok (.aload_n 0, 1) := by decide +kernel
theorem dX1_remove_29 : decode cX1_remove 29 = .ok (.iload_n 1, 1) := by decide +kernel
theorem dX1_remove_30 : decode cX1_remove 30 = .ok (.invokevirtual 50, 3) := by decide +kernel
theorem dX1_remove_33 : decode cX1_remove 33 = .ok (.if_icmp .ge 22, 3) := by decide +kernel
theorem dX1_remove_36 : decode cX1_remove 36 = .ok (.aload_n 0, 1) := by decide +kernel
theorem dX1_remove_37 : decode cX1_remove 37 = .ok (.iload_n 1, 1) := by decide +kernel
theorem dX1_remove_38 : decode cX1_remove 38 = .ok (.iload 4, 2) := by decide +kernel
theorem dX1_remove_40 : decode cX1_remove 40 = .ok (.invokevirtual 54, 3) := by decide +kernel
theorem dX1_remove_43 : decode cX1_remove 43 = .ok (.ifCond .eq 6, 3) := by decide +kernel
theorem dX1_remove_46 : decode cX1_remove 46 = .ok (.iinc 3 1, 3) := by decide +kernel
theorem dX1_remove_49 : decode cX1_remove 49 = .ok (.iinc 4 1, 3) := by decide +kernel
theorem dX1_remove_52 : decode cX1_remove 52 = .ok (.goto (-26), 3) := by decide +kernel
theorem dX1_remove_55 : decode cX1_remove 55 = .ok (.iload_n 3, 1) := by decide +kernel
theorem dX1_remove_56 : decode cX1_remove 56 = .ok (.ireturn, 1) := by decide +kernel
theorem dX0_add_0 : decode cX0_add 0 = .ok (.aload_n 0, 1) := by decide +kernel
theorem dX0_add_1 : decode cX0_add 1 = .ok (.getfield 39, 3) := by decide +kernel
theorem dX0_add_4 : decode cX0_add 4 = .ok (.bipush 24, 2) := by decide +kernel
theorem dX0_add_6 : decode cX0_add 6 = .ok (.if_icmp .lt 5, 3) := by decide +kernel
theorem dX0_add_9 : decode cX0_add 9 = .ok (.iconst (-1), 1) := by decide +kernel
theorem dX0_add_10 : decode cX0_add 10 = .ok (.ireturn, 1) := by decide +kernel
theorem dX0_add_11 : decode cX0_add 11 = .ok (.aload_n 0, 1) := by decide +kernel
theorem dX0_add_12 : decode cX0_add 12 = .ok (.getfield 39, 3) := by decide +kernel
theorem dX0_add_15 : decode cX0_add 15 = .ok (.istore 4, 2) := by decide +kernel
theorem dX0_add_17 : decode cX0_add 17 = .ok (.aload_n 0, 1) := by decide +kernel
theorem dX0_add_18 : decode cX0_add 18 = .ok (.getfield 9, 3) := by decide +kernel
theorem dX0_add_21 : decode cX0_add 21 = .ok (.iload 4, 2) := by decide +kernel
theorem dX0_add_23 : decode cX0_add 23 = .ok (.iload_n 1, 1) := by decide +kernel
theorem dX0_add_24 : decode cX0_add 24 = .ok (.iastore, 1) := by decide +kernel
theorem dX0_add_25 : decode cX0_add 25 = .ok (.aload_n 0, 1) := by decide +kernel
theorem dX0_add_26 : decode cX0_add 26 = .ok (.getfield 15, 3) := by decide +kernel
theorem dX0_add_29 : decode cX0_add 29 = .ok (.iload 4, 2) := by decide +kernel
theorem dX0_add_31 : decode cX0_add 31 = .ok (.iload_n 2, 1) := by decide +kernel
theorem dX0_add_32 : decode cX0_add 32 = .ok (.iastore, 1) := by decide +kernel
theorem dX0_add_33 : decode cX0_add 33 = .ok (.aload_n 0, 1) := by decide +kernel
theorem dX0_add_34 : decode cX0_add 34 = .ok (.getfield 18, 3) := by decide +kernel
theorem dX0_add_37 : decode cX0_add 37 = .ok (.iload 4, 2) := by decide +kernel
theorem dX0_add_39 : decode cX0_add 39 = .ok (.iload_n 3, 1) := by decide +kernel
theorem dX0_add_40 : decode cX0_add 40 = .ok (.iastore, 1) := by decide +kernel
theorem dX0_add_41 : decode cX0_add 41 = .ok (.aload_n 0, 1) := by decide +kernel
theorem dX0_add_42 : decode cX0_add 42 = .ok (.getfield 21, 3) := by decide +kernel
theorem dX0_add_45 : decode cX0_add 45 = .ok (.iload 4, 2) := by decide +kernel
theorem dX0_add_47 : decode cX0_add 47 = .ok (.iconst 0, 1) := by decide +kernel
theorem dX0_add_48 : decode cX0_add 48 = .ok (.iastore, 1) := by decide +kernel
theorem dX0_add_49 : decode cX0_add 49 = .ok (.aload_n 0, 1) := by decide +kernel
theorem dX0_add_50 : decode cX0_add 50 = .ok (.getfield 24, 3) := by decide +kernel
theorem dX0_add_53 : decode cX0_add 53 = .ok (.iload 4, 2) := by decide +kernel
theorem dX0_add_55 : decode cX0_add 55 = .ok (.iconst (-1), 1) := by decide +kernel
theorem dX0_add_56 : decode cX0_add 56 = .ok (.iastore, 1) := by decide +kernel
theorem dX0_add_57 : decode cX0_add 57 = .ok (.aload_n 0, 1) := by decide +kernel
theorem dX0_add_58 : decode cX0_add 58 = .ok (.getfield 27, 3) := by decide +kernel
theorem dX0_add_61 : decode cX0_add 61 = .ok (.iload 4, 2) := by decide +kernel
theorem dX0_add_63 : decode cX0_add 63 = .ok (.iconst 0, 1) := by decide +kernel
theorem dX0_add_64 : decode cX0_add 64 = .ok (.iastore, 1) := by decide +kernel
theorem dX0_add_65 : decode cX0_add 65 = .ok (.aload_n 0, 1) := by decide +kernel
theorem dX0_add_66 : decode cX0_add 66 = .ok (.getfield 30, 3) := by decide +kernel
theorem dX0_add_69 : decode cX0_add 69 = .ok (.iload 4, 2) := by decide +kernel
theorem dX0_add_71 : decode cX0_add 71 = .ok (.iconst (-1), 1) := by decide +kernel
theorem dX0_add_72 : decode cX0_add 72 = .ok (.iastore, 1) := by decide +kernel
theorem dX0_add_73 : decode cX0_add 73 = .ok (.aload_n 0, 1) := by decide +kernel
theorem dX0_add_74 : decode cX0_add 74 = .ok (.getfield 33, 3) := by decide +kernel
theorem dX0_add_77 : decode cX0_add 77 = .ok (.iload 4, 2) := by decide +kernel
theorem dX0_add_79 : decode cX0_add 79 = .ok (.iconst (-1), 1) := by decide +kernel
theorem dX0_add_80 : decode cX0_add 80 = .ok (.iastore, 1) := by decide +kernel
theorem dX0_add_81 : decode cX0_add 81 = .ok (.aload_n 0, 1) := by decide +kernel
theorem dX0_add_82 : decode cX0_add 82 = .ok (.getfield 36, 3) := by decide +kernel
theorem dX0_add_85 : decode cX0_add 85 = .ok (.iload 4, 2) := by decide +kernel
theorem dX0_add_87 : decode cX0_add 87 = .ok (.iconst (-1), 1) := by decide +kernel
theorem dX0_add_88 : decode cX0_add 88 = .ok (.iastore, 1) := by decide +kernel
theorem dX0_add_89 : decode cX0_add 89 = .ok (.aload_n 0, 1) := by decide +kernel
theorem dX0_add_90 : decode cX0_add 90 = .ok (.iload 4, 2) := by decide +kernel
theorem dX0_add_92 : decode cX0_add 92 = .ok (.iconst 1, 1) := by decide +kernel
theorem dX0_add_93 : decode cX0_add 93 = .ok (.iadd, 1) := by decide +kernel
theorem dX0_add_94 : decode cX0_add 94 = .ok (.putfield 39, 3) := by decide +kernel
theorem dX0_add_97 : decode cX0_add 97 = .ok (.iload 4, 2) := by decide +kernel
theorem dX0_add_99 : decode cX0_add 99 = .ok (.ireturn, 1) := by decide +kernel
theorem dX0_has_0 : decode cX0_has 0 = .ok (.iload_n 1, 1) := by decide +kernel
theorem dX0_has_1 : decode cX0_has 1 = .ok (.ifCond .lt 15, 3) := by decide +kernel
theorem dX0_has_4 : decode cX0_has 4 = .ok (.iload_n 1, 1) := by decide +kernel
theorem dX0_has_5 : decode cX0_has 5 = .ok (.aload_n 0, 1) := by decide +kernel
theorem dX0_has_6 : decode cX0_has 6 = .ok (.getfield 39, 3) := by decide +kernel
theorem dX0_has_9 : decode cX0_has 9 = .ok (.if_icmp .ge 7, 3) := by decide +kernel
theorem dX0_has_12 : decode cX0_has 12 = .ok (.iconst 1, 1) := by decide +kernel
theorem dX0_has_13 : decode cX0_has 13 = .ok (.goto 4, 3) := by decide +kernel
theorem dX0_has_16 : decode cX0_has 16 = .ok (.iconst 0, 1) := by decide +kernel
theorem dX0_has_17 : decode cX0_has 17 = .ok (.ireturn, 1) := by decide +kernel
theorem dX0_kindOf_0 : decode cX0_kindOf 0 = .ok (.aload_n 0, 1) := by decide +kernel
theorem dX0_kindOf_1 : decode cX0_kindOf 1 = .ok (.iload_n 1, 1) := by decide +kernel
theorem dX0_kindOf_2 : decode cX0_kindOf 2 = .ok (.invokevirtual 47, 3) := by decide +kernel
theorem dX0_kindOf_5 : decode cX0_kindOf 5 = .ok (.ifCond .eq 12, 3) := by decide +kernel
theorem dX0_kindOf_8 : decode cX0_kindOf 8 = .ok (.aload_n 0, 1) := by decide +kernel
theorem dX0_kindOf_9 : decode cX0_kindOf 9 = .ok (.getfield 9, 3) := by decide +kernel
theorem dX0_kindOf_12 : decode cX0_kindOf 12 = .ok (.iload_n 1, 1) := by decide +kernel
theorem dX0_kindOf_13 : decode cX0_kindOf 13 = .ok (.iaload, 1) := by decide +kernel
theorem dX0_kindOf_14 : decode cX0_kindOf 14 = .ok (.goto 4, 3) := by decide +kernel
theorem dX0_kindOf_17 : decode cX0_kindOf 17 = .ok (.iconst (-1), 1) := by decide +kernel
theorem dX0_kindOf_18 : decode cX0_kindOf 18 = .ok (.ireturn, 1) := by decide +kernel
theorem dX0_stageOf_0 : decode cX0_stageOf 0 = .ok (.aload_n 0, 1) := by decide +kernel
theorem dX0_stageOf_1 : decode cX0_stageOf 1 = .ok (.iload_n 1, 1) := by decide +kernel
theorem dX0_stageOf_2 : decode cX0_stageOf 2 = .ok (.invokevirtual 47, 3) := by decide +kernel
theorem dX0_stageOf_5 : decode cX0_stageOf 5 = .ok (.ifCond .eq 12, 3) := by decide +kernel
theorem dX0_stageOf_8 : decode cX0_stageOf 8 = .ok (.aload_n 0, 1) := by decide +kernel
theorem dX0_stageOf_9 : decode cX0_stageOf 9 = .ok (.getfield 21, 3) := by decide +kernel
theorem dX0_stageOf_12 : decode cX0_stageOf 12 = .ok (.iload_n 1, 1) := by decide +kernel
theorem dX0_stageOf_13 : decode cX0_stageOf 13 = .ok (.iaload, 1) := by decide +kernel
theorem dX0_stageOf_14 : decode cX0_stageOf 14 = .ok (.goto 4, 3) := by decide +kernel
theorem dX0_stageOf_17 : decode cX0_stageOf 17 = .ok (.iconst (-1), 1) := by decide +kernel
theorem dX0_stageOf_18 : decode cX0_stageOf 18 = .ok (.ireturn, 1) := by decide +kernel
theorem dX0_severityOf_0 : decode cX0_severityOf 0 = .ok (.aload_n 0, 1) := by decide +kernel
theorem dX0_severityOf_1 : decode cX0_severityOf 1 = .ok (.iload_n 1, 1) := by decide +kernel
theorem dX0_severityOf_2 : decode cX0_severityOf 2 = .ok (.invokevirtual 47, 3) := by decide +kernel
theorem dX0_severityOf_5 : decode cX0_severityOf 5 = .ok (.ifCond .eq 12, 3) := by decide +kernel
theorem dX0_severityOf_8 : decode cX0_severityOf 8 = .ok (.aload_n 0, 1) := by decide +kernel
theorem dX0_severityOf_9 : decode cX0_severityOf 9 = .ok (.getfield 15, 3) := by decide +kernel
theorem dX0_severityOf_12 : decode cX0_severityOf 12 = .ok (.iload_n 1, 1) := by decide +kernel
theorem dX0_severityOf_13 : decode cX0_severityOf 13 = .ok (.iaload, 1) := by decide +kernel
theorem dX0_severityOf_14 : decode cX0_severityOf 14 = .ok (.goto 4, 3) := by decide +kernel
theorem dX0_severityOf_17 : decode cX0_severityOf 17 = .ok (.iconst (-1), 1) := by decide +kernel
theorem dX0_severityOf_18 : decode cX0_severityOf 18 = .ok (.ireturn, 1) := by decide +kernel
theorem dX1_leastOf_0 : decode cX1_leastOf 0 = .ok (.aload_n 0, 1) := by decide +kernel
theorem dX1_leastOf_1 : decode cX1_leastOf 1 = .ok (.iload_n 1, 1) := by decide +kernel
theorem dX1_leastOf_2 : decode cX1_leastOf 2 = .ok (.iload_n 2, 1) := by decide +kernel
theorem dX1_leastOf_3 : decode cX1_leastOf 3 = .ok (.invokevirtual 35, 3) := by decide +kernel
theorem dX1_leastOf_6 : decode cX1_leastOf 6 = .ok (.ifCond .eq 17, 3) := by decide +kernel
theorem dX1_leastOf_9 : decode cX1_leastOf 9 = .ok (.aload_n 0, 1) := by decide +kernel
theorem dX1_leastOf_10 : decode cX1_leastOf 10 = .ok (.getfield 18, 3) := by decide +kernel
theorem dX1_leastOf_13 : decode cX1_leastOf 13 = .ok (.iload_n 1, 1) := by decide +kernel
theorem dX1_leastOf_14 : decode cX1_leastOf 14 = .ok (.bipush 6, 2) := by decide +kernel
theorem dX1_leastOf_16 : decode cX1_leastOf 16 = .ok (.imul, 1) := by decide +kernel
theorem dX1_leastOf_17 : decode cX1_leastOf 17 = .ok (.iload_n 2, 1) := by decide +kernel
theorem dX1_leastOf_18 : decode cX1_leastOf 18 = .ok (.iadd, 1) := by decide +kernel
theorem dX1_leastOf_19 : decode cX1_leastOf 19 = .ok (.iaload, 1) := by decide +kernel
theorem dX1_leastOf_20 : decode cX1_leastOf 20 = .ok (.goto 4, 3) := by decide +kernel
theorem dX1_leastOf_23 : decode cX1_leastOf 23 = .ok (.iconst 0, 1) := by decide +kernel
theorem dX1_leastOf_24 : decode cX1_leastOf 24 = .ok (.ireturn, 1) := by decide +kernel
theorem dX1_mostOf_0 : decode cX1_mostOf 0 = .ok (.aload_n 0, 1) := by decide +kernel
theorem dX1_mostOf_1 : decode cX1_mostOf 1 = .ok (.iload_n 1, 1) := by decide +kernel
theorem dX1_mostOf_2 : decode cX1_mostOf 2 = .ok (.iload_n 2, 1) := by decide +kernel
theorem dX1_mostOf_3 : decode cX1_mostOf 3 = .ok (.invokevirtual 35, 3) := by decide +kernel
theorem dX1_mostOf_6 : decode cX1_mostOf 6 = .ok (.ifCond .eq 17, 3) := by decide +kernel
theorem dX1_mostOf_9 : decode cX1_mostOf 9 = .ok (.aload_n 0, 1) := by decide +kernel
theorem dX1_mostOf_10 : decode cX1_mostOf 10 = .ok (.getfield 21, 3) := by decide +kernel
theorem dX1_mostOf_13 : decode cX1_mostOf 13 = .ok (.iload_n 1, 1) := by decide +kernel
theorem dX1_mostOf_14 : decode cX1_mostOf 14 = .ok (.bipush 6, 2) := by decide +kernel
theorem dX1_mostOf_16 : decode cX1_mostOf 16 = .ok (.imul, 1) := by decide +kernel
theorem dX1_mostOf_17 : decode cX1_mostOf 17 = .ok (.iload_n 2, 1) := by decide +kernel
theorem dX1_mostOf_18 : decode cX1_mostOf 18 = .ok (.iadd, 1) := by decide +kernel
theorem dX1_mostOf_19 : decode cX1_mostOf 19 = .ok (.iaload, 1) := by decide +kernel
theorem dX1_mostOf_20 : decode cX1_mostOf 20 = .ok (.goto 4, 3) := by decide +kernel
theorem dX1_mostOf_23 : decode cX1_mostOf 23 = .ok (.iconst 0, 1) := by decide +kernel
theorem dX1_mostOf_24 : decode cX1_mostOf 24 = .ok (.ireturn, 1) := by decide +kernel
theorem dX1_covers_0 : decode cX1_covers 0 = .ok (.iload_n 3, 1) := by decide +kernel
theorem dX1_covers_1 : decode cX1_covers 1 = .ok (.aload_n 0, 1) := by decide +kernel
theorem dX1_covers_2 : decode cX1_covers 2 = .ok (.iload_n 1, 1) := by decide +kernel
theorem dX1_covers_3 : decode cX1_covers 3 = .ok (.iload_n 2, 1) := by decide +kernel
theorem dX1_covers_4 : decode cX1_covers 4 = .ok (.invokevirtual 39, 3) := by decide +kernel
theorem dX1_covers_7 : decode cX1_covers 7 = .ok (.aload_n 0, 1) := by decide +kernel
theorem dX1_covers_8 : decode cX1_covers 8 = .ok (.iload_n 1, 1) := by decide +kernel
theorem dX1_covers_9 : decode cX1_covers 9 = .ok (.iload_n 2, 1) := by decide +kernel
theorem dX1_covers_10 : decode cX1_covers 10 = .ok (.invokevirtual 43, 3) := by decide +kernel
theorem dX1_covers_13 : decode cX1_covers 13 = .ok (.invokestatic 46, 3) := by decide +kernel
theorem dX1_covers_16 : decode cX1_covers 16 = .ok (.ireturn, 1) := by decide +kernel
theorem dX0_groupOf_0 : decode cX0_groupOf 0 = .ok (.aload_n 0, 1) := by decide +kernel
theorem dX0_groupOf_1 : decode cX0_groupOf 1 = .ok (.iload_n 1, 1) := by decide +kernel
theorem dX0_groupOf_2 : decode cX0_groupOf 2 = .ok (.invokevirtual 47, 3) := by decide +kernel
theorem dX0_groupOf_5 : decode cX0_groupOf 5 = .ok (.ifCond .eq 16, 3) := by decide +kernel
theorem dX0_groupOf_8 : decode cX0_groupOf 8 = .ok (.aload_n 0, 1) := by decide +kernel
theorem dX0_groupOf_9 : decode cX0_groupOf 9 = .ok (.getfield 15, 3) := by decide +kernel
theorem dX0_groupOf_12 : decode cX0_groupOf 12 = .ok (.iload_n 1, 1) := by decide +kernel
theorem dX0_groupOf_13 : decode cX0_groupOf 13 = .ok (.iaload, 1) := by decide +kernel
theorem dX0_groupOf_14 : decode cX0_groupOf 14 = .ok (.iconst 1, 1) := by decide +kernel
theorem dX0_groupOf_15 : decode cX0_groupOf 15 = .ok (.isub, 1) := by decide +kernel
theorem dX0_groupOf_16 : decode cX0_groupOf 16 = .ok (.iconst 3, 1) := by decide +kernel
theorem dX0_groupOf_17 : decode cX0_groupOf 17 = .ok (.idiv, 1) := by decide +kernel
theorem dX0_groupOf_18 : decode cX0_groupOf 18 = .ok (.goto 4, 3) := by decide +kernel
theorem dX0_groupOf_21 : decode cX0_groupOf 21 = .ok (.iconst (-1), 1) := by decide +kernel
theorem dX0_groupOf_22 : decode cX0_groupOf 22 = .ok (.ireturn, 1) := by decide +kernel
theorem dX2_latestOf_0 : decode cX2_latestOf 0 = .ok (.iload_n 1, 1) := by decide +kernel
theorem dX2_latestOf_1 : decode cX2_latestOf 1 = .ok (.invokestatic 38, 3) := by decide +kernel
theorem dX2_latestOf_4 : decode cX2_latestOf 4 = .ok (.ifCond .eq 23, 3) := by decide +kernel
theorem dX2_latestOf_7 : decode cX2_latestOf 7 = .ok (.iload_n 2, 1) := by decide +kernel
theorem dX2_latestOf_8 : decode cX2_latestOf 8 = .ok (.invokestatic 42, 3) := by decide +kernel
theorem dX2_latestOf_11 : decode cX2_latestOf 11 = .ok (.ifCond .eq 16, 3) := by decide +kernel
theorem dX2_latestOf_14 : decode cX2_latestOf 14 = .ok (.aload_n 0, 1) := by decide +kernel
theorem dX2_latestOf_15 : decode cX2_latestOf 15 = .ok (.getfield 21, 3) := by decide +kernel
theorem dX2_latestOf_18 : decode cX2_latestOf 18 = .ok (.iload_n 1, 1) := by decide +kernel
theorem dX2_latestOf_19 : decode cX2_latestOf 19 = .ok (.iconst 3, 1) := by decide +kernel
theorem dX2_latestOf_20 : decode cX2_latestOf 20 = .ok (.imul, 1) := by decide +kernel
theorem dX2_latestOf_21 : decode cX2_latestOf 21 = .ok (.iload_n 2, 1) := by decide +kernel
theorem dX2_latestOf_22 : decode cX2_latestOf 22 = .ok (.iadd, 1) := by decide +kernel
theorem dX2_latestOf_23 : decode cX2_latestOf 23 = .ok (.iaload, 1) := by decide +kernel
theorem dX2_latestOf_24 : decode cX2_latestOf 24 = .ok (.goto 4, 3) := by decide +kernel
theorem dX2_latestOf_27 : decode cX2_latestOf 27 = .ok (.iconst (-1), 1) := by decide +kernel
theorem dX2_latestOf_28 : decode cX2_latestOf 28 = .ok (.ireturn, 1) := by decide +kernel
theorem dX2_has_0 : decode cX2_has 0 = .ok (.iload_n 1, 1) := by decide +kernel
theorem dX2_has_1 : decode cX2_has 1 = .ok (.ifCond .lt 15, 3) := by decide +kernel
theorem dX2_has_4 : decode cX2_has 4 = .ok (.iload_n 1, 1) := by decide +kernel
theorem dX2_has_5 : decode cX2_has 5 = .ok (.aload_n 0, 1) := by decide +kernel
theorem dX2_has_6 : decode cX2_has 6 = .ok (.getfield 30, 3) := by decide +kernel
theorem dX2_has_9 : decode cX2_has 9 = .ok (.if_icmp .ge 7, 3) := by decide +kernel
theorem dX2_has_12 : decode cX2_has 12 = .ok (.iconst 1, 1) := by decide +kernel
theorem dX2_has_13 : decode cX2_has 13 = .ok (.goto 4, 3) := by decide +kernel
theorem dX2_has_16 : decode cX2_has 16 = .ok (.iconst 0, 1) := by decide +kernel
theorem dX2_has_17 : decode cX2_has 17 = .ok (.ireturn, 1) := by decide +kernel
theorem dX2_monthOf_0 : decode cX2_monthOf 0 = .ok (.aload_n 0, 1) := by decide +kernel
theorem dX2_monthOf_1 : decode cX2_monthOf 1 = .ok (.iload_n 1, 1) := by decide +kernel
theorem dX2_monthOf_2 : decode cX2_monthOf 2 = .ok (.invokevirtual 45, 3) := by decide +kernel
theorem dX2_monthOf_5 : decode cX2_monthOf 5 = .ok (.ifCond .eq 12, 3) := by decide +kernel
theorem dX2_monthOf_8 : decode cX2_monthOf 8 = .ok (.aload_n 0, 1) := by decide +kernel
theorem dX2_monthOf_9 : decode cX2_monthOf 9 = .ok (.getfield 15, 3) := by decide +kernel
theorem dX2_monthOf_12 : decode cX2_monthOf 12 = .ok (.iload_n 1, 1) := by decide +kernel
theorem dX2_monthOf_13 : decode cX2_monthOf 13 = .ok (.iaload, 1) := by decide +kernel
theorem dX2_monthOf_14 : decode cX2_monthOf 14 = .ok (.goto 4, 3) := by decide +kernel
theorem dX2_monthOf_17 : decode cX2_monthOf 17 = .ok (.iconst (-1), 1) := by decide +kernel
theorem dX2_monthOf_18 : decode cX2_monthOf 18 = .ok (.ireturn, 1) := by decide +kernel
theorem dX2_amendsOf_0 : decode cX2_amendsOf 0 = .ok (.aload_n 0, 1) := by decide +kernel
theorem dX2_amendsOf_1 : decode cX2_amendsOf 1 = .ok (.iload_n 1, 1) := by decide +kernel
theorem dX2_amendsOf_2 : decode cX2_amendsOf 2 = .ok (.invokevirtual 45, 3) := by decide +kernel
theorem dX2_amendsOf_5 : decode cX2_amendsOf 5 = .ok (.ifCond .eq 12, 3) := by decide +kernel
theorem dX2_amendsOf_8 : decode cX2_amendsOf 8 = .ok (.aload_n 0, 1) := by decide +kernel
theorem dX2_amendsOf_9 : decode cX2_amendsOf 9 = .ok (.getfield 9, 3) := by decide +kernel
theorem dX2_amendsOf_12 : decode cX2_amendsOf 12 = .ok (.iload_n 1, 1) := by decide +kernel
theorem dX2_amendsOf_13 : decode cX2_amendsOf 13 = .ok (.iaload, 1) := by decide +kernel
theorem dX2_amendsOf_14 : decode cX2_amendsOf 14 = .ok (.goto 4, 3) := by decide +kernel
theorem dX2_amendsOf_17 : decode cX2_amendsOf 17 = .ok (.iconst (-1), 1) := by decide +kernel
theorem dX2_amendsOf_18 : decode cX2_amendsOf 18 = .ok (.ireturn, 1) := by decide +kernel
theorem dX1_costOf_0 : decode cX1_costOf 0 = .ok (.aload_n 0, 1) := by decide +kernel
theorem dX1_costOf_1 : decode cX1_costOf 1 = .ok (.iload_n 1, 1) := by decide +kernel
theorem dX1_costOf_2 : decode cX1_costOf 2 = .ok (.iload_n 2, 1) := by decide +kernel
theorem dX1_costOf_3 : decode cX1_costOf 3 = .ok (.invokevirtual 35, 3) := by decide +kernel
theorem dX1_costOf_6 : decode cX1_costOf 6 = .ok (.ifCond .eq 17, 3) := by decide +kernel
theorem dX1_costOf_9 : decode cX1_costOf 9 = .ok (.aload_n 0, 1) := by decide +kernel
theorem dX1_costOf_10 : decode cX1_costOf 10 = .ok (.getfield 15, 3) := by decide +kernel
theorem dX1_costOf_13 : decode cX1_costOf 13 = .ok (.iload_n 1, 1) := by decide +kernel
theorem dX1_costOf_14 : decode cX1_costOf 14 = .ok (.bipush 6, 2) := by decide +kernel
theorem dX1_costOf_16 : decode cX1_costOf 16 = .ok (.imul, 1) := by decide +kernel
theorem dX1_costOf_17 : decode cX1_costOf 17 = .ok (.iload_n 2, 1) := by decide +kernel
theorem dX1_costOf_18 : decode cX1_costOf 18 = .ok (.iadd, 1) := by decide +kernel
theorem dX1_costOf_19 : decode cX1_costOf 19 = .ok (.iaload, 1) := by decide +kernel
theorem dX1_costOf_20 : decode cX1_costOf 20 = .ok (.goto 4, 3) := by decide +kernel
theorem dX1_costOf_23 : decode cX1_costOf 23 = .ok (.iconst 0, 1) := by decide +kernel
theorem dX1_costOf_24 : decode cX1_costOf 24 = .ok (.ireturn, 1) := by decide +kernel
theorem dX0_gotOf_0 : decode cX0_gotOf 0 = .ok (.aload_n 0, 1) := by decide +kernel
theorem dX0_gotOf_1 : decode cX0_gotOf 1 = .ok (.iload_n 1, 1) := by decide +kernel
theorem dX0_gotOf_2 : decode cX0_gotOf 2 = .ok (.invokevirtual 47, 3) := by decide +kernel
theorem dX0_gotOf_5 : decode cX0_gotOf 5 = .ok (.ifCond .eq 12, 3) := by decide +kernel
theorem dX0_gotOf_8 : decode cX0_gotOf 8 = .ok (.aload_n 0, 1) := by decide +kernel
theorem dX0_gotOf_9 : decode cX0_gotOf 9 = .ok (.getfield 27, 3) := by decide +kernel
theorem dX0_gotOf_12 : decode cX0_gotOf 12 = .ok (.iload_n 1, 1) := by decide +kernel
theorem dX0_gotOf_13 : decode cX0_gotOf 13 = .ok (.iaload, 1) := by decide +kernel
theorem dX0_gotOf_14 : decode cX0_gotOf 14 = .ok (.goto 4, 3) := by decide +kernel
theorem dX0_gotOf_17 : decode cX0_gotOf 17 = .ok (.iconst 0, 1) := by decide +kernel
theorem dX0_gotOf_18 : decode cX0_gotOf 18 = .ok (.ireturn, 1) := by decide +kernel
theorem dX0_give_0 : decode cX0_give 0 = .ok (.aload_n 0, 1) := by decide +kernel
theorem dX0_give_1 : decode cX0_give 1 = .ok (.iload_n 1, 1) := by decide +kernel
theorem dX0_give_2 : decode cX0_give 2 = .ok (.invokevirtual 47, 3) := by decide +kernel
theorem dX0_give_5 : decode cX0_give 5 = .ok (.ifCond .eq 17, 3) := by decide +kernel
theorem dX0_give_8 : decode cX0_give 8 = .ok (.aload_n 0, 1) := by decide +kernel
theorem dX0_give_9 : decode cX0_give 9 = .ok (.getfield 24, 3) := by decide +kernel
theorem dX0_give_12 : decode cX0_give 12 = .ok (.iload_n 1, 1) := by decide +kernel
theorem dX0_give_13 : decode cX0_give 13 = .ok (.iload_n 2, 1) := by decide +kernel
theorem dX0_give_14 : decode cX0_give 14 = .ok (.iastore, 1) := by decide +kernel
theorem dX0_give_15 : decode cX0_give 15 = .ok (.aload_n 0, 1) := by decide +kernel
theorem dX0_give_16 : decode cX0_give 16 = .ok (.getfield 27, 3) := by decide +kernel
theorem dX0_give_19 : decode cX0_give 19 = .ok (.iload_n 1, 1) := by decide +kernel
theorem dX0_give_20 : decode cX0_give 20 = .ok (.iload_n 3, 1) := by decide +kernel
theorem dX0_give_21 : decode cX0_give 21 = .ok (.iastore, 1) := by decide +kernel
theorem dX0_give_22 : decode cX0_give 22 = .ok (.return_, 1) := by decide +kernel
theorem dX2_add_0 : decode cX2_add 0 = .ok (.iload_n 1, 1) := by decide +kernel
theorem dX2_add_1 : decode cX2_add 1 = .ok (.invokestatic 38, 3) := by decide +kernel
theorem dX2_add_4 : decode cX2_add 4 = .ok (.ifCond .eq 19, 3) := by decide +kernel
theorem dX2_add_7 : decode cX2_add 7 = .ok (.iload_n 2, 1) := by decide +kernel
theorem dX2_add_8 : decode cX2_add 8 = .ok (.invokestatic 42, 3) := by decide +kernel
theorem dX2_add_11 : decode cX2_add 11 = .ok (.ifCond .eq 12, 3) := by decide +kernel
theorem dX2_add_14 : decode cX2_add 14 = .ok (.aload_n 0, 1) := by decide +kernel
theorem dX2_add_15 : decode cX2_add 15 = .ok (.getfield 30, 3) := by decide +kernel
theorem dX2_add_18 : decode cX2_add 18 = .ok (.bipush 24, 2) := by decide +kernel
theorem dX2_add_20 : decode cX2_add 20 = .ok (.if_icmp .lt 5, 3) := by decide +kernel
theorem dX2_add_23 : decode cX2_add 23 = .ok (.iconst (-1), 1) := by decide +kernel
theorem dX2_add_24 : decode cX2_add 24 = .ok (.ireturn, 1) := by decide +kernel
theorem dX2_add_25 : decode cX2_add 25 = .ok (.aload_n 0, 1) := by decide +kernel
theorem dX2_add_26 : decode cX2_add 26 = .ok (.getfield 30, 3) := by decide +kernel
theorem dX2_add_29 : decode cX2_add 29 = .ok (.istore 6, 2) := by decide +kernel
theorem dX2_add_31 : decode cX2_add 31 = .ok (.aload_n 0, 1) := by decide +kernel
theorem dX2_add_32 : decode cX2_add 32 = .ok (.getfield 9, 3) := by decide +kernel
theorem dX2_add_35 : decode cX2_add 35 = .ok (.iload 6, 2) := by decide +kernel
theorem dX2_add_37 : decode cX2_add 37 = .ok (.iload_n 3, 1) := by decide +kernel
theorem dX2_add_38 : decode cX2_add 38 = .ok (.iastore, 1) := by decide +kernel
theorem dX2_add_39 : decode cX2_add 39 = .ok (.aload_n 0, 1) := by decide +kernel
theorem dX2_add_40 : decode cX2_add 40 = .ok (.getfield 15, 3) := by decide +kernel
theorem dX2_add_43 : decode cX2_add 43 = .ok (.iload 6, 2) := by decide +kernel
theorem dX2_add_45 : decode cX2_add 45 = .ok (.iload 4, 2) := by decide +kernel
theorem dX2_add_47 : decode cX2_add 47 = .ok (.iastore, 1) := by decide +kernel
theorem dX2_add_48 : decode cX2_add 48 = .ok (.aload_n 0, 1) := by decide +kernel
theorem dX2_add_49 : decode cX2_add 49 = .ok (.getfield 18, 3) := by decide +kernel
theorem dX2_add_52 : decode cX2_add 52 = .ok (.iload 6, 2) := by decide +kernel
theorem dX2_add_54 : decode cX2_add 54 = .ok (.iload 5, 2) := by decide +kernel
theorem dX2_add_56 : decode cX2_add 56 = .ok (.iastore, 1) := by decide +kernel
theorem dX2_add_57 : decode cX2_add 57 = .ok (.aload_n 0, 1) := by decide +kernel
theorem dX2_add_58 : decode cX2_add 58 = .ok (.getfield 21, 3) := by decide +kernel
theorem dX2_add_61 : decode cX2_add 61 = .ok (.iload_n 1, 1) := by decide +kernel
theorem dX2_add_62 : decode cX2_add 62 = .ok (.iconst 3, 1) := by decide +kernel
theorem dX2_add_63 : decode cX2_add 63 = .ok (.imul, 1) := by decide +kernel
theorem dX2_add_64 : decode cX2_add 64 = .ok (.iload_n 2, 1) := by decide +kernel
theorem dX2_add_65 : decode cX2_add 65 = .ok (.iadd, 1) := by decide +kernel
theorem dX2_add_66 : decode cX2_add 66 = .ok (.iload 6, 2) := by decide +kernel
theorem dX2_add_68 : decode cX2_add 68 = .ok (.iastore, 1) := by decide +kernel
theorem dX2_add_69 : decode cX2_add 69 = .ok (.aload_n 0, 1) := by decide +kernel
theorem dX2_add_70 : decode cX2_add 70 = .ok (.iload 6, 2) := by decide +kernel
theorem dX2_add_72 : decode cX2_add 72 = .ok (.iconst 1, 1) := by decide +kernel
theorem dX2_add_73 : decode cX2_add 73 = .ok (.iadd, 1) := by decide +kernel
theorem dX2_add_74 : decode cX2_add 74 = .ok (.putfield 30, 3) := by decide +kernel
theorem dX2_add_77 : decode cX2_add 77 = .ok (.iload 6, 2) := by decide +kernel
theorem dX2_add_79 : decode cX2_add 79 = .ok (.ireturn, 1) := by decide +kernel
theorem dX0_noteDecision_0 : decode cX0_noteDecision 0 = .ok (.aload_n 0, 1) := by decide +kernel
theorem dX0_noteDecision_1 : decode cX0_noteDecision 1 = .ok (.iload_n 1, 1) := by decide +kernel
theorem dX0_noteDecision_2 : decode cX0_noteDecision 2 = .ok (.invokevirtual 47, 3) := by decide +kernel
theorem dX0_noteDecision_5 : decode cX0_noteDecision 5 = .ok (.ifCond .eq 32, 3) := by decide +kernel
theorem dX0_noteDecision_8 : decode cX0_noteDecision 8 = .ok (.aload_n 0, 1) := by decide +kernel
theorem dX0_noteDecision_9 : decode cX0_noteDecision 9 = .ok (.getfield 21, 3) := by decide +kernel
theorem dX0_noteDecision_12 : decode cX0_noteDecision 12 = .ok (.iload_n 1, 1) := by decide +kernel
theorem dX0_noteDecision_13 : decode cX0_noteDecision 13 = .ok (.iconst 1, 1) := by decide +kernel
theorem dX0_noteDecision_14 : decode cX0_noteDecision 14 = .ok (.iastore, 1) := by decide +kernel
theorem dX0_noteDecision_15 : decode cX0_noteDecision 15 = .ok (.aload_n 0, 1) := by decide +kernel
theorem dX0_noteDecision_16 : decode cX0_noteDecision 16 = .ok (.getfield 33, 3) := by decide +kernel
theorem dX0_noteDecision_19 : decode cX0_noteDecision 19 = .ok (.iload_n 1, 1) := by decide +kernel
theorem dX0_noteDecision_20 : decode cX0_noteDecision 20 = .ok (.iload_n 2, 1) := by decide +kernel
theorem dX0_noteDecision_21 : decode cX0_noteDecision 21 = .ok (.iastore, 1) := by decide +kernel
theorem dX0_noteDecision_22 : decode cX0_noteDecision 22 = .ok (.aload_n 0, 1) := by decide +kernel
theorem dX0_noteDecision_23 : decode cX0_noteDecision 23 = .ok (.getfield 36, 3) := by decide +kernel
theorem dX0_noteDecision_26 : decode cX0_noteDecision 26 = .ok (.iload_n 1, 1) := by decide +kernel
theorem dX0_noteDecision_27 : decode cX0_noteDecision 27 = .ok (.iload_n 3, 1) := by decide +kernel
theorem dX0_noteDecision_28 : decode cX0_noteDecision 28 = .ok (.iastore, 1) := by decide +kernel
theorem dX0_noteDecision_29 : decode cX0_noteDecision 29 = .ok (.aload_n 0, 1) := by decide +kernel
theorem dX0_noteDecision_30 : decode cX0_noteDecision 30 = .ok (.getfield 30, 3) := by decide +kernel
theorem dX0_noteDecision_33 : decode cX0_noteDecision 33 = .ok (.iload_n 1, 1) := by decide +kernel
theorem dX0_noteDecision_34 : decode cX0_noteDecision 34 = .ok (.iload 4, 2) := by decide +kernel
theorem dX0_noteDecision_36 : decode cX0_noteDecision 36 = .ok (.iastore, 1) := by decide +kernel
theorem dX0_noteDecision_37 : decode cX0_noteDecision 37 = .ok (.return_, 1) := by decide +kernel
theorem dX0_followedBy_0 : decode cX0_followedBy 0 = .ok (.aload_n 0, 1) := by decide +kernel
theorem dX0_followedBy_1 : decode cX0_followedBy 1 = .ok (.iload_n 1, 1) := by decide +kernel
theorem dX0_followedBy_2 : decode cX0_followedBy 2 = .ok (.invokevirtual 47, 3) := by decide +kernel
theorem dX0_followedBy_5 : decode cX0_followedBy 5 = .ok (.ifCond .eq 12, 3) := by decide +kernel
theorem dX0_followedBy_8 : decode cX0_followedBy 8 = .ok (.aload_n 0, 1) := by decide +kernel
theorem dX0_followedBy_9 : decode cX0_followedBy 9 = .ok (.getfield 36, 3) := by decide +kernel
theorem dX0_followedBy_12 : decode cX0_followedBy 12 = .ok (.iload_n 1, 1) := by decide +kernel
theorem dX0_followedBy_13 : decode cX0_followedBy 13 = .ok (.iaload, 1) := by decide +kernel
theorem dX0_followedBy_14 : decode cX0_followedBy 14 = .ok (.goto 4, 3) := by decide +kernel
theorem dX0_followedBy_17 : decode cX0_followedBy 17 = .ok (.iconst (-1), 1) := by decide +kernel
theorem dX0_followedBy_18 : decode cX0_followedBy 18 = .ok (.ireturn, 1) := by decide +kernel
theorem dX2_setterOf_0 : decode cX2_setterOf 0 = .ok (.aload_n 0, 1) := by decide +kernel
theorem dX2_setterOf_1 : decode cX2_setterOf 1 = .ok (.iload_n 1, 1) := by decide +kernel
theorem dX2_setterOf_2 : decode cX2_setterOf 2 = .ok (.invokevirtual 45, 3) := by decide +kernel
theorem dX2_setterOf_5 : decode cX2_setterOf 5 = .ok (.ifCond .eq 12, 3) := by decide +kernel
theorem dX2_setterOf_8 : decode cX2_setterOf 8 = .ok (.aload_n 0, 1) := by decide +kernel
theorem dX2_setterOf_9 : decode cX2_setterOf 9 = .ok (.getfield 18, 3) := by decide +kernel
theorem dX2_setterOf_12 : decode cX2_setterOf 12 = .ok (.iload_n 1, 1) := by decide +kernel
theorem dX2_setterOf_13 : decode cX2_setterOf 13 = .ok (.iaload, 1) := by decide +kernel
theorem dX2_setterOf_14 : decode cX2_setterOf 14 = .ok (.goto 4, 3) := by decide +kernel
theorem dX2_setterOf_17 : decode cX2_setterOf 17 = .ok (.iconst (-1), 1) := by decide +kernel
theorem dX2_setterOf_18 : decode cX2_setterOf 18 = .ok (.ireturn, 1) := by decide +kernel
theorem dX0_monthOf_0 : decode cX0_monthOf 0 = .ok (.aload_n 0, 1) := by decide +kernel
theorem dX0_monthOf_1 : decode cX0_monthOf 1 = .ok (.iload_n 1, 1) := by decide +kernel
theorem dX0_monthOf_2 : decode cX0_monthOf 2 = .ok (.invokevirtual 47, 3) := by decide +kernel
theorem dX0_monthOf_5 : decode cX0_monthOf 5 = .ok (.ifCond .eq 12, 3) := by decide +kernel
theorem dX0_monthOf_8 : decode cX0_monthOf 8 = .ok (.aload_n 0, 1) := by decide +kernel
theorem dX0_monthOf_9 : decode cX0_monthOf 9 = .ok (.getfield 33, 3) := by decide +kernel
theorem dX0_monthOf_12 : decode cX0_monthOf 12 = .ok (.iload_n 1, 1) := by decide +kernel
theorem dX0_monthOf_13 : decode cX0_monthOf 13 = .ok (.iaload, 1) := by decide +kernel
theorem dX0_monthOf_14 : decode cX0_monthOf 14 = .ok (.goto 4, 3) := by decide +kernel
theorem dX0_monthOf_17 : decode cX0_monthOf 17 = .ok (.iconst (-1), 1) := by decide +kernel
theorem dX0_monthOf_18 : decode cX0_monthOf 18 = .ok (.ireturn, 1) := by decide +kernel
theorem dX0_changeStage_0 : decode cX0_changeStage 0 = .ok (.aload_n 0, 1) := by decide +kernel
theorem dX0_changeStage_1 : decode cX0_changeStage 1 = .ok (.iload_n 1, 1) := by decide +kernel
theorem dX0_changeStage_2 : decode cX0_changeStage 2 = .ok (.invokevirtual 47, 3) := by decide +kernel
theorem dX0_changeStage_5 : decode cX0_changeStage 5 = .ok (.ifCond .eq 10, 3) := by decide +kernel
theorem dX0_changeStage_8 : decode cX0_changeStage 8 = .ok (.aload_n 0, 1) := by decide +kernel
theorem dX0_changeStage_9 : decode cX0_changeStage 9 = .ok (.getfield 21, 3) := by decide +kernel
theorem dX0_changeStage_12 : decode cX0_changeStage 12 = .ok (.iload_n 1, 1) := by decide +kernel
theorem dX0_changeStage_13 : decode cX0_changeStage 13 = .ok (.iload_n 2, 1) := by decide +kernel
theorem dX0_changeStage_14 : decode cX0_changeStage 14 = .ok (.iastore, 1) := by decide +kernel
theorem dX0_changeStage_15 : decode cX0_changeStage 15 = .ok (.return_, 1) := by decide +kernel
theorem dX0_inStage_0 : decode cX0_inStage 0 = .ok (.iconst 0, 1) := by decide +kernel
theorem dX0_inStage_1 : decode cX0_inStage 1 = .ok (.istore_n 2, 1) := by decide +kernel
theorem dX0_inStage_2 : decode cX0_inStage 2 = .ok (.iconst 0, 1) := by decide +kernel
theorem dX0_inStage_3 : decode cX0_inStage 3 = .ok (.istore_n 3, 1) := by decide +kernel
theorem dX0_inStage_4 : decode cX0_inStage 4 = .ok (.iload_n 3, 1) := by decide +kernel
theorem dX0_inStage_5 : decode cX0_inStage 5 = .ok (.aload_n 0, 1) := by decide +kernel
theorem dX0_inStage_6 : decode cX0_inStage 6 = .ok (.getfield 39, 3) := by decide +kernel
theorem dX0_inStage_9 : decode cX0_inStage 9 = .ok (.if_icmp .ge 21, 3) := by decide +kernel
theorem dX0_inStage_12 : decode cX0_inStage 12 = .ok (.aload_n 0, 1) := by decide +kernel
theorem dX0_inStage_13 : decode cX0_inStage 13 = .ok (.iload_n 3, 1) := by decide +kernel
theorem dX0_inStage_14 : decode cX0_inStage 14 = .ok (.invokevirtual 51, 3) := by decide +kernel
theorem dX0_inStage_17 : decode cX0_inStage 17 = .ok (.iload_n 1, 1) := by decide +kernel
theorem dX0_inStage_18 : decode cX0_inStage 18 = .ok (.if_icmp .ne 6, 3) := by decide +kernel
theorem dX0_inStage_21 : decode cX0_inStage 21 = .ok (.iinc 2 1, 3) := by decide +kernel
theorem dX0_inStage_24 : decode cX0_inStage 24 = .ok (.iinc 3 1, 3) := by decide +kernel
theorem dX0_inStage_27 : decode cX0_inStage 27 = .ok (.goto (-23), 3) := by decide +kernel
theorem dX0_inStage_30 : decode cX0_inStage 30 = .ok (.iload_n 2, 1) := by decide +kernel
theorem dX0_inStage_31 : decode cX0_inStage 31 = .ok (.ireturn, 1) := by decide +kernel
theorem dX2_raise_0 : decode cX2_raise 0 = .ok (.aload_n 0, 1) := by decide +kernel
theorem dX2_raise_1 : decode cX2_raise 1 = .ok (.iload_n 1, 1) := by decide +kernel
theorem dX2_raise_2 : decode cX2_raise 2 = .ok (.invokevirtual 45, 3) := by decide +kernel
theorem dX2_raise_5 : decode cX2_raise 5 = .ok (.ifCond .eq 10, 3) := by decide +kernel
theorem dX2_raise_8 : decode cX2_raise 8 = .ok (.aload_n 0, 1) := by decide +kernel
theorem dX2_raise_9 : decode cX2_raise 9 = .ok (.getfield 9, 3) := by decide +kernel
theorem dX2_raise_12 : decode cX2_raise 12 = .ok (.iload_n 1, 1) := by decide +kernel
theorem dX2_raise_13 : decode cX2_raise 13 = .ok (.iload_n 2, 1) := by decide +kernel
theorem dX2_raise_14 : decode cX2_raise 14 = .ok (.iastore, 1) := by decide +kernel
theorem dX2_raise_15 : decode cX2_raise 15 = .ok (.return_, 1) := by decide +kernel
theorem dX0_customerOf_0 : decode cX0_customerOf 0 = .ok (.aload_n 0, 1) := by decide +kernel
theorem dX0_customerOf_1 : decode cX0_customerOf 1 = .ok (.iload_n 1, 1) := by decide +kernel
theorem dX0_customerOf_2 : decode cX0_customerOf 2 = .ok (.invokevirtual 47, 3) := by decide +kernel
theorem dX0_customerOf_5 : decode cX0_customerOf 5 = .ok (.ifCond .eq 12, 3) := by decide +kernel
theorem dX0_customerOf_8 : decode cX0_customerOf 8 = .ok (.aload_n 0, 1) := by decide +kernel
theorem dX0_customerOf_9 : decode cX0_customerOf 9 = .ok (.getfield 18, 3) := by decide +kernel
theorem dX0_customerOf_12 : decode cX0_customerOf 12 = .ok (.iload_n 1, 1) := by decide +kernel
theorem dX0_customerOf_13 : decode cX0_customerOf 13 = .ok (.iaload, 1) := by decide +kernel
theorem dX0_customerOf_14 : decode cX0_customerOf 14 = .ok (.goto 4, 3) := by decide +kernel
theorem dX0_customerOf_17 : decode cX0_customerOf 17 = .ok (.iconst (-1), 1) := by decide +kernel
theorem dX0_customerOf_18 : decode cX0_customerOf 18 = .ok (.ireturn, 1) := by decide +kernel
theorem dX0_amendsOf_0 : decode cX0_amendsOf 0 = .ok (.aload_n 0, 1) := by decide +kernel
theorem dX0_amendsOf_1 : decode cX0_amendsOf 1 = .ok (.iload_n 1, 1) := by decide +kernel
theorem dX0_amendsOf_2 : decode cX0_amendsOf 2 = .ok (.invokevirtual 47, 3) := by decide +kernel
theorem dX0_amendsOf_5 : decode cX0_amendsOf 5 = .ok (.ifCond .eq 12, 3) := by decide +kernel
theorem dX0_amendsOf_8 : decode cX0_amendsOf 8 = .ok (.aload_n 0, 1) := by decide +kernel
theorem dX0_amendsOf_9 : decode cX0_amendsOf 9 = .ok (.getfield 24, 3) := by decide +kernel
theorem dX0_amendsOf_12 : decode cX0_amendsOf 12 = .ok (.iload_n 1, 1) := by decide +kernel
theorem dX0_amendsOf_13 : decode cX0_amendsOf 13 = .ok (.iaload, 1) := by decide +kernel
theorem dX0_amendsOf_14 : decode cX0_amendsOf 14 = .ok (.goto 4, 3) := by decide +kernel
theorem dX0_amendsOf_17 : decode cX0_amendsOf 17 = .ok (.iconst (-1), 1) := by decide +kernel
theorem dX0_amendsOf_18 : decode cX0_amendsOf 18 = .ok (.ireturn, 1) := by decide +kernel
theorem dX0_reasonOf_0 : decode cX0_reasonOf 0 = .ok (.aload_n 0, 1) := by decide +kernel
theorem dX0_reasonOf_1 : decode cX0_reasonOf 1 = .ok (.iload_n 1, 1) := by decide +kernel
theorem dX0_reasonOf_2 : decode cX0_reasonOf 2 = .ok (.invokevirtual 47, 3) := by decide +kernel
theorem dX0_reasonOf_5 : decode cX0_reasonOf 5 = .ok (.ifCond .eq 12, 3) := by decide +kernel
theorem dX0_reasonOf_8 : decode cX0_reasonOf 8 = .ok (.aload_n 0, 1) := by decide +kernel
theorem dX0_reasonOf_9 : decode cX0_reasonOf 9 = .ok (.getfield 30, 3) := by decide +kernel
theorem dX0_reasonOf_12 : decode cX0_reasonOf 12 = .ok (.iload_n 1, 1) := by decide +kernel
theorem dX0_reasonOf_13 : decode cX0_reasonOf 13 = .ok (.iaload, 1) := by decide +kernel
theorem dX0_reasonOf_14 : decode cX0_reasonOf 14 = .ok (.goto 4, 3) := by decide +kernel
theorem dX0_reasonOf_17 : decode cX0_reasonOf 17 = .ok (.iconst (-1), 1) := by decide +kernel
theorem dX0_reasonOf_18 : decode cX0_reasonOf 18 = .ok (.ireturn, 1) := by decide +kernel
theorem dX0_having_0 : decode cX0_having 0 = .ok (.iconst 0, 1) := by decide +kernel
theorem dX0_having_1 : decode cX0_having 1 = .ok (.istore_n 3, 1) := by decide +kernel
theorem dX0_having_2 : decode cX0_having 2 = .ok (.iconst 0, 1) := by decide +kernel
theorem dX0_having_3 : decode cX0_having 3 = .ok (.istore 4, 2) := by decide +kernel
theorem dX0_having_5 : decode cX0_having 5 = .ok (.iload 4, 2) := by decide +kernel
theorem dX0_having_7 : decode cX0_having 7 = .ok (.aload_n 0, 1) := by decide +kernel
theorem dX0_having_8 : decode cX0_having 8 = .ok (.getfield 39, 3) := by decide +kernel
theorem dX0_having_11 : decode cX0_having 11 = .ok (.if_icmp .ge 32, 3) := by decide +kernel
theorem dX0_having_14 : decode cX0_having 14 = .ok (.aload_n 0, 1) := by decide +kernel
theorem dX0_having_15 : decode cX0_having 15 = .ok (.iload 4, 2) := by decide +kernel
theorem dX0_having_17 : decode cX0_having 17 = .ok (.invokevirtual 55, 3) := by decide +kernel
theorem dX0_having_20 : decode cX0_having 20 = .ok (.iload_n 1, 1) := by decide +kernel
theorem dX0_having_21 : decode cX0_having 21 = .ok (.if_icmp .ne 16, 3) := by decide +kernel
theorem dX0_having_24 : decode cX0_having 24 = .ok (.aload_n 0, 1) := by decide +kernel
theorem dX0_having_25 : decode cX0_having 25 = .ok (.iload 4, 2) := by decide +kernel
theorem dX0_having_27 : decode cX0_having 27 = .ok (.invokevirtual 58, 3) := by decide +kernel
theorem dX0_having_30 : decode cX0_having 30 = .ok (.iload_n 2, 1) := by decide +kernel
theorem dX0_having_31 : decode cX0_having 31 = .ok (.if_icmp .ne 6, 3) := by decide +kernel
theorem dX0_having_34 : decode cX0_having 34 = .ok (.iinc 3 1, 3) := by decide +kernel
theorem dX0_having_37 : decode cX0_having 37 = .ok (.iinc 4 1, 3) := by decide +kernel
theorem dX0_having_40 : decode cX0_having 40 = .ok (.goto (-35), 3) := by decide +kernel
theorem dX0_having_43 : decode cX0_having 43 = .ok (.iload_n 3, 1) := by decide +kernel
theorem dX0_having_44 : decode cX0_having 44 = .ok (.ireturn, 1) := by decide +kernel
theorem dX0_following_0 : decode cX0_following 0 = .ok (.iconst 0, 1) := by decide +kernel
theorem dX0_following_1 : decode cX0_following 1 = .ok (.istore_n 2, 1) := by decide +kernel
theorem dX0_following_2 : decode cX0_following 2 = .ok (.iconst 0, 1) := by decide +kernel
theorem dX0_following_3 : decode cX0_following 3 = .ok (.istore_n 3, 1) := by decide +kernel
theorem dX0_following_4 : decode cX0_following 4 = .ok (.iload_n 3, 1) := by decide +kernel
theorem dX0_following_5 : decode cX0_following 5 = .ok (.aload_n 0, 1) := by decide +kernel
theorem dX0_following_6 : decode cX0_following 6 = .ok (.getfield 39, 3) := by decide +kernel
theorem dX0_following_9 : decode cX0_following 9 = .ok (.if_icmp .ge 21, 3) := by decide +kernel
theorem dX0_following_12 : decode cX0_following 12 = .ok (.aload_n 0, 1) := by decide +kernel
theorem dX0_following_13 : decode cX0_following 13 = .ok (.iload_n 3, 1) := by decide +kernel
theorem dX0_following_14 : decode cX0_following 14 = .ok (.invokevirtual 61, 3) := by decide +kernel
theorem dX0_following_17 : decode cX0_following 17 = .ok (.iload_n 1, 1) := by decide +kernel
theorem dX0_following_18 : decode cX0_following 18 = .ok (.if_icmp .ne 6, 3) := by decide +kernel
theorem dX0_following_21 : decode cX0_following 21 = .ok (.iinc 2 1, 3) := by decide +kernel
theorem dX0_following_24 : decode cX0_following 24 = .ok (.iinc 3 1, 3) := by decide +kernel
theorem dX0_following_27 : decode cX0_following 27 = .ok (.goto (-23), 3) := by decide +kernel
theorem dX0_following_30 : decode cX0_following 30 = .ok (.iload_n 2, 1) := by decide +kernel
theorem dX0_following_31 : decode cX0_following 31 = .ok (.ireturn, 1) := by decide +kernel
theorem dX0_ofKind_0 : decode cX0_ofKind 0 = .ok (.iconst 0, 1) := by decide +kernel
theorem dX0_ofKind_1 : decode cX0_ofKind 1 = .ok (.istore_n 2, 1) := by decide +kernel
theorem dX0_ofKind_2 : decode cX0_ofKind 2 = .ok (.iconst 0, 1) := by decide +kernel
theorem dX0_ofKind_3 : decode cX0_ofKind 3 = .ok (.istore_n 3, 1) := by decide +kernel
theorem dX0_ofKind_4 : decode cX0_ofKind 4 = .ok (.iload_n 3, 1) := by decide +kernel
theorem dX0_ofKind_5 : decode cX0_ofKind 5 = .ok (.aload_n 0, 1) := by decide +kernel
theorem dX0_ofKind_6 : decode cX0_ofKind 6 = .ok (.getfield 39, 3) := by decide +kernel
theorem dX0_ofKind_9 : decode cX0_ofKind 9 = .ok (.if_icmp .ge 21, 3) := by decide +kernel
theorem dX0_ofKind_12 : decode cX0_ofKind 12 = .ok (.aload_n 0, 1) := by decide +kernel
theorem dX0_ofKind_13 : decode cX0_ofKind 13 = .ok (.iload_n 3, 1) := by decide +kernel
theorem dX0_ofKind_14 : decode cX0_ofKind 14 = .ok (.invokevirtual 55, 3) := by decide +kernel
theorem dX0_ofKind_17 : decode cX0_ofKind 17 = .ok (.iload_n 1, 1) := by decide +kernel
theorem dX0_ofKind_18 : decode cX0_ofKind 18 = .ok (.if_icmp .ne 6, 3) := by decide +kernel
theorem dX0_ofKind_21 : decode cX0_ofKind 21 = .ok (.iinc 2 1, 3) := by decide +kernel
theorem dX0_ofKind_24 : decode cX0_ofKind 24 = .ok (.iinc 3 1, 3) := by decide +kernel
theorem dX0_ofKind_27 : decode cX0_ofKind 27 = .ok (.goto (-23), 3) := by decide +kernel
theorem dX0_ofKind_30 : decode cX0_ofKind 30 = .ok (.iload_n 2, 1) := by decide +kernel
theorem dX0_ofKind_31 : decode cX0_ofKind 31 = .ok (.ireturn, 1) := by decide +kernel
theorem dX0_gotInKind_0 : decode cX0_gotInKind 0 = .ok (.iconst 0, 1) := by decide +kernel
theorem dX0_gotInKind_1 : decode cX0_gotInKind 1 = .ok (.istore_n 2, 1) := by decide +kernel
theorem dX0_gotInKind_2 : decode cX0_gotInKind 2 = .ok (.iconst 0, 1) := by decide +kernel
theorem dX0_gotInKind_3 : decode cX0_gotInKind 3 = .ok (.istore_n 3, 1) := by decide +kernel
theorem dX0_gotInKind_4 : decode cX0_gotInKind 4 = .ok (.iload_n 3, 1) := by decide +kernel
theorem dX0_gotInKind_5 : decode cX0_gotInKind 5 = .ok (.aload_n 0, 1) := by decide +kernel
theorem dX0_gotInKind_6 : decode cX0_gotInKind 6 = .ok (.getfield 39, 3) := by decide +kernel
theorem dX0_gotInKind_9 : decode cX0_gotInKind 9 = .ok (.if_icmp .ge 26, 3) := by decide +kernel
theorem dX0_gotInKind_12 : decode cX0_gotInKind 12 = .ok (.aload_n 0, 1) := by decide +kernel
theorem dX0_gotInKind_13 : decode cX0_gotInKind 13 = .ok (.iload_n 3, 1) := by decide +kernel
theorem dX0_gotInKind_14 : decode cX0_gotInKind 14 = .ok (.invokevirtual 55, 3) := by decide +kernel
theorem dX0_gotInKind_17 : decode cX0_gotInKind 17 = .ok (.iload_n 1, 1) := by decide +kernel
theorem dX0_gotInKind_18 : decode cX0_gotInKind 18 = .ok (.if_icmp .ne 11, 3) := by decide +kernel
theorem dX0_gotInKind_21 : decode cX0_gotInKind 21 = .ok (.iload_n 2, 1) := by decide +kernel
theorem dX0_gotInKind_22 : decode cX0_gotInKind 22 = .ok (.aload_n 0, 1) := by decide +kernel
theorem dX0_gotInKind_23 : decode cX0_gotInKind 23 = .ok (.iload_n 3, 1) := by decide +kernel
theorem dX0_gotInKind_24 : decode cX0_gotInKind 24 = .ok (.invokevirtual 67, 3) := by decide +kernel
theorem dX0_gotInKind_27 : decode cX0_gotInKind 27 = .ok (.iadd, 1) := by decide +kernel
theorem dX0_gotInKind_28 : decode cX0_gotInKind 28 = .ok (.istore_n 2, 1) := by decide +kernel
theorem dX0_gotInKind_29 : decode cX0_gotInKind 29 = .ok (.iinc 3 1, 3) := by decide +kernel
theorem dX0_gotInKind_32 : decode cX0_gotInKind 32 = .ok (.goto (-28), 3) := by decide +kernel
theorem dX0_gotInKind_35 : decode cX0_gotInKind 35 = .ok (.iload_n 2, 1) := by decide +kernel
theorem dX0_gotInKind_36 : decode cX0_gotInKind 36 = .ok (.ireturn, 1) := by decide +kernel
theorem dX0_gotInAll_0 : decode cX0_gotInAll 0 = .ok (.iconst 0, 1) := by decide +kernel
theorem dX0_gotInAll_1 : decode cX0_gotInAll 1 = .ok (.istore_n 1, 1) := by decide +kernel
theorem dX0_gotInAll_2 : decode cX0_gotInAll 2 = .ok (.iconst 0, 1) := by decide +kernel
theorem dX0_gotInAll_3 : decode cX0_gotInAll 3 = .ok (.istore_n 2, 1) := by decide +kernel
theorem dX0_gotInAll_4 : decode cX0_gotInAll 4 = .ok (.iload_n 2, 1) := by decide +kernel
theorem dX0_gotInAll_5 : decode cX0_gotInAll 5 = .ok (.iconst 4, 1) := by decide +kernel
theorem dX0_gotInAll_6 : decode cX0_gotInAll 6 = .ok (.if_icmp .ge 17, 3) := by decide +kernel
theorem dX0_gotInAll_9 : decode cX0_gotInAll 9 = .ok (.iload_n 1, 1) := by decide +kernel
theorem dX0_gotInAll_10 : decode cX0_gotInAll 10 = .ok (.aload_n 0, 1) := by decide +kernel
theorem dX0_gotInAll_11 : decode cX0_gotInAll 11 = .ok (.iload_n 2, 1) := by decide +kernel
theorem dX0_gotInAll_12 : decode cX0_gotInAll 12 = .ok (.invokevirtual 70, 3) := by decide +kernel
theorem dX0_gotInAll_15 : decode cX0_gotInAll 15 = .ok (.iadd, 1) := by decide +kernel
theorem dX0_gotInAll_16 : decode cX0_gotInAll 16 = .ok (.istore_n 1, 1) := by decide +kernel
theorem dX0_gotInAll_17 : decode cX0_gotInAll 17 = .ok (.iinc 2 1, 3) := by decide +kernel
theorem dX0_gotInAll_20 : decode cX0_gotInAll 20 = .ok (.goto (-16), 3) := by decide +kernel
theorem dX0_gotInAll_23 : decode cX0_gotInAll 23 = .ok (.iload_n 1, 1) := by decide +kernel
theorem dX0_gotInAll_24 : decode cX0_gotInAll 24 = .ok (.ireturn, 1) := by decide +kernel
theorem dX0_areAlike_0 : decode cX0_areAlike 0 = .ok (.aload_n 0, 1) := by decide +kernel
theorem dX0_areAlike_1 : decode cX0_areAlike 1 = .ok (.iload_n 1, 1) := by decide +kernel
theorem dX0_areAlike_2 : decode cX0_areAlike 2 = .ok (.invokevirtual 61, 3) := by decide +kernel
theorem dX0_areAlike_5 : decode cX0_areAlike 5 = .ok (.iconst (-1), 1) := by decide +kernel
theorem dX0_areAlike_6 : decode cX0_areAlike 6 = .ok (.if_icmp .eq 20, 3) := by decide +kernel
theorem dX0_areAlike_9 : decode cX0_areAlike 9 = .ok (.aload_n 0, 1) := by decide +kernel
theorem dX0_areAlike_10 : decode cX0_areAlike 10 = .ok (.iload_n 1, 1) := by decide +kernel
theorem dX0_areAlike_11 : decode cX0_areAlike 11 = .ok (.invokevirtual 61, 3) := by decide +kernel
theorem dX0_areAlike_14 : decode cX0_areAlike 14 = .ok (.aload_n 0, 1) := by decide +kernel
theorem dX0_areAlike_15 : decode cX0_areAlike 15 = .ok (.iload_n 2, 1) := by decide +kernel
theorem dX0_areAlike_16 : decode cX0_areAlike 16 = .ok (.invokevirtual 61, 3) := by decide +kernel
theorem dX0_areAlike_19 : decode cX0_areAlike 19 = .ok (.if_icmp .ne 7, 3) := by decide +kernel
theorem dX0_areAlike_22 : decode cX0_areAlike 22 = .ok (.iconst 1, 1) := by decide +kernel
theorem dX0_areAlike_23 : decode cX0_areAlike 23 = .ok (.goto 4, 3) := by decide +kernel
theorem dX0_areAlike_26 : decode cX0_areAlike 26 = .ok (.iconst 0, 1) := by decide +kernel
theorem dX0_areAlike_27 : decode cX0_areAlike 27 = .ok (.ireturn, 1) := by decide +kernel
theorem dX0_unequalPairs_0 : decode cX0_unequalPairs 0 = .ok (.iconst 0, 1) := by decide +kernel
theorem dX0_unequalPairs_1 : decode cX0_unequalPairs 1 = .ok (.istore_n 1, 1) := by decide +kernel
theorem dX0_unequalPairs_2 : decode cX0_unequalPairs 2 = .ok (.iconst 0, 1) := by decide +kernel
theorem dX0_unequalPairs_3 : decode cX0_unequalPairs 3 = .ok (.istore_n 2, 1) := by decide +kernel
theorem dX0_unequalPairs_4 : decode cX0_unequalPairs 4 = .ok (.iload_n 2, 1) := by decide +kernel
theorem dX0_unequalPairs_5 : decode cX0_unequalPairs 5 = .ok (.aload_n 0, 1) := by decide +kernel
theorem dX0_unequalPairs_6 : decode cX0_unequalPairs 6 = .ok (.getfield 39, 3) := by decide +kernel
theorem dX0_unequalPairs_9 : decode cX0_unequalPairs 9 = .ok (.if_icmp .ge 52, 3) := by decide +kernel
theorem dX0_unequalPairs_12 : decode cX0_unequalPairs 12 = .ok (.iload_n 2, 1) := by decide +kernel
theorem dX0_unequalPairs_13 : decode cX0_unequalPairs 13 = .ok (.iconst 1, 1) := by decide +kernel
theorem dX0_unequalPairs_14 : decode cX0_unequalPairs 14 = .ok (.iadd, 1) := by decide +kernel
theorem dX0_unequalPairs_15 : decode cX0_unequalPairs 15 = .ok (.istore_n 3, 1) := by decide +kernel
theorem dX0_unequalPairs_16 : decode cX0_unequalPairs 16 = .ok (.iload_n 3, 1) := by decide +kernel
theorem dX0_unequalPairs_17 : decode cX0_unequalPairs 17 = .ok (.aload_n 0, 1) := by decide +kernel
theorem dX0_unequalPairs_18 : decode cX0_unequalPairs 18 = .ok (.getfield 39, 3) := by decide +kernel
theorem dX0_unequalPairs_21 : decode cX0_unequalPairs 21 = .ok (.if_icmp .ge 34, 3) := by decide +kernel
theorem dX0_unequalPairs_24 : decode cX0_unequalPairs 24 = .ok (.aload_n 0, 1) := by decide +kernel
theorem dX0_unequalPairs_25 : decode cX0_unequalPairs 25 = .ok (.iload_n 2, 1) := by decide +kernel
theorem dX0_unequalPairs_26 : decode cX0_unequalPairs 26 = .ok (.iload_n 3, 1) := by decide +kernel
theorem dX0_unequalPairs_27 : decode cX0_unequalPairs 27 = .ok (.invokevirtual 73, 3) := by decide +kernel
theorem dX0_unequalPairs_30 : decode cX0_unequalPairs 30 = .ok (.ifCond .eq 19, 3) := by decide +kernel
theorem dX0_unequalPairs_33 : decode cX0_unequalPairs 33 = .ok (.aload_n 0, 1) := by decide +kernel
theorem dX0_unequalPairs_34 : decode cX0_unequalPairs 34 = .ok (.iload_n 2, 1) := by decide +kernel
theorem dX0_unequalPairs_35 : decode cX0_unequalPairs 35 = .ok (.invokevirtual 67, 3) := by decide +kernel
theorem dX0_unequalPairs_38 : decode cX0_unequalPairs 38 = .ok (.aload_n 0, 1) := by decide +kernel
theorem dX0_unequalPairs_39 : decode cX0_unequalPairs 39 = .ok (.iload_n 3, 1) := by decide +kernel
theorem dX0_unequalPairs_40 : decode cX0_unequalPairs 40 = .ok (.invokevirtual 67, 3) := by decide +kernel
theorem dX0_unequalPairs_43 : decode cX0_unequalPairs 43 = .ok (.if_icmp .eq 6, 3) := by decide +kernel
theorem dX0_unequalPairs_46 : decode cX0_unequalPairs 46 = .ok (.iinc 1 1, 3) := by decide +kernel
theorem dX0_unequalPairs_49 : decode cX0_unequalPairs 49 = .ok (.iinc 3 1, 3) := by decide +kernel
theorem dX0_unequalPairs_52 : decode cX0_unequalPairs 52 = .ok (.goto (-36), 3) := by decide +kernel
theorem dX0_unequalPairs_55 : decode cX0_unequalPairs 55 = .ok (.iinc 2 1, 3) := by decide +kernel
theorem dX0_unequalPairs_58 : decode cX0_unequalPairs 58 = .ok (.goto (-54), 3) := by decide +kernel
theorem dX0_unequalPairs_61 : decode cX0_unequalPairs 61 = .ok (.iload_n 1, 1) := by decide +kernel
theorem dX0_unequalPairs_62 : decode cX0_unequalPairs 62 = .ok (.ireturn, 1) := by decide +kernel
theorem dX0_ofOne_0 : decode cX0_ofOne 0 = .ok (.iconst 0, 1) := by decide +kernel
theorem dX0_ofOne_1 : decode cX0_ofOne 1 = .ok (.istore_n 3, 1) := by decide +kernel
theorem dX0_ofOne_2 : decode cX0_ofOne 2 = .ok (.iconst 0, 1) := by decide +kernel
theorem dX0_ofOne_3 : decode cX0_ofOne 3 = .ok (.istore 4, 2) := by decide +kernel
theorem dX0_ofOne_5 : decode cX0_ofOne 5 = .ok (.iload 4, 2) := by decide +kernel
theorem dX0_ofOne_7 : decode cX0_ofOne 7 = .ok (.aload_n 0, 1) := by decide +kernel
theorem dX0_ofOne_8 : decode cX0_ofOne 8 = .ok (.getfield 39, 3) := by decide +kernel
theorem dX0_ofOne_11 : decode cX0_ofOne 11 = .ok (.if_icmp .ge 30, 3) := by decide +kernel
theorem dX0_ofOne_14 : decode cX0_ofOne 14 = .ok (.aload_n 0, 1) := by decide +kernel
theorem dX0_ofOne_15 : decode cX0_ofOne 15 = .ok (.iload 4, 2) := by decide +kernel
theorem dX0_ofOne_17 : decode cX0_ofOne 17 = .ok (.invokevirtual 64, 3) := by decide +kernel
theorem dX0_ofOne_20 : decode cX0_ofOne 20 = .ok (.iload_n 1, 1) := by decide +kernel
theorem dX0_ofOne_21 : decode cX0_ofOne 21 = .ok (.if_icmp .ne 14, 3) := by decide +kernel
theorem dX0_ofOne_24 : decode cX0_ofOne 24 = .ok (.iload_n 3, 1) := by decide +kernel
theorem dX0_ofOne_25 : decode cX0_ofOne 25 = .ok (.iload_n 2, 1) := by decide +kernel
theorem dX0_ofOne_26 : decode cX0_ofOne 26 = .ok (.if_icmp .ne 6, 3) := by decide +kernel
theorem dX0_ofOne_29 : decode cX0_ofOne 29 = .ok (.iload 4, 2) := by decide +kernel
theorem dX0_ofOne_31 : decode cX0_ofOne 31 = .ok (.ireturn, 1) := by decide +kernel
theorem dX0_ofOne_32 : decode cX0_ofOne 32 = .ok (.iinc 3 1, 3) := by decide +kernel
theorem dX0_ofOne_35 : decode cX0_ofOne 35 = .ok (.iinc 4 1, 3) := by decide +kernel
theorem dX0_ofOne_38 : decode cX0_ofOne 38 = .ok (.goto (-33), 3) := by decide +kernel
theorem dX0_ofOne_41 : decode cX0_ofOne 41 = .ok (.iconst (-1), 1) := by decide +kernel
theorem dX0_ofOne_42 : decode cX0_ofOne 42 = .ok (.ireturn, 1) := by decide +kernel
def f_X1_sizeOf (b : Nat) (x : XS) (a0 : Int32) : Option (Int32) :=
    (f_X4_isKind a0).bind fun v1 =>
    if (v1 = 0 : Prop) then
      some 0
    else
      ((aget 4 (x (b + 2)) a0).bind fun v12 =>
      some v12)
set_option maxRecDepth 100000 in
set_option maxHeartbeats 4000000 in
theorem p_X1_sizeOf (l : Launch) (E : TE) {b : Nat} (hB_b : IsB b) (x m : XS) (g o : Int64) {a0 : Int32} {r : Int32} (hf : f_X1_sizeOf b x a0 = some r) : MG l E yX1_sizeOf cX1_sizeOf 2 (some .int) 1 [rf E (b + 1), .int a0] (Wd E x m g o) (Wd E x m g o) (some (.int r)) := by
  unfold f_X1_sizeOf at hf
  refine m_in (by decide) (Nat.le_of_ble_eq_true rfl) ?_
  intro p e s mi args below meth c H ls hx hb hr hlk hml hown hB hK hW hS hl
  have hl : lv_has ls 2 [(0, rf E (b + 1)), (1, .int a0)] := hl
  refine lv_iload_n hx hb dX1_sizeOf_0 rfl (lv_at hl 1 rfl) ?_
  obtain ⟨v1, e1, hf⟩ := ob2 hf
  refine c_SN (As := [.int a0]) (st1 := [.int v1]) (rest := []) (p_X4_isKind l E x m g o e1) (kc_X1_31 hB hK ⟨Nat.le_of_ble_eq_true rfl, Nat.le_of_ble_eq_true rfl⟩) hx hb hml hown hB hK hW hS ⟨Nat.zero_le _, Nat.zero_le _⟩ rfl hl.1 rfl (Nat.le_of_ble_eq_true rfl) rfl dX1_sizeOf_1 (fun H locs hW hS => ?_)
  refine lv_if_eq (tgt := 16) hx hb dX1_sizeOf_4 (by decide) (fun c4 => ?_) (fun c4 => ?_)
  · rw [if_pos c4] at hf
    refine lv_iconst (v := 0) hx hb dX1_sizeOf_16 (by decide) ?_
    cases hf
    exact e_i hx hb hr hlk hW hS dX1_sizeOf_17
  · rw [if_neg c4] at hf
    refine lv_aload_n hx hb dX1_sizeOf_7 rfl (lv_at hl 0 rfl) ?_
    refine gf_X1_9 hx hb hB hK hown hW hB_b dX1_sizeOf_8 ?_
    refine lv_iload_n hx hb dX1_sizeOf_11 rfl (lv_at hl 1 rfl) ?_
    obtain ⟨v12, e12, hf⟩ := ob2 hf
    refine r_iald hx hb hK hW (hB_b.l8 (by decide)) (cB_2 hB_b) e12 dX1_sizeOf_12 ?_
    refine lv_goto (tgt := 17) hx hb dX1_sizeOf_13 (by decide) ?_
    cases hf
    exact e_i hx hb hr hlk hW hS dX1_sizeOf_17
def f_X1_copyFrom (b : Nat) (b2 : Nat) (x : XS) : Option (XS) :=
    (some (cpA x (b2 + 2) (b + 2) 4)).bind fun x8 =>
    (some (cpA x8 (b2 + 3) (b + 3) 24)).bind fun x19 =>
    (some (cpA x19 (b2 + 4) (b + 4) 24)).bind fun x30 =>
    (some (cpA x30 (b2 + 5) (b + 5) 24)).bind fun x41 =>
    (some (cpA x41 (b2 + 6) (b + 6) 24)).bind fun x52 =>
    some x52
set_option maxRecDepth 100000 in
set_option maxHeartbeats 4000000 in
theorem p_X1_copyFrom (l : Launch) (E : TE) {b : Nat} (hB_b : IsB b) {b2 : Nat} (hB_b2 : IsB b2) (x m : XS) (g o : Int64) {xr : XS} (hf : f_X1_copyFrom b b2 x = some xr) : MG l E yX1_copyFrom cX1_copyFrom 2 none 3 [rf E (b + 1), rf E (b2 + 1)] (Wd E x m g o) (Wd E xr m g o) none := by
  unfold f_X1_copyFrom at hf
  refine m_in (by decide) (Nat.le_of_ble_eq_true rfl) ?_
  intro p e s mi args below meth c H ls hx hb hr hlk hml hown hB hK hW hS hl
  have hl : lv_has ls 2 [(0, rf E (b + 1)), (1, rf E (b2 + 1))] := hl
  refine lv_aload_n hx hb dX1_copyFrom_0 rfl (lv_at hl 1 rfl) ?_
  refine gf_X1_9 hx hb hB hK hown hW hB_b2 dX1_copyFrom_1 ?_
  refine lv_aload_n hx hb dX1_copyFrom_4 rfl (lv_at hl 0 rfl) ?_
  refine gf_X1_9 hx hb hB hK hown hW hB_b dX1_copyFrom_5 ?_
  obtain ⟨x8, e8, hf⟩ := ob hf
  have p8 := p_X4_copyAll l E (k1 := (b2 + 2)) (k2 := (b + 2)) (N := 4) (by decide) (hB_b2.lt (by decide)) (hB_b.lt (by decide)) (m := m) (g := g) (o := o) (fun _ => cB_2 hB_b2) (fun _ => cB_2 hB_b) x
  rw [← e8] at p8
  refine c_SN (As := [rf E (b2 + 2), rf E (b + 2)]) (st1 := []) (rest := []) (p8) (kc_X1_27 hB hK ⟨Nat.le_of_ble_eq_true rfl, Nat.le_of_ble_eq_true rfl⟩) hx hb hml hown hB hK hW hS ⟨Nat.zero_le _, Nat.zero_le _⟩ rfl hl.1 rfl (Nat.le_of_ble_eq_true rfl) rfl dX1_copyFrom_8 (fun H locs hW hS => ?_)
  refine lv_aload_n hx hb dX1_copyFrom_11 rfl (lv_at hl 1 rfl) ?_
  refine gf_X1_15 hx hb hB hK hown hW hB_b2 dX1_copyFrom_12 ?_
  refine lv_aload_n hx hb dX1_copyFrom_15 rfl (lv_at hl 0 rfl) ?_
  refine gf_X1_15 hx hb hB hK hown hW hB_b dX1_copyFrom_16 ?_
  obtain ⟨x19, e19, hf⟩ := ob hf
  have p19 := p_X4_copyAll l E (k1 := (b2 + 3)) (k2 := (b + 3)) (N := 24) (by decide) (hB_b2.lt (by decide)) (hB_b.lt (by decide)) (m := m) (g := g) (o := o) (fun _ => cB_3 hB_b2) (fun _ => cB_3 hB_b) x8
  rw [← e19] at p19
  refine c_SN (As := [rf E (b2 + 3), rf E (b + 3)]) (st1 := []) (rest := []) (p19) (kc_X1_27 hB hK ⟨Nat.le_of_ble_eq_true rfl, Nat.le_of_ble_eq_true rfl⟩) hx hb hml hown hB hK hW hS ⟨Nat.zero_le _, Nat.zero_le _⟩ rfl hl.1 rfl (Nat.le_of_ble_eq_true rfl) rfl dX1_copyFrom_19 (fun H locs hW hS => ?_)
  refine lv_aload_n hx hb dX1_copyFrom_22 rfl (lv_at hl 1 rfl) ?_
  refine gf_X1_18 hx hb hB hK hown hW hB_b2 dX1_copyFrom_23 ?_
  refine lv_aload_n hx hb dX1_copyFrom_26 rfl (lv_at hl 0 rfl) ?_
  refine gf_X1_18 hx hb hB hK hown hW hB_b dX1_copyFrom_27 ?_
  obtain ⟨x30, e30, hf⟩ := ob hf
  have p30 := p_X4_copyAll l E (k1 := (b2 + 4)) (k2 := (b + 4)) (N := 24) (by decide) (hB_b2.lt (by decide)) (hB_b.lt (by decide)) (m := m) (g := g) (o := o) (fun _ => cB_4 hB_b2) (fun _ => cB_4 hB_b) x19
  rw [← e30] at p30
  refine c_SN (As := [rf E (b2 + 4), rf E (b + 4)]) (st1 := []) (rest := []) (p30) (kc_X1_27 hB hK ⟨Nat.le_of_ble_eq_true rfl, Nat.le_of_ble_eq_true rfl⟩) hx hb hml hown hB hK hW hS ⟨Nat.zero_le _, Nat.zero_le _⟩ rfl hl.1 rfl (Nat.le_of_ble_eq_true rfl) rfl dX1_copyFrom_30 (fun H locs hW hS => ?_)
  refine lv_aload_n hx hb dX1_copyFrom_33 rfl (lv_at hl 1 rfl) ?_
  refine gf_X1_21 hx hb hB hK hown hW hB_b2 dX1_copyFrom_34 ?_
  refine lv_aload_n hx hb dX1_copyFrom_37 rfl (lv_at hl 0 rfl) ?_
  refine gf_X1_21 hx hb hB hK hown hW hB_b dX1_copyFrom_38 ?_
  obtain ⟨x41, e41, hf⟩ := ob hf
  have p41 := p_X4_copyAll l E (k1 := (b2 + 5)) (k2 := (b + 5)) (N := 24) (by decide) (hB_b2.lt (by decide)) (hB_b.lt (by decide)) (m := m) (g := g) (o := o) (fun _ => cB_5 hB_b2) (fun _ => cB_5 hB_b) x30
  rw [← e41] at p41
  refine c_SN (As := [rf E (b2 + 5), rf E (b + 5)]) (st1 := []) (rest := []) (p41) (kc_X1_27 hB hK ⟨Nat.le_of_ble_eq_true rfl, Nat.le_of_ble_eq_true rfl⟩) hx hb hml hown hB hK hW hS ⟨Nat.zero_le _, Nat.zero_le _⟩ rfl hl.1 rfl (Nat.le_of_ble_eq_true rfl) rfl dX1_copyFrom_41 (fun H locs hW hS => ?_)
  refine lv_aload_n hx hb dX1_copyFrom_44 rfl (lv_at hl 1 rfl) ?_
  refine gf_X1_24 hx hb hB hK hown hW hB_b2 dX1_copyFrom_45 ?_
  refine lv_aload_n hx hb dX1_copyFrom_48 rfl (lv_at hl 0 rfl) ?_
  refine gf_X1_24 hx hb hB hK hown hW hB_b dX1_copyFrom_49 ?_
  obtain ⟨x52, e52, hf⟩ := ob hf
  have p52 := p_X4_copyAll l E (k1 := (b2 + 6)) (k2 := (b + 6)) (N := 24) (by decide) (hB_b2.lt (by decide)) (hB_b.lt (by decide)) (m := m) (g := g) (o := o) (fun _ => cB_6 hB_b2) (fun _ => cB_6 hB_b) x41
  rw [← e52] at p52
  refine c_SN (As := [rf E (b2 + 6), rf E (b + 6)]) (st1 := []) (rest := []) (p52) (kc_X1_27 hB hK ⟨Nat.le_of_ble_eq_true rfl, Nat.le_of_ble_eq_true rfl⟩) hx hb hml hown hB hK hW hS ⟨Nat.zero_le _, Nat.zero_le _⟩ rfl hl.1 rfl (Nat.le_of_ble_eq_true rfl) rfl dX1_copyFrom_52 (fun H locs hW hS => ?_)
  cases hf
  exact e_v hx hb hr hlk hW hS dX1_copyFrom_55
def f_X0_copyFrom (b : Nat) (b2 : Nat) (x : XS) : Option (XS) :=
    (some (ux x (b + 7) 0 (x (b2 + 7) 0))).bind fun x5 =>
    (some (cpA x5 (b2 + 8) (b + 8) 24)).bind fun x16 =>
    (some (cpA x16 (b2 + 9) (b + 9) 24)).bind fun x27 =>
    (some (cpA x27 (b2 + 10) (b + 10) 24)).bind fun x38 =>
    (some (cpA x38 (b2 + 11) (b + 11) 24)).bind fun x49 =>
    (some (cpA x49 (b2 + 12) (b + 12) 24)).bind fun x60 =>
    (some (cpA x60 (b2 + 13) (b + 13) 24)).bind fun x71 =>
    (some (cpA x71 (b2 + 14) (b + 14) 24)).bind fun x82 =>
    (some (cpA x82 (b2 + 15) (b + 15) 24)).bind fun x93 =>
    (some (cpA x93 (b2 + 16) (b + 16) 24)).bind fun x104 =>
    some x104
set_option maxRecDepth 100000 in
set_option maxHeartbeats 4000000 in
theorem p_X0_copyFrom (l : Launch) (E : TE) {b : Nat} (hB_b : IsB b) {b2 : Nat} (hB_b2 : IsB b2) (x m : XS) (g o : Int64) {xr : XS} (hf : f_X0_copyFrom b b2 x = some xr) : MG l E yX0_copyFrom cX0_copyFrom 2 none 3 [rf E (b + 7), rf E (b2 + 7)] (Wd E x m g o) (Wd E xr m g o) none := by
  unfold f_X0_copyFrom at hf
  refine m_in (by decide) (Nat.le_of_ble_eq_true rfl) ?_
  intro p e s mi args below meth c H ls hx hb hr hlk hml hown hB hK hW hS hl
  have hl : lv_has ls 2 [(0, rf E (b + 7)), (1, rf E (b2 + 7))] := hl
  refine lv_aload_n hx hb dX0_copyFrom_0 rfl (lv_at hl 0 rfl) ?_
  refine lv_aload_n hx hb dX0_copyFrom_1 rfl (lv_at hl 1 rfl) ?_
  refine gf_X0_39 hx hb hB hK hown hW hB_b2 dX0_copyFrom_2 ?_
  obtain ⟨x5, e5, hf⟩ := ob hf
  refine pf_X0_39 hx hb hB hK hown hW hS hB_b e5 dX0_copyFrom_5 (fun H locs hW hS => ?_)
  refine lv_aload_n hx hb dX0_copyFrom_8 rfl (lv_at hl 1 rfl) ?_
  refine gf_X0_9 hx hb hB hK hown hW hB_b2 dX0_copyFrom_9 ?_
  refine lv_aload_n hx hb dX0_copyFrom_12 rfl (lv_at hl 0 rfl) ?_
  refine gf_X0_9 hx hb hB hK hown hW hB_b dX0_copyFrom_13 ?_
  obtain ⟨x16, e16, hf⟩ := ob hf
  have p16 := p_X4_copyAll l E (k1 := (b2 + 8)) (k2 := (b + 8)) (N := 24) (by decide) (hB_b2.lt (by decide)) (hB_b.lt (by decide)) (m := m) (g := g) (o := o) (fun _ => cB_8 hB_b2) (fun _ => cB_8 hB_b) x5
  rw [← e16] at p16
  refine c_SN (As := [rf E (b2 + 8), rf E (b + 8)]) (st1 := []) (rest := []) (p16) (kc_X0_43 hB hK ⟨Nat.le_of_ble_eq_true rfl, Nat.le_of_ble_eq_true rfl⟩) hx hb hml hown hB hK hW hS ⟨Nat.zero_le _, Nat.zero_le _⟩ rfl hl.1 rfl (Nat.le_of_ble_eq_true rfl) rfl dX0_copyFrom_16 (fun H locs hW hS => ?_)
  refine lv_aload_n hx hb dX0_copyFrom_19 rfl (lv_at hl 1 rfl) ?_
  refine gf_X0_15 hx hb hB hK hown hW hB_b2 dX0_copyFrom_20 ?_
  refine lv_aload_n hx hb dX0_copyFrom_23 rfl (lv_at hl 0 rfl) ?_
  refine gf_X0_15 hx hb hB hK hown hW hB_b dX0_copyFrom_24 ?_
  obtain ⟨x27, e27, hf⟩ := ob hf
  have p27 := p_X4_copyAll l E (k1 := (b2 + 9)) (k2 := (b + 9)) (N := 24) (by decide) (hB_b2.lt (by decide)) (hB_b.lt (by decide)) (m := m) (g := g) (o := o) (fun _ => cB_9 hB_b2) (fun _ => cB_9 hB_b) x16
  rw [← e27] at p27
  refine c_SN (As := [rf E (b2 + 9), rf E (b + 9)]) (st1 := []) (rest := []) (p27) (kc_X0_43 hB hK ⟨Nat.le_of_ble_eq_true rfl, Nat.le_of_ble_eq_true rfl⟩) hx hb hml hown hB hK hW hS ⟨Nat.zero_le _, Nat.zero_le _⟩ rfl hl.1 rfl (Nat.le_of_ble_eq_true rfl) rfl dX0_copyFrom_27 (fun H locs hW hS => ?_)
  refine lv_aload_n hx hb dX0_copyFrom_30 rfl (lv_at hl 1 rfl) ?_
  refine gf_X0_18 hx hb hB hK hown hW hB_b2 dX0_copyFrom_31 ?_
  refine lv_aload_n hx hb dX0_copyFrom_34 rfl (lv_at hl 0 rfl) ?_
  refine gf_X0_18 hx hb hB hK hown hW hB_b dX0_copyFrom_35 ?_
  obtain ⟨x38, e38, hf⟩ := ob hf
  have p38 := p_X4_copyAll l E (k1 := (b2 + 10)) (k2 := (b + 10)) (N := 24) (by decide) (hB_b2.lt (by decide)) (hB_b.lt (by decide)) (m := m) (g := g) (o := o) (fun _ => cB_10 hB_b2) (fun _ => cB_10 hB_b) x27
  rw [← e38] at p38
  refine c_SN (As := [rf E (b2 + 10), rf E (b + 10)]) (st1 := []) (rest := []) (p38) (kc_X0_43 hB hK ⟨Nat.le_of_ble_eq_true rfl, Nat.le_of_ble_eq_true rfl⟩) hx hb hml hown hB hK hW hS ⟨Nat.zero_le _, Nat.zero_le _⟩ rfl hl.1 rfl (Nat.le_of_ble_eq_true rfl) rfl dX0_copyFrom_38 (fun H locs hW hS => ?_)
  refine lv_aload_n hx hb dX0_copyFrom_41 rfl (lv_at hl 1 rfl) ?_
  refine gf_X0_21 hx hb hB hK hown hW hB_b2 dX0_copyFrom_42 ?_
  refine lv_aload_n hx hb dX0_copyFrom_45 rfl (lv_at hl 0 rfl) ?_
  refine gf_X0_21 hx hb hB hK hown hW hB_b dX0_copyFrom_46 ?_
  obtain ⟨x49, e49, hf⟩ := ob hf
  have p49 := p_X4_copyAll l E (k1 := (b2 + 11)) (k2 := (b + 11)) (N := 24) (by decide) (hB_b2.lt (by decide)) (hB_b.lt (by decide)) (m := m) (g := g) (o := o) (fun _ => cB_11 hB_b2) (fun _ => cB_11 hB_b) x38
  rw [← e49] at p49
  refine c_SN (As := [rf E (b2 + 11), rf E (b + 11)]) (st1 := []) (rest := []) (p49) (kc_X0_43 hB hK ⟨Nat.le_of_ble_eq_true rfl, Nat.le_of_ble_eq_true rfl⟩) hx hb hml hown hB hK hW hS ⟨Nat.zero_le _, Nat.zero_le _⟩ rfl hl.1 rfl (Nat.le_of_ble_eq_true rfl) rfl dX0_copyFrom_49 (fun H locs hW hS => ?_)
  refine lv_aload_n hx hb dX0_copyFrom_52 rfl (lv_at hl 1 rfl) ?_
  refine gf_X0_24 hx hb hB hK hown hW hB_b2 dX0_copyFrom_53 ?_
  refine lv_aload_n hx hb dX0_copyFrom_56 rfl (lv_at hl 0 rfl) ?_
  refine gf_X0_24 hx hb hB hK hown hW hB_b dX0_copyFrom_57 ?_
  obtain ⟨x60, e60, hf⟩ := ob hf
  have p60 := p_X4_copyAll l E (k1 := (b2 + 12)) (k2 := (b + 12)) (N := 24) (by decide) (hB_b2.lt (by decide)) (hB_b.lt (by decide)) (m := m) (g := g) (o := o) (fun _ => cB_12 hB_b2) (fun _ => cB_12 hB_b) x49
  rw [← e60] at p60
  refine c_SN (As := [rf E (b2 + 12), rf E (b + 12)]) (st1 := []) (rest := []) (p60) (kc_X0_43 hB hK ⟨Nat.le_of_ble_eq_true rfl, Nat.le_of_ble_eq_true rfl⟩) hx hb hml hown hB hK hW hS ⟨Nat.zero_le _, Nat.zero_le _⟩ rfl hl.1 rfl (Nat.le_of_ble_eq_true rfl) rfl dX0_copyFrom_60 (fun H locs hW hS => ?_)
  refine lv_aload_n hx hb dX0_copyFrom_63 rfl (lv_at hl 1 rfl) ?_
  refine gf_X0_27 hx hb hB hK hown hW hB_b2 dX0_copyFrom_64 ?_
  refine lv_aload_n hx hb dX0_copyFrom_67 rfl (lv_at hl 0 rfl) ?_
  refine gf_X0_27 hx hb hB hK hown hW hB_b dX0_copyFrom_68 ?_
  obtain ⟨x71, e71, hf⟩ := ob hf
  have p71 := p_X4_copyAll l E (k1 := (b2 + 13)) (k2 := (b + 13)) (N := 24) (by decide) (hB_b2.lt (by decide)) (hB_b.lt (by decide)) (m := m) (g := g) (o := o) (fun _ => cB_13 hB_b2) (fun _ => cB_13 hB_b) x60
  rw [← e71] at p71
  refine c_SN (As := [rf E (b2 + 13), rf E (b + 13)]) (st1 := []) (rest := []) (p71) (kc_X0_43 hB hK ⟨Nat.le_of_ble_eq_true rfl, Nat.le_of_ble_eq_true rfl⟩) hx hb hml hown hB hK hW hS ⟨Nat.zero_le _, Nat.zero_le _⟩ rfl hl.1 rfl (Nat.le_of_ble_eq_true rfl) rfl dX0_copyFrom_71 (fun H locs hW hS => ?_)
  refine lv_aload_n hx hb dX0_copyFrom_74 rfl (lv_at hl 1 rfl) ?_
  refine gf_X0_30 hx hb hB hK hown hW hB_b2 dX0_copyFrom_75 ?_
  refine lv_aload_n hx hb dX0_copyFrom_78 rfl (lv_at hl 0 rfl) ?_
  refine gf_X0_30 hx hb hB hK hown hW hB_b dX0_copyFrom_79 ?_
  obtain ⟨x82, e82, hf⟩ := ob hf
  have p82 := p_X4_copyAll l E (k1 := (b2 + 14)) (k2 := (b + 14)) (N := 24) (by decide) (hB_b2.lt (by decide)) (hB_b.lt (by decide)) (m := m) (g := g) (o := o) (fun _ => cB_14 hB_b2) (fun _ => cB_14 hB_b) x71
  rw [← e82] at p82
  refine c_SN (As := [rf E (b2 + 14), rf E (b + 14)]) (st1 := []) (rest := []) (p82) (kc_X0_43 hB hK ⟨Nat.le_of_ble_eq_true rfl, Nat.le_of_ble_eq_true rfl⟩) hx hb hml hown hB hK hW hS ⟨Nat.zero_le _, Nat.zero_le _⟩ rfl hl.1 rfl (Nat.le_of_ble_eq_true rfl) rfl dX0_copyFrom_82 (fun H locs hW hS => ?_)
  refine lv_aload_n hx hb dX0_copyFrom_85 rfl (lv_at hl 1 rfl) ?_
  refine gf_X0_33 hx hb hB hK hown hW hB_b2 dX0_copyFrom_86 ?_
  refine lv_aload_n hx hb dX0_copyFrom_89 rfl (lv_at hl 0 rfl) ?_
  refine gf_X0_33 hx hb hB hK hown hW hB_b dX0_copyFrom_90 ?_
  obtain ⟨x93, e93, hf⟩ := ob hf
  have p93 := p_X4_copyAll l E (k1 := (b2 + 15)) (k2 := (b + 15)) (N := 24) (by decide) (hB_b2.lt (by decide)) (hB_b.lt (by decide)) (m := m) (g := g) (o := o) (fun _ => cB_15 hB_b2) (fun _ => cB_15 hB_b) x82
  rw [← e93] at p93
  refine c_SN (As := [rf E (b2 + 15), rf E (b + 15)]) (st1 := []) (rest := []) (p93) (kc_X0_43 hB hK ⟨Nat.le_of_ble_eq_true rfl, Nat.le_of_ble_eq_true rfl⟩) hx hb hml hown hB hK hW hS ⟨Nat.zero_le _, Nat.zero_le _⟩ rfl hl.1 rfl (Nat.le_of_ble_eq_true rfl) rfl dX0_copyFrom_93 (fun H locs hW hS => ?_)
  refine lv_aload_n hx hb dX0_copyFrom_96 rfl (lv_at hl 1 rfl) ?_
  refine gf_X0_36 hx hb hB hK hown hW hB_b2 dX0_copyFrom_97 ?_
  refine lv_aload_n hx hb dX0_copyFrom_100 rfl (lv_at hl 0 rfl) ?_
  refine gf_X0_36 hx hb hB hK hown hW hB_b dX0_copyFrom_101 ?_
  obtain ⟨x104, e104, hf⟩ := ob hf
  have p104 := p_X4_copyAll l E (k1 := (b2 + 16)) (k2 := (b + 16)) (N := 24) (by decide) (hB_b2.lt (by decide)) (hB_b.lt (by decide)) (m := m) (g := g) (o := o) (fun _ => cB_16 hB_b2) (fun _ => cB_16 hB_b) x93
  rw [← e104] at p104
  refine c_SN (As := [rf E (b2 + 16), rf E (b + 16)]) (st1 := []) (rest := []) (p104) (kc_X0_43 hB hK ⟨Nat.le_of_ble_eq_true rfl, Nat.le_of_ble_eq_true rfl⟩) hx hb hml hown hB hK hW hS ⟨Nat.zero_le _, Nat.zero_le _⟩ rfl hl.1 rfl (Nat.le_of_ble_eq_true rfl) rfl dX0_copyFrom_104 (fun H locs hW hS => ?_)
  cases hf
  exact e_v hx hb hr hlk hW hS dX0_copyFrom_107
def f_X2_copyFrom (b : Nat) (b2 : Nat) (x : XS) : Option (XS) :=
    (some (ux x (b + 17) 0 (x (b2 + 17) 0))).bind fun x5 =>
    (some (cpA x5 (b2 + 18) (b + 18) 24)).bind fun x16 =>
    (some (cpA x16 (b2 + 19) (b + 19) 24)).bind fun x27 =>
    (some (cpA x27 (b2 + 20) (b + 20) 24)).bind fun x38 =>
    (some (cpA x38 (b2 + 21) (b + 21) 12)).bind fun x49 =>
    some x49
set_option maxRecDepth 100000 in
set_option maxHeartbeats 4000000 in
theorem p_X2_copyFrom (l : Launch) (E : TE) {b : Nat} (hB_b : IsB b) {b2 : Nat} (hB_b2 : IsB b2) (x m : XS) (g o : Int64) {xr : XS} (hf : f_X2_copyFrom b b2 x = some xr) : MG l E yX2_copyFrom cX2_copyFrom 2 none 3 [rf E (b + 17), rf E (b2 + 17)] (Wd E x m g o) (Wd E xr m g o) none := by
  unfold f_X2_copyFrom at hf
  refine m_in (by decide) (Nat.le_of_ble_eq_true rfl) ?_
  intro p e s mi args below meth c H ls hx hb hr hlk hml hown hB hK hW hS hl
  have hl : lv_has ls 2 [(0, rf E (b + 17)), (1, rf E (b2 + 17))] := hl
  refine lv_aload_n hx hb dX2_copyFrom_0 rfl (lv_at hl 0 rfl) ?_
  refine lv_aload_n hx hb dX2_copyFrom_1 rfl (lv_at hl 1 rfl) ?_
  refine gf_X2_30 hx hb hB hK hown hW hB_b2 dX2_copyFrom_2 ?_
  obtain ⟨x5, e5, hf⟩ := ob hf
  refine pf_X2_30 hx hb hB hK hown hW hS hB_b e5 dX2_copyFrom_5 (fun H locs hW hS => ?_)
  refine lv_aload_n hx hb dX2_copyFrom_8 rfl (lv_at hl 1 rfl) ?_
  refine gf_X2_9 hx hb hB hK hown hW hB_b2 dX2_copyFrom_9 ?_
  refine lv_aload_n hx hb dX2_copyFrom_12 rfl (lv_at hl 0 rfl) ?_
  refine gf_X2_9 hx hb hB hK hown hW hB_b dX2_copyFrom_13 ?_
  obtain ⟨x16, e16, hf⟩ := ob hf
  have p16 := p_X4_copyAll l E (k1 := (b2 + 18)) (k2 := (b + 18)) (N := 24) (by decide) (hB_b2.lt (by decide)) (hB_b.lt (by decide)) (m := m) (g := g) (o := o) (fun _ => cB_18 hB_b2) (fun _ => cB_18 hB_b) x5
  rw [← e16] at p16
  refine c_SN (As := [rf E (b2 + 18), rf E (b + 18)]) (st1 := []) (rest := []) (p16) (kc_X2_34 hB hK ⟨Nat.le_of_ble_eq_true rfl, Nat.le_of_ble_eq_true rfl⟩) hx hb hml hown hB hK hW hS ⟨Nat.zero_le _, Nat.zero_le _⟩ rfl hl.1 rfl (Nat.le_of_ble_eq_true rfl) rfl dX2_copyFrom_16 (fun H locs hW hS => ?_)
  refine lv_aload_n hx hb dX2_copyFrom_19 rfl (lv_at hl 1 rfl) ?_
  refine gf_X2_15 hx hb hB hK hown hW hB_b2 dX2_copyFrom_20 ?_
  refine lv_aload_n hx hb dX2_copyFrom_23 rfl (lv_at hl 0 rfl) ?_
  refine gf_X2_15 hx hb hB hK hown hW hB_b dX2_copyFrom_24 ?_
  obtain ⟨x27, e27, hf⟩ := ob hf
  have p27 := p_X4_copyAll l E (k1 := (b2 + 19)) (k2 := (b + 19)) (N := 24) (by decide) (hB_b2.lt (by decide)) (hB_b.lt (by decide)) (m := m) (g := g) (o := o) (fun _ => cB_19 hB_b2) (fun _ => cB_19 hB_b) x16
  rw [← e27] at p27
  refine c_SN (As := [rf E (b2 + 19), rf E (b + 19)]) (st1 := []) (rest := []) (p27) (kc_X2_34 hB hK ⟨Nat.le_of_ble_eq_true rfl, Nat.le_of_ble_eq_true rfl⟩) hx hb hml hown hB hK hW hS ⟨Nat.zero_le _, Nat.zero_le _⟩ rfl hl.1 rfl (Nat.le_of_ble_eq_true rfl) rfl dX2_copyFrom_27 (fun H locs hW hS => ?_)
  refine lv_aload_n hx hb dX2_copyFrom_30 rfl (lv_at hl 1 rfl) ?_
  refine gf_X2_18 hx hb hB hK hown hW hB_b2 dX2_copyFrom_31 ?_
  refine lv_aload_n hx hb dX2_copyFrom_34 rfl (lv_at hl 0 rfl) ?_
  refine gf_X2_18 hx hb hB hK hown hW hB_b dX2_copyFrom_35 ?_
  obtain ⟨x38, e38, hf⟩ := ob hf
  have p38 := p_X4_copyAll l E (k1 := (b2 + 20)) (k2 := (b + 20)) (N := 24) (by decide) (hB_b2.lt (by decide)) (hB_b.lt (by decide)) (m := m) (g := g) (o := o) (fun _ => cB_20 hB_b2) (fun _ => cB_20 hB_b) x27
  rw [← e38] at p38
  refine c_SN (As := [rf E (b2 + 20), rf E (b + 20)]) (st1 := []) (rest := []) (p38) (kc_X2_34 hB hK ⟨Nat.le_of_ble_eq_true rfl, Nat.le_of_ble_eq_true rfl⟩) hx hb hml hown hB hK hW hS ⟨Nat.zero_le _, Nat.zero_le _⟩ rfl hl.1 rfl (Nat.le_of_ble_eq_true rfl) rfl dX2_copyFrom_38 (fun H locs hW hS => ?_)
  refine lv_aload_n hx hb dX2_copyFrom_41 rfl (lv_at hl 1 rfl) ?_
  refine gf_X2_21 hx hb hB hK hown hW hB_b2 dX2_copyFrom_42 ?_
  refine lv_aload_n hx hb dX2_copyFrom_45 rfl (lv_at hl 0 rfl) ?_
  refine gf_X2_21 hx hb hB hK hown hW hB_b dX2_copyFrom_46 ?_
  obtain ⟨x49, e49, hf⟩ := ob hf
  have p49 := p_X4_copyAll l E (k1 := (b2 + 21)) (k2 := (b + 21)) (N := 12) (by decide) (hB_b2.lt (by decide)) (hB_b.lt (by decide)) (m := m) (g := g) (o := o) (fun _ => cB_21 hB_b2) (fun _ => cB_21 hB_b) x38
  rw [← e49] at p49
  refine c_SN (As := [rf E (b2 + 21), rf E (b + 21)]) (st1 := []) (rest := []) (p49) (kc_X2_34 hB hK ⟨Nat.le_of_ble_eq_true rfl, Nat.le_of_ble_eq_true rfl⟩) hx hb hml hown hB hK hW hS ⟨Nat.zero_le _, Nat.zero_le _⟩ rfl hl.1 rfl (Nat.le_of_ble_eq_true rfl) rfl dX2_copyFrom_49 (fun H locs hW hS => ?_)
  cases hf
  exact e_v hx hb hr hlk hW hS dX2_copyFrom_52
def f_X1_add (b : Nat) (x : XS) (a0 : Int32) (a1 : Int32) (a2 : Int32) (a3 : Int32) : Option (Int32 × XS) :=
    (f_X4_isKind a0).bind fun v1 =>
    if (v1 = 0 : Prop) then
      some ((-1), x)
    else
      ((aget 4 (x (b + 2)) a0).bind fun v12 =>
      if (v12 < 6 : Prop) then
        ((aget 4 (x (b + 2)) a0).bind fun v25 =>
        (some (((a0 * 6) + v25))).bind fun v35 =>
        (aset x (b + 3) 24 v35 a1).bind fun x44 =>
        (aset x44 (b + 4) 24 v35 a2).bind fun x52 =>
        (aset x52 (b + 5) 24 v35 a3).bind fun x61 =>
        (aset x61 (b + 6) 24 v35 1).bind fun x69 =>
        (aset x69 (b + 2) 4 a0 (v25 + 1)).bind fun x79 =>
        some (v25, x79))
      else
        some ((-1), x))
set_option maxRecDepth 100000 in
set_option maxHeartbeats 4000000 in
theorem p_X1_add (l : Launch) (E : TE) {b : Nat} (hB_b : IsB b) (x m : XS) (g o : Int64) {a0 : Int32} {a1 : Int32} {a2 : Int32} {a3 : Int32} {r : Int32} {xr : XS} (hf : f_X1_add b x a0 a1 a2 a3 = some (r, xr)) : MG l E yX1_add cX1_add 7 (some .int) 1 [rf E (b + 1), .int a0, .int a1, .int a2, .int a3] (Wd E x m g o) (Wd E xr m g o) (some (.int r)) := by
  unfold f_X1_add at hf
  refine m_in (by decide) (Nat.le_of_ble_eq_true rfl) ?_
  intro p e s mi args below meth c H ls hx hb hr hlk hml hown hB hK hW hS hl
  have hl : lv_has ls 7 [(0, rf E (b + 1)), (1, .int a0), (2, .int a1), (3, .int a2), (4, .int a3)] := hl
  refine lv_iload_n hx hb dX1_add_0 rfl (lv_at hl 1 rfl) ?_
  obtain ⟨v1, e1, hf⟩ := ob2 hf
  refine c_SN (As := [.int a0]) (st1 := [.int v1]) (rest := []) (p_X4_isKind l E x m g o e1) (kc_X1_31 hB hK ⟨Nat.le_of_ble_eq_true rfl, Nat.le_of_ble_eq_true rfl⟩) hx hb hml hown hB hK hW hS ⟨Nat.zero_le _, Nat.zero_le _⟩ rfl hl.1 rfl (Nat.le_of_ble_eq_true rfl) rfl dX1_add_1 (fun H locs hW hS => ?_)
  refine lv_if_eq (tgt := 18) hx hb dX1_add_4 (by decide) (fun c4 => ?_) (fun c4 => ?_)
  · rw [if_pos c4] at hf
    refine lv_iconst (v := (-1)) hx hb dX1_add_18 (by decide) ?_
    cases hf
    exact e_i hx hb hr hlk hW hS dX1_add_19
  · rw [if_neg c4] at hf
    refine lv_aload_n hx hb dX1_add_7 rfl (lv_at hl 0 rfl) ?_
    refine gf_X1_9 hx hb hB hK hown hW hB_b dX1_add_8 ?_
    refine lv_iload_n hx hb dX1_add_11 rfl (lv_at hl 1 rfl) ?_
    obtain ⟨v12, e12, hf⟩ := ob2 hf
    refine r_iald hx hb hK hW (hB_b.l8 (by decide)) (cB_2 hB_b) e12 dX1_add_12 ?_
    refine lv_bipush (v := 6) hx hb dX1_add_13 (by decide) ?_
    refine lv_icmp_lt (tgt := 20) hx hb dX1_add_15 (by decide) (fun c15 => ?_) (fun c15 => ?_)
    · rw [if_pos c15] at hf
      refine lv_aload_n hx hb dX1_add_20 rfl (lv_at hl 0 rfl) ?_
      refine gf_X1_9 hx hb hB hK hown hW hB_b dX1_add_21 ?_
      refine lv_iload_n hx hb dX1_add_24 rfl (lv_at hl 1 rfl) ?_
      obtain ⟨v25, e25, hf⟩ := ob2 hf
      refine r_iald hx hb hK hW (hB_b.l8 (by decide)) (cB_2 hB_b) e25 dX1_add_25 ?_
      refine lv_istore (lv' := [(5, .int v25), (0, rf E (b + 1)), (1, .int a0), (2, .int a1), (3, .int a2), (4, .int a3)]) hx hb dX1_add_26 hl (by decide) rfl (fun ls hl => ?_)
      refine lv_iload_n hx hb dX1_add_28 rfl (lv_at hl 2 rfl) ?_
      refine lv_bipush (v := 6) hx hb dX1_add_29 (by decide) ?_
      refine lv_imul hx hb dX1_add_31 ?_
      refine lv_iload hx hb dX1_add_32 (lv_at hl 0 rfl) ?_
      refine lv_iadd hx hb dX1_add_34 ?_
      obtain ⟨v35, e35, hf⟩ := ob hf
      refine lv_nm e35 ?_
      refine lv_istore (lv' := [(6, .int v35), (5, .int v25), (0, rf E (b + 1)), (1, .int a0), (2, .int a1), (3, .int a2), (4, .int a3)]) hx hb dX1_add_35 hl (by decide) rfl (fun ls hl => ?_)
      refine lv_aload_n hx hb dX1_add_37 rfl (lv_at hl 2 rfl) ?_
      refine gf_X1_15 hx hb hB hK hown hW hB_b dX1_add_38 ?_
      refine lv_iload hx hb dX1_add_41 (lv_at hl 0 rfl) ?_
      refine lv_iload_n hx hb dX1_add_43 rfl (lv_at hl 4 rfl) ?_
      obtain ⟨x44, e44, hf⟩ := ob2 hf
      refine r_iastX hx hb hK hW hS (hB_b.lt (by decide)) (fun _ => cB_3 hB_b) e44 dX1_add_44 (fun H locs hW hS => ?_)
      refine lv_aload_n hx hb dX1_add_45 rfl (lv_at hl 2 rfl) ?_
      refine gf_X1_18 hx hb hB hK hown hW hB_b dX1_add_46 ?_
      refine lv_iload hx hb dX1_add_49 (lv_at hl 0 rfl) ?_
      refine lv_iload_n hx hb dX1_add_51 rfl (lv_at hl 5 rfl) ?_
      obtain ⟨x52, e52, hf⟩ := ob2 hf
      refine r_iastX hx hb hK hW hS (hB_b.lt (by decide)) (fun _ => cB_4 hB_b) e52 dX1_add_52 (fun H locs hW hS => ?_)
      refine lv_aload_n hx hb dX1_add_53 rfl (lv_at hl 2 rfl) ?_
      refine gf_X1_21 hx hb hB hK hown hW hB_b dX1_add_54 ?_
      refine lv_iload hx hb dX1_add_57 (lv_at hl 0 rfl) ?_
      refine lv_iload hx hb dX1_add_59 (lv_at hl 6 rfl) ?_
      obtain ⟨x61, e61, hf⟩ := ob2 hf
      refine r_iastX hx hb hK hW hS (hB_b.lt (by decide)) (fun _ => cB_5 hB_b) e61 dX1_add_61 (fun H locs hW hS => ?_)
      refine lv_aload_n hx hb dX1_add_62 rfl (lv_at hl 2 rfl) ?_
      refine gf_X1_24 hx hb hB hK hown hW hB_b dX1_add_63 ?_
      refine lv_iload hx hb dX1_add_66 (lv_at hl 0 rfl) ?_
      refine lv_iconst (v := 1) hx hb dX1_add_68 (by decide) ?_
      obtain ⟨x69, e69, hf⟩ := ob2 hf
      refine r_iastX hx hb hK hW hS (hB_b.lt (by decide)) (fun _ => cB_6 hB_b) e69 dX1_add_69 (fun H locs hW hS => ?_)
      refine lv_aload_n hx hb dX1_add_70 rfl (lv_at hl 2 rfl) ?_
      refine gf_X1_9 hx hb hB hK hown hW hB_b dX1_add_71 ?_
      refine lv_iload_n hx hb dX1_add_74 rfl (lv_at hl 3 rfl) ?_
      refine lv_iload hx hb dX1_add_75 (lv_at hl 1 rfl) ?_
      refine lv_iconst (v := 1) hx hb dX1_add_77 (by decide) ?_
      refine lv_iadd hx hb dX1_add_78 ?_
      obtain ⟨x79, e79, hf⟩ := ob2 hf
      refine r_iastX hx hb hK hW hS (hB_b.lt (by decide)) (fun _ => cB_2 hB_b) e79 dX1_add_79 (fun H locs hW hS => ?_)
      refine lv_iload hx hb dX1_add_80 (lv_at hl 1 rfl) ?_
      cases hf
      exact e_i hx hb hr hlk hW hS dX1_add_82
    · rw [if_neg c15] at hf
      refine lv_iconst (v := (-1)) hx hb dX1_add_18 (by decide) ?_
      cases hf
      exact e_i hx hb hr hlk hW hS dX1_add_19
def f_X1_has (b : Nat) (x : XS) (a0 : Int32) (a1 : Int32) : Option (Int32) :=
    (f_X4_isKind a0).bind fun v1 =>
    if (v1 = 0 : Prop) then
      some 0
    else
      (if (a1 < 0 : Prop) then
        some 0
      else
        ((aget 4 (x (b + 2)) a0).bind fun v17 =>
        if (v17 ≤ a1 : Prop) then
          some 0
        else
          some 1))
set_option maxRecDepth 100000 in
set_option maxHeartbeats 4000000 in
theorem p_X1_has (l : Launch) (E : TE) {b : Nat} (hB_b : IsB b) (x m : XS) (g o : Int64) {a0 : Int32} {a1 : Int32} {r : Int32} (hf : f_X1_has b x a0 a1 = some r) : MG l E yX1_has cX1_has 3 (some .boolean) 1 [rf E (b + 1), .int a0, .int a1] (Wd E x m g o) (Wd E x m g o) (some (.int r)) := by
  unfold f_X1_has at hf
  refine m_in (by decide) (Nat.le_of_ble_eq_true rfl) ?_
  intro p e s mi args below meth c H ls hx hb hr hlk hml hown hB hK hW hS hl
  have hl : lv_has ls 3 [(0, rf E (b + 1)), (1, .int a0), (2, .int a1)] := hl
  refine lv_iload_n hx hb dX1_has_0 rfl (lv_at hl 1 rfl) ?_
  obtain ⟨v1, e1, hf⟩ := ob2 hf
  refine c_SN (As := [.int a0]) (st1 := [.int v1]) (rest := []) (p_X4_isKind l E x m g o e1) (kc_X1_31 hB hK ⟨Nat.le_of_ble_eq_true rfl, Nat.le_of_ble_eq_true rfl⟩) hx hb hml hown hB hK hW hS ⟨Nat.zero_le _, Nat.zero_le _⟩ rfl hl.1 rfl (Nat.le_of_ble_eq_true rfl) rfl dX1_has_1 (fun H locs hW hS => ?_)
  refine lv_if_eq (tgt := 25) hx hb dX1_has_4 (by decide) (fun c4 => ?_) (fun c4 => ?_)
  · rw [if_pos c4] at hf
    refine lv_iconst (v := 0) hx hb dX1_has_25 (by decide) ?_
    cases hf
    exact e_z hx hb hr hlk (Or.inl rfl) hW hS dX1_has_26
  · rw [if_neg c4] at hf
    refine lv_iload_n hx hb dX1_has_7 rfl (lv_at hl 2 rfl) ?_
    refine lv_if_lt (tgt := 25) hx hb dX1_has_8 (by decide) (fun c8 => ?_) (fun c8 => ?_)
    · rw [if_pos c8] at hf
      refine lv_iconst (v := 0) hx hb dX1_has_25 (by decide) ?_
      cases hf
      exact e_z hx hb hr hlk (Or.inl rfl) hW hS dX1_has_26
    · rw [if_neg c8] at hf
      refine lv_iload_n hx hb dX1_has_11 rfl (lv_at hl 2 rfl) ?_
      refine lv_aload_n hx hb dX1_has_12 rfl (lv_at hl 0 rfl) ?_
      refine gf_X1_9 hx hb hB hK hown hW hB_b dX1_has_13 ?_
      refine lv_iload_n hx hb dX1_has_16 rfl (lv_at hl 1 rfl) ?_
      obtain ⟨v17, e17, hf⟩ := ob2 hf
      refine r_iald hx hb hK hW (hB_b.l8 (by decide)) (cB_2 hB_b) e17 dX1_has_17 ?_
      refine lv_icmp_ge (tgt := 25) hx hb dX1_has_18 (by decide) (fun c18 => ?_) (fun c18 => ?_)
      · rw [if_pos c18] at hf
        refine lv_iconst (v := 0) hx hb dX1_has_25 (by decide) ?_
        cases hf
        exact e_z hx hb hr hlk (Or.inl rfl) hW hS dX1_has_26
      · rw [if_neg c18] at hf
        refine lv_iconst (v := 1) hx hb dX1_has_21 (by decide) ?_
        refine lv_goto (tgt := 26) hx hb dX1_has_22 (by decide) ?_
        cases hf
        exact e_z hx hb hr hlk (Or.inr rfl) hW hS dX1_has_26
def f_X1_isOffered (b : Nat) (x : XS) (a0 : Int32) (a1 : Int32) : Option (Int32) :=
    (f_X1_has b x a0 a1).bind fun v3 =>
    if (v3 = 0 : Prop) then
      some 0
    else
      ((aget 24 (x (b + 6)) ((a0 * 6) + a1)).bind fun v19 =>
      if (v19 = 1 : Prop) then
        some 1
      else
        some 0)
set_option maxRecDepth 100000 in
set_option maxHeartbeats 4000000 in
theorem p_X1_isOffered (l : Launch) (E : TE) {b : Nat} (hB_b : IsB b) (x m : XS) (g o : Int64) {a0 : Int32} {a1 : Int32} {r : Int32} (hf : f_X1_isOffered b x a0 a1 = some r) : MG l E yX1_isOffered cX1_isOffered 3 (some .boolean) 2 [rf E (b + 1), .int a0, .int a1] (Wd E x m g o) (Wd E x m g o) (some (.int r)) := by
  unfold f_X1_isOffered at hf
  refine m_in (by decide) (Nat.le_of_ble_eq_true rfl) ?_
  intro p e s mi args below meth c H ls hx hb hr hlk hml hown hB hK hW hS hl
  have hl : lv_has ls 3 [(0, rf E (b + 1)), (1, .int a0), (2, .int a1)] := hl
  refine lv_aload_n hx hb dX1_isOffered_0 rfl (lv_at hl 0 rfl) ?_
  refine lv_iload_n hx hb dX1_isOffered_1 rfl (lv_at hl 1 rfl) ?_
  refine lv_iload_n hx hb dX1_isOffered_2 rfl (lv_at hl 2 rfl) ?_
  obtain ⟨v3, e3, hf⟩ := ob2 hf
  refine c_V (As := [.int a0, .int a1]) (st1 := [.int v3]) (rest := []) (p_X1_has l E hB_b x m g o e3) (kc_X1_35 hB ⟨Nat.le_of_ble_eq_true rfl, Nat.le_of_ble_eq_true rfl⟩) (Wd.rec hK hW (hB_b.l8 (j := 1) (by decide)) (cB_1 hB_b) (ci := 1) rfl) hx hb hml hown hB hK hW hS ⟨Nat.zero_le _, Nat.zero_le _⟩ rfl hl.1 rfl (Nat.le_of_ble_eq_true rfl) rfl dX1_isOffered_3 (fun H locs hW hS => ?_)
  refine lv_if_eq (tgt := 28) hx hb dX1_isOffered_6 (by decide) (fun c6 => ?_) (fun c6 => ?_)
  · rw [if_pos c6] at hf
    refine lv_iconst (v := 0) hx hb dX1_isOffered_28 (by decide) ?_
    cases hf
    exact e_z hx hb hr hlk (Or.inl rfl) hW hS dX1_isOffered_29
  · rw [if_neg c6] at hf
    refine lv_aload_n hx hb dX1_isOffered_9 rfl (lv_at hl 0 rfl) ?_
    refine gf_X1_24 hx hb hB hK hown hW hB_b dX1_isOffered_10 ?_
    refine lv_iload_n hx hb dX1_isOffered_13 rfl (lv_at hl 1 rfl) ?_
    refine lv_bipush (v := 6) hx hb dX1_isOffered_14 (by decide) ?_
    refine lv_imul hx hb dX1_isOffered_16 ?_
    refine lv_iload_n hx hb dX1_isOffered_17 rfl (lv_at hl 2 rfl) ?_
    refine lv_iadd hx hb dX1_isOffered_18 ?_
    obtain ⟨v19, e19, hf⟩ := ob2 hf
    refine r_iald hx hb hK hW (hB_b.l8 (by decide)) (cB_6 hB_b) e19 dX1_isOffered_19 ?_
    refine lv_iconst (v := 1) hx hb dX1_isOffered_20 (by decide) ?_
    refine lv_icmp_ne (tgt := 28) hx hb dX1_isOffered_21 (by decide) (fun c21 => ?_) (fun c21 => ?_)
    · rw [if_neg c21] at hf
      refine lv_iconst (v := 0) hx hb dX1_isOffered_28 (by decide) ?_
      cases hf
      exact e_z hx hb hr hlk (Or.inl rfl) hW hS dX1_isOffered_29
    · rw [if_pos c21] at hf
      refine lv_iconst (v := 1) hx hb dX1_isOffered_24 (by decide) ?_
      refine lv_goto (tgt := 29) hx hb dX1_isOffered_25 (by decide) ?_
      cases hf
      exact e_z hx hb hr hlk (Or.inr rfl) hW hS dX1_isOffered_29
def f_X1_remove_49 (b : Nat) (k26 : XS → Int32 → Int32 → Int32 → Option (Int32 × XS)) (x49 : XS) (l1_49 : Int32) (l3_49 : Int32) (l4_49 : Int32) : Option (Int32 × XS) :=
    (some (l4_49 + 1)).bind fun v49 =>
    k26 x49 l1_49 l3_49 v49
def f_X1_remove_26 (b : Nat) : Nat → XS → Int32 → Int32 → Int32 → Option (Int32 × XS)
  | 0, _, _, _, _ => none
  | n26 + 1, x26, l1_26, l3_26, l4_26 =>
    (f_X1_sizeOf b x26 l1_26).bind fun v30 =>
    if (v30 ≤ l4_26 : Prop) then
      some (l3_26, x26)
    else
      ((f_X1_isOffered b x26 l1_26 l4_26).bind fun v40 =>
      if (v40 = 0 : Prop) then
        f_X1_remove_49 b (f_X1_remove_26 b n26) x26 l1_26 l3_26 l4_26
      else
        ((some (l3_26 + 1)).bind fun v46 =>
        f_X1_remove_49 b (f_X1_remove_26 b n26) x26 l1_26 v46 l4_26))
def f_X1_remove_21 (b : Nat) (x21 : XS) (l1_21 : Int32) : Option (Int32 × XS) :=
    f_X1_remove_26 b 4096 x21 l1_21 0 0
def f_X1_remove (b : Nat) (x : XS) (a0 : Int32) (a1 : Int32) : Option (Int32 × XS) :=
    (f_X1_has b x a0 a1).bind fun v3 =>
    if (v3 = 0 : Prop) then
      f_X1_remove_21 b x a0
    else
      ((aset x (b + 6) 24 ((a0 * 6) + a1) 0).bind fun x20 =>
      f_X1_remove_21 b x20 a0)
set_option maxRecDepth 100000 in
set_option maxHeartbeats 4000000 in
theorem p_X1_remove (l : Launch) (E : TE) {b : Nat} (hB_b : IsB b) (x m : XS) (g o : Int64) {a0 : Int32} {a1 : Int32} {r : Int32} {xr : XS} (hf : f_X1_remove b x a0 a1 = some (r, xr)) : MG l E yX1_remove cX1_remove 5 (some .int) 3 [rf E (b + 1), .int a0, .int a1] (Wd E x m g o) (Wd E xr m g o) (some (.int r)) := by
  unfold f_X1_remove at hf
  refine m_in (by decide) (Nat.le_of_ble_eq_true rfl) ?_
  intro p e s mi args below meth c H ls hx hb hr hlk hml hown hB hK hW hS hl
  have hl : lv_has ls 5 [(0, rf E (b + 1)), (1, .int a0), (2, .int a1)] := hl
  have J26 : ∀ (n26 : Nat), ∀ (x26 : XS) (l1_26 : Int32) (l3_26 : Int32) (l4_26 : Int32) (H : Heap) (locs : List Loc) (ls : Array Slot), f_X1_remove_26 b n26 x26 l1_26 l3_26 l4_26 = some (r, xr) → Wd E x26 m g o H → va_S (Ah E) s.heap H locs → lv_has ls 5 [(0, rf E (b + 1)), (1, .int l1_26), (3, .int l3_26), (4, .int l4_26)] → W p l e (rmH 3) s mi args below meth c H locs 0 0 (EQ E below args s (Wd E xr m g o) (some (.int r))) (F0 mi 26 ls []) := by
    intro n26
    induction n26 with
    | zero => intro x26 l1_26 l3_26 l4_26 H locs ls hf; exact absurd hf (fun z => nomatch (show (none : Option (Int32 × XS)) = some _ from z))
    | succ n26 ih26 =>
      intro x26 l1_26 l3_26 l4_26 H locs ls hf hW hS hl
      rw [f_X1_remove_26.eq_2] at hf
      have J49 : ∀ (x49 : XS) (l1_49 : Int32) (l3_49 : Int32) (l4_49 : Int32) (H : Heap) (locs : List Loc) (ls : Array Slot), f_X1_remove_49 b (f_X1_remove_26 b n26) x49 l1_49 l3_49 l4_49 = some (r, xr) → Wd E x49 m g o H → va_S (Ah E) s.heap H locs → lv_has ls 5 [(0, rf E (b + 1)), (1, .int l1_49), (3, .int l3_49), (4, .int l4_49)] → W p l e (rmH 3) s mi args below meth c H locs 0 0 (EQ E below args s (Wd E xr m g o) (some (.int r))) (F0 mi 49 ls []) := by
        intro x49 l1_49 l3_49 l4_49 H locs ls hf hW hS hl
        unfold f_X1_remove_49 at hf
        obtain ⟨v49, e49, hf⟩ := ob hf
        refine lv_iinc (v := v49) (lv' := [(4, .int v49), (0, rf E (b + 1)), (1, .int l1_49), (3, .int l3_49)]) hx hb dX1_remove_49 hl (k := 3) rfl (by rw [e49]; rfl) (by decide) rfl (fun ls hl => ?_)
        refine lv_goto (tgt := 26) hx hb dX1_remove_52 (by decide) ?_
        exact ih26 x49 l1_49 l3_49 v49 _ _ _ hf hW hS (lv_sub hl [1, 2, 3, 0] rfl)
      refine lv_iload hx hb dX1_remove_26 (lv_at hl 3 rfl) ?_
      refine lv_aload_n hx hb dX1_remove_28 rfl (lv_at hl 0 rfl) ?_
      refine lv_iload_n hx hb dX1_remove_29 rfl (lv_at hl 1 rfl) ?_
      obtain ⟨v30, e30, hf⟩ := ob2 hf
      refine c_V (As := [.int l1_26]) (st1 := [.int v30, .int l4_26]) (rest := [.int l4_26]) (p_X1_sizeOf l E hB_b x26 m g o e30) (kc_X1_50 hB ⟨Nat.le_of_ble_eq_true rfl, Nat.le_of_ble_eq_true rfl⟩) (Wd.rec hK hW (hB_b.l8 (j := 1) (by decide)) (cB_1 hB_b) (ci := 1) rfl) hx hb hml hown hB hK hW hS ⟨Nat.zero_le _, Nat.zero_le _⟩ rfl hl.1 rfl (Nat.le_of_ble_eq_true rfl) rfl dX1_remove_30 (fun H locs hW hS => ?_)
      refine lv_icmp_ge (tgt := 55) hx hb dX1_remove_33 (by decide) (fun c33 => ?_) (fun c33 => ?_)
      · rw [if_pos c33] at hf
        refine lv_iload_n hx hb dX1_remove_55 rfl (lv_at hl 2 rfl) ?_
        cases hf
        exact e_i hx hb hr hlk hW hS dX1_remove_56
      · rw [if_neg c33] at hf
        refine lv_aload_n hx hb dX1_remove_36 rfl (lv_at hl 0 rfl) ?_
        refine lv_iload_n hx hb dX1_remove_37 rfl (lv_at hl 1 rfl) ?_
        refine lv_iload hx hb dX1_remove_38 (lv_at hl 3 rfl) ?_
        obtain ⟨v40, e40, hf⟩ := ob2 hf
        refine c_V (As := [.int l1_26, .int l4_26]) (st1 := [.int v40]) (rest := []) (p_X1_isOffered l E hB_b x26 m g o e40) (kc_X1_54 hB ⟨Nat.le_of_ble_eq_true rfl, Nat.le_of_ble_eq_true rfl⟩) (Wd.rec hK hW (hB_b.l8 (j := 1) (by decide)) (cB_1 hB_b) (ci := 1) rfl) hx hb hml hown hB hK hW hS ⟨Nat.zero_le _, Nat.zero_le _⟩ rfl hl.1 rfl (Nat.le_of_ble_eq_true rfl) rfl dX1_remove_40 (fun H locs hW hS => ?_)
        refine lv_if_eq (tgt := 49) hx hb dX1_remove_43 (by decide) (fun c43 => ?_) (fun c43 => ?_)
        · rw [if_pos c43] at hf
          exact J49 x26 l1_26 l3_26 l4_26 _ _ _ hf hW hS (lv_sub hl [0, 1, 2, 3] rfl)
        · rw [if_neg c43] at hf
          obtain ⟨v46, e46, hf⟩ := ob hf
          refine lv_iinc (v := v46) (lv' := [(3, .int v46), (0, rf E (b + 1)), (1, .int l1_26), (4, .int l4_26)]) hx hb dX1_remove_46 hl (k := 2) rfl (by rw [e46]; rfl) (by decide) rfl (fun ls hl => ?_)
          exact J49 x26 l1_26 v46 l4_26 _ _ _ hf hW hS (lv_sub hl [1, 2, 0, 3] rfl)
  have J21 : ∀ (x21 : XS) (l1_21 : Int32) (H : Heap) (locs : List Loc) (ls : Array Slot), f_X1_remove_21 b x21 l1_21 = some (r, xr) → Wd E x21 m g o H → va_S (Ah E) s.heap H locs → lv_has ls 5 [(0, rf E (b + 1)), (1, .int l1_21)] → W p l e (rmH 3) s mi args below meth c H locs 0 0 (EQ E below args s (Wd E xr m g o) (some (.int r))) (F0 mi 21 ls []) := by
    intro x21 l1_21 H locs ls hf hW hS hl
    unfold f_X1_remove_21 at hf
    refine lv_iconst (v := 0) hx hb dX1_remove_21 (by decide) ?_
    refine lv_istore_n (lv' := [(3, .int 0), (0, rf E (b + 1)), (1, .int l1_21)]) hx hb dX1_remove_22 rfl hl (by decide) rfl (fun ls hl => ?_)
    refine lv_iconst (v := 0) hx hb dX1_remove_23 (by decide) ?_
    refine lv_istore (lv' := [(4, .int 0), (3, .int 0), (0, rf E (b + 1)), (1, .int l1_21)]) hx hb dX1_remove_24 hl (by decide) rfl (fun ls hl => ?_)
    exact J26 4096 x21 l1_21 0 0 _ _ _ hf hW hS (lv_sub hl [2, 3, 1, 0] rfl)
  refine lv_aload_n hx hb dX1_remove_0 rfl (lv_at hl 0 rfl) ?_
  refine lv_iload_n hx hb dX1_remove_1 rfl (lv_at hl 1 rfl) ?_
  refine lv_iload_n hx hb dX1_remove_2 rfl (lv_at hl 2 rfl) ?_
  obtain ⟨v3, e3, hf⟩ := ob2 hf
  refine c_V (As := [.int a0, .int a1]) (st1 := [.int v3]) (rest := []) (p_X1_has l E hB_b x m g o e3) (kc_X1_35 hB ⟨Nat.le_of_ble_eq_true rfl, Nat.le_of_ble_eq_true rfl⟩) (Wd.rec hK hW (hB_b.l8 (j := 1) (by decide)) (cB_1 hB_b) (ci := 1) rfl) hx hb hml hown hB hK hW hS ⟨Nat.zero_le _, Nat.zero_le _⟩ rfl hl.1 rfl (Nat.le_of_ble_eq_true rfl) rfl dX1_remove_3 (fun H locs hW hS => ?_)
  refine lv_if_eq (tgt := 21) hx hb dX1_remove_6 (by decide) (fun c6 => ?_) (fun c6 => ?_)
  · rw [if_pos c6] at hf
    exact J21 x a0 _ _ _ hf hW hS (lv_sub hl [0, 1] rfl)
  · rw [if_neg c6] at hf
    refine lv_aload_n hx hb dX1_remove_9 rfl (lv_at hl 0 rfl) ?_
    refine gf_X1_24 hx hb hB hK hown hW hB_b dX1_remove_10 ?_
    refine lv_iload_n hx hb dX1_remove_13 rfl (lv_at hl 1 rfl) ?_
    refine lv_bipush (v := 6) hx hb dX1_remove_14 (by decide) ?_
    refine lv_imul hx hb dX1_remove_16 ?_
    refine lv_iload_n hx hb dX1_remove_17 rfl (lv_at hl 2 rfl) ?_
    refine lv_iadd hx hb dX1_remove_18 ?_
    refine lv_iconst (v := 0) hx hb dX1_remove_19 (by decide) ?_
    obtain ⟨x20, e20, hf⟩ := ob2 hf
    refine r_iastX hx hb hK hW hS (hB_b.lt (by decide)) (fun _ => cB_6 hB_b) e20 dX1_remove_20 (fun H locs hW hS => ?_)
    exact J21 x20 a0 _ _ _ hf hW hS (lv_sub hl [0, 1] rfl)
def f_X0_add (b : Nat) (x : XS) (a0 : Int32) (a1 : Int32) (a2 : Int32) : Option (Int32 × XS) :=
    if ((x (b + 7) 0) < 24 : Prop) then
      ((some ((x (b + 7) 0))).bind fun v15 =>
      (aset x (b + 8) 24 v15 a0).bind fun x24 =>
      (aset x24 (b + 9) 24 v15 a1).bind fun x32 =>
      (aset x32 (b + 10) 24 v15 a2).bind fun x40 =>
      (aset x40 (b + 11) 24 v15 0).bind fun x48 =>
      (aset x48 (b + 12) 24 v15 (-1)).bind fun x56 =>
      (aset x56 (b + 13) 24 v15 0).bind fun x64 =>
      (aset x64 (b + 14) 24 v15 (-1)).bind fun x72 =>
      (aset x72 (b + 15) 24 v15 (-1)).bind fun x80 =>
      (aset x80 (b + 16) 24 v15 (-1)).bind fun x88 =>
      (some (ux x88 (b + 7) 0 (v15 + 1))).bind fun x94 =>
      some (v15, x94))
    else
      some ((-1), x)
set_option maxRecDepth 100000 in
set_option maxHeartbeats 4000000 in
theorem p_X0_add (l : Launch) (E : TE) {b : Nat} (hB_b : IsB b) (x m : XS) (g o : Int64) {a0 : Int32} {a1 : Int32} {a2 : Int32} {r : Int32} {xr : XS} (hf : f_X0_add b x a0 a1 a2 = some (r, xr)) : MG l E yX0_add cX0_add 5 (some .int) 0 [rf E (b + 7), .int a0, .int a1, .int a2] (Wd E x m g o) (Wd E xr m g o) (some (.int r)) := by
  unfold f_X0_add at hf
  refine m_in (by decide) (Nat.le_of_ble_eq_true rfl) ?_
  intro p e s mi args below meth c H ls hx hb hr hlk hml hown hB hK hW hS hl
  have hl : lv_has ls 5 [(0, rf E (b + 7)), (1, .int a0), (2, .int a1), (3, .int a2)] := hl
  refine lv_aload_n hx hb dX0_add_0 rfl (lv_at hl 0 rfl) ?_
  refine gf_X0_39 hx hb hB hK hown hW hB_b dX0_add_1 ?_
  refine lv_bipush (v := 24) hx hb dX0_add_4 (by decide) ?_
  refine lv_icmp_lt (tgt := 11) hx hb dX0_add_6 (by decide) (fun c6 => ?_) (fun c6 => ?_)
  · rw [if_pos c6] at hf
    refine lv_aload_n hx hb dX0_add_11 rfl (lv_at hl 0 rfl) ?_
    refine gf_X0_39 hx hb hB hK hown hW hB_b dX0_add_12 ?_
    obtain ⟨v15, e15, hf⟩ := ob hf
    refine lv_nm e15 ?_
    refine lv_istore (lv' := [(4, .int v15), (0, rf E (b + 7)), (1, .int a0), (2, .int a1), (3, .int a2)]) hx hb dX0_add_15 hl (by decide) rfl (fun ls hl => ?_)
    refine lv_aload_n hx hb dX0_add_17 rfl (lv_at hl 1 rfl) ?_
    refine gf_X0_9 hx hb hB hK hown hW hB_b dX0_add_18 ?_
    refine lv_iload hx hb dX0_add_21 (lv_at hl 0 rfl) ?_
    refine lv_iload_n hx hb dX0_add_23 rfl (lv_at hl 2 rfl) ?_
    obtain ⟨x24, e24, hf⟩ := ob2 hf
    refine r_iastX hx hb hK hW hS (hB_b.lt (by decide)) (fun _ => cB_8 hB_b) e24 dX0_add_24 (fun H locs hW hS => ?_)
    refine lv_aload_n hx hb dX0_add_25 rfl (lv_at hl 1 rfl) ?_
    refine gf_X0_15 hx hb hB hK hown hW hB_b dX0_add_26 ?_
    refine lv_iload hx hb dX0_add_29 (lv_at hl 0 rfl) ?_
    refine lv_iload_n hx hb dX0_add_31 rfl (lv_at hl 3 rfl) ?_
    obtain ⟨x32, e32, hf⟩ := ob2 hf
    refine r_iastX hx hb hK hW hS (hB_b.lt (by decide)) (fun _ => cB_9 hB_b) e32 dX0_add_32 (fun H locs hW hS => ?_)
    refine lv_aload_n hx hb dX0_add_33 rfl (lv_at hl 1 rfl) ?_
    refine gf_X0_18 hx hb hB hK hown hW hB_b dX0_add_34 ?_
    refine lv_iload hx hb dX0_add_37 (lv_at hl 0 rfl) ?_
    refine lv_iload_n hx hb dX0_add_39 rfl (lv_at hl 4 rfl) ?_
    obtain ⟨x40, e40, hf⟩ := ob2 hf
    refine r_iastX hx hb hK hW hS (hB_b.lt (by decide)) (fun _ => cB_10 hB_b) e40 dX0_add_40 (fun H locs hW hS => ?_)
    refine lv_aload_n hx hb dX0_add_41 rfl (lv_at hl 1 rfl) ?_
    refine gf_X0_21 hx hb hB hK hown hW hB_b dX0_add_42 ?_
    refine lv_iload hx hb dX0_add_45 (lv_at hl 0 rfl) ?_
    refine lv_iconst (v := 0) hx hb dX0_add_47 (by decide) ?_
    obtain ⟨x48, e48, hf⟩ := ob2 hf
    refine r_iastX hx hb hK hW hS (hB_b.lt (by decide)) (fun _ => cB_11 hB_b) e48 dX0_add_48 (fun H locs hW hS => ?_)
    refine lv_aload_n hx hb dX0_add_49 rfl (lv_at hl 1 rfl) ?_
    refine gf_X0_24 hx hb hB hK hown hW hB_b dX0_add_50 ?_
    refine lv_iload hx hb dX0_add_53 (lv_at hl 0 rfl) ?_
    refine lv_iconst (v := (-1)) hx hb dX0_add_55 (by decide) ?_
    obtain ⟨x56, e56, hf⟩ := ob2 hf
    refine r_iastX hx hb hK hW hS (hB_b.lt (by decide)) (fun _ => cB_12 hB_b) e56 dX0_add_56 (fun H locs hW hS => ?_)
    refine lv_aload_n hx hb dX0_add_57 rfl (lv_at hl 1 rfl) ?_
    refine gf_X0_27 hx hb hB hK hown hW hB_b dX0_add_58 ?_
    refine lv_iload hx hb dX0_add_61 (lv_at hl 0 rfl) ?_
    refine lv_iconst (v := 0) hx hb dX0_add_63 (by decide) ?_
    obtain ⟨x64, e64, hf⟩ := ob2 hf
    refine r_iastX hx hb hK hW hS (hB_b.lt (by decide)) (fun _ => cB_13 hB_b) e64 dX0_add_64 (fun H locs hW hS => ?_)
    refine lv_aload_n hx hb dX0_add_65 rfl (lv_at hl 1 rfl) ?_
    refine gf_X0_30 hx hb hB hK hown hW hB_b dX0_add_66 ?_
    refine lv_iload hx hb dX0_add_69 (lv_at hl 0 rfl) ?_
    refine lv_iconst (v := (-1)) hx hb dX0_add_71 (by decide) ?_
    obtain ⟨x72, e72, hf⟩ := ob2 hf
    refine r_iastX hx hb hK hW hS (hB_b.lt (by decide)) (fun _ => cB_14 hB_b) e72 dX0_add_72 (fun H locs hW hS => ?_)
    refine lv_aload_n hx hb dX0_add_73 rfl (lv_at hl 1 rfl) ?_
    refine gf_X0_33 hx hb hB hK hown hW hB_b dX0_add_74 ?_
    refine lv_iload hx hb dX0_add_77 (lv_at hl 0 rfl) ?_
    refine lv_iconst (v := (-1)) hx hb dX0_add_79 (by decide) ?_
    obtain ⟨x80, e80, hf⟩ := ob2 hf
    refine r_iastX hx hb hK hW hS (hB_b.lt (by decide)) (fun _ => cB_15 hB_b) e80 dX0_add_80 (fun H locs hW hS => ?_)
    refine lv_aload_n hx hb dX0_add_81 rfl (lv_at hl 1 rfl) ?_
    refine gf_X0_36 hx hb hB hK hown hW hB_b dX0_add_82 ?_
    refine lv_iload hx hb dX0_add_85 (lv_at hl 0 rfl) ?_
    refine lv_iconst (v := (-1)) hx hb dX0_add_87 (by decide) ?_
    obtain ⟨x88, e88, hf⟩ := ob2 hf
    refine r_iastX hx hb hK hW hS (hB_b.lt (by decide)) (fun _ => cB_16 hB_b) e88 dX0_add_88 (fun H locs hW hS => ?_)
    refine lv_aload_n hx hb dX0_add_89 rfl (lv_at hl 1 rfl) ?_
    refine lv_iload hx hb dX0_add_90 (lv_at hl 0 rfl) ?_
    refine lv_iconst (v := 1) hx hb dX0_add_92 (by decide) ?_
    refine lv_iadd hx hb dX0_add_93 ?_
    obtain ⟨x94, e94, hf⟩ := ob hf
    refine pf_X0_39 hx hb hB hK hown hW hS hB_b e94 dX0_add_94 (fun H locs hW hS => ?_)
    refine lv_iload hx hb dX0_add_97 (lv_at hl 0 rfl) ?_
    cases hf
    exact e_i hx hb hr hlk hW hS dX0_add_99
  · rw [if_neg c6] at hf
    refine lv_iconst (v := (-1)) hx hb dX0_add_9 (by decide) ?_
    cases hf
    exact e_i hx hb hr hlk hW hS dX0_add_10
def f_X0_has (b : Nat) (x : XS) (a0 : Int32) : Option (Int32) :=
    if (a0 < 0 : Prop) then
      some 0
    else
      (if ((x (b + 7) 0) ≤ a0 : Prop) then
        some 0
      else
        some 1)
set_option maxRecDepth 100000 in
set_option maxHeartbeats 4000000 in
theorem p_X0_has (l : Launch) (E : TE) {b : Nat} (hB_b : IsB b) (x m : XS) (g o : Int64) {a0 : Int32} {r : Int32} (hf : f_X0_has b x a0 = some r) : MG l E yX0_has cX0_has 2 (some .boolean) 0 [rf E (b + 7), .int a0] (Wd E x m g o) (Wd E x m g o) (some (.int r)) := by
  unfold f_X0_has at hf
  refine m_in (by decide) (Nat.le_of_ble_eq_true rfl) ?_
  intro p e s mi args below meth c H ls hx hb hr hlk hml hown hB hK hW hS hl
  have hl : lv_has ls 2 [(0, rf E (b + 7)), (1, .int a0)] := hl
  refine lv_iload_n hx hb dX0_has_0 rfl (lv_at hl 1 rfl) ?_
  refine lv_if_lt (tgt := 16) hx hb dX0_has_1 (by decide) (fun c1 => ?_) (fun c1 => ?_)
  · rw [if_pos c1] at hf
    refine lv_iconst (v := 0) hx hb dX0_has_16 (by decide) ?_
    cases hf
    exact e_z hx hb hr hlk (Or.inl rfl) hW hS dX0_has_17
  · rw [if_neg c1] at hf
    refine lv_iload_n hx hb dX0_has_4 rfl (lv_at hl 1 rfl) ?_
    refine lv_aload_n hx hb dX0_has_5 rfl (lv_at hl 0 rfl) ?_
    refine gf_X0_39 hx hb hB hK hown hW hB_b dX0_has_6 ?_
    refine lv_icmp_ge (tgt := 16) hx hb dX0_has_9 (by decide) (fun c9 => ?_) (fun c9 => ?_)
    · rw [if_pos c9] at hf
      refine lv_iconst (v := 0) hx hb dX0_has_16 (by decide) ?_
      cases hf
      exact e_z hx hb hr hlk (Or.inl rfl) hW hS dX0_has_17
    · rw [if_neg c9] at hf
      refine lv_iconst (v := 1) hx hb dX0_has_12 (by decide) ?_
      refine lv_goto (tgt := 17) hx hb dX0_has_13 (by decide) ?_
      cases hf
      exact e_z hx hb hr hlk (Or.inr rfl) hW hS dX0_has_17
def f_X0_kindOf (b : Nat) (x : XS) (a0 : Int32) : Option (Int32) :=
    (f_X0_has b x a0).bind fun v2 =>
    if (v2 = 0 : Prop) then
      some (-1)
    else
      ((aget 24 (x (b + 8)) a0).bind fun v13 =>
      some v13)
set_option maxRecDepth 100000 in
set_option maxHeartbeats 4000000 in
theorem p_X0_kindOf (l : Launch) (E : TE) {b : Nat} (hB_b : IsB b) (x m : XS) (g o : Int64) {a0 : Int32} {r : Int32} (hf : f_X0_kindOf b x a0 = some r) : MG l E yX0_kindOf cX0_kindOf 2 (some .int) 1 [rf E (b + 7), .int a0] (Wd E x m g o) (Wd E x m g o) (some (.int r)) := by
  unfold f_X0_kindOf at hf
  refine m_in (by decide) (Nat.le_of_ble_eq_true rfl) ?_
  intro p e s mi args below meth c H ls hx hb hr hlk hml hown hB hK hW hS hl
  have hl : lv_has ls 2 [(0, rf E (b + 7)), (1, .int a0)] := hl
  refine lv_aload_n hx hb dX0_kindOf_0 rfl (lv_at hl 0 rfl) ?_
  refine lv_iload_n hx hb dX0_kindOf_1 rfl (lv_at hl 1 rfl) ?_
  obtain ⟨v2, e2, hf⟩ := ob2 hf
  refine c_V (As := [.int a0]) (st1 := [.int v2]) (rest := []) (p_X0_has l E hB_b x m g o e2) (kc_X0_47 hB ⟨Nat.le_of_ble_eq_true rfl, Nat.le_of_ble_eq_true rfl⟩) (Wd.rec hK hW (hB_b.l8 (j := 7) (by decide)) (cB_7 hB_b) (ci := 0) rfl) hx hb hml hown hB hK hW hS ⟨Nat.zero_le _, Nat.zero_le _⟩ rfl hl.1 rfl (Nat.le_of_ble_eq_true rfl) rfl dX0_kindOf_2 (fun H locs hW hS => ?_)
  refine lv_if_eq (tgt := 17) hx hb dX0_kindOf_5 (by decide) (fun c5 => ?_) (fun c5 => ?_)
  · rw [if_pos c5] at hf
    refine lv_iconst (v := (-1)) hx hb dX0_kindOf_17 (by decide) ?_
    cases hf
    exact e_i hx hb hr hlk hW hS dX0_kindOf_18
  · rw [if_neg c5] at hf
    refine lv_aload_n hx hb dX0_kindOf_8 rfl (lv_at hl 0 rfl) ?_
    refine gf_X0_9 hx hb hB hK hown hW hB_b dX0_kindOf_9 ?_
    refine lv_iload_n hx hb dX0_kindOf_12 rfl (lv_at hl 1 rfl) ?_
    obtain ⟨v13, e13, hf⟩ := ob2 hf
    refine r_iald hx hb hK hW (hB_b.l8 (by decide)) (cB_8 hB_b) e13 dX0_kindOf_13 ?_
    refine lv_goto (tgt := 18) hx hb dX0_kindOf_14 (by decide) ?_
    cases hf
    exact e_i hx hb hr hlk hW hS dX0_kindOf_18
def f_X0_stageOf (b : Nat) (x : XS) (a0 : Int32) : Option (Int32) :=
    (f_X0_has b x a0).bind fun v2 =>
    if (v2 = 0 : Prop) then
      some (-1)
    else
      ((aget 24 (x (b + 11)) a0).bind fun v13 =>
      some v13)
set_option maxRecDepth 100000 in
set_option maxHeartbeats 4000000 in
theorem p_X0_stageOf (l : Launch) (E : TE) {b : Nat} (hB_b : IsB b) (x m : XS) (g o : Int64) {a0 : Int32} {r : Int32} (hf : f_X0_stageOf b x a0 = some r) : MG l E yX0_stageOf cX0_stageOf 2 (some .int) 1 [rf E (b + 7), .int a0] (Wd E x m g o) (Wd E x m g o) (some (.int r)) := by
  unfold f_X0_stageOf at hf
  refine m_in (by decide) (Nat.le_of_ble_eq_true rfl) ?_
  intro p e s mi args below meth c H ls hx hb hr hlk hml hown hB hK hW hS hl
  have hl : lv_has ls 2 [(0, rf E (b + 7)), (1, .int a0)] := hl
  refine lv_aload_n hx hb dX0_stageOf_0 rfl (lv_at hl 0 rfl) ?_
  refine lv_iload_n hx hb dX0_stageOf_1 rfl (lv_at hl 1 rfl) ?_
  obtain ⟨v2, e2, hf⟩ := ob2 hf
  refine c_V (As := [.int a0]) (st1 := [.int v2]) (rest := []) (p_X0_has l E hB_b x m g o e2) (kc_X0_47 hB ⟨Nat.le_of_ble_eq_true rfl, Nat.le_of_ble_eq_true rfl⟩) (Wd.rec hK hW (hB_b.l8 (j := 7) (by decide)) (cB_7 hB_b) (ci := 0) rfl) hx hb hml hown hB hK hW hS ⟨Nat.zero_le _, Nat.zero_le _⟩ rfl hl.1 rfl (Nat.le_of_ble_eq_true rfl) rfl dX0_stageOf_2 (fun H locs hW hS => ?_)
  refine lv_if_eq (tgt := 17) hx hb dX0_stageOf_5 (by decide) (fun c5 => ?_) (fun c5 => ?_)
  · rw [if_pos c5] at hf
    refine lv_iconst (v := (-1)) hx hb dX0_stageOf_17 (by decide) ?_
    cases hf
    exact e_i hx hb hr hlk hW hS dX0_stageOf_18
  · rw [if_neg c5] at hf
    refine lv_aload_n hx hb dX0_stageOf_8 rfl (lv_at hl 0 rfl) ?_
    refine gf_X0_21 hx hb hB hK hown hW hB_b dX0_stageOf_9 ?_
    refine lv_iload_n hx hb dX0_stageOf_12 rfl (lv_at hl 1 rfl) ?_
    obtain ⟨v13, e13, hf⟩ := ob2 hf
    refine r_iald hx hb hK hW (hB_b.l8 (by decide)) (cB_11 hB_b) e13 dX0_stageOf_13 ?_
    refine lv_goto (tgt := 18) hx hb dX0_stageOf_14 (by decide) ?_
    cases hf
    exact e_i hx hb hr hlk hW hS dX0_stageOf_18
def f_X0_severityOf (b : Nat) (x : XS) (a0 : Int32) : Option (Int32) :=
    (f_X0_has b x a0).bind fun v2 =>
    if (v2 = 0 : Prop) then
      some (-1)
    else
      ((aget 24 (x (b + 9)) a0).bind fun v13 =>
      some v13)
set_option maxRecDepth 100000 in
set_option maxHeartbeats 4000000 in
theorem p_X0_severityOf (l : Launch) (E : TE) {b : Nat} (hB_b : IsB b) (x m : XS) (g o : Int64) {a0 : Int32} {r : Int32} (hf : f_X0_severityOf b x a0 = some r) : MG l E yX0_severityOf cX0_severityOf 2 (some .int) 1 [rf E (b + 7), .int a0] (Wd E x m g o) (Wd E x m g o) (some (.int r)) := by
  unfold f_X0_severityOf at hf
  refine m_in (by decide) (Nat.le_of_ble_eq_true rfl) ?_
  intro p e s mi args below meth c H ls hx hb hr hlk hml hown hB hK hW hS hl
  have hl : lv_has ls 2 [(0, rf E (b + 7)), (1, .int a0)] := hl
  refine lv_aload_n hx hb dX0_severityOf_0 rfl (lv_at hl 0 rfl) ?_
  refine lv_iload_n hx hb dX0_severityOf_1 rfl (lv_at hl 1 rfl) ?_
  obtain ⟨v2, e2, hf⟩ := ob2 hf
  refine c_V (As := [.int a0]) (st1 := [.int v2]) (rest := []) (p_X0_has l E hB_b x m g o e2) (kc_X0_47 hB ⟨Nat.le_of_ble_eq_true rfl, Nat.le_of_ble_eq_true rfl⟩) (Wd.rec hK hW (hB_b.l8 (j := 7) (by decide)) (cB_7 hB_b) (ci := 0) rfl) hx hb hml hown hB hK hW hS ⟨Nat.zero_le _, Nat.zero_le _⟩ rfl hl.1 rfl (Nat.le_of_ble_eq_true rfl) rfl dX0_severityOf_2 (fun H locs hW hS => ?_)
  refine lv_if_eq (tgt := 17) hx hb dX0_severityOf_5 (by decide) (fun c5 => ?_) (fun c5 => ?_)
  · rw [if_pos c5] at hf
    refine lv_iconst (v := (-1)) hx hb dX0_severityOf_17 (by decide) ?_
    cases hf
    exact e_i hx hb hr hlk hW hS dX0_severityOf_18
  · rw [if_neg c5] at hf
    refine lv_aload_n hx hb dX0_severityOf_8 rfl (lv_at hl 0 rfl) ?_
    refine gf_X0_15 hx hb hB hK hown hW hB_b dX0_severityOf_9 ?_
    refine lv_iload_n hx hb dX0_severityOf_12 rfl (lv_at hl 1 rfl) ?_
    obtain ⟨v13, e13, hf⟩ := ob2 hf
    refine r_iald hx hb hK hW (hB_b.l8 (by decide)) (cB_9 hB_b) e13 dX0_severityOf_13 ?_
    refine lv_goto (tgt := 18) hx hb dX0_severityOf_14 (by decide) ?_
    cases hf
    exact e_i hx hb hr hlk hW hS dX0_severityOf_18
def f_X1_leastOf (b : Nat) (x : XS) (a0 : Int32) (a1 : Int32) : Option (Int32) :=
    (f_X1_has b x a0 a1).bind fun v3 =>
    if (v3 = 0 : Prop) then
      some 0
    else
      ((aget 24 (x (b + 4)) ((a0 * 6) + a1)).bind fun v19 =>
      some v19)
set_option maxRecDepth 100000 in
set_option maxHeartbeats 4000000 in
theorem p_X1_leastOf (l : Launch) (E : TE) {b : Nat} (hB_b : IsB b) (x m : XS) (g o : Int64) {a0 : Int32} {a1 : Int32} {r : Int32} (hf : f_X1_leastOf b x a0 a1 = some r) : MG l E yX1_leastOf cX1_leastOf 3 (some .int) 2 [rf E (b + 1), .int a0, .int a1] (Wd E x m g o) (Wd E x m g o) (some (.int r)) := by
  unfold f_X1_leastOf at hf
  refine m_in (by decide) (Nat.le_of_ble_eq_true rfl) ?_
  intro p e s mi args below meth c H ls hx hb hr hlk hml hown hB hK hW hS hl
  have hl : lv_has ls 3 [(0, rf E (b + 1)), (1, .int a0), (2, .int a1)] := hl
  refine lv_aload_n hx hb dX1_leastOf_0 rfl (lv_at hl 0 rfl) ?_
  refine lv_iload_n hx hb dX1_leastOf_1 rfl (lv_at hl 1 rfl) ?_
  refine lv_iload_n hx hb dX1_leastOf_2 rfl (lv_at hl 2 rfl) ?_
  obtain ⟨v3, e3, hf⟩ := ob2 hf
  refine c_V (As := [.int a0, .int a1]) (st1 := [.int v3]) (rest := []) (p_X1_has l E hB_b x m g o e3) (kc_X1_35 hB ⟨Nat.le_of_ble_eq_true rfl, Nat.le_of_ble_eq_true rfl⟩) (Wd.rec hK hW (hB_b.l8 (j := 1) (by decide)) (cB_1 hB_b) (ci := 1) rfl) hx hb hml hown hB hK hW hS ⟨Nat.zero_le _, Nat.zero_le _⟩ rfl hl.1 rfl (Nat.le_of_ble_eq_true rfl) rfl dX1_leastOf_3 (fun H locs hW hS => ?_)
  refine lv_if_eq (tgt := 23) hx hb dX1_leastOf_6 (by decide) (fun c6 => ?_) (fun c6 => ?_)
  · rw [if_pos c6] at hf
    refine lv_iconst (v := 0) hx hb dX1_leastOf_23 (by decide) ?_
    cases hf
    exact e_i hx hb hr hlk hW hS dX1_leastOf_24
  · rw [if_neg c6] at hf
    refine lv_aload_n hx hb dX1_leastOf_9 rfl (lv_at hl 0 rfl) ?_
    refine gf_X1_18 hx hb hB hK hown hW hB_b dX1_leastOf_10 ?_
    refine lv_iload_n hx hb dX1_leastOf_13 rfl (lv_at hl 1 rfl) ?_
    refine lv_bipush (v := 6) hx hb dX1_leastOf_14 (by decide) ?_
    refine lv_imul hx hb dX1_leastOf_16 ?_
    refine lv_iload_n hx hb dX1_leastOf_17 rfl (lv_at hl 2 rfl) ?_
    refine lv_iadd hx hb dX1_leastOf_18 ?_
    obtain ⟨v19, e19, hf⟩ := ob2 hf
    refine r_iald hx hb hK hW (hB_b.l8 (by decide)) (cB_4 hB_b) e19 dX1_leastOf_19 ?_
    refine lv_goto (tgt := 24) hx hb dX1_leastOf_20 (by decide) ?_
    cases hf
    exact e_i hx hb hr hlk hW hS dX1_leastOf_24
def f_X1_mostOf (b : Nat) (x : XS) (a0 : Int32) (a1 : Int32) : Option (Int32) :=
    (f_X1_has b x a0 a1).bind fun v3 =>
    if (v3 = 0 : Prop) then
      some 0
    else
      ((aget 24 (x (b + 5)) ((a0 * 6) + a1)).bind fun v19 =>
      some v19)
set_option maxRecDepth 100000 in
set_option maxHeartbeats 4000000 in
theorem p_X1_mostOf (l : Launch) (E : TE) {b : Nat} (hB_b : IsB b) (x m : XS) (g o : Int64) {a0 : Int32} {a1 : Int32} {r : Int32} (hf : f_X1_mostOf b x a0 a1 = some r) : MG l E yX1_mostOf cX1_mostOf 3 (some .int) 2 [rf E (b + 1), .int a0, .int a1] (Wd E x m g o) (Wd E x m g o) (some (.int r)) := by
  unfold f_X1_mostOf at hf
  refine m_in (by decide) (Nat.le_of_ble_eq_true rfl) ?_
  intro p e s mi args below meth c H ls hx hb hr hlk hml hown hB hK hW hS hl
  have hl : lv_has ls 3 [(0, rf E (b + 1)), (1, .int a0), (2, .int a1)] := hl
  refine lv_aload_n hx hb dX1_mostOf_0 rfl (lv_at hl 0 rfl) ?_
  refine lv_iload_n hx hb dX1_mostOf_1 rfl (lv_at hl 1 rfl) ?_
  refine lv_iload_n hx hb dX1_mostOf_2 rfl (lv_at hl 2 rfl) ?_
  obtain ⟨v3, e3, hf⟩ := ob2 hf
  refine c_V (As := [.int a0, .int a1]) (st1 := [.int v3]) (rest := []) (p_X1_has l E hB_b x m g o e3) (kc_X1_35 hB ⟨Nat.le_of_ble_eq_true rfl, Nat.le_of_ble_eq_true rfl⟩) (Wd.rec hK hW (hB_b.l8 (j := 1) (by decide)) (cB_1 hB_b) (ci := 1) rfl) hx hb hml hown hB hK hW hS ⟨Nat.zero_le _, Nat.zero_le _⟩ rfl hl.1 rfl (Nat.le_of_ble_eq_true rfl) rfl dX1_mostOf_3 (fun H locs hW hS => ?_)
  refine lv_if_eq (tgt := 23) hx hb dX1_mostOf_6 (by decide) (fun c6 => ?_) (fun c6 => ?_)
  · rw [if_pos c6] at hf
    refine lv_iconst (v := 0) hx hb dX1_mostOf_23 (by decide) ?_
    cases hf
    exact e_i hx hb hr hlk hW hS dX1_mostOf_24
  · rw [if_neg c6] at hf
    refine lv_aload_n hx hb dX1_mostOf_9 rfl (lv_at hl 0 rfl) ?_
    refine gf_X1_21 hx hb hB hK hown hW hB_b dX1_mostOf_10 ?_
    refine lv_iload_n hx hb dX1_mostOf_13 rfl (lv_at hl 1 rfl) ?_
    refine lv_bipush (v := 6) hx hb dX1_mostOf_14 (by decide) ?_
    refine lv_imul hx hb dX1_mostOf_16 ?_
    refine lv_iload_n hx hb dX1_mostOf_17 rfl (lv_at hl 2 rfl) ?_
    refine lv_iadd hx hb dX1_mostOf_18 ?_
    obtain ⟨v19, e19, hf⟩ := ob2 hf
    refine r_iald hx hb hK hW (hB_b.l8 (by decide)) (cB_5 hB_b) e19 dX1_mostOf_19 ?_
    refine lv_goto (tgt := 24) hx hb dX1_mostOf_20 (by decide) ?_
    cases hf
    exact e_i hx hb hr hlk hW hS dX1_mostOf_24
def f_X1_covers (b : Nat) (x : XS) (a0 : Int32) (a1 : Int32) (a2 : Int32) : Option (Int32) :=
    (f_X1_leastOf b x a0 a1).bind fun v4 =>
    (f_X1_mostOf b x a0 a1).bind fun v10 =>
    (f_X4_isWithin a2 v4 v10).bind fun v13 =>
    if (v13 = 0 ∨ v13 = 1 : Prop) then some v13 else none
set_option maxRecDepth 100000 in
set_option maxHeartbeats 4000000 in
theorem p_X1_covers (l : Launch) (E : TE) {b : Nat} (hB_b : IsB b) (x m : XS) (g o : Int64) {a0 : Int32} {a1 : Int32} {a2 : Int32} {r : Int32} (hf : f_X1_covers b x a0 a1 a2 = some r) : MG l E yX1_covers cX1_covers 4 (some .boolean) 3 [rf E (b + 1), .int a0, .int a1, .int a2] (Wd E x m g o) (Wd E x m g o) (some (.int r)) := by
  unfold f_X1_covers at hf
  refine m_in (by decide) (Nat.le_of_ble_eq_true rfl) ?_
  intro p e s mi args below meth c H ls hx hb hr hlk hml hown hB hK hW hS hl
  have hl : lv_has ls 4 [(0, rf E (b + 1)), (1, .int a0), (2, .int a1), (3, .int a2)] := hl
  refine lv_iload_n hx hb dX1_covers_0 rfl (lv_at hl 3 rfl) ?_
  refine lv_aload_n hx hb dX1_covers_1 rfl (lv_at hl 0 rfl) ?_
  refine lv_iload_n hx hb dX1_covers_2 rfl (lv_at hl 1 rfl) ?_
  refine lv_iload_n hx hb dX1_covers_3 rfl (lv_at hl 2 rfl) ?_
  obtain ⟨v4, e4, hf⟩ := ob2 hf
  refine c_V (As := [.int a0, .int a1]) (st1 := [.int v4, .int a2]) (rest := [.int a2]) (p_X1_leastOf l E hB_b x m g o e4) (kc_X1_39 hB ⟨Nat.le_of_ble_eq_true rfl, Nat.le_of_ble_eq_true rfl⟩) (Wd.rec hK hW (hB_b.l8 (j := 1) (by decide)) (cB_1 hB_b) (ci := 1) rfl) hx hb hml hown hB hK hW hS ⟨Nat.zero_le _, Nat.zero_le _⟩ rfl hl.1 rfl (Nat.le_of_ble_eq_true rfl) rfl dX1_covers_4 (fun H locs hW hS => ?_)
  refine lv_aload_n hx hb dX1_covers_7 rfl (lv_at hl 0 rfl) ?_
  refine lv_iload_n hx hb dX1_covers_8 rfl (lv_at hl 1 rfl) ?_
  refine lv_iload_n hx hb dX1_covers_9 rfl (lv_at hl 2 rfl) ?_
  obtain ⟨v10, e10, hf⟩ := ob2 hf
  refine c_V (As := [.int a0, .int a1]) (st1 := [.int v10, .int v4, .int a2]) (rest := [.int v4, .int a2]) (p_X1_mostOf l E hB_b x m g o e10) (kc_X1_43 hB ⟨Nat.le_of_ble_eq_true rfl, Nat.le_of_ble_eq_true rfl⟩) (Wd.rec hK hW (hB_b.l8 (j := 1) (by decide)) (cB_1 hB_b) (ci := 1) rfl) hx hb hml hown hB hK hW hS ⟨Nat.zero_le _, Nat.zero_le _⟩ rfl hl.1 rfl (Nat.le_of_ble_eq_true rfl) rfl dX1_covers_10 (fun H locs hW hS => ?_)
  obtain ⟨v13, e13, hf⟩ := ob2 hf
  refine c_SN (As := [.int a2, .int v4, .int v10]) (st1 := [.int v13]) (rest := []) (p_X4_isWithin l E x m g o e13) (kc_X1_46 hB hK ⟨Nat.le_of_ble_eq_true rfl, Nat.le_of_ble_eq_true rfl⟩) hx hb hml hown hB hK hW hS ⟨Nat.zero_le _, Nat.zero_le _⟩ rfl hl.1 rfl (Nat.le_of_ble_eq_true rfl) rfl dX1_covers_13 (fun H locs hW hS => ?_)
  obtain ⟨zb, hf⟩ := oif hf
  cases hf
  exact e_z hx hb hr hlk zb hW hS dX1_covers_16
def f_X0_groupOf (b : Nat) (x : XS) (a0 : Int32) : Option (Int32) :=
    (f_X0_has b x a0).bind fun v2 =>
    if (v2 = 0 : Prop) then
      some (-1)
    else
      ((aget 24 (x (b + 9)) a0).bind fun v13 =>
      some ((v13 - 1) / 3))
set_option maxRecDepth 100000 in
set_option maxHeartbeats 4000000 in
theorem p_X0_groupOf (l : Launch) (E : TE) {b : Nat} (hB_b : IsB b) (x m : XS) (g o : Int64) {a0 : Int32} {r : Int32} (hf : f_X0_groupOf b x a0 = some r) : MG l E yX0_groupOf cX0_groupOf 2 (some .int) 1 [rf E (b + 7), .int a0] (Wd E x m g o) (Wd E x m g o) (some (.int r)) := by
  unfold f_X0_groupOf at hf
  refine m_in (by decide) (Nat.le_of_ble_eq_true rfl) ?_
  intro p e s mi args below meth c H ls hx hb hr hlk hml hown hB hK hW hS hl
  have hl : lv_has ls 2 [(0, rf E (b + 7)), (1, .int a0)] := hl
  refine lv_aload_n hx hb dX0_groupOf_0 rfl (lv_at hl 0 rfl) ?_
  refine lv_iload_n hx hb dX0_groupOf_1 rfl (lv_at hl 1 rfl) ?_
  obtain ⟨v2, e2, hf⟩ := ob2 hf
  refine c_V (As := [.int a0]) (st1 := [.int v2]) (rest := []) (p_X0_has l E hB_b x m g o e2) (kc_X0_47 hB ⟨Nat.le_of_ble_eq_true rfl, Nat.le_of_ble_eq_true rfl⟩) (Wd.rec hK hW (hB_b.l8 (j := 7) (by decide)) (cB_7 hB_b) (ci := 0) rfl) hx hb hml hown hB hK hW hS ⟨Nat.zero_le _, Nat.zero_le _⟩ rfl hl.1 rfl (Nat.le_of_ble_eq_true rfl) rfl dX0_groupOf_2 (fun H locs hW hS => ?_)
  refine lv_if_eq (tgt := 21) hx hb dX0_groupOf_5 (by decide) (fun c5 => ?_) (fun c5 => ?_)
  · rw [if_pos c5] at hf
    refine lv_iconst (v := (-1)) hx hb dX0_groupOf_21 (by decide) ?_
    cases hf
    exact e_i hx hb hr hlk hW hS dX0_groupOf_22
  · rw [if_neg c5] at hf
    refine lv_aload_n hx hb dX0_groupOf_8 rfl (lv_at hl 0 rfl) ?_
    refine gf_X0_15 hx hb hB hK hown hW hB_b dX0_groupOf_9 ?_
    refine lv_iload_n hx hb dX0_groupOf_12 rfl (lv_at hl 1 rfl) ?_
    obtain ⟨v13, e13, hf⟩ := ob2 hf
    refine r_iald hx hb hK hW (hB_b.l8 (by decide)) (cB_9 hB_b) e13 dX0_groupOf_13 ?_
    refine lv_iconst (v := 1) hx hb dX0_groupOf_14 (by decide) ?_
    refine lv_isub hx hb dX0_groupOf_15 ?_
    refine lv_iconst (v := 3) hx hb dX0_groupOf_16 (by decide) ?_
    refine lv_idiv hx hb dX0_groupOf_17 (by decide) ?_
    refine lv_goto (tgt := 22) hx hb dX0_groupOf_18 (by decide) ?_
    cases hf
    exact e_i hx hb hr hlk hW hS dX0_groupOf_22
def f_X2_latestOf (b : Nat) (x : XS) (a0 : Int32) (a1 : Int32) : Option (Int32) :=
    (f_X4_isKind a0).bind fun v1 =>
    if (v1 = 0 : Prop) then
      some (-1)
    else
      ((f_X4_isGroup a1).bind fun v8 =>
      if (v8 = 0 : Prop) then
        some (-1)
      else
        ((aget 12 (x (b + 21)) ((a0 * 3) + a1)).bind fun v23 =>
        some v23))
set_option maxRecDepth 100000 in
set_option maxHeartbeats 4000000 in
theorem p_X2_latestOf (l : Launch) (E : TE) {b : Nat} (hB_b : IsB b) (x m : XS) (g o : Int64) {a0 : Int32} {a1 : Int32} {r : Int32} (hf : f_X2_latestOf b x a0 a1 = some r) : MG l E yX2_latestOf cX2_latestOf 3 (some .int) 1 [rf E (b + 17), .int a0, .int a1] (Wd E x m g o) (Wd E x m g o) (some (.int r)) := by
  unfold f_X2_latestOf at hf
  refine m_in (by decide) (Nat.le_of_ble_eq_true rfl) ?_
  intro p e s mi args below meth c H ls hx hb hr hlk hml hown hB hK hW hS hl
  have hl : lv_has ls 3 [(0, rf E (b + 17)), (1, .int a0), (2, .int a1)] := hl
  refine lv_iload_n hx hb dX2_latestOf_0 rfl (lv_at hl 1 rfl) ?_
  obtain ⟨v1, e1, hf⟩ := ob2 hf
  refine c_SN (As := [.int a0]) (st1 := [.int v1]) (rest := []) (p_X4_isKind l E x m g o e1) (kc_X2_38 hB hK ⟨Nat.le_of_ble_eq_true rfl, Nat.le_of_ble_eq_true rfl⟩) hx hb hml hown hB hK hW hS ⟨Nat.zero_le _, Nat.zero_le _⟩ rfl hl.1 rfl (Nat.le_of_ble_eq_true rfl) rfl dX2_latestOf_1 (fun H locs hW hS => ?_)
  refine lv_if_eq (tgt := 27) hx hb dX2_latestOf_4 (by decide) (fun c4 => ?_) (fun c4 => ?_)
  · rw [if_pos c4] at hf
    refine lv_iconst (v := (-1)) hx hb dX2_latestOf_27 (by decide) ?_
    cases hf
    exact e_i hx hb hr hlk hW hS dX2_latestOf_28
  · rw [if_neg c4] at hf
    refine lv_iload_n hx hb dX2_latestOf_7 rfl (lv_at hl 2 rfl) ?_
    obtain ⟨v8, e8, hf⟩ := ob2 hf
    refine c_SN (As := [.int a1]) (st1 := [.int v8]) (rest := []) (p_X4_isGroup l E x m g o e8) (kc_X2_42 hB hK ⟨Nat.le_of_ble_eq_true rfl, Nat.le_of_ble_eq_true rfl⟩) hx hb hml hown hB hK hW hS ⟨Nat.zero_le _, Nat.zero_le _⟩ rfl hl.1 rfl (Nat.le_of_ble_eq_true rfl) rfl dX2_latestOf_8 (fun H locs hW hS => ?_)
    refine lv_if_eq (tgt := 27) hx hb dX2_latestOf_11 (by decide) (fun c11 => ?_) (fun c11 => ?_)
    · rw [if_pos c11] at hf
      refine lv_iconst (v := (-1)) hx hb dX2_latestOf_27 (by decide) ?_
      cases hf
      exact e_i hx hb hr hlk hW hS dX2_latestOf_28
    · rw [if_neg c11] at hf
      refine lv_aload_n hx hb dX2_latestOf_14 rfl (lv_at hl 0 rfl) ?_
      refine gf_X2_21 hx hb hB hK hown hW hB_b dX2_latestOf_15 ?_
      refine lv_iload_n hx hb dX2_latestOf_18 rfl (lv_at hl 1 rfl) ?_
      refine lv_iconst (v := 3) hx hb dX2_latestOf_19 (by decide) ?_
      refine lv_imul hx hb dX2_latestOf_20 ?_
      refine lv_iload_n hx hb dX2_latestOf_21 rfl (lv_at hl 2 rfl) ?_
      refine lv_iadd hx hb dX2_latestOf_22 ?_
      obtain ⟨v23, e23, hf⟩ := ob2 hf
      refine r_iald hx hb hK hW (hB_b.l8 (by decide)) (cB_21 hB_b) e23 dX2_latestOf_23 ?_
      refine lv_goto (tgt := 28) hx hb dX2_latestOf_24 (by decide) ?_
      cases hf
      exact e_i hx hb hr hlk hW hS dX2_latestOf_28
def f_X2_has (b : Nat) (x : XS) (a0 : Int32) : Option (Int32) :=
    if (a0 < 0 : Prop) then
      some 0
    else
      (if ((x (b + 17) 0) ≤ a0 : Prop) then
        some 0
      else
        some 1)
set_option maxRecDepth 100000 in
set_option maxHeartbeats 4000000 in
theorem p_X2_has (l : Launch) (E : TE) {b : Nat} (hB_b : IsB b) (x m : XS) (g o : Int64) {a0 : Int32} {r : Int32} (hf : f_X2_has b x a0 = some r) : MG l E yX2_has cX2_has 2 (some .boolean) 0 [rf E (b + 17), .int a0] (Wd E x m g o) (Wd E x m g o) (some (.int r)) := by
  unfold f_X2_has at hf
  refine m_in (by decide) (Nat.le_of_ble_eq_true rfl) ?_
  intro p e s mi args below meth c H ls hx hb hr hlk hml hown hB hK hW hS hl
  have hl : lv_has ls 2 [(0, rf E (b + 17)), (1, .int a0)] := hl
  refine lv_iload_n hx hb dX2_has_0 rfl (lv_at hl 1 rfl) ?_
  refine lv_if_lt (tgt := 16) hx hb dX2_has_1 (by decide) (fun c1 => ?_) (fun c1 => ?_)
  · rw [if_pos c1] at hf
    refine lv_iconst (v := 0) hx hb dX2_has_16 (by decide) ?_
    cases hf
    exact e_z hx hb hr hlk (Or.inl rfl) hW hS dX2_has_17
  · rw [if_neg c1] at hf
    refine lv_iload_n hx hb dX2_has_4 rfl (lv_at hl 1 rfl) ?_
    refine lv_aload_n hx hb dX2_has_5 rfl (lv_at hl 0 rfl) ?_
    refine gf_X2_30 hx hb hB hK hown hW hB_b dX2_has_6 ?_
    refine lv_icmp_ge (tgt := 16) hx hb dX2_has_9 (by decide) (fun c9 => ?_) (fun c9 => ?_)
    · rw [if_pos c9] at hf
      refine lv_iconst (v := 0) hx hb dX2_has_16 (by decide) ?_
      cases hf
      exact e_z hx hb hr hlk (Or.inl rfl) hW hS dX2_has_17
    · rw [if_neg c9] at hf
      refine lv_iconst (v := 1) hx hb dX2_has_12 (by decide) ?_
      refine lv_goto (tgt := 17) hx hb dX2_has_13 (by decide) ?_
      cases hf
      exact e_z hx hb hr hlk (Or.inr rfl) hW hS dX2_has_17
def f_X2_monthOf (b : Nat) (x : XS) (a0 : Int32) : Option (Int32) :=
    (f_X2_has b x a0).bind fun v2 =>
    if (v2 = 0 : Prop) then
      some (-1)
    else
      ((aget 24 (x (b + 19)) a0).bind fun v13 =>
      some v13)
set_option maxRecDepth 100000 in
set_option maxHeartbeats 4000000 in
theorem p_X2_monthOf (l : Launch) (E : TE) {b : Nat} (hB_b : IsB b) (x m : XS) (g o : Int64) {a0 : Int32} {r : Int32} (hf : f_X2_monthOf b x a0 = some r) : MG l E yX2_monthOf cX2_monthOf 2 (some .int) 1 [rf E (b + 17), .int a0] (Wd E x m g o) (Wd E x m g o) (some (.int r)) := by
  unfold f_X2_monthOf at hf
  refine m_in (by decide) (Nat.le_of_ble_eq_true rfl) ?_
  intro p e s mi args below meth c H ls hx hb hr hlk hml hown hB hK hW hS hl
  have hl : lv_has ls 2 [(0, rf E (b + 17)), (1, .int a0)] := hl
  refine lv_aload_n hx hb dX2_monthOf_0 rfl (lv_at hl 0 rfl) ?_
  refine lv_iload_n hx hb dX2_monthOf_1 rfl (lv_at hl 1 rfl) ?_
  obtain ⟨v2, e2, hf⟩ := ob2 hf
  refine c_V (As := [.int a0]) (st1 := [.int v2]) (rest := []) (p_X2_has l E hB_b x m g o e2) (kc_X2_45 hB ⟨Nat.le_of_ble_eq_true rfl, Nat.le_of_ble_eq_true rfl⟩) (Wd.rec hK hW (hB_b.l8 (j := 17) (by decide)) (cB_17 hB_b) (ci := 2) rfl) hx hb hml hown hB hK hW hS ⟨Nat.zero_le _, Nat.zero_le _⟩ rfl hl.1 rfl (Nat.le_of_ble_eq_true rfl) rfl dX2_monthOf_2 (fun H locs hW hS => ?_)
  refine lv_if_eq (tgt := 17) hx hb dX2_monthOf_5 (by decide) (fun c5 => ?_) (fun c5 => ?_)
  · rw [if_pos c5] at hf
    refine lv_iconst (v := (-1)) hx hb dX2_monthOf_17 (by decide) ?_
    cases hf
    exact e_i hx hb hr hlk hW hS dX2_monthOf_18
  · rw [if_neg c5] at hf
    refine lv_aload_n hx hb dX2_monthOf_8 rfl (lv_at hl 0 rfl) ?_
    refine gf_X2_15 hx hb hB hK hown hW hB_b dX2_monthOf_9 ?_
    refine lv_iload_n hx hb dX2_monthOf_12 rfl (lv_at hl 1 rfl) ?_
    obtain ⟨v13, e13, hf⟩ := ob2 hf
    refine r_iald hx hb hK hW (hB_b.l8 (by decide)) (cB_19 hB_b) e13 dX2_monthOf_13 ?_
    refine lv_goto (tgt := 18) hx hb dX2_monthOf_14 (by decide) ?_
    cases hf
    exact e_i hx hb hr hlk hW hS dX2_monthOf_18
def f_X2_amendsOf (b : Nat) (x : XS) (a0 : Int32) : Option (Int32) :=
    (f_X2_has b x a0).bind fun v2 =>
    if (v2 = 0 : Prop) then
      some (-1)
    else
      ((aget 24 (x (b + 18)) a0).bind fun v13 =>
      some v13)
set_option maxRecDepth 100000 in
set_option maxHeartbeats 4000000 in
theorem p_X2_amendsOf (l : Launch) (E : TE) {b : Nat} (hB_b : IsB b) (x m : XS) (g o : Int64) {a0 : Int32} {r : Int32} (hf : f_X2_amendsOf b x a0 = some r) : MG l E yX2_amendsOf cX2_amendsOf 2 (some .int) 1 [rf E (b + 17), .int a0] (Wd E x m g o) (Wd E x m g o) (some (.int r)) := by
  unfold f_X2_amendsOf at hf
  refine m_in (by decide) (Nat.le_of_ble_eq_true rfl) ?_
  intro p e s mi args below meth c H ls hx hb hr hlk hml hown hB hK hW hS hl
  have hl : lv_has ls 2 [(0, rf E (b + 17)), (1, .int a0)] := hl
  refine lv_aload_n hx hb dX2_amendsOf_0 rfl (lv_at hl 0 rfl) ?_
  refine lv_iload_n hx hb dX2_amendsOf_1 rfl (lv_at hl 1 rfl) ?_
  obtain ⟨v2, e2, hf⟩ := ob2 hf
  refine c_V (As := [.int a0]) (st1 := [.int v2]) (rest := []) (p_X2_has l E hB_b x m g o e2) (kc_X2_45 hB ⟨Nat.le_of_ble_eq_true rfl, Nat.le_of_ble_eq_true rfl⟩) (Wd.rec hK hW (hB_b.l8 (j := 17) (by decide)) (cB_17 hB_b) (ci := 2) rfl) hx hb hml hown hB hK hW hS ⟨Nat.zero_le _, Nat.zero_le _⟩ rfl hl.1 rfl (Nat.le_of_ble_eq_true rfl) rfl dX2_amendsOf_2 (fun H locs hW hS => ?_)
  refine lv_if_eq (tgt := 17) hx hb dX2_amendsOf_5 (by decide) (fun c5 => ?_) (fun c5 => ?_)
  · rw [if_pos c5] at hf
    refine lv_iconst (v := (-1)) hx hb dX2_amendsOf_17 (by decide) ?_
    cases hf
    exact e_i hx hb hr hlk hW hS dX2_amendsOf_18
  · rw [if_neg c5] at hf
    refine lv_aload_n hx hb dX2_amendsOf_8 rfl (lv_at hl 0 rfl) ?_
    refine gf_X2_9 hx hb hB hK hown hW hB_b dX2_amendsOf_9 ?_
    refine lv_iload_n hx hb dX2_amendsOf_12 rfl (lv_at hl 1 rfl) ?_
    obtain ⟨v13, e13, hf⟩ := ob2 hf
    refine r_iald hx hb hK hW (hB_b.l8 (by decide)) (cB_18 hB_b) e13 dX2_amendsOf_13 ?_
    refine lv_goto (tgt := 18) hx hb dX2_amendsOf_14 (by decide) ?_
    cases hf
    exact e_i hx hb hr hlk hW hS dX2_amendsOf_18
def f_X1_costOf (b : Nat) (x : XS) (a0 : Int32) (a1 : Int32) : Option (Int32) :=
    (f_X1_has b x a0 a1).bind fun v3 =>
    if (v3 = 0 : Prop) then
      some 0
    else
      ((aget 24 (x (b + 3)) ((a0 * 6) + a1)).bind fun v19 =>
      some v19)
set_option maxRecDepth 100000 in
set_option maxHeartbeats 4000000 in
theorem p_X1_costOf (l : Launch) (E : TE) {b : Nat} (hB_b : IsB b) (x m : XS) (g o : Int64) {a0 : Int32} {a1 : Int32} {r : Int32} (hf : f_X1_costOf b x a0 a1 = some r) : MG l E yX1_costOf cX1_costOf 3 (some .int) 2 [rf E (b + 1), .int a0, .int a1] (Wd E x m g o) (Wd E x m g o) (some (.int r)) := by
  unfold f_X1_costOf at hf
  refine m_in (by decide) (Nat.le_of_ble_eq_true rfl) ?_
  intro p e s mi args below meth c H ls hx hb hr hlk hml hown hB hK hW hS hl
  have hl : lv_has ls 3 [(0, rf E (b + 1)), (1, .int a0), (2, .int a1)] := hl
  refine lv_aload_n hx hb dX1_costOf_0 rfl (lv_at hl 0 rfl) ?_
  refine lv_iload_n hx hb dX1_costOf_1 rfl (lv_at hl 1 rfl) ?_
  refine lv_iload_n hx hb dX1_costOf_2 rfl (lv_at hl 2 rfl) ?_
  obtain ⟨v3, e3, hf⟩ := ob2 hf
  refine c_V (As := [.int a0, .int a1]) (st1 := [.int v3]) (rest := []) (p_X1_has l E hB_b x m g o e3) (kc_X1_35 hB ⟨Nat.le_of_ble_eq_true rfl, Nat.le_of_ble_eq_true rfl⟩) (Wd.rec hK hW (hB_b.l8 (j := 1) (by decide)) (cB_1 hB_b) (ci := 1) rfl) hx hb hml hown hB hK hW hS ⟨Nat.zero_le _, Nat.zero_le _⟩ rfl hl.1 rfl (Nat.le_of_ble_eq_true rfl) rfl dX1_costOf_3 (fun H locs hW hS => ?_)
  refine lv_if_eq (tgt := 23) hx hb dX1_costOf_6 (by decide) (fun c6 => ?_) (fun c6 => ?_)
  · rw [if_pos c6] at hf
    refine lv_iconst (v := 0) hx hb dX1_costOf_23 (by decide) ?_
    cases hf
    exact e_i hx hb hr hlk hW hS dX1_costOf_24
  · rw [if_neg c6] at hf
    refine lv_aload_n hx hb dX1_costOf_9 rfl (lv_at hl 0 rfl) ?_
    refine gf_X1_15 hx hb hB hK hown hW hB_b dX1_costOf_10 ?_
    refine lv_iload_n hx hb dX1_costOf_13 rfl (lv_at hl 1 rfl) ?_
    refine lv_bipush (v := 6) hx hb dX1_costOf_14 (by decide) ?_
    refine lv_imul hx hb dX1_costOf_16 ?_
    refine lv_iload_n hx hb dX1_costOf_17 rfl (lv_at hl 2 rfl) ?_
    refine lv_iadd hx hb dX1_costOf_18 ?_
    obtain ⟨v19, e19, hf⟩ := ob2 hf
    refine r_iald hx hb hK hW (hB_b.l8 (by decide)) (cB_3 hB_b) e19 dX1_costOf_19 ?_
    refine lv_goto (tgt := 24) hx hb dX1_costOf_20 (by decide) ?_
    cases hf
    exact e_i hx hb hr hlk hW hS dX1_costOf_24
def f_X0_gotOf (b : Nat) (x : XS) (a0 : Int32) : Option (Int32) :=
    (f_X0_has b x a0).bind fun v2 =>
    if (v2 = 0 : Prop) then
      some 0
    else
      ((aget 24 (x (b + 13)) a0).bind fun v13 =>
      some v13)
set_option maxRecDepth 100000 in
set_option maxHeartbeats 4000000 in
theorem p_X0_gotOf (l : Launch) (E : TE) {b : Nat} (hB_b : IsB b) (x m : XS) (g o : Int64) {a0 : Int32} {r : Int32} (hf : f_X0_gotOf b x a0 = some r) : MG l E yX0_gotOf cX0_gotOf 2 (some .int) 1 [rf E (b + 7), .int a0] (Wd E x m g o) (Wd E x m g o) (some (.int r)) := by
  unfold f_X0_gotOf at hf
  refine m_in (by decide) (Nat.le_of_ble_eq_true rfl) ?_
  intro p e s mi args below meth c H ls hx hb hr hlk hml hown hB hK hW hS hl
  have hl : lv_has ls 2 [(0, rf E (b + 7)), (1, .int a0)] := hl
  refine lv_aload_n hx hb dX0_gotOf_0 rfl (lv_at hl 0 rfl) ?_
  refine lv_iload_n hx hb dX0_gotOf_1 rfl (lv_at hl 1 rfl) ?_
  obtain ⟨v2, e2, hf⟩ := ob2 hf
  refine c_V (As := [.int a0]) (st1 := [.int v2]) (rest := []) (p_X0_has l E hB_b x m g o e2) (kc_X0_47 hB ⟨Nat.le_of_ble_eq_true rfl, Nat.le_of_ble_eq_true rfl⟩) (Wd.rec hK hW (hB_b.l8 (j := 7) (by decide)) (cB_7 hB_b) (ci := 0) rfl) hx hb hml hown hB hK hW hS ⟨Nat.zero_le _, Nat.zero_le _⟩ rfl hl.1 rfl (Nat.le_of_ble_eq_true rfl) rfl dX0_gotOf_2 (fun H locs hW hS => ?_)
  refine lv_if_eq (tgt := 17) hx hb dX0_gotOf_5 (by decide) (fun c5 => ?_) (fun c5 => ?_)
  · rw [if_pos c5] at hf
    refine lv_iconst (v := 0) hx hb dX0_gotOf_17 (by decide) ?_
    cases hf
    exact e_i hx hb hr hlk hW hS dX0_gotOf_18
  · rw [if_neg c5] at hf
    refine lv_aload_n hx hb dX0_gotOf_8 rfl (lv_at hl 0 rfl) ?_
    refine gf_X0_27 hx hb hB hK hown hW hB_b dX0_gotOf_9 ?_
    refine lv_iload_n hx hb dX0_gotOf_12 rfl (lv_at hl 1 rfl) ?_
    obtain ⟨v13, e13, hf⟩ := ob2 hf
    refine r_iald hx hb hK hW (hB_b.l8 (by decide)) (cB_13 hB_b) e13 dX0_gotOf_13 ?_
    refine lv_goto (tgt := 18) hx hb dX0_gotOf_14 (by decide) ?_
    cases hf
    exact e_i hx hb hr hlk hW hS dX0_gotOf_18
def f_X0_give (b : Nat) (x : XS) (a0 : Int32) (a1 : Int32) (a2 : Int32) : Option (XS) :=
    (f_X0_has b x a0).bind fun v2 =>
    if (v2 = 0 : Prop) then
      some x
    else
      ((aset x (b + 12) 24 a0 a1).bind fun x14 =>
      (aset x14 (b + 13) 24 a0 a2).bind fun x21 =>
      some x21)
set_option maxRecDepth 100000 in
set_option maxHeartbeats 4000000 in
theorem p_X0_give (l : Launch) (E : TE) {b : Nat} (hB_b : IsB b) (x m : XS) (g o : Int64) {a0 : Int32} {a1 : Int32} {a2 : Int32} {xr : XS} (hf : f_X0_give b x a0 a1 a2 = some xr) : MG l E yX0_give cX0_give 4 none 1 [rf E (b + 7), .int a0, .int a1, .int a2] (Wd E x m g o) (Wd E xr m g o) none := by
  unfold f_X0_give at hf
  refine m_in (by decide) (Nat.le_of_ble_eq_true rfl) ?_
  intro p e s mi args below meth c H ls hx hb hr hlk hml hown hB hK hW hS hl
  have hl : lv_has ls 4 [(0, rf E (b + 7)), (1, .int a0), (2, .int a1), (3, .int a2)] := hl
  refine lv_aload_n hx hb dX0_give_0 rfl (lv_at hl 0 rfl) ?_
  refine lv_iload_n hx hb dX0_give_1 rfl (lv_at hl 1 rfl) ?_
  obtain ⟨v2, e2, hf⟩ := ob2 hf
  refine c_V (As := [.int a0]) (st1 := [.int v2]) (rest := []) (p_X0_has l E hB_b x m g o e2) (kc_X0_47 hB ⟨Nat.le_of_ble_eq_true rfl, Nat.le_of_ble_eq_true rfl⟩) (Wd.rec hK hW (hB_b.l8 (j := 7) (by decide)) (cB_7 hB_b) (ci := 0) rfl) hx hb hml hown hB hK hW hS ⟨Nat.zero_le _, Nat.zero_le _⟩ rfl hl.1 rfl (Nat.le_of_ble_eq_true rfl) rfl dX0_give_2 (fun H locs hW hS => ?_)
  refine lv_if_eq (tgt := 22) hx hb dX0_give_5 (by decide) (fun c5 => ?_) (fun c5 => ?_)
  · rw [if_pos c5] at hf
    cases hf
    exact e_v hx hb hr hlk hW hS dX0_give_22
  · rw [if_neg c5] at hf
    refine lv_aload_n hx hb dX0_give_8 rfl (lv_at hl 0 rfl) ?_
    refine gf_X0_24 hx hb hB hK hown hW hB_b dX0_give_9 ?_
    refine lv_iload_n hx hb dX0_give_12 rfl (lv_at hl 1 rfl) ?_
    refine lv_iload_n hx hb dX0_give_13 rfl (lv_at hl 2 rfl) ?_
    obtain ⟨x14, e14, hf⟩ := ob2 hf
    refine r_iastX hx hb hK hW hS (hB_b.lt (by decide)) (fun _ => cB_12 hB_b) e14 dX0_give_14 (fun H locs hW hS => ?_)
    refine lv_aload_n hx hb dX0_give_15 rfl (lv_at hl 0 rfl) ?_
    refine gf_X0_27 hx hb hB hK hown hW hB_b dX0_give_16 ?_
    refine lv_iload_n hx hb dX0_give_19 rfl (lv_at hl 1 rfl) ?_
    refine lv_iload_n hx hb dX0_give_20 rfl (lv_at hl 3 rfl) ?_
    obtain ⟨x21, e21, hf⟩ := ob2 hf
    refine r_iastX hx hb hK hW hS (hB_b.lt (by decide)) (fun _ => cB_13 hB_b) e21 dX0_give_21 (fun H locs hW hS => ?_)
    cases hf
    exact e_v hx hb hr hlk hW hS dX0_give_22
def f_X2_add (b : Nat) (x : XS) (a0 : Int32) (a1 : Int32) (a2 : Int32) (a3 : Int32) (a4 : Int32) : Option (Int32 × XS) :=
    (f_X4_isKind a0).bind fun v1 =>
    if (v1 = 0 : Prop) then
      some ((-1), x)
    else
      ((f_X4_isGroup a1).bind fun v8 =>
      if (v8 = 0 : Prop) then
        some ((-1), x)
      else
        (if ((x (b + 17) 0) < 24 : Prop) then
          ((some ((x (b + 17) 0))).bind fun v29 =>
          (aset x (b + 18) 24 v29 a2).bind fun x38 =>
          (aset x38 (b + 19) 24 v29 a3).bind fun x47 =>
          (aset x47 (b + 20) 24 v29 a4).bind fun x56 =>
          (aset x56 (b + 21) 12 ((a0 * 3) + a1) v29).bind fun x68 =>
          (some (ux x68 (b + 17) 0 (v29 + 1))).bind fun x74 =>
          some (v29, x74))
        else
          some ((-1), x)))
set_option maxRecDepth 100000 in
set_option maxHeartbeats 4000000 in
theorem p_X2_add (l : Launch) (E : TE) {b : Nat} (hB_b : IsB b) (x m : XS) (g o : Int64) {a0 : Int32} {a1 : Int32} {a2 : Int32} {a3 : Int32} {a4 : Int32} {r : Int32} {xr : XS} (hf : f_X2_add b x a0 a1 a2 a3 a4 = some (r, xr)) : MG l E yX2_add cX2_add 7 (some .int) 1 [rf E (b + 17), .int a0, .int a1, .int a2, .int a3, .int a4] (Wd E x m g o) (Wd E xr m g o) (some (.int r)) := by
  unfold f_X2_add at hf
  refine m_in (by decide) (Nat.le_of_ble_eq_true rfl) ?_
  intro p e s mi args below meth c H ls hx hb hr hlk hml hown hB hK hW hS hl
  have hl : lv_has ls 7 [(0, rf E (b + 17)), (1, .int a0), (2, .int a1), (3, .int a2), (4, .int a3), (5, .int a4)] := hl
  refine lv_iload_n hx hb dX2_add_0 rfl (lv_at hl 1 rfl) ?_
  obtain ⟨v1, e1, hf⟩ := ob2 hf
  refine c_SN (As := [.int a0]) (st1 := [.int v1]) (rest := []) (p_X4_isKind l E x m g o e1) (kc_X2_38 hB hK ⟨Nat.le_of_ble_eq_true rfl, Nat.le_of_ble_eq_true rfl⟩) hx hb hml hown hB hK hW hS ⟨Nat.zero_le _, Nat.zero_le _⟩ rfl hl.1 rfl (Nat.le_of_ble_eq_true rfl) rfl dX2_add_1 (fun H locs hW hS => ?_)
  refine lv_if_eq (tgt := 23) hx hb dX2_add_4 (by decide) (fun c4 => ?_) (fun c4 => ?_)
  · rw [if_pos c4] at hf
    refine lv_iconst (v := (-1)) hx hb dX2_add_23 (by decide) ?_
    cases hf
    exact e_i hx hb hr hlk hW hS dX2_add_24
  · rw [if_neg c4] at hf
    refine lv_iload_n hx hb dX2_add_7 rfl (lv_at hl 2 rfl) ?_
    obtain ⟨v8, e8, hf⟩ := ob2 hf
    refine c_SN (As := [.int a1]) (st1 := [.int v8]) (rest := []) (p_X4_isGroup l E x m g o e8) (kc_X2_42 hB hK ⟨Nat.le_of_ble_eq_true rfl, Nat.le_of_ble_eq_true rfl⟩) hx hb hml hown hB hK hW hS ⟨Nat.zero_le _, Nat.zero_le _⟩ rfl hl.1 rfl (Nat.le_of_ble_eq_true rfl) rfl dX2_add_8 (fun H locs hW hS => ?_)
    refine lv_if_eq (tgt := 23) hx hb dX2_add_11 (by decide) (fun c11 => ?_) (fun c11 => ?_)
    · rw [if_pos c11] at hf
      refine lv_iconst (v := (-1)) hx hb dX2_add_23 (by decide) ?_
      cases hf
      exact e_i hx hb hr hlk hW hS dX2_add_24
    · rw [if_neg c11] at hf
      refine lv_aload_n hx hb dX2_add_14 rfl (lv_at hl 0 rfl) ?_
      refine gf_X2_30 hx hb hB hK hown hW hB_b dX2_add_15 ?_
      refine lv_bipush (v := 24) hx hb dX2_add_18 (by decide) ?_
      refine lv_icmp_lt (tgt := 25) hx hb dX2_add_20 (by decide) (fun c20 => ?_) (fun c20 => ?_)
      · rw [if_pos c20] at hf
        refine lv_aload_n hx hb dX2_add_25 rfl (lv_at hl 0 rfl) ?_
        refine gf_X2_30 hx hb hB hK hown hW hB_b dX2_add_26 ?_
        obtain ⟨v29, e29, hf⟩ := ob hf
        refine lv_nm e29 ?_
        refine lv_istore (lv' := [(6, .int v29), (0, rf E (b + 17)), (1, .int a0), (2, .int a1), (3, .int a2), (4, .int a3), (5, .int a4)]) hx hb dX2_add_29 hl (by decide) rfl (fun ls hl => ?_)
        refine lv_aload_n hx hb dX2_add_31 rfl (lv_at hl 1 rfl) ?_
        refine gf_X2_9 hx hb hB hK hown hW hB_b dX2_add_32 ?_
        refine lv_iload hx hb dX2_add_35 (lv_at hl 0 rfl) ?_
        refine lv_iload_n hx hb dX2_add_37 rfl (lv_at hl 4 rfl) ?_
        obtain ⟨x38, e38, hf⟩ := ob2 hf
        refine r_iastX hx hb hK hW hS (hB_b.lt (by decide)) (fun _ => cB_18 hB_b) e38 dX2_add_38 (fun H locs hW hS => ?_)
        refine lv_aload_n hx hb dX2_add_39 rfl (lv_at hl 1 rfl) ?_
        refine gf_X2_15 hx hb hB hK hown hW hB_b dX2_add_40 ?_
        refine lv_iload hx hb dX2_add_43 (lv_at hl 0 rfl) ?_
        refine lv_iload hx hb dX2_add_45 (lv_at hl 5 rfl) ?_
        obtain ⟨x47, e47, hf⟩ := ob2 hf
        refine r_iastX hx hb hK hW hS (hB_b.lt (by decide)) (fun _ => cB_19 hB_b) e47 dX2_add_47 (fun H locs hW hS => ?_)
        refine lv_aload_n hx hb dX2_add_48 rfl (lv_at hl 1 rfl) ?_
        refine gf_X2_18 hx hb hB hK hown hW hB_b dX2_add_49 ?_
        refine lv_iload hx hb dX2_add_52 (lv_at hl 0 rfl) ?_
        refine lv_iload hx hb dX2_add_54 (lv_at hl 6 rfl) ?_
        obtain ⟨x56, e56, hf⟩ := ob2 hf
        refine r_iastX hx hb hK hW hS (hB_b.lt (by decide)) (fun _ => cB_20 hB_b) e56 dX2_add_56 (fun H locs hW hS => ?_)
        refine lv_aload_n hx hb dX2_add_57 rfl (lv_at hl 1 rfl) ?_
        refine gf_X2_21 hx hb hB hK hown hW hB_b dX2_add_58 ?_
        refine lv_iload_n hx hb dX2_add_61 rfl (lv_at hl 2 rfl) ?_
        refine lv_iconst (v := 3) hx hb dX2_add_62 (by decide) ?_
        refine lv_imul hx hb dX2_add_63 ?_
        refine lv_iload_n hx hb dX2_add_64 rfl (lv_at hl 3 rfl) ?_
        refine lv_iadd hx hb dX2_add_65 ?_
        refine lv_iload hx hb dX2_add_66 (lv_at hl 0 rfl) ?_
        obtain ⟨x68, e68, hf⟩ := ob2 hf
        refine r_iastX hx hb hK hW hS (hB_b.lt (by decide)) (fun _ => cB_21 hB_b) e68 dX2_add_68 (fun H locs hW hS => ?_)
        refine lv_aload_n hx hb dX2_add_69 rfl (lv_at hl 1 rfl) ?_
        refine lv_iload hx hb dX2_add_70 (lv_at hl 0 rfl) ?_
        refine lv_iconst (v := 1) hx hb dX2_add_72 (by decide) ?_
        refine lv_iadd hx hb dX2_add_73 ?_
        obtain ⟨x74, e74, hf⟩ := ob hf
        refine pf_X2_30 hx hb hB hK hown hW hS hB_b e74 dX2_add_74 (fun H locs hW hS => ?_)
        refine lv_iload hx hb dX2_add_77 (lv_at hl 0 rfl) ?_
        cases hf
        exact e_i hx hb hr hlk hW hS dX2_add_79
      · rw [if_neg c20] at hf
        refine lv_iconst (v := (-1)) hx hb dX2_add_23 (by decide) ?_
        cases hf
        exact e_i hx hb hr hlk hW hS dX2_add_24
def f_X0_noteDecision (b : Nat) (x : XS) (a0 : Int32) (a1 : Int32) (a2 : Int32) (a3 : Int32) : Option (XS) :=
    (f_X0_has b x a0).bind fun v2 =>
    if (v2 = 0 : Prop) then
      some x
    else
      ((aset x (b + 11) 24 a0 1).bind fun x14 =>
      (aset x14 (b + 15) 24 a0 a1).bind fun x21 =>
      (aset x21 (b + 16) 24 a0 a2).bind fun x28 =>
      (aset x28 (b + 14) 24 a0 a3).bind fun x36 =>
      some x36)
set_option maxRecDepth 100000 in
set_option maxHeartbeats 4000000 in
theorem p_X0_noteDecision (l : Launch) (E : TE) {b : Nat} (hB_b : IsB b) (x m : XS) (g o : Int64) {a0 : Int32} {a1 : Int32} {a2 : Int32} {a3 : Int32} {xr : XS} (hf : f_X0_noteDecision b x a0 a1 a2 a3 = some xr) : MG l E yX0_noteDecision cX0_noteDecision 5 none 1 [rf E (b + 7), .int a0, .int a1, .int a2, .int a3] (Wd E x m g o) (Wd E xr m g o) none := by
  unfold f_X0_noteDecision at hf
  refine m_in (by decide) (Nat.le_of_ble_eq_true rfl) ?_
  intro p e s mi args below meth c H ls hx hb hr hlk hml hown hB hK hW hS hl
  have hl : lv_has ls 5 [(0, rf E (b + 7)), (1, .int a0), (2, .int a1), (3, .int a2), (4, .int a3)] := hl
  refine lv_aload_n hx hb dX0_noteDecision_0 rfl (lv_at hl 0 rfl) ?_
  refine lv_iload_n hx hb dX0_noteDecision_1 rfl (lv_at hl 1 rfl) ?_
  obtain ⟨v2, e2, hf⟩ := ob2 hf
  refine c_V (As := [.int a0]) (st1 := [.int v2]) (rest := []) (p_X0_has l E hB_b x m g o e2) (kc_X0_47 hB ⟨Nat.le_of_ble_eq_true rfl, Nat.le_of_ble_eq_true rfl⟩) (Wd.rec hK hW (hB_b.l8 (j := 7) (by decide)) (cB_7 hB_b) (ci := 0) rfl) hx hb hml hown hB hK hW hS ⟨Nat.zero_le _, Nat.zero_le _⟩ rfl hl.1 rfl (Nat.le_of_ble_eq_true rfl) rfl dX0_noteDecision_2 (fun H locs hW hS => ?_)
  refine lv_if_eq (tgt := 37) hx hb dX0_noteDecision_5 (by decide) (fun c5 => ?_) (fun c5 => ?_)
  · rw [if_pos c5] at hf
    cases hf
    exact e_v hx hb hr hlk hW hS dX0_noteDecision_37
  · rw [if_neg c5] at hf
    refine lv_aload_n hx hb dX0_noteDecision_8 rfl (lv_at hl 0 rfl) ?_
    refine gf_X0_21 hx hb hB hK hown hW hB_b dX0_noteDecision_9 ?_
    refine lv_iload_n hx hb dX0_noteDecision_12 rfl (lv_at hl 1 rfl) ?_
    refine lv_iconst (v := 1) hx hb dX0_noteDecision_13 (by decide) ?_
    obtain ⟨x14, e14, hf⟩ := ob2 hf
    refine r_iastX hx hb hK hW hS (hB_b.lt (by decide)) (fun _ => cB_11 hB_b) e14 dX0_noteDecision_14 (fun H locs hW hS => ?_)
    refine lv_aload_n hx hb dX0_noteDecision_15 rfl (lv_at hl 0 rfl) ?_
    refine gf_X0_33 hx hb hB hK hown hW hB_b dX0_noteDecision_16 ?_
    refine lv_iload_n hx hb dX0_noteDecision_19 rfl (lv_at hl 1 rfl) ?_
    refine lv_iload_n hx hb dX0_noteDecision_20 rfl (lv_at hl 2 rfl) ?_
    obtain ⟨x21, e21, hf⟩ := ob2 hf
    refine r_iastX hx hb hK hW hS (hB_b.lt (by decide)) (fun _ => cB_15 hB_b) e21 dX0_noteDecision_21 (fun H locs hW hS => ?_)
    refine lv_aload_n hx hb dX0_noteDecision_22 rfl (lv_at hl 0 rfl) ?_
    refine gf_X0_36 hx hb hB hK hown hW hB_b dX0_noteDecision_23 ?_
    refine lv_iload_n hx hb dX0_noteDecision_26 rfl (lv_at hl 1 rfl) ?_
    refine lv_iload_n hx hb dX0_noteDecision_27 rfl (lv_at hl 3 rfl) ?_
    obtain ⟨x28, e28, hf⟩ := ob2 hf
    refine r_iastX hx hb hK hW hS (hB_b.lt (by decide)) (fun _ => cB_16 hB_b) e28 dX0_noteDecision_28 (fun H locs hW hS => ?_)
    refine lv_aload_n hx hb dX0_noteDecision_29 rfl (lv_at hl 0 rfl) ?_
    refine gf_X0_30 hx hb hB hK hown hW hB_b dX0_noteDecision_30 ?_
    refine lv_iload_n hx hb dX0_noteDecision_33 rfl (lv_at hl 1 rfl) ?_
    refine lv_iload hx hb dX0_noteDecision_34 (lv_at hl 4 rfl) ?_
    obtain ⟨x36, e36, hf⟩ := ob2 hf
    refine r_iastX hx hb hK hW hS (hB_b.lt (by decide)) (fun _ => cB_14 hB_b) e36 dX0_noteDecision_36 (fun H locs hW hS => ?_)
    cases hf
    exact e_v hx hb hr hlk hW hS dX0_noteDecision_37
def f_X0_followedBy (b : Nat) (x : XS) (a0 : Int32) : Option (Int32) :=
    (f_X0_has b x a0).bind fun v2 =>
    if (v2 = 0 : Prop) then
      some (-1)
    else
      ((aget 24 (x (b + 16)) a0).bind fun v13 =>
      some v13)
set_option maxRecDepth 100000 in
set_option maxHeartbeats 4000000 in
theorem p_X0_followedBy (l : Launch) (E : TE) {b : Nat} (hB_b : IsB b) (x m : XS) (g o : Int64) {a0 : Int32} {r : Int32} (hf : f_X0_followedBy b x a0 = some r) : MG l E yX0_followedBy cX0_followedBy 2 (some .int) 1 [rf E (b + 7), .int a0] (Wd E x m g o) (Wd E x m g o) (some (.int r)) := by
  unfold f_X0_followedBy at hf
  refine m_in (by decide) (Nat.le_of_ble_eq_true rfl) ?_
  intro p e s mi args below meth c H ls hx hb hr hlk hml hown hB hK hW hS hl
  have hl : lv_has ls 2 [(0, rf E (b + 7)), (1, .int a0)] := hl
  refine lv_aload_n hx hb dX0_followedBy_0 rfl (lv_at hl 0 rfl) ?_
  refine lv_iload_n hx hb dX0_followedBy_1 rfl (lv_at hl 1 rfl) ?_
  obtain ⟨v2, e2, hf⟩ := ob2 hf
  refine c_V (As := [.int a0]) (st1 := [.int v2]) (rest := []) (p_X0_has l E hB_b x m g o e2) (kc_X0_47 hB ⟨Nat.le_of_ble_eq_true rfl, Nat.le_of_ble_eq_true rfl⟩) (Wd.rec hK hW (hB_b.l8 (j := 7) (by decide)) (cB_7 hB_b) (ci := 0) rfl) hx hb hml hown hB hK hW hS ⟨Nat.zero_le _, Nat.zero_le _⟩ rfl hl.1 rfl (Nat.le_of_ble_eq_true rfl) rfl dX0_followedBy_2 (fun H locs hW hS => ?_)
  refine lv_if_eq (tgt := 17) hx hb dX0_followedBy_5 (by decide) (fun c5 => ?_) (fun c5 => ?_)
  · rw [if_pos c5] at hf
    refine lv_iconst (v := (-1)) hx hb dX0_followedBy_17 (by decide) ?_
    cases hf
    exact e_i hx hb hr hlk hW hS dX0_followedBy_18
  · rw [if_neg c5] at hf
    refine lv_aload_n hx hb dX0_followedBy_8 rfl (lv_at hl 0 rfl) ?_
    refine gf_X0_36 hx hb hB hK hown hW hB_b dX0_followedBy_9 ?_
    refine lv_iload_n hx hb dX0_followedBy_12 rfl (lv_at hl 1 rfl) ?_
    obtain ⟨v13, e13, hf⟩ := ob2 hf
    refine r_iald hx hb hK hW (hB_b.l8 (by decide)) (cB_16 hB_b) e13 dX0_followedBy_13 ?_
    refine lv_goto (tgt := 18) hx hb dX0_followedBy_14 (by decide) ?_
    cases hf
    exact e_i hx hb hr hlk hW hS dX0_followedBy_18
def f_X2_setterOf (b : Nat) (x : XS) (a0 : Int32) : Option (Int32) :=
    (f_X2_has b x a0).bind fun v2 =>
    if (v2 = 0 : Prop) then
      some (-1)
    else
      ((aget 24 (x (b + 20)) a0).bind fun v13 =>
      some v13)
set_option maxRecDepth 100000 in
set_option maxHeartbeats 4000000 in
theorem p_X2_setterOf (l : Launch) (E : TE) {b : Nat} (hB_b : IsB b) (x m : XS) (g o : Int64) {a0 : Int32} {r : Int32} (hf : f_X2_setterOf b x a0 = some r) : MG l E yX2_setterOf cX2_setterOf 2 (some .int) 1 [rf E (b + 17), .int a0] (Wd E x m g o) (Wd E x m g o) (some (.int r)) := by
  unfold f_X2_setterOf at hf
  refine m_in (by decide) (Nat.le_of_ble_eq_true rfl) ?_
  intro p e s mi args below meth c H ls hx hb hr hlk hml hown hB hK hW hS hl
  have hl : lv_has ls 2 [(0, rf E (b + 17)), (1, .int a0)] := hl
  refine lv_aload_n hx hb dX2_setterOf_0 rfl (lv_at hl 0 rfl) ?_
  refine lv_iload_n hx hb dX2_setterOf_1 rfl (lv_at hl 1 rfl) ?_
  obtain ⟨v2, e2, hf⟩ := ob2 hf
  refine c_V (As := [.int a0]) (st1 := [.int v2]) (rest := []) (p_X2_has l E hB_b x m g o e2) (kc_X2_45 hB ⟨Nat.le_of_ble_eq_true rfl, Nat.le_of_ble_eq_true rfl⟩) (Wd.rec hK hW (hB_b.l8 (j := 17) (by decide)) (cB_17 hB_b) (ci := 2) rfl) hx hb hml hown hB hK hW hS ⟨Nat.zero_le _, Nat.zero_le _⟩ rfl hl.1 rfl (Nat.le_of_ble_eq_true rfl) rfl dX2_setterOf_2 (fun H locs hW hS => ?_)
  refine lv_if_eq (tgt := 17) hx hb dX2_setterOf_5 (by decide) (fun c5 => ?_) (fun c5 => ?_)
  · rw [if_pos c5] at hf
    refine lv_iconst (v := (-1)) hx hb dX2_setterOf_17 (by decide) ?_
    cases hf
    exact e_i hx hb hr hlk hW hS dX2_setterOf_18
  · rw [if_neg c5] at hf
    refine lv_aload_n hx hb dX2_setterOf_8 rfl (lv_at hl 0 rfl) ?_
    refine gf_X2_18 hx hb hB hK hown hW hB_b dX2_setterOf_9 ?_
    refine lv_iload_n hx hb dX2_setterOf_12 rfl (lv_at hl 1 rfl) ?_
    obtain ⟨v13, e13, hf⟩ := ob2 hf
    refine r_iald hx hb hK hW (hB_b.l8 (by decide)) (cB_20 hB_b) e13 dX2_setterOf_13 ?_
    refine lv_goto (tgt := 18) hx hb dX2_setterOf_14 (by decide) ?_
    cases hf
    exact e_i hx hb hr hlk hW hS dX2_setterOf_18
def f_X0_monthOf (b : Nat) (x : XS) (a0 : Int32) : Option (Int32) :=
    (f_X0_has b x a0).bind fun v2 =>
    if (v2 = 0 : Prop) then
      some (-1)
    else
      ((aget 24 (x (b + 15)) a0).bind fun v13 =>
      some v13)
set_option maxRecDepth 100000 in
set_option maxHeartbeats 4000000 in
theorem p_X0_monthOf (l : Launch) (E : TE) {b : Nat} (hB_b : IsB b) (x m : XS) (g o : Int64) {a0 : Int32} {r : Int32} (hf : f_X0_monthOf b x a0 = some r) : MG l E yX0_monthOf cX0_monthOf 2 (some .int) 1 [rf E (b + 7), .int a0] (Wd E x m g o) (Wd E x m g o) (some (.int r)) := by
  unfold f_X0_monthOf at hf
  refine m_in (by decide) (Nat.le_of_ble_eq_true rfl) ?_
  intro p e s mi args below meth c H ls hx hb hr hlk hml hown hB hK hW hS hl
  have hl : lv_has ls 2 [(0, rf E (b + 7)), (1, .int a0)] := hl
  refine lv_aload_n hx hb dX0_monthOf_0 rfl (lv_at hl 0 rfl) ?_
  refine lv_iload_n hx hb dX0_monthOf_1 rfl (lv_at hl 1 rfl) ?_
  obtain ⟨v2, e2, hf⟩ := ob2 hf
  refine c_V (As := [.int a0]) (st1 := [.int v2]) (rest := []) (p_X0_has l E hB_b x m g o e2) (kc_X0_47 hB ⟨Nat.le_of_ble_eq_true rfl, Nat.le_of_ble_eq_true rfl⟩) (Wd.rec hK hW (hB_b.l8 (j := 7) (by decide)) (cB_7 hB_b) (ci := 0) rfl) hx hb hml hown hB hK hW hS ⟨Nat.zero_le _, Nat.zero_le _⟩ rfl hl.1 rfl (Nat.le_of_ble_eq_true rfl) rfl dX0_monthOf_2 (fun H locs hW hS => ?_)
  refine lv_if_eq (tgt := 17) hx hb dX0_monthOf_5 (by decide) (fun c5 => ?_) (fun c5 => ?_)
  · rw [if_pos c5] at hf
    refine lv_iconst (v := (-1)) hx hb dX0_monthOf_17 (by decide) ?_
    cases hf
    exact e_i hx hb hr hlk hW hS dX0_monthOf_18
  · rw [if_neg c5] at hf
    refine lv_aload_n hx hb dX0_monthOf_8 rfl (lv_at hl 0 rfl) ?_
    refine gf_X0_33 hx hb hB hK hown hW hB_b dX0_monthOf_9 ?_
    refine lv_iload_n hx hb dX0_monthOf_12 rfl (lv_at hl 1 rfl) ?_
    obtain ⟨v13, e13, hf⟩ := ob2 hf
    refine r_iald hx hb hK hW (hB_b.l8 (by decide)) (cB_15 hB_b) e13 dX0_monthOf_13 ?_
    refine lv_goto (tgt := 18) hx hb dX0_monthOf_14 (by decide) ?_
    cases hf
    exact e_i hx hb hr hlk hW hS dX0_monthOf_18
def f_X0_changeStage (b : Nat) (x : XS) (a0 : Int32) (a1 : Int32) : Option (XS) :=
    (f_X0_has b x a0).bind fun v2 =>
    if (v2 = 0 : Prop) then
      some x
    else
      ((aset x (b + 11) 24 a0 a1).bind fun x14 =>
      some x14)
set_option maxRecDepth 100000 in
set_option maxHeartbeats 4000000 in
theorem p_X0_changeStage (l : Launch) (E : TE) {b : Nat} (hB_b : IsB b) (x m : XS) (g o : Int64) {a0 : Int32} {a1 : Int32} {xr : XS} (hf : f_X0_changeStage b x a0 a1 = some xr) : MG l E yX0_changeStage cX0_changeStage 3 none 1 [rf E (b + 7), .int a0, .int a1] (Wd E x m g o) (Wd E xr m g o) none := by
  unfold f_X0_changeStage at hf
  refine m_in (by decide) (Nat.le_of_ble_eq_true rfl) ?_
  intro p e s mi args below meth c H ls hx hb hr hlk hml hown hB hK hW hS hl
  have hl : lv_has ls 3 [(0, rf E (b + 7)), (1, .int a0), (2, .int a1)] := hl
  refine lv_aload_n hx hb dX0_changeStage_0 rfl (lv_at hl 0 rfl) ?_
  refine lv_iload_n hx hb dX0_changeStage_1 rfl (lv_at hl 1 rfl) ?_
  obtain ⟨v2, e2, hf⟩ := ob2 hf
  refine c_V (As := [.int a0]) (st1 := [.int v2]) (rest := []) (p_X0_has l E hB_b x m g o e2) (kc_X0_47 hB ⟨Nat.le_of_ble_eq_true rfl, Nat.le_of_ble_eq_true rfl⟩) (Wd.rec hK hW (hB_b.l8 (j := 7) (by decide)) (cB_7 hB_b) (ci := 0) rfl) hx hb hml hown hB hK hW hS ⟨Nat.zero_le _, Nat.zero_le _⟩ rfl hl.1 rfl (Nat.le_of_ble_eq_true rfl) rfl dX0_changeStage_2 (fun H locs hW hS => ?_)
  refine lv_if_eq (tgt := 15) hx hb dX0_changeStage_5 (by decide) (fun c5 => ?_) (fun c5 => ?_)
  · rw [if_pos c5] at hf
    cases hf
    exact e_v hx hb hr hlk hW hS dX0_changeStage_15
  · rw [if_neg c5] at hf
    refine lv_aload_n hx hb dX0_changeStage_8 rfl (lv_at hl 0 rfl) ?_
    refine gf_X0_21 hx hb hB hK hown hW hB_b dX0_changeStage_9 ?_
    refine lv_iload_n hx hb dX0_changeStage_12 rfl (lv_at hl 1 rfl) ?_
    refine lv_iload_n hx hb dX0_changeStage_13 rfl (lv_at hl 2 rfl) ?_
    obtain ⟨x14, e14, hf⟩ := ob2 hf
    refine r_iastX hx hb hK hW hS (hB_b.lt (by decide)) (fun _ => cB_11 hB_b) e14 dX0_changeStage_14 (fun H locs hW hS => ?_)
    cases hf
    exact e_v hx hb hr hlk hW hS dX0_changeStage_15
def f_X0_inStage_24 (b : Nat) (x : XS) (k4 : Int32 → Int32 → Int32 → Option (Int32)) (l1_24 : Int32) (l2_24 : Int32) (l3_24 : Int32) : Option (Int32) :=
    (some (l3_24 + 1)).bind fun v24 =>
    k4 l1_24 l2_24 v24
def f_X0_inStage_4 (b : Nat) (x : XS) : Nat → Int32 → Int32 → Int32 → Option (Int32)
  | 0, _, _, _ => none
  | n4 + 1, l1_4, l2_4, l3_4 =>
    if ((x (b + 7) 0) ≤ l3_4 : Prop) then
      some l2_4
    else
      ((f_X0_stageOf b x l3_4).bind fun v14 =>
      if (v14 = l1_4 : Prop) then
        ((some (l2_4 + 1)).bind fun v21 =>
        f_X0_inStage_24 b x (f_X0_inStage_4 b x n4) l1_4 v21 l3_4)
      else
        f_X0_inStage_24 b x (f_X0_inStage_4 b x n4) l1_4 l2_4 l3_4)
def f_X0_inStage (b : Nat) (x : XS) (a0 : Int32) : Option (Int32) :=
    f_X0_inStage_4 b x 4096 a0 0 0
set_option maxRecDepth 100000 in
set_option maxHeartbeats 4000000 in
theorem p_X0_inStage (l : Launch) (E : TE) {b : Nat} (hB_b : IsB b) (x m : XS) (g o : Int64) {a0 : Int32} {r : Int32} (hf : f_X0_inStage b x a0 = some r) : MG l E yX0_inStage cX0_inStage 4 (some .int) 2 [rf E (b + 7), .int a0] (Wd E x m g o) (Wd E x m g o) (some (.int r)) := by
  unfold f_X0_inStage at hf
  refine m_in (by decide) (Nat.le_of_ble_eq_true rfl) ?_
  intro p e s mi args below meth c H ls hx hb hr hlk hml hown hB hK hW hS hl
  have hl : lv_has ls 4 [(0, rf E (b + 7)), (1, .int a0)] := hl
  have J4 : ∀ (n4 : Nat), ∀ (l1_4 : Int32) (l2_4 : Int32) (l3_4 : Int32) (H : Heap) (locs : List Loc) (ls : Array Slot), f_X0_inStage_4 b x n4 l1_4 l2_4 l3_4 = some r → Wd E x m g o H → va_S (Ah E) s.heap H locs → lv_has ls 4 [(0, rf E (b + 7)), (1, .int l1_4), (2, .int l2_4), (3, .int l3_4)] → W p l e (rmH 2) s mi args below meth c H locs 0 0 (EQ E below args s (Wd E x m g o) (some (.int r))) (F0 mi 4 ls []) := by
    intro n4
    induction n4 with
    | zero => intro l1_4 l2_4 l3_4 H locs ls hf; exact absurd hf (fun z => nomatch (show (none : Option (Int32)) = some _ from z))
    | succ n4 ih4 =>
      intro l1_4 l2_4 l3_4 H locs ls hf hW hS hl
      rw [f_X0_inStage_4.eq_2] at hf
      have J24 : ∀ (l1_24 : Int32) (l2_24 : Int32) (l3_24 : Int32) (H : Heap) (locs : List Loc) (ls : Array Slot), f_X0_inStage_24 b x (f_X0_inStage_4 b x n4) l1_24 l2_24 l3_24 = some r → Wd E x m g o H → va_S (Ah E) s.heap H locs → lv_has ls 4 [(0, rf E (b + 7)), (1, .int l1_24), (2, .int l2_24), (3, .int l3_24)] → W p l e (rmH 2) s mi args below meth c H locs 0 0 (EQ E below args s (Wd E x m g o) (some (.int r))) (F0 mi 24 ls []) := by
        intro l1_24 l2_24 l3_24 H locs ls hf hW hS hl
        unfold f_X0_inStage_24 at hf
        obtain ⟨v24, e24, hf⟩ := ob hf
        refine lv_iinc (v := v24) (lv' := [(3, .int v24), (0, rf E (b + 7)), (1, .int l1_24), (2, .int l2_24)]) hx hb dX0_inStage_24 hl (k := 3) rfl (by rw [e24]; rfl) (by decide) rfl (fun ls hl => ?_)
        refine lv_goto (tgt := 4) hx hb dX0_inStage_27 (by decide) ?_
        exact ih4 l1_24 l2_24 v24 _ _ _ hf hW hS (lv_sub hl [1, 2, 3, 0] rfl)
      refine lv_iload_n hx hb dX0_inStage_4 rfl (lv_at hl 3 rfl) ?_
      refine lv_aload_n hx hb dX0_inStage_5 rfl (lv_at hl 0 rfl) ?_
      refine gf_X0_39 hx hb hB hK hown hW hB_b dX0_inStage_6 ?_
      refine lv_icmp_ge (tgt := 30) hx hb dX0_inStage_9 (by decide) (fun c9 => ?_) (fun c9 => ?_)
      · rw [if_pos c9] at hf
        refine lv_iload_n hx hb dX0_inStage_30 rfl (lv_at hl 2 rfl) ?_
        cases hf
        exact e_i hx hb hr hlk hW hS dX0_inStage_31
      · rw [if_neg c9] at hf
        refine lv_aload_n hx hb dX0_inStage_12 rfl (lv_at hl 0 rfl) ?_
        refine lv_iload_n hx hb dX0_inStage_13 rfl (lv_at hl 3 rfl) ?_
        obtain ⟨v14, e14, hf⟩ := ob2 hf
        refine c_V (As := [.int l3_4]) (st1 := [.int v14]) (rest := []) (p_X0_stageOf l E hB_b x m g o e14) (kc_X0_51 hB ⟨Nat.le_of_ble_eq_true rfl, Nat.le_of_ble_eq_true rfl⟩) (Wd.rec hK hW (hB_b.l8 (j := 7) (by decide)) (cB_7 hB_b) (ci := 0) rfl) hx hb hml hown hB hK hW hS ⟨Nat.zero_le _, Nat.zero_le _⟩ rfl hl.1 rfl (Nat.le_of_ble_eq_true rfl) rfl dX0_inStage_14 (fun H locs hW hS => ?_)
        refine lv_iload_n hx hb dX0_inStage_17 rfl (lv_at hl 1 rfl) ?_
        refine lv_icmp_ne (tgt := 24) hx hb dX0_inStage_18 (by decide) (fun c18 => ?_) (fun c18 => ?_)
        · rw [if_neg c18] at hf
          exact J24 l1_4 l2_4 l3_4 _ _ _ hf hW hS (lv_sub hl [0, 1, 2, 3] rfl)
        · rw [if_pos c18] at hf
          obtain ⟨v21, e21, hf⟩ := ob hf
          refine lv_iinc (v := v21) (lv' := [(2, .int v21), (0, rf E (b + 7)), (1, .int l1_4), (3, .int l3_4)]) hx hb dX0_inStage_21 hl (k := 2) rfl (by rw [e21]; rfl) (by decide) rfl (fun ls hl => ?_)
          exact J24 l1_4 v21 l3_4 _ _ _ hf hW hS (lv_sub hl [1, 2, 0, 3] rfl)
  refine lv_iconst (v := 0) hx hb dX0_inStage_0 (by decide) ?_
  refine lv_istore_n (lv' := [(2, .int 0), (0, rf E (b + 7)), (1, .int a0)]) hx hb dX0_inStage_1 rfl hl (by decide) rfl (fun ls hl => ?_)
  refine lv_iconst (v := 0) hx hb dX0_inStage_2 (by decide) ?_
  refine lv_istore_n (lv' := [(3, .int 0), (2, .int 0), (0, rf E (b + 7)), (1, .int a0)]) hx hb dX0_inStage_3 rfl hl (by decide) rfl (fun ls hl => ?_)
  exact J4 4096 a0 0 0 _ _ _ hf hW hS (lv_sub hl [2, 3, 1, 0] rfl)
def f_X2_raise (b : Nat) (x : XS) (a0 : Int32) (a1 : Int32) : Option (XS) :=
    (f_X2_has b x a0).bind fun v2 =>
    if (v2 = 0 : Prop) then
      some x
    else
      ((aset x (b + 18) 24 a0 a1).bind fun x14 =>
      some x14)
set_option maxRecDepth 100000 in
set_option maxHeartbeats 4000000 in
theorem p_X2_raise (l : Launch) (E : TE) {b : Nat} (hB_b : IsB b) (x m : XS) (g o : Int64) {a0 : Int32} {a1 : Int32} {xr : XS} (hf : f_X2_raise b x a0 a1 = some xr) : MG l E yX2_raise cX2_raise 3 none 1 [rf E (b + 17), .int a0, .int a1] (Wd E x m g o) (Wd E xr m g o) none := by
  unfold f_X2_raise at hf
  refine m_in (by decide) (Nat.le_of_ble_eq_true rfl) ?_
  intro p e s mi args below meth c H ls hx hb hr hlk hml hown hB hK hW hS hl
  have hl : lv_has ls 3 [(0, rf E (b + 17)), (1, .int a0), (2, .int a1)] := hl
  refine lv_aload_n hx hb dX2_raise_0 rfl (lv_at hl 0 rfl) ?_
  refine lv_iload_n hx hb dX2_raise_1 rfl (lv_at hl 1 rfl) ?_
  obtain ⟨v2, e2, hf⟩ := ob2 hf
  refine c_V (As := [.int a0]) (st1 := [.int v2]) (rest := []) (p_X2_has l E hB_b x m g o e2) (kc_X2_45 hB ⟨Nat.le_of_ble_eq_true rfl, Nat.le_of_ble_eq_true rfl⟩) (Wd.rec hK hW (hB_b.l8 (j := 17) (by decide)) (cB_17 hB_b) (ci := 2) rfl) hx hb hml hown hB hK hW hS ⟨Nat.zero_le _, Nat.zero_le _⟩ rfl hl.1 rfl (Nat.le_of_ble_eq_true rfl) rfl dX2_raise_2 (fun H locs hW hS => ?_)
  refine lv_if_eq (tgt := 15) hx hb dX2_raise_5 (by decide) (fun c5 => ?_) (fun c5 => ?_)
  · rw [if_pos c5] at hf
    cases hf
    exact e_v hx hb hr hlk hW hS dX2_raise_15
  · rw [if_neg c5] at hf
    refine lv_aload_n hx hb dX2_raise_8 rfl (lv_at hl 0 rfl) ?_
    refine gf_X2_9 hx hb hB hK hown hW hB_b dX2_raise_9 ?_
    refine lv_iload_n hx hb dX2_raise_12 rfl (lv_at hl 1 rfl) ?_
    refine lv_iload_n hx hb dX2_raise_13 rfl (lv_at hl 2 rfl) ?_
    obtain ⟨x14, e14, hf⟩ := ob2 hf
    refine r_iastX hx hb hK hW hS (hB_b.lt (by decide)) (fun _ => cB_18 hB_b) e14 dX2_raise_14 (fun H locs hW hS => ?_)
    cases hf
    exact e_v hx hb hr hlk hW hS dX2_raise_15
def f_X0_customerOf (b : Nat) (x : XS) (a0 : Int32) : Option (Int32) :=
    (f_X0_has b x a0).bind fun v2 =>
    if (v2 = 0 : Prop) then
      some (-1)
    else
      ((aget 24 (x (b + 10)) a0).bind fun v13 =>
      some v13)
set_option maxRecDepth 100000 in
set_option maxHeartbeats 4000000 in
theorem p_X0_customerOf (l : Launch) (E : TE) {b : Nat} (hB_b : IsB b) (x m : XS) (g o : Int64) {a0 : Int32} {r : Int32} (hf : f_X0_customerOf b x a0 = some r) : MG l E yX0_customerOf cX0_customerOf 2 (some .int) 1 [rf E (b + 7), .int a0] (Wd E x m g o) (Wd E x m g o) (some (.int r)) := by
  unfold f_X0_customerOf at hf
  refine m_in (by decide) (Nat.le_of_ble_eq_true rfl) ?_
  intro p e s mi args below meth c H ls hx hb hr hlk hml hown hB hK hW hS hl
  have hl : lv_has ls 2 [(0, rf E (b + 7)), (1, .int a0)] := hl
  refine lv_aload_n hx hb dX0_customerOf_0 rfl (lv_at hl 0 rfl) ?_
  refine lv_iload_n hx hb dX0_customerOf_1 rfl (lv_at hl 1 rfl) ?_
  obtain ⟨v2, e2, hf⟩ := ob2 hf
  refine c_V (As := [.int a0]) (st1 := [.int v2]) (rest := []) (p_X0_has l E hB_b x m g o e2) (kc_X0_47 hB ⟨Nat.le_of_ble_eq_true rfl, Nat.le_of_ble_eq_true rfl⟩) (Wd.rec hK hW (hB_b.l8 (j := 7) (by decide)) (cB_7 hB_b) (ci := 0) rfl) hx hb hml hown hB hK hW hS ⟨Nat.zero_le _, Nat.zero_le _⟩ rfl hl.1 rfl (Nat.le_of_ble_eq_true rfl) rfl dX0_customerOf_2 (fun H locs hW hS => ?_)
  refine lv_if_eq (tgt := 17) hx hb dX0_customerOf_5 (by decide) (fun c5 => ?_) (fun c5 => ?_)
  · rw [if_pos c5] at hf
    refine lv_iconst (v := (-1)) hx hb dX0_customerOf_17 (by decide) ?_
    cases hf
    exact e_i hx hb hr hlk hW hS dX0_customerOf_18
  · rw [if_neg c5] at hf
    refine lv_aload_n hx hb dX0_customerOf_8 rfl (lv_at hl 0 rfl) ?_
    refine gf_X0_18 hx hb hB hK hown hW hB_b dX0_customerOf_9 ?_
    refine lv_iload_n hx hb dX0_customerOf_12 rfl (lv_at hl 1 rfl) ?_
    obtain ⟨v13, e13, hf⟩ := ob2 hf
    refine r_iald hx hb hK hW (hB_b.l8 (by decide)) (cB_10 hB_b) e13 dX0_customerOf_13 ?_
    refine lv_goto (tgt := 18) hx hb dX0_customerOf_14 (by decide) ?_
    cases hf
    exact e_i hx hb hr hlk hW hS dX0_customerOf_18
def f_X0_amendsOf (b : Nat) (x : XS) (a0 : Int32) : Option (Int32) :=
    (f_X0_has b x a0).bind fun v2 =>
    if (v2 = 0 : Prop) then
      some (-1)
    else
      ((aget 24 (x (b + 12)) a0).bind fun v13 =>
      some v13)
set_option maxRecDepth 100000 in
set_option maxHeartbeats 4000000 in
theorem p_X0_amendsOf (l : Launch) (E : TE) {b : Nat} (hB_b : IsB b) (x m : XS) (g o : Int64) {a0 : Int32} {r : Int32} (hf : f_X0_amendsOf b x a0 = some r) : MG l E yX0_amendsOf cX0_amendsOf 2 (some .int) 1 [rf E (b + 7), .int a0] (Wd E x m g o) (Wd E x m g o) (some (.int r)) := by
  unfold f_X0_amendsOf at hf
  refine m_in (by decide) (Nat.le_of_ble_eq_true rfl) ?_
  intro p e s mi args below meth c H ls hx hb hr hlk hml hown hB hK hW hS hl
  have hl : lv_has ls 2 [(0, rf E (b + 7)), (1, .int a0)] := hl
  refine lv_aload_n hx hb dX0_amendsOf_0 rfl (lv_at hl 0 rfl) ?_
  refine lv_iload_n hx hb dX0_amendsOf_1 rfl (lv_at hl 1 rfl) ?_
  obtain ⟨v2, e2, hf⟩ := ob2 hf
  refine c_V (As := [.int a0]) (st1 := [.int v2]) (rest := []) (p_X0_has l E hB_b x m g o e2) (kc_X0_47 hB ⟨Nat.le_of_ble_eq_true rfl, Nat.le_of_ble_eq_true rfl⟩) (Wd.rec hK hW (hB_b.l8 (j := 7) (by decide)) (cB_7 hB_b) (ci := 0) rfl) hx hb hml hown hB hK hW hS ⟨Nat.zero_le _, Nat.zero_le _⟩ rfl hl.1 rfl (Nat.le_of_ble_eq_true rfl) rfl dX0_amendsOf_2 (fun H locs hW hS => ?_)
  refine lv_if_eq (tgt := 17) hx hb dX0_amendsOf_5 (by decide) (fun c5 => ?_) (fun c5 => ?_)
  · rw [if_pos c5] at hf
    refine lv_iconst (v := (-1)) hx hb dX0_amendsOf_17 (by decide) ?_
    cases hf
    exact e_i hx hb hr hlk hW hS dX0_amendsOf_18
  · rw [if_neg c5] at hf
    refine lv_aload_n hx hb dX0_amendsOf_8 rfl (lv_at hl 0 rfl) ?_
    refine gf_X0_24 hx hb hB hK hown hW hB_b dX0_amendsOf_9 ?_
    refine lv_iload_n hx hb dX0_amendsOf_12 rfl (lv_at hl 1 rfl) ?_
    obtain ⟨v13, e13, hf⟩ := ob2 hf
    refine r_iald hx hb hK hW (hB_b.l8 (by decide)) (cB_12 hB_b) e13 dX0_amendsOf_13 ?_
    refine lv_goto (tgt := 18) hx hb dX0_amendsOf_14 (by decide) ?_
    cases hf
    exact e_i hx hb hr hlk hW hS dX0_amendsOf_18
def f_X0_reasonOf (b : Nat) (x : XS) (a0 : Int32) : Option (Int32) :=
    (f_X0_has b x a0).bind fun v2 =>
    if (v2 = 0 : Prop) then
      some (-1)
    else
      ((aget 24 (x (b + 14)) a0).bind fun v13 =>
      some v13)
set_option maxRecDepth 100000 in
set_option maxHeartbeats 4000000 in
theorem p_X0_reasonOf (l : Launch) (E : TE) {b : Nat} (hB_b : IsB b) (x m : XS) (g o : Int64) {a0 : Int32} {r : Int32} (hf : f_X0_reasonOf b x a0 = some r) : MG l E yX0_reasonOf cX0_reasonOf 2 (some .int) 1 [rf E (b + 7), .int a0] (Wd E x m g o) (Wd E x m g o) (some (.int r)) := by
  unfold f_X0_reasonOf at hf
  refine m_in (by decide) (Nat.le_of_ble_eq_true rfl) ?_
  intro p e s mi args below meth c H ls hx hb hr hlk hml hown hB hK hW hS hl
  have hl : lv_has ls 2 [(0, rf E (b + 7)), (1, .int a0)] := hl
  refine lv_aload_n hx hb dX0_reasonOf_0 rfl (lv_at hl 0 rfl) ?_
  refine lv_iload_n hx hb dX0_reasonOf_1 rfl (lv_at hl 1 rfl) ?_
  obtain ⟨v2, e2, hf⟩ := ob2 hf
  refine c_V (As := [.int a0]) (st1 := [.int v2]) (rest := []) (p_X0_has l E hB_b x m g o e2) (kc_X0_47 hB ⟨Nat.le_of_ble_eq_true rfl, Nat.le_of_ble_eq_true rfl⟩) (Wd.rec hK hW (hB_b.l8 (j := 7) (by decide)) (cB_7 hB_b) (ci := 0) rfl) hx hb hml hown hB hK hW hS ⟨Nat.zero_le _, Nat.zero_le _⟩ rfl hl.1 rfl (Nat.le_of_ble_eq_true rfl) rfl dX0_reasonOf_2 (fun H locs hW hS => ?_)
  refine lv_if_eq (tgt := 17) hx hb dX0_reasonOf_5 (by decide) (fun c5 => ?_) (fun c5 => ?_)
  · rw [if_pos c5] at hf
    refine lv_iconst (v := (-1)) hx hb dX0_reasonOf_17 (by decide) ?_
    cases hf
    exact e_i hx hb hr hlk hW hS dX0_reasonOf_18
  · rw [if_neg c5] at hf
    refine lv_aload_n hx hb dX0_reasonOf_8 rfl (lv_at hl 0 rfl) ?_
    refine gf_X0_30 hx hb hB hK hown hW hB_b dX0_reasonOf_9 ?_
    refine lv_iload_n hx hb dX0_reasonOf_12 rfl (lv_at hl 1 rfl) ?_
    obtain ⟨v13, e13, hf⟩ := ob2 hf
    refine r_iald hx hb hK hW (hB_b.l8 (by decide)) (cB_14 hB_b) e13 dX0_reasonOf_13 ?_
    refine lv_goto (tgt := 18) hx hb dX0_reasonOf_14 (by decide) ?_
    cases hf
    exact e_i hx hb hr hlk hW hS dX0_reasonOf_18
def f_X0_having_37 (b : Nat) (x : XS) (k5 : Int32 → Int32 → Int32 → Int32 → Option (Int32)) (l1_37 : Int32) (l2_37 : Int32) (l3_37 : Int32) (l4_37 : Int32) : Option (Int32) :=
    (some (l4_37 + 1)).bind fun v37 =>
    k5 l1_37 l2_37 l3_37 v37
def f_X0_having_5 (b : Nat) (x : XS) : Nat → Int32 → Int32 → Int32 → Int32 → Option (Int32)
  | 0, _, _, _, _ => none
  | n5 + 1, l1_5, l2_5, l3_5, l4_5 =>
    if ((x (b + 7) 0) ≤ l4_5 : Prop) then
      some l3_5
    else
      ((f_X0_kindOf b x l4_5).bind fun v17 =>
      if (v17 = l1_5 : Prop) then
        ((f_X0_amendsOf b x l4_5).bind fun v27 =>
        if (v27 = l2_5 : Prop) then
          ((some (l3_5 + 1)).bind fun v34 =>
          f_X0_having_37 b x (f_X0_having_5 b x n5) l1_5 l2_5 v34 l4_5)
        else
          f_X0_having_37 b x (f_X0_having_5 b x n5) l1_5 l2_5 l3_5 l4_5)
      else
        f_X0_having_37 b x (f_X0_having_5 b x n5) l1_5 l2_5 l3_5 l4_5)
def f_X0_having (b : Nat) (x : XS) (a0 : Int32) (a1 : Int32) : Option (Int32) :=
    f_X0_having_5 b x 4096 a0 a1 0 0
set_option maxRecDepth 100000 in
set_option maxHeartbeats 4000000 in
theorem p_X0_having (l : Launch) (E : TE) {b : Nat} (hB_b : IsB b) (x m : XS) (g o : Int64) {a0 : Int32} {a1 : Int32} {r : Int32} (hf : f_X0_having b x a0 a1 = some r) : MG l E yX0_having cX0_having 5 (some .int) 2 [rf E (b + 7), .int a0, .int a1] (Wd E x m g o) (Wd E x m g o) (some (.int r)) := by
  unfold f_X0_having at hf
  refine m_in (by decide) (Nat.le_of_ble_eq_true rfl) ?_
  intro p e s mi args below meth c H ls hx hb hr hlk hml hown hB hK hW hS hl
  have hl : lv_has ls 5 [(0, rf E (b + 7)), (1, .int a0), (2, .int a1)] := hl
  have J5 : ∀ (n5 : Nat), ∀ (l1_5 : Int32) (l2_5 : Int32) (l3_5 : Int32) (l4_5 : Int32) (H : Heap) (locs : List Loc) (ls : Array Slot), f_X0_having_5 b x n5 l1_5 l2_5 l3_5 l4_5 = some r → Wd E x m g o H → va_S (Ah E) s.heap H locs → lv_has ls 5 [(0, rf E (b + 7)), (1, .int l1_5), (2, .int l2_5), (3, .int l3_5), (4, .int l4_5)] → W p l e (rmH 2) s mi args below meth c H locs 0 0 (EQ E below args s (Wd E x m g o) (some (.int r))) (F0 mi 5 ls []) := by
    intro n5
    induction n5 with
    | zero => intro l1_5 l2_5 l3_5 l4_5 H locs ls hf; exact absurd hf (fun z => nomatch (show (none : Option (Int32)) = some _ from z))
    | succ n5 ih5 =>
      intro l1_5 l2_5 l3_5 l4_5 H locs ls hf hW hS hl
      rw [f_X0_having_5.eq_2] at hf
      have J37 : ∀ (l1_37 : Int32) (l2_37 : Int32) (l3_37 : Int32) (l4_37 : Int32) (H : Heap) (locs : List Loc) (ls : Array Slot), f_X0_having_37 b x (f_X0_having_5 b x n5) l1_37 l2_37 l3_37 l4_37 = some r → Wd E x m g o H → va_S (Ah E) s.heap H locs → lv_has ls 5 [(0, rf E (b + 7)), (1, .int l1_37), (2, .int l2_37), (3, .int l3_37), (4, .int l4_37)] → W p l e (rmH 2) s mi args below meth c H locs 0 0 (EQ E below args s (Wd E x m g o) (some (.int r))) (F0 mi 37 ls []) := by
        intro l1_37 l2_37 l3_37 l4_37 H locs ls hf hW hS hl
        unfold f_X0_having_37 at hf
        obtain ⟨v37, e37, hf⟩ := ob hf
        refine lv_iinc (v := v37) (lv' := [(4, .int v37), (0, rf E (b + 7)), (1, .int l1_37), (2, .int l2_37), (3, .int l3_37)]) hx hb dX0_having_37 hl (k := 4) rfl (by rw [e37]; rfl) (by decide) rfl (fun ls hl => ?_)
        refine lv_goto (tgt := 5) hx hb dX0_having_40 (by decide) ?_
        exact ih5 l1_37 l2_37 l3_37 v37 _ _ _ hf hW hS (lv_sub hl [1, 2, 3, 4, 0] rfl)
      refine lv_iload hx hb dX0_having_5 (lv_at hl 4 rfl) ?_
      refine lv_aload_n hx hb dX0_having_7 rfl (lv_at hl 0 rfl) ?_
      refine gf_X0_39 hx hb hB hK hown hW hB_b dX0_having_8 ?_
      refine lv_icmp_ge (tgt := 43) hx hb dX0_having_11 (by decide) (fun c11 => ?_) (fun c11 => ?_)
      · rw [if_pos c11] at hf
        refine lv_iload_n hx hb dX0_having_43 rfl (lv_at hl 3 rfl) ?_
        cases hf
        exact e_i hx hb hr hlk hW hS dX0_having_44
      · rw [if_neg c11] at hf
        refine lv_aload_n hx hb dX0_having_14 rfl (lv_at hl 0 rfl) ?_
        refine lv_iload hx hb dX0_having_15 (lv_at hl 4 rfl) ?_
        obtain ⟨v17, e17, hf⟩ := ob2 hf
        refine c_V (As := [.int l4_5]) (st1 := [.int v17]) (rest := []) (p_X0_kindOf l E hB_b x m g o e17) (kc_X0_55 hB ⟨Nat.le_of_ble_eq_true rfl, Nat.le_of_ble_eq_true rfl⟩) (Wd.rec hK hW (hB_b.l8 (j := 7) (by decide)) (cB_7 hB_b) (ci := 0) rfl) hx hb hml hown hB hK hW hS ⟨Nat.zero_le _, Nat.zero_le _⟩ rfl hl.1 rfl (Nat.le_of_ble_eq_true rfl) rfl dX0_having_17 (fun H locs hW hS => ?_)
        refine lv_iload_n hx hb dX0_having_20 rfl (lv_at hl 1 rfl) ?_
        refine lv_icmp_ne (tgt := 37) hx hb dX0_having_21 (by decide) (fun c21 => ?_) (fun c21 => ?_)
        · rw [if_neg c21] at hf
          exact J37 l1_5 l2_5 l3_5 l4_5 _ _ _ hf hW hS (lv_sub hl [0, 1, 2, 3, 4] rfl)
        · rw [if_pos c21] at hf
          refine lv_aload_n hx hb dX0_having_24 rfl (lv_at hl 0 rfl) ?_
          refine lv_iload hx hb dX0_having_25 (lv_at hl 4 rfl) ?_
          obtain ⟨v27, e27, hf⟩ := ob2 hf
          refine c_V (As := [.int l4_5]) (st1 := [.int v27]) (rest := []) (p_X0_amendsOf l E hB_b x m g o e27) (kc_X0_58 hB ⟨Nat.le_of_ble_eq_true rfl, Nat.le_of_ble_eq_true rfl⟩) (Wd.rec hK hW (hB_b.l8 (j := 7) (by decide)) (cB_7 hB_b) (ci := 0) rfl) hx hb hml hown hB hK hW hS ⟨Nat.zero_le _, Nat.zero_le _⟩ rfl hl.1 rfl (Nat.le_of_ble_eq_true rfl) rfl dX0_having_27 (fun H locs hW hS => ?_)
          refine lv_iload_n hx hb dX0_having_30 rfl (lv_at hl 2 rfl) ?_
          refine lv_icmp_ne (tgt := 37) hx hb dX0_having_31 (by decide) (fun c31 => ?_) (fun c31 => ?_)
          · rw [if_neg c31] at hf
            exact J37 l1_5 l2_5 l3_5 l4_5 _ _ _ hf hW hS (lv_sub hl [0, 1, 2, 3, 4] rfl)
          · rw [if_pos c31] at hf
            obtain ⟨v34, e34, hf⟩ := ob hf
            refine lv_iinc (v := v34) (lv' := [(3, .int v34), (0, rf E (b + 7)), (1, .int l1_5), (2, .int l2_5), (4, .int l4_5)]) hx hb dX0_having_34 hl (k := 3) rfl (by rw [e34]; rfl) (by decide) rfl (fun ls hl => ?_)
            exact J37 l1_5 l2_5 v34 l4_5 _ _ _ hf hW hS (lv_sub hl [1, 2, 3, 0, 4] rfl)
  refine lv_iconst (v := 0) hx hb dX0_having_0 (by decide) ?_
  refine lv_istore_n (lv' := [(3, .int 0), (0, rf E (b + 7)), (1, .int a0), (2, .int a1)]) hx hb dX0_having_1 rfl hl (by decide) rfl (fun ls hl => ?_)
  refine lv_iconst (v := 0) hx hb dX0_having_2 (by decide) ?_
  refine lv_istore (lv' := [(4, .int 0), (3, .int 0), (0, rf E (b + 7)), (1, .int a0), (2, .int a1)]) hx hb dX0_having_3 hl (by decide) rfl (fun ls hl => ?_)
  exact J5 4096 a0 a1 0 0 _ _ _ hf hW hS (lv_sub hl [2, 3, 4, 1, 0] rfl)
def f_X0_following_24 (b : Nat) (x : XS) (k4 : Int32 → Int32 → Int32 → Option (Int32)) (l1_24 : Int32) (l2_24 : Int32) (l3_24 : Int32) : Option (Int32) :=
    (some (l3_24 + 1)).bind fun v24 =>
    k4 l1_24 l2_24 v24
def f_X0_following_4 (b : Nat) (x : XS) : Nat → Int32 → Int32 → Int32 → Option (Int32)
  | 0, _, _, _ => none
  | n4 + 1, l1_4, l2_4, l3_4 =>
    if ((x (b + 7) 0) ≤ l3_4 : Prop) then
      some l2_4
    else
      ((f_X0_followedBy b x l3_4).bind fun v14 =>
      if (v14 = l1_4 : Prop) then
        ((some (l2_4 + 1)).bind fun v21 =>
        f_X0_following_24 b x (f_X0_following_4 b x n4) l1_4 v21 l3_4)
      else
        f_X0_following_24 b x (f_X0_following_4 b x n4) l1_4 l2_4 l3_4)
def f_X0_following (b : Nat) (x : XS) (a0 : Int32) : Option (Int32) :=
    f_X0_following_4 b x 4096 a0 0 0
set_option maxRecDepth 100000 in
set_option maxHeartbeats 4000000 in
theorem p_X0_following (l : Launch) (E : TE) {b : Nat} (hB_b : IsB b) (x m : XS) (g o : Int64) {a0 : Int32} {r : Int32} (hf : f_X0_following b x a0 = some r) : MG l E yX0_following cX0_following 4 (some .int) 2 [rf E (b + 7), .int a0] (Wd E x m g o) (Wd E x m g o) (some (.int r)) := by
  unfold f_X0_following at hf
  refine m_in (by decide) (Nat.le_of_ble_eq_true rfl) ?_
  intro p e s mi args below meth c H ls hx hb hr hlk hml hown hB hK hW hS hl
  have hl : lv_has ls 4 [(0, rf E (b + 7)), (1, .int a0)] := hl
  have J4 : ∀ (n4 : Nat), ∀ (l1_4 : Int32) (l2_4 : Int32) (l3_4 : Int32) (H : Heap) (locs : List Loc) (ls : Array Slot), f_X0_following_4 b x n4 l1_4 l2_4 l3_4 = some r → Wd E x m g o H → va_S (Ah E) s.heap H locs → lv_has ls 4 [(0, rf E (b + 7)), (1, .int l1_4), (2, .int l2_4), (3, .int l3_4)] → W p l e (rmH 2) s mi args below meth c H locs 0 0 (EQ E below args s (Wd E x m g o) (some (.int r))) (F0 mi 4 ls []) := by
    intro n4
    induction n4 with
    | zero => intro l1_4 l2_4 l3_4 H locs ls hf; exact absurd hf (fun z => nomatch (show (none : Option (Int32)) = some _ from z))
    | succ n4 ih4 =>
      intro l1_4 l2_4 l3_4 H locs ls hf hW hS hl
      rw [f_X0_following_4.eq_2] at hf
      have J24 : ∀ (l1_24 : Int32) (l2_24 : Int32) (l3_24 : Int32) (H : Heap) (locs : List Loc) (ls : Array Slot), f_X0_following_24 b x (f_X0_following_4 b x n4) l1_24 l2_24 l3_24 = some r → Wd E x m g o H → va_S (Ah E) s.heap H locs → lv_has ls 4 [(0, rf E (b + 7)), (1, .int l1_24), (2, .int l2_24), (3, .int l3_24)] → W p l e (rmH 2) s mi args below meth c H locs 0 0 (EQ E below args s (Wd E x m g o) (some (.int r))) (F0 mi 24 ls []) := by
        intro l1_24 l2_24 l3_24 H locs ls hf hW hS hl
        unfold f_X0_following_24 at hf
        obtain ⟨v24, e24, hf⟩ := ob hf
        refine lv_iinc (v := v24) (lv' := [(3, .int v24), (0, rf E (b + 7)), (1, .int l1_24), (2, .int l2_24)]) hx hb dX0_following_24 hl (k := 3) rfl (by rw [e24]; rfl) (by decide) rfl (fun ls hl => ?_)
        refine lv_goto (tgt := 4) hx hb dX0_following_27 (by decide) ?_
        exact ih4 l1_24 l2_24 v24 _ _ _ hf hW hS (lv_sub hl [1, 2, 3, 0] rfl)
      refine lv_iload_n hx hb dX0_following_4 rfl (lv_at hl 3 rfl) ?_
      refine lv_aload_n hx hb dX0_following_5 rfl (lv_at hl 0 rfl) ?_
      refine gf_X0_39 hx hb hB hK hown hW hB_b dX0_following_6 ?_
      refine lv_icmp_ge (tgt := 30) hx hb dX0_following_9 (by decide) (fun c9 => ?_) (fun c9 => ?_)
      · rw [if_pos c9] at hf
        refine lv_iload_n hx hb dX0_following_30 rfl (lv_at hl 2 rfl) ?_
        cases hf
        exact e_i hx hb hr hlk hW hS dX0_following_31
      · rw [if_neg c9] at hf
        refine lv_aload_n hx hb dX0_following_12 rfl (lv_at hl 0 rfl) ?_
        refine lv_iload_n hx hb dX0_following_13 rfl (lv_at hl 3 rfl) ?_
        obtain ⟨v14, e14, hf⟩ := ob2 hf
        refine c_V (As := [.int l3_4]) (st1 := [.int v14]) (rest := []) (p_X0_followedBy l E hB_b x m g o e14) (kc_X0_61 hB ⟨Nat.le_of_ble_eq_true rfl, Nat.le_of_ble_eq_true rfl⟩) (Wd.rec hK hW (hB_b.l8 (j := 7) (by decide)) (cB_7 hB_b) (ci := 0) rfl) hx hb hml hown hB hK hW hS ⟨Nat.zero_le _, Nat.zero_le _⟩ rfl hl.1 rfl (Nat.le_of_ble_eq_true rfl) rfl dX0_following_14 (fun H locs hW hS => ?_)
        refine lv_iload_n hx hb dX0_following_17 rfl (lv_at hl 1 rfl) ?_
        refine lv_icmp_ne (tgt := 24) hx hb dX0_following_18 (by decide) (fun c18 => ?_) (fun c18 => ?_)
        · rw [if_neg c18] at hf
          exact J24 l1_4 l2_4 l3_4 _ _ _ hf hW hS (lv_sub hl [0, 1, 2, 3] rfl)
        · rw [if_pos c18] at hf
          obtain ⟨v21, e21, hf⟩ := ob hf
          refine lv_iinc (v := v21) (lv' := [(2, .int v21), (0, rf E (b + 7)), (1, .int l1_4), (3, .int l3_4)]) hx hb dX0_following_21 hl (k := 2) rfl (by rw [e21]; rfl) (by decide) rfl (fun ls hl => ?_)
          exact J24 l1_4 v21 l3_4 _ _ _ hf hW hS (lv_sub hl [1, 2, 0, 3] rfl)
  refine lv_iconst (v := 0) hx hb dX0_following_0 (by decide) ?_
  refine lv_istore_n (lv' := [(2, .int 0), (0, rf E (b + 7)), (1, .int a0)]) hx hb dX0_following_1 rfl hl (by decide) rfl (fun ls hl => ?_)
  refine lv_iconst (v := 0) hx hb dX0_following_2 (by decide) ?_
  refine lv_istore_n (lv' := [(3, .int 0), (2, .int 0), (0, rf E (b + 7)), (1, .int a0)]) hx hb dX0_following_3 rfl hl (by decide) rfl (fun ls hl => ?_)
  exact J4 4096 a0 0 0 _ _ _ hf hW hS (lv_sub hl [2, 3, 1, 0] rfl)
def f_X0_ofKind_24 (b : Nat) (x : XS) (k4 : Int32 → Int32 → Int32 → Option (Int32)) (l1_24 : Int32) (l2_24 : Int32) (l3_24 : Int32) : Option (Int32) :=
    (some (l3_24 + 1)).bind fun v24 =>
    k4 l1_24 l2_24 v24
def f_X0_ofKind_4 (b : Nat) (x : XS) : Nat → Int32 → Int32 → Int32 → Option (Int32)
  | 0, _, _, _ => none
  | n4 + 1, l1_4, l2_4, l3_4 =>
    if ((x (b + 7) 0) ≤ l3_4 : Prop) then
      some l2_4
    else
      ((f_X0_kindOf b x l3_4).bind fun v14 =>
      if (v14 = l1_4 : Prop) then
        ((some (l2_4 + 1)).bind fun v21 =>
        f_X0_ofKind_24 b x (f_X0_ofKind_4 b x n4) l1_4 v21 l3_4)
      else
        f_X0_ofKind_24 b x (f_X0_ofKind_4 b x n4) l1_4 l2_4 l3_4)
def f_X0_ofKind (b : Nat) (x : XS) (a0 : Int32) : Option (Int32) :=
    f_X0_ofKind_4 b x 4096 a0 0 0
set_option maxRecDepth 100000 in
set_option maxHeartbeats 4000000 in
theorem p_X0_ofKind (l : Launch) (E : TE) {b : Nat} (hB_b : IsB b) (x m : XS) (g o : Int64) {a0 : Int32} {r : Int32} (hf : f_X0_ofKind b x a0 = some r) : MG l E yX0_ofKind cX0_ofKind 4 (some .int) 2 [rf E (b + 7), .int a0] (Wd E x m g o) (Wd E x m g o) (some (.int r)) := by
  unfold f_X0_ofKind at hf
  refine m_in (by decide) (Nat.le_of_ble_eq_true rfl) ?_
  intro p e s mi args below meth c H ls hx hb hr hlk hml hown hB hK hW hS hl
  have hl : lv_has ls 4 [(0, rf E (b + 7)), (1, .int a0)] := hl
  have J4 : ∀ (n4 : Nat), ∀ (l1_4 : Int32) (l2_4 : Int32) (l3_4 : Int32) (H : Heap) (locs : List Loc) (ls : Array Slot), f_X0_ofKind_4 b x n4 l1_4 l2_4 l3_4 = some r → Wd E x m g o H → va_S (Ah E) s.heap H locs → lv_has ls 4 [(0, rf E (b + 7)), (1, .int l1_4), (2, .int l2_4), (3, .int l3_4)] → W p l e (rmH 2) s mi args below meth c H locs 0 0 (EQ E below args s (Wd E x m g o) (some (.int r))) (F0 mi 4 ls []) := by
    intro n4
    induction n4 with
    | zero => intro l1_4 l2_4 l3_4 H locs ls hf; exact absurd hf (fun z => nomatch (show (none : Option (Int32)) = some _ from z))
    | succ n4 ih4 =>
      intro l1_4 l2_4 l3_4 H locs ls hf hW hS hl
      rw [f_X0_ofKind_4.eq_2] at hf
      have J24 : ∀ (l1_24 : Int32) (l2_24 : Int32) (l3_24 : Int32) (H : Heap) (locs : List Loc) (ls : Array Slot), f_X0_ofKind_24 b x (f_X0_ofKind_4 b x n4) l1_24 l2_24 l3_24 = some r → Wd E x m g o H → va_S (Ah E) s.heap H locs → lv_has ls 4 [(0, rf E (b + 7)), (1, .int l1_24), (2, .int l2_24), (3, .int l3_24)] → W p l e (rmH 2) s mi args below meth c H locs 0 0 (EQ E below args s (Wd E x m g o) (some (.int r))) (F0 mi 24 ls []) := by
        intro l1_24 l2_24 l3_24 H locs ls hf hW hS hl
        unfold f_X0_ofKind_24 at hf
        obtain ⟨v24, e24, hf⟩ := ob hf
        refine lv_iinc (v := v24) (lv' := [(3, .int v24), (0, rf E (b + 7)), (1, .int l1_24), (2, .int l2_24)]) hx hb dX0_ofKind_24 hl (k := 3) rfl (by rw [e24]; rfl) (by decide) rfl (fun ls hl => ?_)
        refine lv_goto (tgt := 4) hx hb dX0_ofKind_27 (by decide) ?_
        exact ih4 l1_24 l2_24 v24 _ _ _ hf hW hS (lv_sub hl [1, 2, 3, 0] rfl)
      refine lv_iload_n hx hb dX0_ofKind_4 rfl (lv_at hl 3 rfl) ?_
      refine lv_aload_n hx hb dX0_ofKind_5 rfl (lv_at hl 0 rfl) ?_
      refine gf_X0_39 hx hb hB hK hown hW hB_b dX0_ofKind_6 ?_
      refine lv_icmp_ge (tgt := 30) hx hb dX0_ofKind_9 (by decide) (fun c9 => ?_) (fun c9 => ?_)
      · rw [if_pos c9] at hf
        refine lv_iload_n hx hb dX0_ofKind_30 rfl (lv_at hl 2 rfl) ?_
        cases hf
        exact e_i hx hb hr hlk hW hS dX0_ofKind_31
      · rw [if_neg c9] at hf
        refine lv_aload_n hx hb dX0_ofKind_12 rfl (lv_at hl 0 rfl) ?_
        refine lv_iload_n hx hb dX0_ofKind_13 rfl (lv_at hl 3 rfl) ?_
        obtain ⟨v14, e14, hf⟩ := ob2 hf
        refine c_V (As := [.int l3_4]) (st1 := [.int v14]) (rest := []) (p_X0_kindOf l E hB_b x m g o e14) (kc_X0_55 hB ⟨Nat.le_of_ble_eq_true rfl, Nat.le_of_ble_eq_true rfl⟩) (Wd.rec hK hW (hB_b.l8 (j := 7) (by decide)) (cB_7 hB_b) (ci := 0) rfl) hx hb hml hown hB hK hW hS ⟨Nat.zero_le _, Nat.zero_le _⟩ rfl hl.1 rfl (Nat.le_of_ble_eq_true rfl) rfl dX0_ofKind_14 (fun H locs hW hS => ?_)
        refine lv_iload_n hx hb dX0_ofKind_17 rfl (lv_at hl 1 rfl) ?_
        refine lv_icmp_ne (tgt := 24) hx hb dX0_ofKind_18 (by decide) (fun c18 => ?_) (fun c18 => ?_)
        · rw [if_neg c18] at hf
          exact J24 l1_4 l2_4 l3_4 _ _ _ hf hW hS (lv_sub hl [0, 1, 2, 3] rfl)
        · rw [if_pos c18] at hf
          obtain ⟨v21, e21, hf⟩ := ob hf
          refine lv_iinc (v := v21) (lv' := [(2, .int v21), (0, rf E (b + 7)), (1, .int l1_4), (3, .int l3_4)]) hx hb dX0_ofKind_21 hl (k := 2) rfl (by rw [e21]; rfl) (by decide) rfl (fun ls hl => ?_)
          exact J24 l1_4 v21 l3_4 _ _ _ hf hW hS (lv_sub hl [1, 2, 0, 3] rfl)
  refine lv_iconst (v := 0) hx hb dX0_ofKind_0 (by decide) ?_
  refine lv_istore_n (lv' := [(2, .int 0), (0, rf E (b + 7)), (1, .int a0)]) hx hb dX0_ofKind_1 rfl hl (by decide) rfl (fun ls hl => ?_)
  refine lv_iconst (v := 0) hx hb dX0_ofKind_2 (by decide) ?_
  refine lv_istore_n (lv' := [(3, .int 0), (2, .int 0), (0, rf E (b + 7)), (1, .int a0)]) hx hb dX0_ofKind_3 rfl hl (by decide) rfl (fun ls hl => ?_)
  exact J4 4096 a0 0 0 _ _ _ hf hW hS (lv_sub hl [2, 3, 1, 0] rfl)
def f_X0_gotInKind_29 (b : Nat) (x : XS) (k4 : Int32 → Int32 → Int32 → Option (Int32)) (l1_29 : Int32) (l2_29 : Int32) (l3_29 : Int32) : Option (Int32) :=
    (some (l3_29 + 1)).bind fun v29 =>
    k4 l1_29 l2_29 v29
def f_X0_gotInKind_4 (b : Nat) (x : XS) : Nat → Int32 → Int32 → Int32 → Option (Int32)
  | 0, _, _, _ => none
  | n4 + 1, l1_4, l2_4, l3_4 =>
    if ((x (b + 7) 0) ≤ l3_4 : Prop) then
      some l2_4
    else
      ((f_X0_kindOf b x l3_4).bind fun v14 =>
      if (v14 = l1_4 : Prop) then
        ((f_X0_gotOf b x l3_4).bind fun v24 =>
        (some ((l2_4 + v24))).bind fun v28 =>
        f_X0_gotInKind_29 b x (f_X0_gotInKind_4 b x n4) l1_4 v28 l3_4)
      else
        f_X0_gotInKind_29 b x (f_X0_gotInKind_4 b x n4) l1_4 l2_4 l3_4)
def f_X0_gotInKind (b : Nat) (x : XS) (a0 : Int32) : Option (Int32) :=
    f_X0_gotInKind_4 b x 4096 a0 0 0
set_option maxRecDepth 100000 in
set_option maxHeartbeats 4000000 in
theorem p_X0_gotInKind (l : Launch) (E : TE) {b : Nat} (hB_b : IsB b) (x m : XS) (g o : Int64) {a0 : Int32} {r : Int32} (hf : f_X0_gotInKind b x a0 = some r) : MG l E yX0_gotInKind cX0_gotInKind 4 (some .int) 2 [rf E (b + 7), .int a0] (Wd E x m g o) (Wd E x m g o) (some (.int r)) := by
  unfold f_X0_gotInKind at hf
  refine m_in (by decide) (Nat.le_of_ble_eq_true rfl) ?_
  intro p e s mi args below meth c H ls hx hb hr hlk hml hown hB hK hW hS hl
  have hl : lv_has ls 4 [(0, rf E (b + 7)), (1, .int a0)] := hl
  have J4 : ∀ (n4 : Nat), ∀ (l1_4 : Int32) (l2_4 : Int32) (l3_4 : Int32) (H : Heap) (locs : List Loc) (ls : Array Slot), f_X0_gotInKind_4 b x n4 l1_4 l2_4 l3_4 = some r → Wd E x m g o H → va_S (Ah E) s.heap H locs → lv_has ls 4 [(0, rf E (b + 7)), (1, .int l1_4), (2, .int l2_4), (3, .int l3_4)] → W p l e (rmH 2) s mi args below meth c H locs 0 0 (EQ E below args s (Wd E x m g o) (some (.int r))) (F0 mi 4 ls []) := by
    intro n4
    induction n4 with
    | zero => intro l1_4 l2_4 l3_4 H locs ls hf; exact absurd hf (fun z => nomatch (show (none : Option (Int32)) = some _ from z))
    | succ n4 ih4 =>
      intro l1_4 l2_4 l3_4 H locs ls hf hW hS hl
      rw [f_X0_gotInKind_4.eq_2] at hf
      have J29 : ∀ (l1_29 : Int32) (l2_29 : Int32) (l3_29 : Int32) (H : Heap) (locs : List Loc) (ls : Array Slot), f_X0_gotInKind_29 b x (f_X0_gotInKind_4 b x n4) l1_29 l2_29 l3_29 = some r → Wd E x m g o H → va_S (Ah E) s.heap H locs → lv_has ls 4 [(0, rf E (b + 7)), (1, .int l1_29), (2, .int l2_29), (3, .int l3_29)] → W p l e (rmH 2) s mi args below meth c H locs 0 0 (EQ E below args s (Wd E x m g o) (some (.int r))) (F0 mi 29 ls []) := by
        intro l1_29 l2_29 l3_29 H locs ls hf hW hS hl
        unfold f_X0_gotInKind_29 at hf
        obtain ⟨v29, e29, hf⟩ := ob hf
        refine lv_iinc (v := v29) (lv' := [(3, .int v29), (0, rf E (b + 7)), (1, .int l1_29), (2, .int l2_29)]) hx hb dX0_gotInKind_29 hl (k := 3) rfl (by rw [e29]; rfl) (by decide) rfl (fun ls hl => ?_)
        refine lv_goto (tgt := 4) hx hb dX0_gotInKind_32 (by decide) ?_
        exact ih4 l1_29 l2_29 v29 _ _ _ hf hW hS (lv_sub hl [1, 2, 3, 0] rfl)
      refine lv_iload_n hx hb dX0_gotInKind_4 rfl (lv_at hl 3 rfl) ?_
      refine lv_aload_n hx hb dX0_gotInKind_5 rfl (lv_at hl 0 rfl) ?_
      refine gf_X0_39 hx hb hB hK hown hW hB_b dX0_gotInKind_6 ?_
      refine lv_icmp_ge (tgt := 35) hx hb dX0_gotInKind_9 (by decide) (fun c9 => ?_) (fun c9 => ?_)
      · rw [if_pos c9] at hf
        refine lv_iload_n hx hb dX0_gotInKind_35 rfl (lv_at hl 2 rfl) ?_
        cases hf
        exact e_i hx hb hr hlk hW hS dX0_gotInKind_36
      · rw [if_neg c9] at hf
        refine lv_aload_n hx hb dX0_gotInKind_12 rfl (lv_at hl 0 rfl) ?_
        refine lv_iload_n hx hb dX0_gotInKind_13 rfl (lv_at hl 3 rfl) ?_
        obtain ⟨v14, e14, hf⟩ := ob2 hf
        refine c_V (As := [.int l3_4]) (st1 := [.int v14]) (rest := []) (p_X0_kindOf l E hB_b x m g o e14) (kc_X0_55 hB ⟨Nat.le_of_ble_eq_true rfl, Nat.le_of_ble_eq_true rfl⟩) (Wd.rec hK hW (hB_b.l8 (j := 7) (by decide)) (cB_7 hB_b) (ci := 0) rfl) hx hb hml hown hB hK hW hS ⟨Nat.zero_le _, Nat.zero_le _⟩ rfl hl.1 rfl (Nat.le_of_ble_eq_true rfl) rfl dX0_gotInKind_14 (fun H locs hW hS => ?_)
        refine lv_iload_n hx hb dX0_gotInKind_17 rfl (lv_at hl 1 rfl) ?_
        refine lv_icmp_ne (tgt := 29) hx hb dX0_gotInKind_18 (by decide) (fun c18 => ?_) (fun c18 => ?_)
        · rw [if_neg c18] at hf
          exact J29 l1_4 l2_4 l3_4 _ _ _ hf hW hS (lv_sub hl [0, 1, 2, 3] rfl)
        · rw [if_pos c18] at hf
          refine lv_iload_n hx hb dX0_gotInKind_21 rfl (lv_at hl 2 rfl) ?_
          refine lv_aload_n hx hb dX0_gotInKind_22 rfl (lv_at hl 0 rfl) ?_
          refine lv_iload_n hx hb dX0_gotInKind_23 rfl (lv_at hl 3 rfl) ?_
          obtain ⟨v24, e24, hf⟩ := ob2 hf
          refine c_V (As := [.int l3_4]) (st1 := [.int v24, .int l2_4]) (rest := [.int l2_4]) (p_X0_gotOf l E hB_b x m g o e24) (kc_X0_67 hB ⟨Nat.le_of_ble_eq_true rfl, Nat.le_of_ble_eq_true rfl⟩) (Wd.rec hK hW (hB_b.l8 (j := 7) (by decide)) (cB_7 hB_b) (ci := 0) rfl) hx hb hml hown hB hK hW hS ⟨Nat.zero_le _, Nat.zero_le _⟩ rfl hl.1 rfl (Nat.le_of_ble_eq_true rfl) rfl dX0_gotInKind_24 (fun H locs hW hS => ?_)
          refine lv_iadd hx hb dX0_gotInKind_27 ?_
          obtain ⟨v28, e28, hf⟩ := ob hf
          refine lv_nm e28 ?_
          refine lv_istore_n (lv' := [(2, .int v28), (0, rf E (b + 7)), (1, .int l1_4), (3, .int l3_4)]) hx hb dX0_gotInKind_28 rfl hl (by decide) rfl (fun ls hl => ?_)
          exact J29 l1_4 v28 l3_4 _ _ _ hf hW hS (lv_sub hl [1, 2, 0, 3] rfl)
  refine lv_iconst (v := 0) hx hb dX0_gotInKind_0 (by decide) ?_
  refine lv_istore_n (lv' := [(2, .int 0), (0, rf E (b + 7)), (1, .int a0)]) hx hb dX0_gotInKind_1 rfl hl (by decide) rfl (fun ls hl => ?_)
  refine lv_iconst (v := 0) hx hb dX0_gotInKind_2 (by decide) ?_
  refine lv_istore_n (lv' := [(3, .int 0), (2, .int 0), (0, rf E (b + 7)), (1, .int a0)]) hx hb dX0_gotInKind_3 rfl hl (by decide) rfl (fun ls hl => ?_)
  exact J4 4096 a0 0 0 _ _ _ hf hW hS (lv_sub hl [2, 3, 1, 0] rfl)
def f_X0_gotInAll_4 (b : Nat) (x : XS) : Nat → Int32 → Int32 → Option (Int32)
  | 0, _, _ => none
  | n4 + 1, l1_4, l2_4 =>
    if (4 ≤ l2_4 : Prop) then
      some l1_4
    else
      ((f_X0_gotInKind b x l2_4).bind fun v12 =>
      (some ((l1_4 + v12))).bind fun v16 =>
      (some (l2_4 + 1)).bind fun v17 =>
      f_X0_gotInAll_4 b x n4 v16 v17)
def f_X0_gotInAll (b : Nat) (x : XS) : Option (Int32) :=
    f_X0_gotInAll_4 b x 4096 0 0
set_option maxRecDepth 100000 in
set_option maxHeartbeats 4000000 in
theorem p_X0_gotInAll (l : Launch) (E : TE) {b : Nat} (hB_b : IsB b) (x m : XS) (g o : Int64) {r : Int32} (hf : f_X0_gotInAll b x = some r) : MG l E yX0_gotInAll cX0_gotInAll 3 (some .int) 3 [rf E (b + 7)] (Wd E x m g o) (Wd E x m g o) (some (.int r)) := by
  unfold f_X0_gotInAll at hf
  refine m_in (by decide) (Nat.le_of_ble_eq_true rfl) ?_
  intro p e s mi args below meth c H ls hx hb hr hlk hml hown hB hK hW hS hl
  have hl : lv_has ls 3 [(0, rf E (b + 7))] := hl
  have J4 : ∀ (n4 : Nat), ∀ (l1_4 : Int32) (l2_4 : Int32) (H : Heap) (locs : List Loc) (ls : Array Slot), f_X0_gotInAll_4 b x n4 l1_4 l2_4 = some r → Wd E x m g o H → va_S (Ah E) s.heap H locs → lv_has ls 3 [(0, rf E (b + 7)), (1, .int l1_4), (2, .int l2_4)] → W p l e (rmH 3) s mi args below meth c H locs 0 0 (EQ E below args s (Wd E x m g o) (some (.int r))) (F0 mi 4 ls []) := by
    intro n4
    induction n4 with
    | zero => intro l1_4 l2_4 H locs ls hf; exact absurd hf (fun z => nomatch (show (none : Option (Int32)) = some _ from z))
    | succ n4 ih4 =>
      intro l1_4 l2_4 H locs ls hf hW hS hl
      rw [f_X0_gotInAll_4.eq_2] at hf
      refine lv_iload_n hx hb dX0_gotInAll_4 rfl (lv_at hl 2 rfl) ?_
      refine lv_iconst (v := 4) hx hb dX0_gotInAll_5 (by decide) ?_
      refine lv_icmp_ge (tgt := 23) hx hb dX0_gotInAll_6 (by decide) (fun c6 => ?_) (fun c6 => ?_)
      · rw [if_pos c6] at hf
        refine lv_iload_n hx hb dX0_gotInAll_23 rfl (lv_at hl 1 rfl) ?_
        cases hf
        exact e_i hx hb hr hlk hW hS dX0_gotInAll_24
      · rw [if_neg c6] at hf
        refine lv_iload_n hx hb dX0_gotInAll_9 rfl (lv_at hl 1 rfl) ?_
        refine lv_aload_n hx hb dX0_gotInAll_10 rfl (lv_at hl 0 rfl) ?_
        refine lv_iload_n hx hb dX0_gotInAll_11 rfl (lv_at hl 2 rfl) ?_
        obtain ⟨v12, e12, hf⟩ := ob2 hf
        refine c_V (As := [.int l2_4]) (st1 := [.int v12, .int l1_4]) (rest := [.int l1_4]) (p_X0_gotInKind l E hB_b x m g o e12) (kc_X0_70 hB ⟨Nat.le_of_ble_eq_true rfl, Nat.le_of_ble_eq_true rfl⟩) (Wd.rec hK hW (hB_b.l8 (j := 7) (by decide)) (cB_7 hB_b) (ci := 0) rfl) hx hb hml hown hB hK hW hS ⟨Nat.zero_le _, Nat.zero_le _⟩ rfl hl.1 rfl (Nat.le_of_ble_eq_true rfl) rfl dX0_gotInAll_12 (fun H locs hW hS => ?_)
        refine lv_iadd hx hb dX0_gotInAll_15 ?_
        obtain ⟨v16, e16, hf⟩ := ob hf
        refine lv_nm e16 ?_
        refine lv_istore_n (lv' := [(1, .int v16), (0, rf E (b + 7)), (2, .int l2_4)]) hx hb dX0_gotInAll_16 rfl hl (by decide) rfl (fun ls hl => ?_)
        obtain ⟨v17, e17, hf⟩ := ob hf
        refine lv_iinc (v := v17) (lv' := [(2, .int v17), (1, .int v16), (0, rf E (b + 7))]) hx hb dX0_gotInAll_17 hl (k := 2) rfl (by rw [e17]; rfl) (by decide) rfl (fun ls hl => ?_)
        refine lv_goto (tgt := 4) hx hb dX0_gotInAll_20 (by decide) ?_
        exact ih4 v16 v17 _ _ _ hf hW hS (lv_sub hl [2, 1, 0] rfl)
  refine lv_iconst (v := 0) hx hb dX0_gotInAll_0 (by decide) ?_
  refine lv_istore_n (lv' := [(1, .int 0), (0, rf E (b + 7))]) hx hb dX0_gotInAll_1 rfl hl (by decide) rfl (fun ls hl => ?_)
  refine lv_iconst (v := 0) hx hb dX0_gotInAll_2 (by decide) ?_
  refine lv_istore_n (lv' := [(2, .int 0), (1, .int 0), (0, rf E (b + 7))]) hx hb dX0_gotInAll_3 rfl hl (by decide) rfl (fun ls hl => ?_)
  exact J4 4096 0 0 _ _ _ hf hW hS (lv_sub hl [2, 1, 0] rfl)
def f_X0_areAlike (b : Nat) (x : XS) (a0 : Int32) (a1 : Int32) : Option (Int32) :=
    (f_X0_followedBy b x a0).bind fun v2 =>
    if (v2 = (-1) : Prop) then
      some 0
    else
      ((f_X0_followedBy b x a0).bind fun v11 =>
      (f_X0_followedBy b x a1).bind fun v16 =>
      if (v11 = v16 : Prop) then
        some 1
      else
        some 0)
set_option maxRecDepth 100000 in
set_option maxHeartbeats 4000000 in
theorem p_X0_areAlike (l : Launch) (E : TE) {b : Nat} (hB_b : IsB b) (x m : XS) (g o : Int64) {a0 : Int32} {a1 : Int32} {r : Int32} (hf : f_X0_areAlike b x a0 a1 = some r) : MG l E yX0_areAlike cX0_areAlike 3 (some .boolean) 2 [rf E (b + 7), .int a0, .int a1] (Wd E x m g o) (Wd E x m g o) (some (.int r)) := by
  unfold f_X0_areAlike at hf
  refine m_in (by decide) (Nat.le_of_ble_eq_true rfl) ?_
  intro p e s mi args below meth c H ls hx hb hr hlk hml hown hB hK hW hS hl
  have hl : lv_has ls 3 [(0, rf E (b + 7)), (1, .int a0), (2, .int a1)] := hl
  refine lv_aload_n hx hb dX0_areAlike_0 rfl (lv_at hl 0 rfl) ?_
  refine lv_iload_n hx hb dX0_areAlike_1 rfl (lv_at hl 1 rfl) ?_
  obtain ⟨v2, e2, hf⟩ := ob2 hf
  refine c_V (As := [.int a0]) (st1 := [.int v2]) (rest := []) (p_X0_followedBy l E hB_b x m g o e2) (kc_X0_61 hB ⟨Nat.le_of_ble_eq_true rfl, Nat.le_of_ble_eq_true rfl⟩) (Wd.rec hK hW (hB_b.l8 (j := 7) (by decide)) (cB_7 hB_b) (ci := 0) rfl) hx hb hml hown hB hK hW hS ⟨Nat.zero_le _, Nat.zero_le _⟩ rfl hl.1 rfl (Nat.le_of_ble_eq_true rfl) rfl dX0_areAlike_2 (fun H locs hW hS => ?_)
  refine lv_iconst (v := (-1)) hx hb dX0_areAlike_5 (by decide) ?_
  refine lv_icmp_eq (tgt := 26) hx hb dX0_areAlike_6 (by decide) (fun c6 => ?_) (fun c6 => ?_)
  · rw [if_pos c6] at hf
    refine lv_iconst (v := 0) hx hb dX0_areAlike_26 (by decide) ?_
    cases hf
    exact e_z hx hb hr hlk (Or.inl rfl) hW hS dX0_areAlike_27
  · rw [if_neg c6] at hf
    refine lv_aload_n hx hb dX0_areAlike_9 rfl (lv_at hl 0 rfl) ?_
    refine lv_iload_n hx hb dX0_areAlike_10 rfl (lv_at hl 1 rfl) ?_
    obtain ⟨v11, e11, hf⟩ := ob2 hf
    refine c_V (As := [.int a0]) (st1 := [.int v11]) (rest := []) (p_X0_followedBy l E hB_b x m g o e11) (kc_X0_61 hB ⟨Nat.le_of_ble_eq_true rfl, Nat.le_of_ble_eq_true rfl⟩) (Wd.rec hK hW (hB_b.l8 (j := 7) (by decide)) (cB_7 hB_b) (ci := 0) rfl) hx hb hml hown hB hK hW hS ⟨Nat.zero_le _, Nat.zero_le _⟩ rfl hl.1 rfl (Nat.le_of_ble_eq_true rfl) rfl dX0_areAlike_11 (fun H locs hW hS => ?_)
    refine lv_aload_n hx hb dX0_areAlike_14 rfl (lv_at hl 0 rfl) ?_
    refine lv_iload_n hx hb dX0_areAlike_15 rfl (lv_at hl 2 rfl) ?_
    obtain ⟨v16, e16, hf⟩ := ob2 hf
    refine c_V (As := [.int a1]) (st1 := [.int v16, .int v11]) (rest := [.int v11]) (p_X0_followedBy l E hB_b x m g o e16) (kc_X0_61 hB ⟨Nat.le_of_ble_eq_true rfl, Nat.le_of_ble_eq_true rfl⟩) (Wd.rec hK hW (hB_b.l8 (j := 7) (by decide)) (cB_7 hB_b) (ci := 0) rfl) hx hb hml hown hB hK hW hS ⟨Nat.zero_le _, Nat.zero_le _⟩ rfl hl.1 rfl (Nat.le_of_ble_eq_true rfl) rfl dX0_areAlike_16 (fun H locs hW hS => ?_)
    refine lv_icmp_ne (tgt := 26) hx hb dX0_areAlike_19 (by decide) (fun c19 => ?_) (fun c19 => ?_)
    · rw [if_neg c19] at hf
      refine lv_iconst (v := 0) hx hb dX0_areAlike_26 (by decide) ?_
      cases hf
      exact e_z hx hb hr hlk (Or.inl rfl) hW hS dX0_areAlike_27
    · rw [if_pos c19] at hf
      refine lv_iconst (v := 1) hx hb dX0_areAlike_22 (by decide) ?_
      refine lv_goto (tgt := 27) hx hb dX0_areAlike_23 (by decide) ?_
      cases hf
      exact e_z hx hb hr hlk (Or.inr rfl) hW hS dX0_areAlike_27
def f_X0_unequalPairs_49 (b : Nat) (x : XS) (k4 : Int32 → Int32 → Option (Int32)) (k16 : Int32 → Int32 → Int32 → Option (Int32)) (l1_49 : Int32) (l2_49 : Int32) (l3_49 : Int32) : Option (Int32) :=
    (some (l3_49 + 1)).bind fun v49 =>
    k16 l1_49 l2_49 v49
def f_X0_unequalPairs_16 (b : Nat) (x : XS) (k4 : Int32 → Int32 → Option (Int32)) : Nat → Int32 → Int32 → Int32 → Option (Int32)
  | 0, _, _, _ => none
  | n16 + 1, l1_16, l2_16, l3_16 =>
    if ((x (b + 7) 0) ≤ l3_16 : Prop) then
      ((some (l2_16 + 1)).bind fun v55 =>
      k4 l1_16 v55)
    else
      ((f_X0_areAlike b x l2_16 l3_16).bind fun v27 =>
      if (v27 = 0 : Prop) then
        f_X0_unequalPairs_49 b x k4 (f_X0_unequalPairs_16 b x k4 n16) l1_16 l2_16 l3_16
      else
        ((f_X0_gotOf b x l2_16).bind fun v35 =>
        (f_X0_gotOf b x l3_16).bind fun v40 =>
        if (v35 = v40 : Prop) then
          f_X0_unequalPairs_49 b x k4 (f_X0_unequalPairs_16 b x k4 n16) l1_16 l2_16 l3_16
        else
          ((some (l1_16 + 1)).bind fun v46 =>
          f_X0_unequalPairs_49 b x k4 (f_X0_unequalPairs_16 b x k4 n16) v46 l2_16 l3_16)))
def f_X0_unequalPairs_4 (b : Nat) (x : XS) : Nat → Int32 → Int32 → Option (Int32)
  | 0, _, _ => none
  | n4 + 1, l1_4, l2_4 =>
    if ((x (b + 7) 0) ≤ l2_4 : Prop) then
      some l1_4
    else
      ((some ((l2_4 + 1))).bind fun v15 =>
      f_X0_unequalPairs_16 b x (f_X0_unequalPairs_4 b x n4) 4096 l1_4 l2_4 v15)
def f_X0_unequalPairs (b : Nat) (x : XS) : Option (Int32) :=
    f_X0_unequalPairs_4 b x 4096 0 0
set_option maxRecDepth 100000 in
set_option maxHeartbeats 4000000 in
theorem p_X0_unequalPairs (l : Launch) (E : TE) {b : Nat} (hB_b : IsB b) (x m : XS) (g o : Int64) {r : Int32} (hf : f_X0_unequalPairs b x = some r) : MG l E yX0_unequalPairs cX0_unequalPairs 4 (some .int) 3 [rf E (b + 7)] (Wd E x m g o) (Wd E x m g o) (some (.int r)) := by
  unfold f_X0_unequalPairs at hf
  refine m_in (by decide) (Nat.le_of_ble_eq_true rfl) ?_
  intro p e s mi args below meth c H ls hx hb hr hlk hml hown hB hK hW hS hl
  have hl : lv_has ls 4 [(0, rf E (b + 7))] := hl
  have J4 : ∀ (n4 : Nat), ∀ (l1_4 : Int32) (l2_4 : Int32) (H : Heap) (locs : List Loc) (ls : Array Slot), f_X0_unequalPairs_4 b x n4 l1_4 l2_4 = some r → Wd E x m g o H → va_S (Ah E) s.heap H locs → lv_has ls 4 [(0, rf E (b + 7)), (1, .int l1_4), (2, .int l2_4)] → W p l e (rmH 3) s mi args below meth c H locs 0 0 (EQ E below args s (Wd E x m g o) (some (.int r))) (F0 mi 4 ls []) := by
    intro n4
    induction n4 with
    | zero => intro l1_4 l2_4 H locs ls hf; exact absurd hf (fun z => nomatch (show (none : Option (Int32)) = some _ from z))
    | succ n4 ih4 =>
      intro l1_4 l2_4 H locs ls hf hW hS hl
      rw [f_X0_unequalPairs_4.eq_2] at hf
      have J16 : ∀ (n16 : Nat), ∀ (l1_16 : Int32) (l2_16 : Int32) (l3_16 : Int32) (H : Heap) (locs : List Loc) (ls : Array Slot), f_X0_unequalPairs_16 b x (f_X0_unequalPairs_4 b x n4) n16 l1_16 l2_16 l3_16 = some r → Wd E x m g o H → va_S (Ah E) s.heap H locs → lv_has ls 4 [(0, rf E (b + 7)), (1, .int l1_16), (2, .int l2_16), (3, .int l3_16)] → W p l e (rmH 3) s mi args below meth c H locs 0 0 (EQ E below args s (Wd E x m g o) (some (.int r))) (F0 mi 16 ls []) := by
        intro n16
        induction n16 with
        | zero => intro l1_16 l2_16 l3_16 H locs ls hf; exact absurd hf (fun z => nomatch (show (none : Option (Int32)) = some _ from z))
        | succ n16 ih16 =>
          intro l1_16 l2_16 l3_16 H locs ls hf hW hS hl
          rw [f_X0_unequalPairs_16.eq_2] at hf
          have J49 : ∀ (l1_49 : Int32) (l2_49 : Int32) (l3_49 : Int32) (H : Heap) (locs : List Loc) (ls : Array Slot), f_X0_unequalPairs_49 b x (f_X0_unequalPairs_4 b x n4) (f_X0_unequalPairs_16 b x (f_X0_unequalPairs_4 b x n4) n16) l1_49 l2_49 l3_49 = some r → Wd E x m g o H → va_S (Ah E) s.heap H locs → lv_has ls 4 [(0, rf E (b + 7)), (1, .int l1_49), (2, .int l2_49), (3, .int l3_49)] → W p l e (rmH 3) s mi args below meth c H locs 0 0 (EQ E below args s (Wd E x m g o) (some (.int r))) (F0 mi 49 ls []) := by
            intro l1_49 l2_49 l3_49 H locs ls hf hW hS hl
            unfold f_X0_unequalPairs_49 at hf
            obtain ⟨v49, e49, hf⟩ := ob hf
            refine lv_iinc (v := v49) (lv' := [(3, .int v49), (0, rf E (b + 7)), (1, .int l1_49), (2, .int l2_49)]) hx hb dX0_unequalPairs_49 hl (k := 3) rfl (by rw [e49]; rfl) (by decide) rfl (fun ls hl => ?_)
            refine lv_goto (tgt := 16) hx hb dX0_unequalPairs_52 (by decide) ?_
            exact ih16 l1_49 l2_49 v49 _ _ _ hf hW hS (lv_sub hl [1, 2, 3, 0] rfl)
          refine lv_iload_n hx hb dX0_unequalPairs_16 rfl (lv_at hl 3 rfl) ?_
          refine lv_aload_n hx hb dX0_unequalPairs_17 rfl (lv_at hl 0 rfl) ?_
          refine gf_X0_39 hx hb hB hK hown hW hB_b dX0_unequalPairs_18 ?_
          refine lv_icmp_ge (tgt := 55) hx hb dX0_unequalPairs_21 (by decide) (fun c21 => ?_) (fun c21 => ?_)
          · rw [if_pos c21] at hf
            obtain ⟨v55, e55, hf⟩ := ob hf
            refine lv_iinc (v := v55) (lv' := [(2, .int v55), (0, rf E (b + 7)), (1, .int l1_16), (3, .int l3_16)]) hx hb dX0_unequalPairs_55 hl (k := 2) rfl (by rw [e55]; rfl) (by decide) rfl (fun ls hl => ?_)
            refine lv_goto (tgt := 4) hx hb dX0_unequalPairs_58 (by decide) ?_
            exact ih4 l1_16 v55 _ _ _ hf hW hS (lv_sub hl [1, 2, 0] rfl)
          · rw [if_neg c21] at hf
            refine lv_aload_n hx hb dX0_unequalPairs_24 rfl (lv_at hl 0 rfl) ?_
            refine lv_iload_n hx hb dX0_unequalPairs_25 rfl (lv_at hl 2 rfl) ?_
            refine lv_iload_n hx hb dX0_unequalPairs_26 rfl (lv_at hl 3 rfl) ?_
            obtain ⟨v27, e27, hf⟩ := ob2 hf
            refine c_V (As := [.int l2_16, .int l3_16]) (st1 := [.int v27]) (rest := []) (p_X0_areAlike l E hB_b x m g o e27) (kc_X0_73 hB ⟨Nat.le_of_ble_eq_true rfl, Nat.le_of_ble_eq_true rfl⟩) (Wd.rec hK hW (hB_b.l8 (j := 7) (by decide)) (cB_7 hB_b) (ci := 0) rfl) hx hb hml hown hB hK hW hS ⟨Nat.zero_le _, Nat.zero_le _⟩ rfl hl.1 rfl (Nat.le_of_ble_eq_true rfl) rfl dX0_unequalPairs_27 (fun H locs hW hS => ?_)
            refine lv_if_eq (tgt := 49) hx hb dX0_unequalPairs_30 (by decide) (fun c30 => ?_) (fun c30 => ?_)
            · rw [if_pos c30] at hf
              exact J49 l1_16 l2_16 l3_16 _ _ _ hf hW hS (lv_sub hl [0, 1, 2, 3] rfl)
            · rw [if_neg c30] at hf
              refine lv_aload_n hx hb dX0_unequalPairs_33 rfl (lv_at hl 0 rfl) ?_
              refine lv_iload_n hx hb dX0_unequalPairs_34 rfl (lv_at hl 2 rfl) ?_
              obtain ⟨v35, e35, hf⟩ := ob2 hf
              refine c_V (As := [.int l2_16]) (st1 := [.int v35]) (rest := []) (p_X0_gotOf l E hB_b x m g o e35) (kc_X0_67 hB ⟨Nat.le_of_ble_eq_true rfl, Nat.le_of_ble_eq_true rfl⟩) (Wd.rec hK hW (hB_b.l8 (j := 7) (by decide)) (cB_7 hB_b) (ci := 0) rfl) hx hb hml hown hB hK hW hS ⟨Nat.zero_le _, Nat.zero_le _⟩ rfl hl.1 rfl (Nat.le_of_ble_eq_true rfl) rfl dX0_unequalPairs_35 (fun H locs hW hS => ?_)
              refine lv_aload_n hx hb dX0_unequalPairs_38 rfl (lv_at hl 0 rfl) ?_
              refine lv_iload_n hx hb dX0_unequalPairs_39 rfl (lv_at hl 3 rfl) ?_
              obtain ⟨v40, e40, hf⟩ := ob2 hf
              refine c_V (As := [.int l3_16]) (st1 := [.int v40, .int v35]) (rest := [.int v35]) (p_X0_gotOf l E hB_b x m g o e40) (kc_X0_67 hB ⟨Nat.le_of_ble_eq_true rfl, Nat.le_of_ble_eq_true rfl⟩) (Wd.rec hK hW (hB_b.l8 (j := 7) (by decide)) (cB_7 hB_b) (ci := 0) rfl) hx hb hml hown hB hK hW hS ⟨Nat.zero_le _, Nat.zero_le _⟩ rfl hl.1 rfl (Nat.le_of_ble_eq_true rfl) rfl dX0_unequalPairs_40 (fun H locs hW hS => ?_)
              refine lv_icmp_eq (tgt := 49) hx hb dX0_unequalPairs_43 (by decide) (fun c43 => ?_) (fun c43 => ?_)
              · rw [if_pos c43] at hf
                exact J49 l1_16 l2_16 l3_16 _ _ _ hf hW hS (lv_sub hl [0, 1, 2, 3] rfl)
              · rw [if_neg c43] at hf
                obtain ⟨v46, e46, hf⟩ := ob hf
                refine lv_iinc (v := v46) (lv' := [(1, .int v46), (0, rf E (b + 7)), (2, .int l2_16), (3, .int l3_16)]) hx hb dX0_unequalPairs_46 hl (k := 1) rfl (by rw [e46]; rfl) (by decide) rfl (fun ls hl => ?_)
                exact J49 v46 l2_16 l3_16 _ _ _ hf hW hS (lv_sub hl [1, 0, 2, 3] rfl)
      refine lv_iload_n hx hb dX0_unequalPairs_4 rfl (lv_at hl 2 rfl) ?_
      refine lv_aload_n hx hb dX0_unequalPairs_5 rfl (lv_at hl 0 rfl) ?_
      refine gf_X0_39 hx hb hB hK hown hW hB_b dX0_unequalPairs_6 ?_
      refine lv_icmp_ge (tgt := 61) hx hb dX0_unequalPairs_9 (by decide) (fun c9 => ?_) (fun c9 => ?_)
      · rw [if_pos c9] at hf
        refine lv_iload_n hx hb dX0_unequalPairs_61 rfl (lv_at hl 1 rfl) ?_
        cases hf
        exact e_i hx hb hr hlk hW hS dX0_unequalPairs_62
      · rw [if_neg c9] at hf
        refine lv_iload_n hx hb dX0_unequalPairs_12 rfl (lv_at hl 2 rfl) ?_
        refine lv_iconst (v := 1) hx hb dX0_unequalPairs_13 (by decide) ?_
        refine lv_iadd hx hb dX0_unequalPairs_14 ?_
        obtain ⟨v15, e15, hf⟩ := ob hf
        refine lv_nm e15 ?_
        refine lv_istore_n (lv' := [(3, .int v15), (0, rf E (b + 7)), (1, .int l1_4), (2, .int l2_4)]) hx hb dX0_unequalPairs_15 rfl hl (by decide) rfl (fun ls hl => ?_)
        exact J16 4096 l1_4 l2_4 v15 _ _ _ hf hW hS (lv_sub hl [1, 2, 3, 0] rfl)
  refine lv_iconst (v := 0) hx hb dX0_unequalPairs_0 (by decide) ?_
  refine lv_istore_n (lv' := [(1, .int 0), (0, rf E (b + 7))]) hx hb dX0_unequalPairs_1 rfl hl (by decide) rfl (fun ls hl => ?_)
  refine lv_iconst (v := 0) hx hb dX0_unequalPairs_2 (by decide) ?_
  refine lv_istore_n (lv' := [(2, .int 0), (1, .int 0), (0, rf E (b + 7))]) hx hb dX0_unequalPairs_3 rfl hl (by decide) rfl (fun ls hl => ?_)
  exact J4 4096 0 0 _ _ _ hf hW hS (lv_sub hl [2, 1, 0] rfl)
def f_X0_ofOne_35 (b : Nat) (x : XS) (k5 : Int32 → Int32 → Int32 → Int32 → Option (Int32)) (l1_35 : Int32) (l2_35 : Int32) (l3_35 : Int32) (l4_35 : Int32) : Option (Int32) :=
    (some (l4_35 + 1)).bind fun v35 =>
    k5 l1_35 l2_35 l3_35 v35
def f_X0_ofOne_5 (b : Nat) (x : XS) : Nat → Int32 → Int32 → Int32 → Int32 → Option (Int32)
  | 0, _, _, _, _ => none
  | n5 + 1, l1_5, l2_5, l3_5, l4_5 =>
    if ((x (b + 7) 0) ≤ l4_5 : Prop) then
      some (-1)
    else
      ((f_X0_customerOf b x l4_5).bind fun v17 =>
      if (v17 = l1_5 : Prop) then
        (if (l3_5 = l2_5 : Prop) then
          some l4_5
        else
          ((some (l3_5 + 1)).bind fun v32 =>
          f_X0_ofOne_35 b x (f_X0_ofOne_5 b x n5) l1_5 l2_5 v32 l4_5))
      else
        f_X0_ofOne_35 b x (f_X0_ofOne_5 b x n5) l1_5 l2_5 l3_5 l4_5)
def f_X0_ofOne (b : Nat) (x : XS) (a0 : Int32) (a1 : Int32) : Option (Int32) :=
    f_X0_ofOne_5 b x 4096 a0 a1 0 0
set_option maxRecDepth 100000 in
set_option maxHeartbeats 4000000 in
theorem p_X0_ofOne (l : Launch) (E : TE) {b : Nat} (hB_b : IsB b) (x m : XS) (g o : Int64) {a0 : Int32} {a1 : Int32} {r : Int32} (hf : f_X0_ofOne b x a0 a1 = some r) : MG l E yX0_ofOne cX0_ofOne 5 (some .int) 2 [rf E (b + 7), .int a0, .int a1] (Wd E x m g o) (Wd E x m g o) (some (.int r)) := by
  unfold f_X0_ofOne at hf
  refine m_in (by decide) (Nat.le_of_ble_eq_true rfl) ?_
  intro p e s mi args below meth c H ls hx hb hr hlk hml hown hB hK hW hS hl
  have hl : lv_has ls 5 [(0, rf E (b + 7)), (1, .int a0), (2, .int a1)] := hl
  have J5 : ∀ (n5 : Nat), ∀ (l1_5 : Int32) (l2_5 : Int32) (l3_5 : Int32) (l4_5 : Int32) (H : Heap) (locs : List Loc) (ls : Array Slot), f_X0_ofOne_5 b x n5 l1_5 l2_5 l3_5 l4_5 = some r → Wd E x m g o H → va_S (Ah E) s.heap H locs → lv_has ls 5 [(0, rf E (b + 7)), (1, .int l1_5), (2, .int l2_5), (3, .int l3_5), (4, .int l4_5)] → W p l e (rmH 2) s mi args below meth c H locs 0 0 (EQ E below args s (Wd E x m g o) (some (.int r))) (F0 mi 5 ls []) := by
    intro n5
    induction n5 with
    | zero => intro l1_5 l2_5 l3_5 l4_5 H locs ls hf; exact absurd hf (fun z => nomatch (show (none : Option (Int32)) = some _ from z))
    | succ n5 ih5 =>
      intro l1_5 l2_5 l3_5 l4_5 H locs ls hf hW hS hl
      rw [f_X0_ofOne_5.eq_2] at hf
      have J35 : ∀ (l1_35 : Int32) (l2_35 : Int32) (l3_35 : Int32) (l4_35 : Int32) (H : Heap) (locs : List Loc) (ls : Array Slot), f_X0_ofOne_35 b x (f_X0_ofOne_5 b x n5) l1_35 l2_35 l3_35 l4_35 = some r → Wd E x m g o H → va_S (Ah E) s.heap H locs → lv_has ls 5 [(0, rf E (b + 7)), (1, .int l1_35), (2, .int l2_35), (3, .int l3_35), (4, .int l4_35)] → W p l e (rmH 2) s mi args below meth c H locs 0 0 (EQ E below args s (Wd E x m g o) (some (.int r))) (F0 mi 35 ls []) := by
        intro l1_35 l2_35 l3_35 l4_35 H locs ls hf hW hS hl
        unfold f_X0_ofOne_35 at hf
        obtain ⟨v35, e35, hf⟩ := ob hf
        refine lv_iinc (v := v35) (lv' := [(4, .int v35), (0, rf E (b + 7)), (1, .int l1_35), (2, .int l2_35), (3, .int l3_35)]) hx hb dX0_ofOne_35 hl (k := 4) rfl (by rw [e35]; rfl) (by decide) rfl (fun ls hl => ?_)
        refine lv_goto (tgt := 5) hx hb dX0_ofOne_38 (by decide) ?_
        exact ih5 l1_35 l2_35 l3_35 v35 _ _ _ hf hW hS (lv_sub hl [1, 2, 3, 4, 0] rfl)
      refine lv_iload hx hb dX0_ofOne_5 (lv_at hl 4 rfl) ?_
      refine lv_aload_n hx hb dX0_ofOne_7 rfl (lv_at hl 0 rfl) ?_
      refine gf_X0_39 hx hb hB hK hown hW hB_b dX0_ofOne_8 ?_
      refine lv_icmp_ge (tgt := 41) hx hb dX0_ofOne_11 (by decide) (fun c11 => ?_) (fun c11 => ?_)
      · rw [if_pos c11] at hf
        refine lv_iconst (v := (-1)) hx hb dX0_ofOne_41 (by decide) ?_
        cases hf
        exact e_i hx hb hr hlk hW hS dX0_ofOne_42
      · rw [if_neg c11] at hf
        refine lv_aload_n hx hb dX0_ofOne_14 rfl (lv_at hl 0 rfl) ?_
        refine lv_iload hx hb dX0_ofOne_15 (lv_at hl 4 rfl) ?_
        obtain ⟨v17, e17, hf⟩ := ob2 hf
        refine c_V (As := [.int l4_5]) (st1 := [.int v17]) (rest := []) (p_X0_customerOf l E hB_b x m g o e17) (kc_X0_64 hB ⟨Nat.le_of_ble_eq_true rfl, Nat.le_of_ble_eq_true rfl⟩) (Wd.rec hK hW (hB_b.l8 (j := 7) (by decide)) (cB_7 hB_b) (ci := 0) rfl) hx hb hml hown hB hK hW hS ⟨Nat.zero_le _, Nat.zero_le _⟩ rfl hl.1 rfl (Nat.le_of_ble_eq_true rfl) rfl dX0_ofOne_17 (fun H locs hW hS => ?_)
        refine lv_iload_n hx hb dX0_ofOne_20 rfl (lv_at hl 1 rfl) ?_
        refine lv_icmp_ne (tgt := 35) hx hb dX0_ofOne_21 (by decide) (fun c21 => ?_) (fun c21 => ?_)
        · rw [if_neg c21] at hf
          exact J35 l1_5 l2_5 l3_5 l4_5 _ _ _ hf hW hS (lv_sub hl [0, 1, 2, 3, 4] rfl)
        · rw [if_pos c21] at hf
          refine lv_iload_n hx hb dX0_ofOne_24 rfl (lv_at hl 3 rfl) ?_
          refine lv_iload_n hx hb dX0_ofOne_25 rfl (lv_at hl 2 rfl) ?_
          refine lv_icmp_ne (tgt := 32) hx hb dX0_ofOne_26 (by decide) (fun c26 => ?_) (fun c26 => ?_)
          · rw [if_neg c26] at hf
            obtain ⟨v32, e32, hf⟩ := ob hf
            refine lv_iinc (v := v32) (lv' := [(3, .int v32), (0, rf E (b + 7)), (1, .int l1_5), (2, .int l2_5), (4, .int l4_5)]) hx hb dX0_ofOne_32 hl (k := 3) rfl (by rw [e32]; rfl) (by decide) rfl (fun ls hl => ?_)
            exact J35 l1_5 l2_5 v32 l4_5 _ _ _ hf hW hS (lv_sub hl [1, 2, 3, 0, 4] rfl)
          · rw [if_pos c26] at hf
            refine lv_iload hx hb dX0_ofOne_29 (lv_at hl 4 rfl) ?_
            cases hf
            exact e_i hx hb hr hlk hW hS dX0_ofOne_31
  refine lv_iconst (v := 0) hx hb dX0_ofOne_0 (by decide) ?_
  refine lv_istore_n (lv' := [(3, .int 0), (0, rf E (b + 7)), (1, .int a0), (2, .int a1)]) hx hb dX0_ofOne_1 rfl hl (by decide) rfl (fun ls hl => ?_)
  refine lv_iconst (v := 0) hx hb dX0_ofOne_2 (by decide) ?_
  refine lv_istore (lv' := [(4, .int 0), (3, .int 0), (0, rf E (b + 7)), (1, .int a0), (2, .int a1)]) hx hb dX0_ofOne_3 hl (by decide) rfl (fun ls hl => ?_)
  exact J5 4096 a0 a1 0 0 _ _ _ hf hW hS (lv_sub hl [2, 3, 4, 1, 0] rfl)
