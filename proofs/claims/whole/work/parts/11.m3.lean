theorem dX5_amends_0 : decode cX5_amends 0 = .ok (.aload_n 0, 1) := by decide +kernel
theorem dX5_amends_1 : decode cX5_amends 1 = .ok (.iconst 0, 1) := by decide +kernel
theorem dX5_amends_2 : decode cX5_amends 2 = .ok (.putfield 29, 3) := by decide +kernel
theorem dX5_amends_5 : decode cX5_amends 5 = .ok (.iload_n 1, 1) := by decide +kernel
theorem dX5_amends_6 : decode cX5_amends 6 = .ok (.invokestatic 60, 3) := by decide +kernel
theorem dX5_amends_9 : decode cX5_amends 9 = .ok (.ifCond .eq 12, 3) := by decide +kernel
theorem dX5_amends_12 : decode cX5_amends 12 = .ok (.aload_n 0, 1) := by decide +kernel
theorem dX5_amends_13 : decode cX5_amends 13 = .ok (.iload_n 1, 1) := by decide +kernel
theorem dX5_amends_14 : decode cX5_amends 14 = .ok (.iload_n 2, 1) := by decide +kernel
theorem dX5_amends_15 : decode cX5_amends 15 = .ok (.invokevirtual 40, 3) := by decide +kernel
theorem dX5_amends_18 : decode cX5_amends 18 = .ok (.ifCond .ne 9, 3) := by decide +kernel
theorem dX5_amends_21 : decode cX5_amends 21 = .ok (.aload_n 0, 1) := by decide +kernel
theorem dX5_amends_22 : decode cX5_amends 22 = .ok (.iconst 1, 1) := by decide +kernel
theorem dX5_amends_23 : decode cX5_amends 23 = .ok (.invokevirtual 64, 3) := by decide +kernel
theorem dX5_amends_26 : decode cX5_amends 26 = .ok (.ireturn, 1) := by decide +kernel
theorem dX5_amends_27 : decode cX5_amends 27 = .ok (.iload_n 3, 1) := by decide +kernel
theorem dX5_amends_28 : decode cX5_amends 28 = .ok (.iconst 0, 1) := by decide +kernel
theorem dX5_amends_29 : decode cX5_amends 29 = .ok (.iconst 4, 1) := by decide +kernel
theorem dX5_amends_30 : decode cX5_amends 30 = .ok (.invokestatic 36, 3) := by decide +kernel
theorem dX5_amends_33 : decode cX5_amends 33 = .ok (.ifCond .eq 13, 3) := by decide +kernel
theorem dX5_amends_36 : decode cX5_amends 36 = .ok (.aload_n 0, 1) := by decide +kernel
theorem dX5_amends_37 : decode cX5_amends 37 = .ok (.iload_n 1, 1) := by decide +kernel
theorem dX5_amends_38 : decode cX5_amends 38 = .ok (.iload_n 2, 1) := by decide +kernel
theorem dX5_amends_39 : decode cX5_amends 39 = .ok (.iload_n 3, 1) := by decide +kernel
theorem dX5_amends_40 : decode cX5_amends 40 = .ok (.invokevirtual 156, 3) := by decide +kernel
theorem dX5_amends_43 : decode cX5_amends 43 = .ok (.goto 8, 3) := by decide +kernel
theorem dX5_amends_46 : decode cX5_amends 46 = .ok (.aload_n 0, 1) := by decide +kernel
theorem dX5_amends_47 : decode cX5_amends 47 = .ok (.iconst 2, 1) := by decide +kernel
theorem dX5_amends_48 : decode cX5_amends 48 = .ok (.invokevirtual 64, 3) := by decide +kernel
theorem dX5_amends_51 : decode cX5_amends 51 = .ok (.ireturn, 1) := by decide +kernel
theorem dX5_following_0 : decode cX5_following 0 = .ok (.iconst 0, 1) := by decide +kernel
theorem dX5_following_1 : decode cX5_following 1 = .ok (.istore_n 2, 1) := by decide +kernel
theorem dX5_following_2 : decode cX5_following 2 = .ok (.iconst 0, 1) := by decide +kernel
theorem dX5_following_3 : decode cX5_following 3 = .ok (.istore_n 3, 1) := by decide +kernel
theorem dX5_following_4 : decode cX5_following 4 = .ok (.iload_n 3, 1) := by decide +kernel
theorem dX5_following_5 : decode cX5_following 5 = .ok (.aload_n 0, 1) := by decide +kernel
theorem dX5_following_6 : decode cX5_following 6 = .ok (.getfield 7, 3) := by decide +kernel
theorem dX5_following_9 : decode cX5_following 9 = .ok (.iconst 0, 1) := by decide +kernel
theorem dX5_following_10 : decode cX5_following 10 = .ok (.iaload, 1) := by decide +kernel
theorem dX5_following_11 : decode cX5_following 11 = .ok (.if_icmp .ge 33, 3) := by decide +kernel
theorem dX5_following_14 : decode cX5_following 14 = .ok (.iload_n 2, 1) := by decide +kernel
theorem dX5_following_15 : decode cX5_following 15 = .ok (.aload_n 0, 1) := by decide +kernel
theorem dX5_following_16 : decode cX5_following 16 = .ok (.getfield 7, 3) := by decide +kernel
theorem dX5_following_19 : decode cX5_following 19 = .ok (.iload_n 3, 1) := by decide +kernel
theorem dX5_following_20 : decode cX5_following 20 = .ok (.invokestatic 54, 3) := by decide +kernel
theorem dX5_following_23 : decode cX5_following 23 = .ok (.bipush 8, 2) := by decide +kernel
theorem dX5_following_25 : decode cX5_following 25 = .ok (.iadd, 1) := by decide +kernel
theorem dX5_following_26 : decode cX5_following 26 = .ok (.iaload, 1) := by decide +kernel
theorem dX5_following_27 : decode cX5_following 27 = .ok (.iload_n 1, 1) := by decide +kernel
theorem dX5_following_28 : decode cX5_following 28 = .ok (.if_icmp .ne 7, 3) := by decide +kernel
theorem dX5_following_31 : decode cX5_following 31 = .ok (.iconst 1, 1) := by decide +kernel
theorem dX5_following_32 : decode cX5_following 32 = .ok (.goto 4, 3) := by decide +kernel
theorem dX5_following_35 : decode cX5_following 35 = .ok (.iconst 0, 1) := by decide +kernel
theorem dX5_following_36 : decode cX5_following 36 = .ok (.iadd, 1) := by decide +kernel
theorem dX5_following_37 : decode cX5_following 37 = .ok (.istore_n 2, 1) := by decide +kernel
theorem dX5_following_38 : decode cX5_following 38 = .ok (.iinc 3 1, 3) := by decide +kernel
theorem dX5_following_41 : decode cX5_following 41 = .ok (.goto (-37), 3) := by decide +kernel
theorem dX5_following_44 : decode cX5_following 44 = .ok (.iload_n 2, 1) := by decide +kernel
theorem dX5_following_45 : decode cX5_following 45 = .ok (.ireturn, 1) := by decide +kernel
theorem dX5_precedentOf_0 : decode cX5_precedentOf 0 = .ok (.aload_n 0, 1) := by decide +kernel
theorem dX5_precedentOf_1 : decode cX5_precedentOf 1 = .ok (.iload_n 1, 1) := by decide +kernel
theorem dX5_precedentOf_2 : decode cX5_precedentOf 2 = .ok (.iload_n 2, 1) := by decide +kernel
theorem dX5_precedentOf_3 : decode cX5_precedentOf 3 = .ok (.invokevirtual 48, 3) := by decide +kernel
theorem dX5_precedentOf_6 : decode cX5_precedentOf 6 = .ok (.istore 4, 2) := by decide +kernel
theorem dX5_precedentOf_8 : decode cX5_precedentOf 8 = .ok (.iload 4, 2) := by decide +kernel
theorem dX5_precedentOf_10 : decode cX5_precedentOf 10 = .ok (.iconst (-1), 1) := by decide +kernel
theorem dX5_precedentOf_11 : decode cX5_precedentOf 11 = .ok (.if_icmp .ne 5, 3) := by decide +kernel
theorem dX5_precedentOf_14 : decode cX5_precedentOf 14 = .ok (.iconst (-1), 1) := by decide +kernel
theorem dX5_precedentOf_15 : decode cX5_precedentOf 15 = .ok (.ireturn, 1) := by decide +kernel
theorem dX5_precedentOf_16 : decode cX5_precedentOf 16 = .ok (.iload_n 3, 1) := by decide +kernel
theorem dX5_precedentOf_17 : decode cX5_precedentOf 17 = .ok (.iconst 3, 1) := by decide +kernel
theorem dX5_precedentOf_18 : decode cX5_precedentOf 18 = .ok (.if_icmp .ge 21, 3) := by decide +kernel
theorem dX5_precedentOf_21 : decode cX5_precedentOf 21 = .ok (.aload_n 0, 1) := by decide +kernel
theorem dX5_precedentOf_22 : decode cX5_precedentOf 22 = .ok (.getfield 7, 3) := by decide +kernel
theorem dX5_precedentOf_25 : decode cX5_precedentOf 25 = .ok (.sipush 130, 3) := by decide +kernel
theorem dX5_precedentOf_28 : decode cX5_precedentOf 28 = .ok (.iconst 3, 1) := by decide +kernel
theorem dX5_precedentOf_29 : decode cX5_precedentOf 29 = .ok (.iload 4, 2) := by decide +kernel
theorem dX5_precedentOf_31 : decode cX5_precedentOf 31 = .ok (.imul, 1) := by decide +kernel
theorem dX5_precedentOf_32 : decode cX5_precedentOf 32 = .ok (.iadd, 1) := by decide +kernel
theorem dX5_precedentOf_33 : decode cX5_precedentOf 33 = .ok (.iload_n 3, 1) := by decide +kernel
theorem dX5_precedentOf_34 : decode cX5_precedentOf 34 = .ok (.iadd, 1) := by decide +kernel
theorem dX5_precedentOf_35 : decode cX5_precedentOf 35 = .ok (.iaload, 1) := by decide +kernel
theorem dX5_precedentOf_36 : decode cX5_precedentOf 36 = .ok (.goto 31, 3) := by decide +kernel
theorem dX5_precedentOf_39 : decode cX5_precedentOf 39 = .ok (.iload_n 3, 1) := by decide +kernel
theorem dX5_precedentOf_40 : decode cX5_precedentOf 40 = .ok (.iconst 3, 1) := by decide +kernel
theorem dX5_precedentOf_41 : decode cX5_precedentOf 41 = .ok (.if_icmp .ne 20, 3) := by decide +kernel
theorem dX5_precedentOf_44 : decode cX5_precedentOf 44 = .ok (.aload_n 0, 1) := by decide +kernel
theorem dX5_precedentOf_45 : decode cX5_precedentOf 45 = .ok (.iload_n 1, 1) := by decide +kernel
theorem dX5_precedentOf_46 : decode cX5_precedentOf 46 = .ok (.iload_n 2, 1) := by decide +kernel
theorem dX5_precedentOf_47 : decode cX5_precedentOf 47 = .ok (.invokevirtual 86, 3) := by decide +kernel
theorem dX5_precedentOf_50 : decode cX5_precedentOf 50 = .ok (.ifCond .eq 7, 3) := by decide +kernel
theorem dX5_precedentOf_53 : decode cX5_precedentOf 53 = .ok (.iconst 1, 1) := by decide +kernel
theorem dX5_precedentOf_54 : decode cX5_precedentOf 54 = .ok (.goto 13, 3) := by decide +kernel
theorem dX5_precedentOf_57 : decode cX5_precedentOf 57 = .ok (.iconst 0, 1) := by decide +kernel
theorem dX5_precedentOf_58 : decode cX5_precedentOf 58 = .ok (.goto 9, 3) := by decide +kernel
theorem dX5_precedentOf_61 : decode cX5_precedentOf 61 = .ok (.aload_n 0, 1) := by decide +kernel
theorem dX5_precedentOf_62 : decode cX5_precedentOf 62 = .ok (.iload 4, 2) := by decide +kernel
theorem dX5_precedentOf_64 : decode cX5_precedentOf 64 = .ok (.invokevirtual 159, 3) := by decide +kernel
theorem dX5_precedentOf_67 : decode cX5_precedentOf 67 = .ok (.ireturn, 1) := by decide +kernel
theorem dX5_precedent_0 : decode cX5_precedent 0 = .ok (.aload_n 0, 1) := by decide +kernel
theorem dX5_precedent_1 : decode cX5_precedent 1 = .ok (.iconst 0, 1) := by decide +kernel
theorem dX5_precedent_2 : decode cX5_precedent 2 = .ok (.putfield 29, 3) := by decide +kernel
theorem dX5_precedent_5 : decode cX5_precedent 5 = .ok (.iload_n 1, 1) := by decide +kernel
theorem dX5_precedent_6 : decode cX5_precedent 6 = .ok (.invokestatic 60, 3) := by decide +kernel
theorem dX5_precedent_9 : decode cX5_precedent 9 = .ok (.ifCond .eq 12, 3) := by decide +kernel
theorem dX5_precedent_12 : decode cX5_precedent 12 = .ok (.iload_n 2, 1) := by decide +kernel
theorem dX5_precedent_13 : decode cX5_precedent 13 = .ok (.iconst 0, 1) := by decide +kernel
theorem dX5_precedent_14 : decode cX5_precedent 14 = .ok (.iconst 2, 1) := by decide +kernel
theorem dX5_precedent_15 : decode cX5_precedent 15 = .ok (.invokestatic 36, 3) := by decide +kernel
theorem dX5_precedent_18 : decode cX5_precedent 18 = .ok (.ifCond .ne 9, 3) := by decide +kernel
theorem dX5_precedent_21 : decode cX5_precedent 21 = .ok (.aload_n 0, 1) := by decide +kernel
theorem dX5_precedent_22 : decode cX5_precedent 22 = .ok (.iconst 1, 1) := by decide +kernel
theorem dX5_precedent_23 : decode cX5_precedent 23 = .ok (.invokevirtual 64, 3) := by decide +kernel
theorem dX5_precedent_26 : decode cX5_precedent 26 = .ok (.ireturn, 1) := by decide +kernel
theorem dX5_precedent_27 : decode cX5_precedent 27 = .ok (.iload_n 3, 1) := by decide +kernel
theorem dX5_precedent_28 : decode cX5_precedent 28 = .ok (.iconst 0, 1) := by decide +kernel
theorem dX5_precedent_29 : decode cX5_precedent 29 = .ok (.iconst 4, 1) := by decide +kernel
theorem dX5_precedent_30 : decode cX5_precedent 30 = .ok (.invokestatic 36, 3) := by decide +kernel
theorem dX5_precedent_33 : decode cX5_precedent 33 = .ok (.ifCond .eq 13, 3) := by decide +kernel
theorem dX5_precedent_36 : decode cX5_precedent 36 = .ok (.aload_n 0, 1) := by decide +kernel
theorem dX5_precedent_37 : decode cX5_precedent 37 = .ok (.iload_n 1, 1) := by decide +kernel
theorem dX5_precedent_38 : decode cX5_precedent 38 = .ok (.iload_n 2, 1) := by decide +kernel
theorem dX5_precedent_39 : decode cX5_precedent 39 = .ok (.iload_n 3, 1) := by decide +kernel
theorem dX5_precedent_40 : decode cX5_precedent 40 = .ok (.invokevirtual 162, 3) := by decide +kernel
theorem dX5_precedent_43 : decode cX5_precedent 43 = .ok (.goto 8, 3) := by decide +kernel
theorem dX5_precedent_46 : decode cX5_precedent 46 = .ok (.aload_n 0, 1) := by decide +kernel
theorem dX5_precedent_47 : decode cX5_precedent 47 = .ok (.iconst 2, 1) := by decide +kernel
theorem dX5_precedent_48 : decode cX5_precedent 48 = .ok (.invokevirtual 64, 3) := by decide +kernel
theorem dX5_precedent_51 : decode cX5_precedent 51 = .ok (.ireturn, 1) := by decide +kernel
theorem dX5_ofComplaints_0 : decode cX5_ofComplaints 0 = .ok (.iconst 0, 1) := by decide +kernel
theorem dX5_ofComplaints_1 : decode cX5_ofComplaints 1 = .ok (.istore_n 3, 1) := by decide +kernel
theorem dX5_ofComplaints_2 : decode cX5_ofComplaints 2 = .ok (.iconst 0, 1) := by decide +kernel
theorem dX5_ofComplaints_3 : decode cX5_ofComplaints 3 = .ok (.istore 4, 2) := by decide +kernel
theorem dX5_ofComplaints_5 : decode cX5_ofComplaints 5 = .ok (.iload 4, 2) := by decide +kernel
theorem dX5_ofComplaints_7 : decode cX5_ofComplaints 7 = .ok (.aload_n 0, 1) := by decide +kernel
theorem dX5_ofComplaints_8 : decode cX5_ofComplaints 8 = .ok (.getfield 7, 3) := by decide +kernel
theorem dX5_ofComplaints_11 : decode cX5_ofComplaints 11 = .ok (.iconst 0, 1) := by decide +kernel
theorem dX5_ofComplaints_12 : decode cX5_ofComplaints 12 = .ok (.iaload, 1) := by decide +kernel
theorem dX5_ofComplaints_13 : decode cX5_ofComplaints 13 = .ok (.if_icmp .ge 106, 3) := by decide +kernel
theorem dX5_ofComplaints_16 : decode cX5_ofComplaints 16 = .ok (.iload_n 1, 1) := by decide +kernel
theorem dX5_ofComplaints_17 : decode cX5_ofComplaints 17 = .ok (.iconst (-1), 1) := by decide +kernel
theorem dX5_ofComplaints_18 : decode cX5_ofComplaints 18 = .ok (.if_icmp .eq 17, 3) := by decide +kernel
theorem dX5_ofComplaints_21 : decode cX5_ofComplaints 21 = .ok (.aload_n 0, 1) := by decide +kernel
theorem dX5_ofComplaints_22 : decode cX5_ofComplaints 22 = .ok (.getfield 7, 3) := by decide +kernel
theorem dX5_ofComplaints_25 : decode cX5_ofComplaints 25 = .ok (.iload 4, 2) := by decide +kernel
theorem dX5_ofComplaints_27 : decode cX5_ofComplaints 27 = .ok (.invokestatic 54, 3) := by decide +kernel
theorem dX5_ofComplaints_30 : decode cX5_ofComplaints 30 = .ok (.iaload, 1) := by decide +kernel
theorem dX5_ofComplaints_31 : decode cX5_ofComplaints 31 = .ok (.iload_n 1, 1) := by decide +kernel
theorem dX5_ofComplaints_32 : decode cX5_ofComplaints 32 = .ok (.if_icmp .ne 7, 3) := by decide +kernel
theorem dX5_ofComplaints_35 : decode cX5_ofComplaints 35 = .ok (.iconst 1, 1) := by decide +kernel
theorem dX5_ofComplaints_36 : decode cX5_ofComplaints 36 = .ok (.goto 4, 3) := by decide +kernel
theorem dX5_ofComplaints_39 : decode cX5_ofComplaints 39 = .ok (.iconst 0, 1) := by decide +kernel
theorem dX5_ofComplaints_40 : decode cX5_ofComplaints 40 = .ok (.istore 5, 2) := by decide +kernel
theorem dX5_ofComplaints_42 : decode cX5_ofComplaints 42 = .ok (.iload_n 3, 1) := by decide +kernel
theorem dX5_ofComplaints_43 : decode cX5_ofComplaints 43 = .ok (.iload 5, 2) := by decide +kernel
theorem dX5_ofComplaints_45 : decode cX5_ofComplaints 45 = .ok (.ifCond .ne 7, 3) := by decide +kernel
theorem dX5_ofComplaints_48 : decode cX5_ofComplaints 48 = .ok (.iconst 0, 1) := by decide +kernel
theorem dX5_ofComplaints_49 : decode cX5_ofComplaints 49 = .ok (.goto 62, 3) := by decide +kernel
theorem dX5_ofComplaints_52 : decode cX5_ofComplaints 52 = .ok (.iload_n 2, 1) := by decide +kernel
theorem dX5_ofComplaints_53 : decode cX5_ofComplaints 53 = .ok (.iconst 5, 1) := by decide +kernel
theorem dX5_ofComplaints_54 : decode cX5_ofComplaints 54 = .ok (.if_icmp .ne 7, 3) := by decide +kernel
theorem dX5_ofComplaints_57 : decode cX5_ofComplaints 57 = .ok (.iconst 1, 1) := by decide +kernel
theorem dX5_ofComplaints_58 : decode cX5_ofComplaints 58 = .ok (.goto 53, 3) := by decide +kernel
theorem dX5_ofComplaints_61 : decode cX5_ofComplaints 61 = .ok (.iload_n 2, 1) := by decide +kernel
theorem dX5_ofComplaints_62 : decode cX5_ofComplaints 62 = .ok (.bipush 6, 2) := by decide +kernel
theorem dX5_ofComplaints_64 : decode cX5_ofComplaints 64 = .ok (.if_icmp .ne 18, 3) := by decide +kernel
theorem dX5_ofComplaints_67 : decode cX5_ofComplaints 67 = .ok (.aload_n 0, 1) := by decide +kernel
theorem dX5_ofComplaints_68 : decode cX5_ofComplaints 68 = .ok (.getfield 7, 3) := by decide +kernel
theorem dX5_ofComplaints_71 : decode cX5_ofComplaints 71 = .ok (.iload 4, 2) := by decide +kernel
theorem dX5_ofComplaints_73 : decode cX5_ofComplaints 73 = .ok (.invokestatic 54, 3) := by decide +kernel
theorem dX5_ofComplaints_76 : decode cX5_ofComplaints 76 = .ok (.iconst 5, 1) := by decide +kernel
theorem dX5_ofComplaints_77 : decode cX5_ofComplaints 77 = .ok (.iadd, 1) := by decide +kernel
theorem dX5_ofComplaints_78 : decode cX5_ofComplaints 78 = .ok (.iaload, 1) := by decide +kernel
theorem dX5_ofComplaints_79 : decode cX5_ofComplaints 79 = .ok (.goto 32, 3) := by decide +kernel
theorem dX5_ofComplaints_82 : decode cX5_ofComplaints 82 = .ok (.iload_n 2, 1) := by decide +kernel
theorem dX5_ofComplaints_83 : decode cX5_ofComplaints 83 = .ok (.bipush 7, 2) := by decide +kernel
theorem dX5_ofComplaints_85 : decode cX5_ofComplaints 85 = .ok (.if_icmp .ne 12, 3) := by decide +kernel
theorem dX5_ofComplaints_88 : decode cX5_ofComplaints 88 = .ok (.aload_n 0, 1) := by decide +kernel
theorem dX5_ofComplaints_89 : decode cX5_ofComplaints 89 = .ok (.iload 4, 2) := by decide +kernel
theorem dX5_ofComplaints_91 : decode cX5_ofComplaints 91 = .ok (.invokevirtual 115, 3) := by decide +kernel
theorem dX5_ofComplaints_94 : decode cX5_ofComplaints 94 = .ok (.goto 17, 3) := by decide +kernel
theorem dX5_ofComplaints_97 : decode cX5_ofComplaints 97 = .ok (.aload_n 0, 1) := by decide +kernel
theorem dX5_ofComplaints_98 : decode cX5_ofComplaints 98 = .ok (.iload 4, 2) := by decide +kernel
theorem dX5_ofComplaints_100 : decode cX5_ofComplaints 100 = .ok (.invokevirtual 115, 3) := by decide +kernel
theorem dX5_ofComplaints_103 : decode cX5_ofComplaints 103 = .ok (.ifCond .le 7, 3) := by decide +kernel
theorem dX5_ofComplaints_106 : decode cX5_ofComplaints 106 = .ok (.iconst 1, 1) := by decide +kernel
theorem dX5_ofComplaints_107 : decode cX5_ofComplaints 107 = .ok (.goto 4, 3) := by decide +kernel
theorem dX5_ofComplaints_110 : decode cX5_ofComplaints 110 = .ok (.iconst 0, 1) := by decide +kernel
theorem dX5_ofComplaints_111 : decode cX5_ofComplaints 111 = .ok (.iadd, 1) := by decide +kernel
theorem dX5_ofComplaints_112 : decode cX5_ofComplaints 112 = .ok (.istore_n 3, 1) := by decide +kernel
theorem dX5_ofComplaints_113 : decode cX5_ofComplaints 113 = .ok (.iinc 4 1, 3) := by decide +kernel
theorem dX5_ofComplaints_116 : decode cX5_ofComplaints 116 = .ok (.goto (-111), 3) := by decide +kernel
theorem dX5_ofComplaints_119 : decode cX5_ofComplaints 119 = .ok (.iload_n 3, 1) := by decide +kernel
theorem dX5_ofComplaints_120 : decode cX5_ofComplaints 120 = .ok (.ireturn, 1) := by decide +kernel
theorem dX5_kindOf_0 : decode cX5_kindOf 0 = .ok (.iload_n 2, 1) := by decide +kernel
theorem dX5_kindOf_1 : decode cX5_kindOf 1 = .ok (.iconst 3, 1) := by decide +kernel
theorem dX5_kindOf_2 : decode cX5_kindOf 2 = .ok (.if_icmp .ge 15, 3) := by decide +kernel
theorem dX5_kindOf_5 : decode cX5_kindOf 5 = .ok (.aload_n 0, 1) := by decide +kernel
theorem dX5_kindOf_6 : decode cX5_kindOf 6 = .ok (.getfield 7, 3) := by decide +kernel
theorem dX5_kindOf_9 : decode cX5_kindOf 9 = .ok (.iload_n 1, 1) := by decide +kernel
theorem dX5_kindOf_10 : decode cX5_kindOf 10 = .ok (.invokestatic 25, 3) := by decide +kernel
theorem dX5_kindOf_13 : decode cX5_kindOf 13 = .ok (.iload_n 2, 1) := by decide +kernel
theorem dX5_kindOf_14 : decode cX5_kindOf 14 = .ok (.iadd, 1) := by decide +kernel
theorem dX5_kindOf_15 : decode cX5_kindOf 15 = .ok (.iaload, 1) := by decide +kernel
theorem dX5_kindOf_16 : decode cX5_kindOf 16 = .ok (.ireturn, 1) := by decide +kernel
theorem dX5_kindOf_17 : decode cX5_kindOf 17 = .ok (.iload_n 2, 1) := by decide +kernel
theorem dX5_kindOf_18 : decode cX5_kindOf 18 = .ok (.iconst 3, 1) := by decide +kernel
theorem dX5_kindOf_19 : decode cX5_kindOf 19 = .ok (.if_icmp .ne 11, 3) := by decide +kernel
theorem dX5_kindOf_22 : decode cX5_kindOf 22 = .ok (.aload_n 0, 1) := by decide +kernel
theorem dX5_kindOf_23 : decode cX5_kindOf 23 = .ok (.iload_n 1, 1) := by decide +kernel
theorem dX5_kindOf_24 : decode cX5_kindOf 24 = .ok (.invokevirtual 89, 3) := by decide +kernel
theorem dX5_kindOf_27 : decode cX5_kindOf 27 = .ok (.goto 28, 3) := by decide +kernel
theorem dX5_kindOf_30 : decode cX5_kindOf 30 = .ok (.iload_n 2, 1) := by decide +kernel
theorem dX5_kindOf_31 : decode cX5_kindOf 31 = .ok (.iconst 4, 1) := by decide +kernel
theorem dX5_kindOf_32 : decode cX5_kindOf 32 = .ok (.if_icmp .ne 17, 3) := by decide +kernel
theorem dX5_kindOf_35 : decode cX5_kindOf 35 = .ok (.aload_n 0, 1) := by decide +kernel
theorem dX5_kindOf_36 : decode cX5_kindOf 36 = .ok (.getfield 7, 3) := by decide +kernel
theorem dX5_kindOf_39 : decode cX5_kindOf 39 = .ok (.iload_n 1, 1) := by decide +kernel
theorem dX5_kindOf_40 : decode cX5_kindOf 40 = .ok (.invokestatic 25, 3) := by decide +kernel
theorem dX5_kindOf_43 : decode cX5_kindOf 43 = .ok (.iconst 3, 1) := by decide +kernel
theorem dX5_kindOf_44 : decode cX5_kindOf 44 = .ok (.iadd, 1) := by decide +kernel
theorem dX5_kindOf_45 : decode cX5_kindOf 45 = .ok (.iaload, 1) := by decide +kernel
theorem dX5_kindOf_46 : decode cX5_kindOf 46 = .ok (.goto 9, 3) := by decide +kernel
theorem dX5_kindOf_49 : decode cX5_kindOf 49 = .ok (.aload_n 0, 1) := by decide +kernel
theorem dX5_kindOf_50 : decode cX5_kindOf 50 = .ok (.iload_n 1, 1) := by decide +kernel
theorem dX5_kindOf_51 : decode cX5_kindOf 51 = .ok (.iload_n 2, 1) := by decide +kernel
theorem dX5_kindOf_52 : decode cX5_kindOf 52 = .ok (.invokevirtual 165, 3) := by decide +kernel
theorem dX5_kindOf_55 : decode cX5_kindOf 55 = .ok (.ireturn, 1) := by decide +kernel
theorem dX5_kind_0 : decode cX5_kind 0 = .ok (.aload_n 0, 1) := by decide +kernel
theorem dX5_kind_1 : decode cX5_kind 1 = .ok (.iconst 0, 1) := by decide +kernel
theorem dX5_kind_2 : decode cX5_kind 2 = .ok (.putfield 29, 3) := by decide +kernel
theorem dX5_kind_5 : decode cX5_kind 5 = .ok (.iload_n 1, 1) := by decide +kernel
theorem dX5_kind_6 : decode cX5_kind 6 = .ok (.invokestatic 60, 3) := by decide +kernel
theorem dX5_kind_9 : decode cX5_kind 9 = .ok (.ifCond .ne 9, 3) := by decide +kernel
theorem dX5_kind_12 : decode cX5_kind 12 = .ok (.aload_n 0, 1) := by decide +kernel
theorem dX5_kind_13 : decode cX5_kind 13 = .ok (.iconst 1, 1) := by decide +kernel
theorem dX5_kind_14 : decode cX5_kind 14 = .ok (.invokevirtual 64, 3) := by decide +kernel
theorem dX5_kind_17 : decode cX5_kind 17 = .ok (.ireturn, 1) := by decide +kernel
theorem dX5_kind_18 : decode cX5_kind 18 = .ok (.iload_n 2, 1) := by decide +kernel
theorem dX5_kind_19 : decode cX5_kind 19 = .ok (.iconst 0, 1) := by decide +kernel
theorem dX5_kind_20 : decode cX5_kind 20 = .ok (.bipush 7, 2) := by decide +kernel
theorem dX5_kind_22 : decode cX5_kind 22 = .ok (.invokestatic 36, 3) := by decide +kernel
theorem dX5_kind_25 : decode cX5_kind 25 = .ok (.ifCond .eq 12, 3) := by decide +kernel
theorem dX5_kind_28 : decode cX5_kind 28 = .ok (.aload_n 0, 1) := by decide +kernel
theorem dX5_kind_29 : decode cX5_kind 29 = .ok (.iload_n 1, 1) := by decide +kernel
theorem dX5_kind_30 : decode cX5_kind 30 = .ok (.iload_n 2, 1) := by decide +kernel
theorem dX5_kind_31 : decode cX5_kind 31 = .ok (.invokevirtual 168, 3) := by decide +kernel
theorem dX5_kind_34 : decode cX5_kind 34 = .ok (.goto 8, 3) := by decide +kernel
theorem dX5_kind_37 : decode cX5_kind 37 = .ok (.aload_n 0, 1) := by decide +kernel
theorem dX5_kind_38 : decode cX5_kind 38 = .ok (.iconst 2, 1) := by decide +kernel
theorem dX5_kind_39 : decode cX5_kind 39 = .ok (.invokevirtual 64, 3) := by decide +kernel
theorem dX5_kind_42 : decode cX5_kind 42 = .ok (.ireturn, 1) := by decide +kernel
theorem dX5_departing_0 : decode cX5_departing 0 = .ok (.iconst 0, 1) := by decide +kernel
theorem dX5_departing_1 : decode cX5_departing 1 = .ok (.istore_n 1, 1) := by decide +kernel
theorem dX5_departing_2 : decode cX5_departing 2 = .ok (.iconst 0, 1) := by decide +kernel
theorem dX5_departing_3 : decode cX5_departing 3 = .ok (.istore_n 2, 1) := by decide +kernel
theorem dX5_departing_4 : decode cX5_departing 4 = .ok (.iload_n 2, 1) := by decide +kernel
theorem dX5_departing_5 : decode cX5_departing 5 = .ok (.aload_n 0, 1) := by decide +kernel
theorem dX5_departing_6 : decode cX5_departing 6 = .ok (.getfield 7, 3) := by decide +kernel
theorem dX5_departing_9 : decode cX5_departing 9 = .ok (.iconst 0, 1) := by decide +kernel
theorem dX5_departing_10 : decode cX5_departing 10 = .ok (.iaload, 1) := by decide +kernel
theorem dX5_departing_11 : decode cX5_departing 11 = .ok (.if_icmp .ge 33, 3) := by decide +kernel
theorem dX5_departing_14 : decode cX5_departing 14 = .ok (.iload_n 1, 1) := by decide +kernel
theorem dX5_departing_15 : decode cX5_departing 15 = .ok (.aload_n 0, 1) := by decide +kernel
theorem dX5_departing_16 : decode cX5_departing 16 = .ok (.getfield 7, 3) := by decide +kernel
theorem dX5_departing_19 : decode cX5_departing 19 = .ok (.iload_n 2, 1) := by decide +kernel
theorem dX5_departing_20 : decode cX5_departing 20 = .ok (.invokestatic 54, 3) := by decide +kernel
theorem dX5_departing_23 : decode cX5_departing 23 = .ok (.bipush 9, 2) := by decide +kernel
theorem dX5_departing_25 : decode cX5_departing 25 = .ok (.iadd, 1) := by decide +kernel
theorem dX5_departing_26 : decode cX5_departing 26 = .ok (.iaload, 1) := by decide +kernel
theorem dX5_departing_27 : decode cX5_departing 27 = .ok (.iconst 3, 1) := by decide +kernel
theorem dX5_departing_28 : decode cX5_departing 28 = .ok (.if_icmp .ne 7, 3) := by decide +kernel
theorem dX5_departing_31 : decode cX5_departing 31 = .ok (.iconst 1, 1) := by decide +kernel
theorem dX5_departing_32 : decode cX5_departing 32 = .ok (.goto 4, 3) := by decide +kernel
theorem dX5_departing_35 : decode cX5_departing 35 = .ok (.iconst 0, 1) := by decide +kernel
theorem dX5_departing_36 : decode cX5_departing 36 = .ok (.iadd, 1) := by decide +kernel
theorem dX5_departing_37 : decode cX5_departing 37 = .ok (.istore_n 1, 1) := by decide +kernel
theorem dX5_departing_38 : decode cX5_departing 38 = .ok (.iinc 2 1, 3) := by decide +kernel
theorem dX5_departing_41 : decode cX5_departing 41 = .ok (.goto (-37), 3) := by decide +kernel
theorem dX5_departing_44 : decode cX5_departing 44 = .ok (.iload_n 1, 1) := by decide +kernel
theorem dX5_departing_45 : decode cX5_departing 45 = .ok (.ireturn, 1) := by decide +kernel
theorem dX5_unequal_0 : decode cX5_unequal 0 = .ok (.iconst 0, 1) := by decide +kernel
theorem dX5_unequal_1 : decode cX5_unequal 1 = .ok (.istore_n 1, 1) := by decide +kernel
theorem dX5_unequal_2 : decode cX5_unequal 2 = .ok (.iconst 0, 1) := by decide +kernel
theorem dX5_unequal_3 : decode cX5_unequal 3 = .ok (.istore_n 2, 1) := by decide +kernel
theorem dX5_unequal_4 : decode cX5_unequal 4 = .ok (.iload_n 2, 1) := by decide +kernel
theorem dX5_unequal_5 : decode cX5_unequal 5 = .ok (.aload_n 0, 1) := by decide +kernel
theorem dX5_unequal_6 : decode cX5_unequal 6 = .ok (.getfield 7, 3) := by decide +kernel
theorem dX5_unequal_9 : decode cX5_unequal 9 = .ok (.iconst 0, 1) := by decide +kernel
theorem dX5_unequal_10 : decode cX5_unequal 10 = .ok (.iaload, 1) := by decide +kernel
theorem dX5_unequal_11 : decode cX5_unequal 11 = .ok (.if_icmp .ge 117, 3) := by decide +kernel
theorem dX5_unequal_14 : decode cX5_unequal 14 = .ok (.iload_n 2, 1) := by decide +kernel
theorem dX5_unequal_15 : decode cX5_unequal 15 = .ok (.iconst 1, 1) := by decide +kernel
theorem dX5_unequal_16 : decode cX5_unequal 16 = .ok (.iadd, 1) := by decide +kernel
theorem dX5_unequal_17 : decode cX5_unequal 17 = .ok (.istore_n 3, 1) := by decide +kernel
theorem dX5_unequal_18 : decode cX5_unequal 18 = .ok (.iload_n 3, 1) := by decide +kernel
theorem dX5_unequal_19 : decode cX5_unequal 19 = .ok (.aload_n 0, 1) := by decide +kernel
theorem dX5_unequal_20 : decode cX5_unequal 20 = .ok (.getfield 7, 3) := by decide +kernel
theorem dX5_unequal_23 : decode cX5_unequal 23 = .ok (.iconst 0, 1) := by decide +kernel
theorem dX5_unequal_24 : decode cX5_unequal 24 = .ok (.iaload, 1) := by decide +kernel
theorem dX5_unequal_25 : decode cX5_unequal 25 = .ok (.if_icmp .ge 97, 3) := by decide +kernel
theorem dX5_unequal_28 : decode cX5_unequal 28 = .ok (.aload_n 0, 1) := by decide +kernel
theorem dX5_unequal_29 : decode cX5_unequal 29 = .ok (.getfield 7, 3) := by decide +kernel
theorem dX5_unequal_32 : decode cX5_unequal 32 = .ok (.iload_n 2, 1) := by decide +kernel
theorem dX5_unequal_33 : decode cX5_unequal 33 = .ok (.invokestatic 54, 3) := by decide +kernel
theorem dX5_unequal_36 : decode cX5_unequal 36 = .ok (.bipush 8, 2) := by decide +kernel
theorem dX5_unequal_38 : decode cX5_unequal 38 = .ok (.iadd, 1) := by decide +kernel
theorem dX5_unequal_39 : decode cX5_unequal 39 = .ok (.iaload, 1) := by decide +kernel
theorem dX5_unequal_40 : decode cX5_unequal 40 = .ok (.iconst (-1), 1) := by decide +kernel
theorem dX5_unequal_41 : decode cX5_unequal 41 = .ok (.if_icmp .eq 34, 3) := by decide +kernel
theorem dX5_unequal_44 : decode cX5_unequal 44 = .ok (.aload_n 0, 1) := by decide +kernel
theorem dX5_unequal_45 : decode cX5_unequal 45 = .ok (.getfield 7, 3) := by decide +kernel
theorem dX5_unequal_48 : decode cX5_unequal 48 = .ok (.iload_n 2, 1) := by decide +kernel
theorem dX5_unequal_49 : decode cX5_unequal 49 = .ok (.invokestatic 54, 3) := by decide +kernel
theorem dX5_unequal_52 : decode cX5_unequal 52 = .ok (.bipush 8, 2) := by decide +kernel
theorem dX5_unequal_54 : decode cX5_unequal 54 = .ok (.iadd, 1) := by decide +kernel
theorem dX5_unequal_55 : decode cX5_unequal 55 = .ok (.iaload, 1) := by decide +kernel
theorem dX5_unequal_56 : decode cX5_unequal 56 = .ok (.aload_n 0, 1) := by decide +kernel
theorem dX5_unequal_57 : decode cX5_unequal 57 = .ok (.getfield 7, 3) := by decide +kernel
theorem dX5_unequal_60 : decode cX5_unequal 60 = .ok (.iload_n 3, 1) := by decide +kernel
theorem dX5_unequal_61 : decode cX5_unequal 61 = .ok (.invokestatic 54, 3) := by decide +kernel
theorem dX5_unequal_64 : decode cX5_unequal 64 = .ok (.bipush 8, 2) := by decide +kernel
theorem dX5_unequal_66 : decode cX5_unequal 66 = .ok (.iadd, 1) := by decide +kernel
theorem dX5_unequal_67 : decode cX5_unequal 67 = .ok (.iaload, 1) := by decide +kernel
theorem dX5_unequal_68 : decode cX5_unequal 68 = .ok (.if_icmp .ne 7, 3) := by decide +kernel
theorem dX5_unequal_71 : decode cX5_unequal 71 = .ok (.iconst 1, 1) := by decide +kernel
theorem dX5_unequal_72 : decode cX5_unequal 72 = .ok (.goto 4, 3) := by decide +kernel
theorem dX5_unequal_75 : decode cX5_unequal 75 = .ok (.iconst 0, 1) := by decide +kernel
theorem dX5_unequal_76 : decode cX5_unequal 76 = .ok (.istore 4, 2) := by decide +kernel
theorem dX5_unequal_78 : decode cX5_unequal 78 = .ok (.iload_n 1, 1) := by decide +kernel
theorem dX5_unequal_79 : decode cX5_unequal 79 = .ok (.iload 4, 2) := by decide +kernel
theorem dX5_unequal_81 : decode cX5_unequal 81 = .ok (.ifCond .eq 32, 3) := by decide +kernel
theorem dX5_unequal_84 : decode cX5_unequal 84 = .ok (.aload_n 0, 1) := by decide +kernel
theorem dX5_unequal_85 : decode cX5_unequal 85 = .ok (.getfield 7, 3) := by decide +kernel
theorem dX5_unequal_88 : decode cX5_unequal 88 = .ok (.iload_n 2, 1) := by decide +kernel
theorem dX5_unequal_89 : decode cX5_unequal 89 = .ok (.invokestatic 54, 3) := by decide +kernel
theorem dX5_unequal_92 : decode cX5_unequal 92 = .ok (.iconst 5, 1) := by decide +kernel
theorem dX5_unequal_93 : decode cX5_unequal 93 = .ok (.iadd, 1) := by decide +kernel
theorem dX5_unequal_94 : decode cX5_unequal 94 = .ok (.iaload, 1) := by decide +kernel
theorem dX5_unequal_95 : decode cX5_unequal 95 = .ok (.aload_n 0, 1) := by decide +kernel
theorem dX5_unequal_96 : decode cX5_unequal 96 = .ok (.getfield 7, 3) := by decide +kernel
theorem dX5_unequal_99 : decode cX5_unequal 99 = .ok (.iload_n 3, 1) := by decide +kernel
theorem dX5_unequal_100 : decode cX5_unequal 100 = .ok (.invokestatic 54, 3) := by decide +kernel
theorem dX5_unequal_103 : decode cX5_unequal 103 = .ok (.iconst 5, 1) := by decide +kernel
theorem dX5_unequal_104 : decode cX5_unequal 104 = .ok (.iadd, 1) := by decide +kernel
theorem dX5_unequal_105 : decode cX5_unequal 105 = .ok (.iaload, 1) := by decide +kernel
theorem dX5_unequal_106 : decode cX5_unequal 106 = .ok (.if_icmp .eq 7, 3) := by decide +kernel
theorem dX5_unequal_109 : decode cX5_unequal 109 = .ok (.iconst 1, 1) := by decide +kernel
theorem dX5_unequal_110 : decode cX5_unequal 110 = .ok (.goto 4, 3) := by decide +kernel
theorem dX5_unequal_113 : decode cX5_unequal 113 = .ok (.iconst 0, 1) := by decide +kernel
theorem dX5_unequal_114 : decode cX5_unequal 114 = .ok (.iadd, 1) := by decide +kernel
theorem dX5_unequal_115 : decode cX5_unequal 115 = .ok (.istore_n 1, 1) := by decide +kernel
theorem dX5_unequal_116 : decode cX5_unequal 116 = .ok (.iinc 3 1, 3) := by decide +kernel
theorem dX5_unequal_119 : decode cX5_unequal 119 = .ok (.goto (-101), 3) := by decide +kernel
theorem dX5_unequal_122 : decode cX5_unequal 122 = .ok (.iinc 2 1, 3) := by decide +kernel
theorem dX5_unequal_125 : decode cX5_unequal 125 = .ok (.goto (-121), 3) := by decide +kernel
theorem dX5_unequal_128 : decode cX5_unequal 128 = .ok (.iload_n 1, 1) := by decide +kernel
theorem dX5_unequal_129 : decode cX5_unequal 129 = .ok (.ireturn, 1) := by decide +kernel
theorem dX5_counted_0 : decode cX5_counted 0 = .ok (.iload_n 1, 1) := by decide +kernel
theorem dX5_counted_1 : decode cX5_counted 1 = .ok (.ifCond .le 16, 3) := by decide +kernel
theorem dX5_counted_4 : decode cX5_counted 4 = .ok (.iload_n 1, 1) := by decide +kernel
theorem dX5_counted_5 : decode cX5_counted 5 = .ok (.iconst 5, 1) := by decide +kernel
theorem dX5_counted_6 : decode cX5_counted 6 = .ok (.if_icmp .ge 11, 3) := by decide +kernel
theorem dX5_counted_9 : decode cX5_counted 9 = .ok (.aload_n 0, 1) := by decide +kernel
theorem dX5_counted_10 : decode cX5_counted 10 = .ok (.iload_n 1, 1) := by decide +kernel
theorem dX5_counted_11 : decode cX5_counted 11 = .ok (.iconst 1, 1) := by decide +kernel
theorem dX5_counted_12 : decode cX5_counted 12 = .ok (.isub, 1) := by decide +kernel
theorem dX5_counted_13 : decode cX5_counted 13 = .ok (.invokevirtual 109, 3) := by decide +kernel
theorem dX5_counted_16 : decode cX5_counted 16 = .ok (.ireturn, 1) := by decide +kernel
theorem dX5_counted_17 : decode cX5_counted 17 = .ok (.iload_n 1, 1) := by decide +kernel
theorem dX5_counted_18 : decode cX5_counted 18 = .ok (.tableswitch 105 0 10 #[58, 105, 105, 105, 105, 65, 72, 80, 88, 93, 100], 58) := by decide +kernel
theorem dX5_counted_76 : decode cX5_counted 76 = .ok (.aload_n 0, 1) := by decide +kernel
theorem dX5_counted_77 : decode cX5_counted 77 = .ok (.getfield 7, 3) := by decide +kernel
theorem dX5_counted_80 : decode cX5_counted 80 = .ok (.iconst 0, 1) := by decide +kernel
theorem dX5_counted_81 : decode cX5_counted 81 = .ok (.iaload, 1) := by decide +kernel
theorem dX5_counted_82 : decode cX5_counted 82 = .ok (.ireturn, 1) := by decide +kernel
theorem dX5_counted_83 : decode cX5_counted 83 = .ok (.aload_n 0, 1) := by decide +kernel
theorem dX5_counted_84 : decode cX5_counted 84 = .ok (.getfield 7, 3) := by decide +kernel
theorem dX5_counted_87 : decode cX5_counted 87 = .ok (.iconst 1, 1) := by decide +kernel
theorem dX5_counted_88 : decode cX5_counted 88 = .ok (.iaload, 1) := by decide +kernel
theorem dX5_counted_89 : decode cX5_counted 89 = .ok (.ireturn, 1) := by decide +kernel
theorem dX5_counted_90 : decode cX5_counted 90 = .ok (.aload_n 0, 1) := by decide +kernel
theorem dX5_counted_91 : decode cX5_counted 91 = .ok (.iconst (-1), 1) := by decide +kernel
theorem dX5_counted_92 : decode cX5_counted 92 = .ok (.bipush 6, 2) := by decide +kernel
theorem dX5_counted_94 : decode cX5_counted 94 = .ok (.invokevirtual 165, 3) := by decide +kernel
theorem dX5_counted_97 : decode cX5_counted 97 = .ok (.ireturn, 1) := by decide +kernel
theorem dX5_counted_98 : decode cX5_counted 98 = .ok (.aload_n 0, 1) := by decide +kernel
theorem dX5_counted_99 : decode cX5_counted 99 = .ok (.iconst (-1), 1) := by decide +kernel
theorem dX5_counted_100 : decode cX5_counted 100 = .ok (.bipush 8, 2) := by decide +kernel
theorem dX5_counted_102 : decode cX5_counted 102 = .ok (.invokevirtual 165, 3) := by decide +kernel
theorem dX5_counted_105 : decode cX5_counted 105 = .ok (.ireturn, 1) := by decide +kernel
theorem dX5_counted_106 : decode cX5_counted 106 = .ok (.aload_n 0, 1) := by decide +kernel
theorem dX5_counted_107 : decode cX5_counted 107 = .ok (.invokevirtual 171, 3) := by decide +kernel
theorem dX5_counted_110 : decode cX5_counted 110 = .ok (.ireturn, 1) := by decide +kernel
theorem dX5_counted_111 : decode cX5_counted 111 = .ok (.aload_n 0, 1) := by decide +kernel
theorem dX5_counted_112 : decode cX5_counted 112 = .ok (.getfield 7, 3) := by decide +kernel
theorem dX5_counted_115 : decode cX5_counted 115 = .ok (.iconst 5, 1) := by decide +kernel
theorem dX5_counted_116 : decode cX5_counted 116 = .ok (.iaload, 1) := by decide +kernel
theorem dX5_counted_117 : decode cX5_counted 117 = .ok (.ireturn, 1) := by decide +kernel
theorem dX5_counted_118 : decode cX5_counted 118 = .ok (.aload_n 0, 1) := by decide +kernel
theorem dX5_counted_119 : decode cX5_counted 119 = .ok (.invokevirtual 174, 3) := by decide +kernel
theorem dX5_counted_122 : decode cX5_counted 122 = .ok (.ireturn, 1) := by decide +kernel
theorem dX5_counted_123 : decode cX5_counted 123 = .ok (.aload_n 0, 1) := by decide +kernel
theorem dX5_counted_124 : decode cX5_counted 124 = .ok (.getfield 33, 3) := by decide +kernel
theorem dX5_counted_127 : decode cX5_counted 127 = .ok (.ireturn, 1) := by decide +kernel
theorem dX5_count_0 : decode cX5_count 0 = .ok (.aload_n 0, 1) := by decide +kernel
theorem dX5_count_1 : decode cX5_count 1 = .ok (.iconst 0, 1) := by decide +kernel
theorem dX5_count_2 : decode cX5_count 2 = .ok (.putfield 29, 3) := by decide +kernel
theorem dX5_count_5 : decode cX5_count 5 = .ok (.iload_n 1, 1) := by decide +kernel
theorem dX5_count_6 : decode cX5_count 6 = .ok (.iconst 0, 1) := by decide +kernel
theorem dX5_count_7 : decode cX5_count 7 = .ok (.bipush 11, 2) := by decide +kernel
theorem dX5_count_9 : decode cX5_count 9 = .ok (.invokestatic 36, 3) := by decide +kernel
theorem dX5_count_12 : decode cX5_count 12 = .ok (.ifCond .eq 11, 3) := by decide +kernel
theorem dX5_count_15 : decode cX5_count 15 = .ok (.aload_n 0, 1) := by decide +kernel
theorem dX5_count_16 : decode cX5_count 16 = .ok (.iload_n 1, 1) := by decide +kernel
theorem dX5_count_17 : decode cX5_count 17 = .ok (.invokevirtual 177, 3) := by decide +kernel
theorem dX5_count_20 : decode cX5_count 20 = .ok (.goto 8, 3) := by decide +kernel
theorem dX5_count_23 : decode cX5_count 23 = .ok (.aload_n 0, 1) := by decide +kernel
theorem dX5_count_24 : decode cX5_count 24 = .ok (.iconst 1, 1) := by decide +kernel
theorem dX5_count_25 : decode cX5_count 25 = .ok (.invokevirtual 64, 3) := by decide +kernel
theorem dX5_count_28 : decode cX5_count 28 = .ok (.ireturn, 1) := by decide +kernel
theorem dX5_setting_0 : decode cX5_setting 0 = .ok (.aload_n 0, 1) := by decide +kernel
theorem dX5_setting_1 : decode cX5_setting 1 = .ok (.iconst 0, 1) := by decide +kernel
theorem dX5_setting_2 : decode cX5_setting 2 = .ok (.putfield 29, 3) := by decide +kernel
theorem dX5_setting_5 : decode cX5_setting 5 = .ok (.iload_n 1, 1) := by decide +kernel
theorem dX5_setting_6 : decode cX5_setting 6 = .ok (.iconst 0, 1) := by decide +kernel
theorem dX5_setting_7 : decode cX5_setting 7 = .ok (.iconst 2, 1) := by decide +kernel
theorem dX5_setting_8 : decode cX5_setting 8 = .ok (.invokestatic 36, 3) := by decide +kernel
theorem dX5_setting_11 : decode cX5_setting 11 = .ok (.ifCond .eq 14, 3) := by decide +kernel
theorem dX5_setting_14 : decode cX5_setting 14 = .ok (.aload_n 0, 1) := by decide +kernel
theorem dX5_setting_15 : decode cX5_setting 15 = .ok (.getfield 7, 3) := by decide +kernel
theorem dX5_setting_18 : decode cX5_setting 18 = .ok (.iconst 2, 1) := by decide +kernel
theorem dX5_setting_19 : decode cX5_setting 19 = .ok (.iload_n 1, 1) := by decide +kernel
theorem dX5_setting_20 : decode cX5_setting 20 = .ok (.iadd, 1) := by decide +kernel
theorem dX5_setting_21 : decode cX5_setting 21 = .ok (.iaload, 1) := by decide +kernel
theorem dX5_setting_22 : decode cX5_setting 22 = .ok (.goto 8, 3) := by decide +kernel
theorem dX5_setting_25 : decode cX5_setting 25 = .ok (.aload_n 0, 1) := by decide +kernel
theorem dX5_setting_26 : decode cX5_setting 26 = .ok (.iconst 1, 1) := by decide +kernel
theorem dX5_setting_27 : decode cX5_setting 27 = .ok (.invokevirtual 64, 3) := by decide +kernel
theorem dX5_setting_30 : decode cX5_setting 30 = .ok (.ireturn, 1) := by decide +kernel
theorem dX5_customerAt_0 : decode cX5_customerAt 0 = .ok (.iconst 0, 1) := by decide +kernel
theorem dX5_customerAt_1 : decode cX5_customerAt 1 = .ok (.istore_n 3, 1) := by decide +kernel
theorem dX5_customerAt_2 : decode cX5_customerAt 2 = .ok (.iconst (-1), 1) := by decide +kernel
theorem dX5_customerAt_3 : decode cX5_customerAt 3 = .ok (.istore 4, 2) := by decide +kernel
theorem dX5_customerAt_5 : decode cX5_customerAt 5 = .ok (.iconst 0, 1) := by decide +kernel
theorem dX5_customerAt_6 : decode cX5_customerAt 6 = .ok (.istore 5, 2) := by decide +kernel
theorem dX5_customerAt_8 : decode cX5_customerAt 8 = .ok (.iload 5, 2) := by decide +kernel
theorem dX5_customerAt_10 : decode cX5_customerAt 10 = .ok (.aload_n 0, 1) := by decide +kernel
theorem dX5_customerAt_11 : decode cX5_customerAt 11 = .ok (.getfield 7, 3) := by decide +kernel
theorem dX5_customerAt_14 : decode cX5_customerAt 14 = .ok (.iconst 0, 1) := by decide +kernel
theorem dX5_customerAt_15 : decode cX5_customerAt 15 = .ok (.iaload, 1) := by decide +kernel
theorem dX5_customerAt_16 : decode cX5_customerAt 16 = .ok (.if_icmp .ge 64, 3) := by decide +kernel
theorem dX5_customerAt_19 : decode cX5_customerAt 19 = .ok (.aload_n 0, 1) := by decide +kernel
theorem dX5_customerAt_20 : decode cX5_customerAt 20 = .ok (.getfield 7, 3) := by decide +kernel
theorem dX5_customerAt_23 : decode cX5_customerAt 23 = .ok (.iload 5, 2) := by decide +kernel
theorem dX5_customerAt_25 : decode cX5_customerAt 25 = .ok (.invokestatic 54, 3) := by decide +kernel
theorem dX5_customerAt_28 : decode cX5_customerAt 28 = .ok (.iconst 2, 1) := by decide +kernel
theorem dX5_customerAt_29 : decode cX5_customerAt 29 = .ok (.iadd, 1) := by decide +kernel
theorem dX5_customerAt_30 : decode cX5_customerAt 30 = .ok (.iaload, 1) := by decide +kernel
theorem dX5_customerAt_31 : decode cX5_customerAt 31 = .ok (.iload_n 1, 1) := by decide +kernel
theorem dX5_customerAt_32 : decode cX5_customerAt 32 = .ok (.if_icmp .ne 7, 3) := by decide +kernel
theorem dX5_customerAt_35 : decode cX5_customerAt 35 = .ok (.iconst 1, 1) := by decide +kernel
theorem dX5_customerAt_36 : decode cX5_customerAt 36 = .ok (.goto 4, 3) := by decide +kernel
theorem dX5_customerAt_39 : decode cX5_customerAt 39 = .ok (.iconst 0, 1) := by decide +kernel
theorem dX5_customerAt_40 : decode cX5_customerAt 40 = .ok (.istore 6, 2) := by decide +kernel
theorem dX5_customerAt_42 : decode cX5_customerAt 42 = .ok (.iload 6, 2) := by decide +kernel
theorem dX5_customerAt_44 : decode cX5_customerAt 44 = .ok (.ifCond .eq 13, 3) := by decide +kernel
theorem dX5_customerAt_47 : decode cX5_customerAt 47 = .ok (.iload_n 3, 1) := by decide +kernel
theorem dX5_customerAt_48 : decode cX5_customerAt 48 = .ok (.iload_n 2, 1) := by decide +kernel
theorem dX5_customerAt_49 : decode cX5_customerAt 49 = .ok (.if_icmp .ne 8, 3) := by decide +kernel
theorem dX5_customerAt_52 : decode cX5_customerAt 52 = .ok (.iload 5, 2) := by decide +kernel
theorem dX5_customerAt_54 : decode cX5_customerAt 54 = .ok (.goto 5, 3) := by decide +kernel
theorem dX5_customerAt_57 : decode cX5_customerAt 57 = .ok (.iload 4, 2) := by decide +kernel
theorem dX5_customerAt_59 : decode cX5_customerAt 59 = .ok (.istore 4, 2) := by decide +kernel
theorem dX5_customerAt_61 : decode cX5_customerAt 61 = .ok (.iload_n 3, 1) := by decide +kernel
theorem dX5_customerAt_62 : decode cX5_customerAt 62 = .ok (.iload 6, 2) := by decide +kernel
theorem dX5_customerAt_64 : decode cX5_customerAt 64 = .ok (.ifCond .eq 7, 3) := by decide +kernel
theorem dX5_customerAt_67 : decode cX5_customerAt 67 = .ok (.iconst 1, 1) := by decide +kernel
theorem dX5_customerAt_68 : decode cX5_customerAt 68 = .ok (.goto 4, 3) := by decide +kernel
theorem dX5_customerAt_71 : decode cX5_customerAt 71 = .ok (.iconst 0, 1) := by decide +kernel
theorem dX5_customerAt_72 : decode cX5_customerAt 72 = .ok (.iadd, 1) := by decide +kernel
theorem dX5_customerAt_73 : decode cX5_customerAt 73 = .ok (.istore_n 3, 1) := by decide +kernel
theorem dX5_customerAt_74 : decode cX5_customerAt 74 = .ok (.iinc 5 1, 3) := by decide +kernel
theorem dX5_customerAt_77 : decode cX5_customerAt 77 = .ok (.goto (-69), 3) := by decide +kernel
theorem dX5_customerAt_80 : decode cX5_customerAt 80 = .ok (.iload 4, 2) := by decide +kernel
theorem dX5_customerAt_82 : decode cX5_customerAt 82 = .ok (.ireturn, 1) := by decide +kernel
theorem dX5_ofCustomer_0 : decode cX5_ofCustomer 0 = .ok (.aload_n 0, 1) := by decide +kernel
theorem dX5_ofCustomer_1 : decode cX5_ofCustomer 1 = .ok (.iconst 0, 1) := by decide +kernel
theorem dX5_ofCustomer_2 : decode cX5_ofCustomer 2 = .ok (.putfield 29, 3) := by decide +kernel
theorem dX5_ofCustomer_5 : decode cX5_ofCustomer 5 = .ok (.iload_n 1, 1) := by decide +kernel
theorem dX5_ofCustomer_6 : decode cX5_ofCustomer 6 = .ok (.iconst 0, 1) := by decide +kernel
theorem dX5_ofCustomer_7 : decode cX5_ofCustomer 7 = .ok (.bipush 9, 2) := by decide +kernel
theorem dX5_ofCustomer_9 : decode cX5_ofCustomer 9 = .ok (.invokestatic 36, 3) := by decide +kernel
theorem dX5_ofCustomer_12 : decode cX5_ofCustomer 12 = .ok (.ifCond .ne 9, 3) := by decide +kernel
theorem dX5_ofCustomer_15 : decode cX5_ofCustomer 15 = .ok (.aload_n 0, 1) := by decide +kernel
theorem dX5_ofCustomer_16 : decode cX5_ofCustomer 16 = .ok (.iconst 1, 1) := by decide +kernel
theorem dX5_ofCustomer_17 : decode cX5_ofCustomer 17 = .ok (.invokevirtual 64, 3) := by decide +kernel
theorem dX5_ofCustomer_20 : decode cX5_ofCustomer 20 = .ok (.ireturn, 1) := by decide +kernel
theorem dX5_ofCustomer_21 : decode cX5_ofCustomer 21 = .ok (.iload_n 2, 1) := by decide +kernel
theorem dX5_ofCustomer_22 : decode cX5_ofCustomer 22 = .ok (.iconst 0, 1) := by decide +kernel
theorem dX5_ofCustomer_23 : decode cX5_ofCustomer 23 = .ok (.bipush 23, 2) := by decide +kernel
theorem dX5_ofCustomer_25 : decode cX5_ofCustomer 25 = .ok (.invokestatic 36, 3) := by decide +kernel
theorem dX5_ofCustomer_28 : decode cX5_ofCustomer 28 = .ok (.ifCond .eq 12, 3) := by decide +kernel
theorem dX5_ofCustomer_31 : decode cX5_ofCustomer 31 = .ok (.aload_n 0, 1) := by decide +kernel
theorem dX5_ofCustomer_32 : decode cX5_ofCustomer 32 = .ok (.iload_n 1, 1) := by decide +kernel
theorem dX5_ofCustomer_33 : decode cX5_ofCustomer 33 = .ok (.iload_n 2, 1) := by decide +kernel
theorem dX5_ofCustomer_34 : decode cX5_ofCustomer 34 = .ok (.invokevirtual 180, 3) := by decide +kernel
theorem dX5_ofCustomer_37 : decode cX5_ofCustomer 37 = .ok (.goto 8, 3) := by decide +kernel
theorem dX5_ofCustomer_40 : decode cX5_ofCustomer 40 = .ok (.aload_n 0, 1) := by decide +kernel
theorem dX5_ofCustomer_41 : decode cX5_ofCustomer 41 = .ok (.iconst 2, 1) := by decide +kernel
theorem dX5_ofCustomer_42 : decode cX5_ofCustomer 42 = .ok (.invokevirtual 64, 3) := by decide +kernel
theorem dX5_ofCustomer_45 : decode cX5_ofCustomer 45 = .ok (.ireturn, 1) := by decide +kernel
theorem dX5_whyNot_0 : decode cX5_whyNot 0 = .ok (.aload_n 0, 1) := by decide +kernel
theorem dX5_whyNot_1 : decode cX5_whyNot 1 = .ok (.iconst 0, 1) := by decide +kernel
theorem dX5_whyNot_2 : decode cX5_whyNot 2 = .ok (.putfield 29, 3) := by decide +kernel
theorem dX5_whyNot_5 : decode cX5_whyNot 5 = .ok (.aload_n 0, 1) := by decide +kernel
theorem dX5_whyNot_6 : decode cX5_whyNot 6 = .ok (.iload_n 1, 1) := by decide +kernel
theorem dX5_whyNot_7 : decode cX5_whyNot 7 = .ok (.invokevirtual 99, 3) := by decide +kernel
theorem dX5_whyNot_10 : decode cX5_whyNot 10 = .ok (.ifCond .ne 9, 3) := by decide +kernel
theorem dX5_whyNot_13 : decode cX5_whyNot 13 = .ok (.aload_n 0, 1) := by decide +kernel
theorem dX5_whyNot_14 : decode cX5_whyNot 14 = .ok (.iconst 1, 1) := by decide +kernel
theorem dX5_whyNot_15 : decode cX5_whyNot 15 = .ok (.invokevirtual 64, 3) := by decide +kernel
theorem dX5_whyNot_18 : decode cX5_whyNot 18 = .ok (.ireturn, 1) := by decide +kernel
theorem dX5_whyNot_19 : decode cX5_whyNot 19 = .ok (.iload_n 3, 1) := by decide +kernel
theorem dX5_whyNot_20 : decode cX5_whyNot 20 = .ok (.iconst (-1), 1) := by decide +kernel
theorem dX5_whyNot_21 : decode cX5_whyNot 21 = .ok (.iconst 5, 1) := by decide +kernel
theorem dX5_whyNot_22 : decode cX5_whyNot 22 = .ok (.invokestatic 36, 3) := by decide +kernel
theorem dX5_whyNot_25 : decode cX5_whyNot 25 = .ok (.ifCond .eq 13, 3) := by decide +kernel
theorem dX5_whyNot_28 : decode cX5_whyNot 28 = .ok (.aload_n 0, 1) := by decide +kernel
theorem dX5_whyNot_29 : decode cX5_whyNot 29 = .ok (.iload_n 1, 1) := by decide +kernel
theorem dX5_whyNot_30 : decode cX5_whyNot 30 = .ok (.iload_n 2, 1) := by decide +kernel
theorem dX5_whyNot_31 : decode cX5_whyNot 31 = .ok (.iload_n 3, 1) := by decide +kernel
theorem dX5_whyNot_32 : decode cX5_whyNot 32 = .ok (.invokevirtual 183, 3) := by decide +kernel
theorem dX5_whyNot_35 : decode cX5_whyNot 35 = .ok (.goto 8, 3) := by decide +kernel
theorem dX5_whyNot_38 : decode cX5_whyNot 38 = .ok (.aload_n 0, 1) := by decide +kernel
theorem dX5_whyNot_39 : decode cX5_whyNot 39 = .ok (.iconst 2, 1) := by decide +kernel
theorem dX5_whyNot_40 : decode cX5_whyNot 40 = .ok (.invokevirtual 64, 3) := by decide +kernel
theorem dX5_whyNot_43 : decode cX5_whyNot 43 = .ok (.ireturn, 1) := by decide +kernel
theorem dX5_fairOf_0 : decode cX5_fairOf 0 = .ok (.aload_n 0, 1) := by decide +kernel
theorem dX5_fairOf_1 : decode cX5_fairOf 1 = .ok (.getfield 7, 3) := by decide +kernel
theorem dX5_fairOf_4 : decode cX5_fairOf 4 = .ok (.iload_n 1, 1) := by decide +kernel
theorem dX5_fairOf_5 : decode cX5_fairOf 5 = .ok (.invokestatic 54, 3) := by decide +kernel
theorem dX5_fairOf_8 : decode cX5_fairOf 8 = .ok (.iaload, 1) := by decide +kernel
theorem dX5_fairOf_9 : decode cX5_fairOf 9 = .ok (.istore_n 2, 1) := by decide +kernel
theorem dX5_fairOf_10 : decode cX5_fairOf 10 = .ok (.iconst (-1), 1) := by decide +kernel
theorem dX5_fairOf_11 : decode cX5_fairOf 11 = .ok (.istore_n 3, 1) := by decide +kernel
theorem dX5_fairOf_12 : decode cX5_fairOf 12 = .ok (.iconst 0, 1) := by decide +kernel
theorem dX5_fairOf_13 : decode cX5_fairOf 13 = .ok (.istore 4, 2) := by decide +kernel
theorem dX5_fairOf_15 : decode cX5_fairOf 15 = .ok (.iload 4, 2) := by decide +kernel
theorem dX5_fairOf_17 : decode cX5_fairOf 17 = .ok (.aload_n 0, 1) := by decide +kernel
theorem dX5_fairOf_18 : decode cX5_fairOf 18 = .ok (.getfield 7, 3) := by decide +kernel
theorem dX5_fairOf_21 : decode cX5_fairOf 21 = .ok (.iload_n 2, 1) := by decide +kernel
theorem dX5_fairOf_22 : decode cX5_fairOf 22 = .ok (.invokestatic 25, 3) := by decide +kernel
theorem dX5_fairOf_25 : decode cX5_fairOf 25 = .ok (.iconst 3, 1) := by decide +kernel
theorem dX5_fairOf_26 : decode cX5_fairOf 26 = .ok (.iadd, 1) := by decide +kernel
theorem dX5_fairOf_27 : decode cX5_fairOf 27 = .ok (.iaload, 1) := by decide +kernel
theorem dX5_fairOf_28 : decode cX5_fairOf 28 = .ok (.if_icmp .ge 60, 3) := by decide +kernel
theorem dX5_fairOf_31 : decode cX5_fairOf 31 = .ok (.aload_n 0, 1) := by decide +kernel
theorem dX5_fairOf_32 : decode cX5_fairOf 32 = .ok (.iload_n 1, 1) := by decide +kernel
theorem dX5_fairOf_33 : decode cX5_fairOf 33 = .ok (.iload 4, 2) := by decide +kernel
theorem dX5_fairOf_35 : decode cX5_fairOf 35 = .ok (.iconst 0, 1) := by decide +kernel
theorem dX5_fairOf_36 : decode cX5_fairOf 36 = .ok (.invokevirtual 95, 3) := by decide +kernel
theorem dX5_fairOf_39 : decode cX5_fairOf 39 = .ok (.ifCond .ne 7, 3) := by decide +kernel
theorem dX5_fairOf_42 : decode cX5_fairOf 42 = .ok (.iconst 1, 1) := by decide +kernel
theorem dX5_fairOf_43 : decode cX5_fairOf 43 = .ok (.goto 4, 3) := by decide +kernel
theorem dX5_fairOf_46 : decode cX5_fairOf 46 = .ok (.iconst 0, 1) := by decide +kernel
theorem dX5_fairOf_47 : decode cX5_fairOf 47 = .ok (.istore 5, 2) := by decide +kernel
theorem dX5_fairOf_49 : decode cX5_fairOf 49 = .ok (.iload 5, 2) := by decide +kernel
theorem dX5_fairOf_51 : decode cX5_fairOf 51 = .ok (.ifCond .eq 29, 3) := by decide +kernel
theorem dX5_fairOf_54 : decode cX5_fairOf 54 = .ok (.iload_n 3, 1) := by decide +kernel
theorem dX5_fairOf_55 : decode cX5_fairOf 55 = .ok (.iconst (-1), 1) := by decide +kernel
theorem dX5_fairOf_56 : decode cX5_fairOf 56 = .ok (.if_icmp .eq 19, 3) := by decide +kernel
theorem dX5_fairOf_59 : decode cX5_fairOf 59 = .ok (.aload_n 0, 1) := by decide +kernel
theorem dX5_fairOf_60 : decode cX5_fairOf 60 = .ok (.iload_n 2, 1) := by decide +kernel
theorem dX5_fairOf_61 : decode cX5_fairOf 61 = .ok (.iload 4, 2) := by decide +kernel
theorem dX5_fairOf_63 : decode cX5_fairOf 63 = .ok (.invokevirtual 57, 3) := by decide +kernel
theorem dX5_fairOf_66 : decode cX5_fairOf 66 = .ok (.aload_n 0, 1) := by decide +kernel
theorem dX5_fairOf_67 : decode cX5_fairOf 67 = .ok (.iload_n 2, 1) := by decide +kernel
theorem dX5_fairOf_68 : decode cX5_fairOf 68 = .ok (.iload_n 3, 1) := by decide +kernel
theorem dX5_fairOf_69 : decode cX5_fairOf 69 = .ok (.invokevirtual 57, 3) := by decide +kernel
theorem dX5_fairOf_72 : decode cX5_fairOf 72 = .ok (.if_icmp .ge 8, 3) := by decide +kernel
theorem dX5_fairOf_75 : decode cX5_fairOf 75 = .ok (.iload 4, 2) := by decide +kernel
theorem dX5_fairOf_77 : decode cX5_fairOf 77 = .ok (.goto 4, 3) := by decide +kernel
theorem dX5_fairOf_80 : decode cX5_fairOf 80 = .ok (.iload_n 3, 1) := by decide +kernel
theorem dX5_fairOf_81 : decode cX5_fairOf 81 = .ok (.istore_n 3, 1) := by decide +kernel
theorem dX5_fairOf_82 : decode cX5_fairOf 82 = .ok (.iinc 4 1, 3) := by decide +kernel
theorem dX5_fairOf_85 : decode cX5_fairOf 85 = .ok (.goto (-70), 3) := by decide +kernel
theorem dX5_fairOf_88 : decode cX5_fairOf 88 = .ok (.iload_n 3, 1) := by decide +kernel
theorem dX5_fairOf_89 : decode cX5_fairOf 89 = .ok (.ireturn, 1) := by decide +kernel
theorem dX5_fair_0 : decode cX5_fair 0 = .ok (.aload_n 0, 1) := by decide +kernel
theorem dX5_fair_1 : decode cX5_fair 1 = .ok (.iconst 0, 1) := by decide +kernel
theorem dX5_fair_2 : decode cX5_fair 2 = .ok (.putfield 29, 3) := by decide +kernel
theorem dX5_fair_5 : decode cX5_fair 5 = .ok (.aload_n 0, 1) := by decide +kernel
theorem dX5_fair_6 : decode cX5_fair 6 = .ok (.iload_n 1, 1) := by decide +kernel
theorem dX5_fair_7 : decode cX5_fair 7 = .ok (.invokevirtual 99, 3) := by decide +kernel
theorem dX5_fair_10 : decode cX5_fair 10 = .ok (.ifCond .eq 11, 3) := by decide +kernel
theorem dX5_fair_13 : decode cX5_fair 13 = .ok (.aload_n 0, 1) := by decide +kernel
theorem dX5_fair_14 : decode cX5_fair 14 = .ok (.iload_n 1, 1) := by decide +kernel
theorem dX5_fair_15 : decode cX5_fair 15 = .ok (.invokevirtual 186, 3) := by decide +kernel
theorem dX5_fair_18 : decode cX5_fair 18 = .ok (.goto 8, 3) := by decide +kernel
theorem dX5_fair_21 : decode cX5_fair 21 = .ok (.aload_n 0, 1) := by decide +kernel
theorem dX5_fair_22 : decode cX5_fair 22 = .ok (.iconst 1, 1) := by decide +kernel
theorem dX5_fair_23 : decode cX5_fair 23 = .ok (.invokevirtual 64, 3) := by decide +kernel
theorem dX5_fair_26 : decode cX5_fair 26 = .ok (.ireturn, 1) := by decide +kernel
theorem dX5_judgedOf_0 : decode cX5_judgedOf 0 = .ok (.aload_n 0, 1) := by decide +kernel
theorem dX5_judgedOf_1 : decode cX5_judgedOf 1 = .ok (.iload_n 1, 1) := by decide +kernel
theorem dX5_judgedOf_2 : decode cX5_judgedOf 2 = .ok (.iload_n 2, 1) := by decide +kernel
theorem dX5_judgedOf_3 : decode cX5_judgedOf 3 = .ok (.invokevirtual 92, 3) := by decide +kernel
theorem dX5_judgedOf_6 : decode cX5_judgedOf 6 = .ok (.ifCond .eq 5, 3) := by decide +kernel
theorem dX5_judgedOf_9 : decode cX5_judgedOf 9 = .ok (.iconst (-1), 1) := by decide +kernel
theorem dX5_judgedOf_10 : decode cX5_judgedOf 10 = .ok (.ireturn, 1) := by decide +kernel
theorem dX5_judgedOf_11 : decode cX5_judgedOf 11 = .ok (.aload_n 0, 1) := by decide +kernel
theorem dX5_judgedOf_12 : decode cX5_judgedOf 12 = .ok (.invokevirtual 189, 3) := by decide +kernel
theorem dX5_judgedOf_15 : decode cX5_judgedOf 15 = .ok (.aload_n 0, 1) := by decide +kernel
theorem dX5_judgedOf_16 : decode cX5_judgedOf 16 = .ok (.iload_n 1, 1) := by decide +kernel
theorem dX5_judgedOf_17 : decode cX5_judgedOf 17 = .ok (.iload_n 2, 1) := by decide +kernel
theorem dX5_judgedOf_18 : decode cX5_judgedOf 18 = .ok (.invokevirtual 121, 3) := by decide +kernel
theorem dX5_judgedOf_21 : decode cX5_judgedOf 21 = .ok (.istore 4, 2) := by decide +kernel
theorem dX5_judgedOf_23 : decode cX5_judgedOf 23 = .ok (.iload_n 3, 1) := by decide +kernel
theorem dX5_judgedOf_24 : decode cX5_judgedOf 24 = .ok (.ifCond .ne 8, 3) := by decide +kernel
theorem dX5_judgedOf_27 : decode cX5_judgedOf 27 = .ok (.iload 4, 2) := by decide +kernel
theorem dX5_judgedOf_29 : decode cX5_judgedOf 29 = .ok (.goto 32, 3) := by decide +kernel
theorem dX5_judgedOf_32 : decode cX5_judgedOf 32 = .ok (.iload_n 3, 1) := by decide +kernel
theorem dX5_judgedOf_33 : decode cX5_judgedOf 33 = .ok (.iconst 1, 1) := by decide +kernel
theorem dX5_judgedOf_34 : decode cX5_judgedOf 34 = .ok (.if_icmp .ne 10, 3) := by decide +kernel
theorem dX5_judgedOf_37 : decode cX5_judgedOf 37 = .ok (.aload_n 0, 1) := by decide +kernel
theorem dX5_judgedOf_38 : decode cX5_judgedOf 38 = .ok (.getfield 112, 3) := by decide +kernel
theorem dX5_judgedOf_41 : decode cX5_judgedOf 41 = .ok (.goto 20, 3) := by decide +kernel
theorem dX5_judgedOf_44 : decode cX5_judgedOf 44 = .ok (.aload_n 0, 1) := by decide +kernel
theorem dX5_judgedOf_45 : decode cX5_judgedOf 45 = .ok (.iconst (-1), 1) := by decide +kernel
theorem dX5_judgedOf_46 : decode cX5_judgedOf 46 = .ok (.iload_n 3, 1) := by decide +kernel
theorem dX5_judgedOf_47 : decode cX5_judgedOf 47 = .ok (.iconst 2, 1) := by decide +kernel
theorem dX5_judgedOf_48 : decode cX5_judgedOf 48 = .ok (.if_icmp .ne 8, 3) := by decide +kernel
theorem dX5_judgedOf_51 : decode cX5_judgedOf 51 = .ok (.bipush 8, 2) := by decide +kernel
theorem dX5_judgedOf_53 : decode cX5_judgedOf 53 = .ok (.goto 5, 3) := by decide +kernel
theorem dX5_judgedOf_56 : decode cX5_judgedOf 56 = .ok (.bipush 7, 2) := by decide +kernel
theorem dX5_judgedOf_58 : decode cX5_judgedOf 58 = .ok (.invokevirtual 165, 3) := by decide +kernel
theorem dX5_judgedOf_61 : decode cX5_judgedOf 61 = .ok (.istore 5, 2) := by decide +kernel
theorem dX5_judgedOf_63 : decode cX5_judgedOf 63 = .ok (.aload_n 0, 1) := by decide +kernel
theorem dX5_judgedOf_64 : decode cX5_judgedOf 64 = .ok (.invokevirtual 192, 3) := by decide +kernel
theorem dX5_judgedOf_67 : decode cX5_judgedOf 67 = .ok (.iload 5, 2) := by decide +kernel
theorem dX5_judgedOf_69 : decode cX5_judgedOf 69 = .ok (.ireturn, 1) := by decide +kernel
theorem dX5_ifJudged_0 : decode cX5_ifJudged 0 = .ok (.aload_n 0, 1) := by decide +kernel
theorem dX5_ifJudged_1 : decode cX5_ifJudged 1 = .ok (.iconst 0, 1) := by decide +kernel
theorem dX5_ifJudged_2 : decode cX5_ifJudged 2 = .ok (.putfield 29, 3) := by decide +kernel
theorem dX5_ifJudged_5 : decode cX5_ifJudged 5 = .ok (.aload_n 0, 1) := by decide +kernel
theorem dX5_ifJudged_6 : decode cX5_ifJudged 6 = .ok (.iload_n 1, 1) := by decide +kernel
theorem dX5_ifJudged_7 : decode cX5_ifJudged 7 = .ok (.invokevirtual 99, 3) := by decide +kernel
theorem dX5_ifJudged_10 : decode cX5_ifJudged 10 = .ok (.ifCond .ne 9, 3) := by decide +kernel
theorem dX5_ifJudged_13 : decode cX5_ifJudged 13 = .ok (.aload_n 0, 1) := by decide +kernel
theorem dX5_ifJudged_14 : decode cX5_ifJudged 14 = .ok (.iconst 1, 1) := by decide +kernel
theorem dX5_ifJudged_15 : decode cX5_ifJudged 15 = .ok (.invokevirtual 64, 3) := by decide +kernel
theorem dX5_ifJudged_18 : decode cX5_ifJudged 18 = .ok (.ireturn, 1) := by decide +kernel
theorem dX5_ifJudged_19 : decode cX5_ifJudged 19 = .ok (.iload_n 3, 1) := by decide +kernel
theorem dX5_ifJudged_20 : decode cX5_ifJudged 20 = .ok (.iconst 0, 1) := by decide +kernel
theorem dX5_ifJudged_21 : decode cX5_ifJudged 21 = .ok (.iconst 3, 1) := by decide +kernel
theorem dX5_ifJudged_22 : decode cX5_ifJudged 22 = .ok (.invokestatic 36, 3) := by decide +kernel
theorem dX5_ifJudged_25 : decode cX5_ifJudged 25 = .ok (.ifCond .eq 13, 3) := by decide +kernel
theorem dX5_ifJudged_28 : decode cX5_ifJudged 28 = .ok (.aload_n 0, 1) := by decide +kernel
theorem dX5_ifJudged_29 : decode cX5_ifJudged 29 = .ok (.iload_n 1, 1) := by decide +kernel
theorem dX5_ifJudged_30 : decode cX5_ifJudged 30 = .ok (.iload_n 2, 1) := by decide +kernel
theorem dX5_ifJudged_31 : decode cX5_ifJudged 31 = .ok (.iload_n 3, 1) := by decide +kernel
theorem dX5_ifJudged_32 : decode cX5_ifJudged 32 = .ok (.invokevirtual 195, 3) := by decide +kernel
theorem dX5_ifJudged_35 : decode cX5_ifJudged 35 = .ok (.goto 8, 3) := by decide +kernel
theorem dX5_ifJudged_38 : decode cX5_ifJudged 38 = .ok (.aload_n 0, 1) := by decide +kernel
theorem dX5_ifJudged_39 : decode cX5_ifJudged 39 = .ok (.iconst 2, 1) := by decide +kernel
theorem dX5_ifJudged_40 : decode cX5_ifJudged 40 = .ok (.invokevirtual 64, 3) := by decide +kernel
theorem dX5_ifJudged_43 : decode cX5_ifJudged 43 = .ok (.ireturn, 1) := by decide +kernel
theorem dX5_monthsOf_0 : decode cX5_monthsOf 0 = .ok (.aload_n 0, 1) := by decide +kernel
theorem dX5_monthsOf_1 : decode cX5_monthsOf 1 = .ok (.invokevirtual 189, 3) := by decide +kernel
theorem dX5_monthsOf_4 : decode cX5_monthsOf 4 = .ok (.iconst 0, 1) := by decide +kernel
theorem dX5_monthsOf_5 : decode cX5_monthsOf 5 = .ok (.istore_n 1, 1) := by decide +kernel
theorem dX5_monthsOf_6 : decode cX5_monthsOf 6 = .ok (.iload_n 1, 1) := by decide +kernel
theorem dX5_monthsOf_7 : decode cX5_monthsOf 7 = .ok (.bipush 24, 2) := by decide +kernel
theorem dX5_monthsOf_9 : decode cX5_monthsOf 9 = .ok (.if_icmp .gt 24, 3) := by decide +kernel
theorem dX5_monthsOf_12 : decode cX5_monthsOf 12 = .ok (.aload_n 0, 1) := by decide +kernel
theorem dX5_monthsOf_13 : decode cX5_monthsOf 13 = .ok (.iconst (-1), 1) := by decide +kernel
theorem dX5_monthsOf_14 : decode cX5_monthsOf 14 = .ok (.bipush 8, 2) := by decide +kernel
theorem dX5_monthsOf_16 : decode cX5_monthsOf 16 = .ok (.invokevirtual 165, 3) := by decide +kernel
theorem dX5_monthsOf_19 : decode cX5_monthsOf 19 = .ok (.ifCond .le 14, 3) := by decide +kernel
theorem dX5_monthsOf_22 : decode cX5_monthsOf 22 = .ok (.aload_n 0, 1) := by decide +kernel
theorem dX5_monthsOf_23 : decode cX5_monthsOf 23 = .ok (.invokevirtual 124, 3) := by decide +kernel
theorem dX5_monthsOf_26 : decode cX5_monthsOf 26 = .ok (.pop, 1) := by decide +kernel
theorem dX5_monthsOf_27 : decode cX5_monthsOf 27 = .ok (.iinc 1 1, 3) := by decide +kernel
theorem dX5_monthsOf_30 : decode cX5_monthsOf 30 = .ok (.goto (-24), 3) := by decide +kernel
theorem dX5_monthsOf_33 : decode cX5_monthsOf 33 = .ok (.aload_n 0, 1) := by decide +kernel
theorem dX5_monthsOf_34 : decode cX5_monthsOf 34 = .ok (.invokevirtual 192, 3) := by decide +kernel
theorem dX5_monthsOf_37 : decode cX5_monthsOf 37 = .ok (.iload_n 1, 1) := by decide +kernel
theorem dX5_monthsOf_38 : decode cX5_monthsOf 38 = .ok (.bipush 24, 2) := by decide +kernel
theorem dX5_monthsOf_40 : decode cX5_monthsOf 40 = .ok (.if_icmp .le 7, 3) := by decide +kernel
theorem dX5_monthsOf_43 : decode cX5_monthsOf 43 = .ok (.iconst (-1), 1) := by decide +kernel
theorem dX5_monthsOf_44 : decode cX5_monthsOf 44 = .ok (.goto 4, 3) := by decide +kernel
theorem dX5_monthsOf_47 : decode cX5_monthsOf 47 = .ok (.iload_n 1, 1) := by decide +kernel
theorem dX5_monthsOf_48 : decode cX5_monthsOf 48 = .ok (.ireturn, 1) := by decide +kernel
theorem dX5_monthsToEqual_0 : decode cX5_monthsToEqual 0 = .ok (.aload_n 0, 1) := by decide +kernel
theorem dX5_monthsToEqual_1 : decode cX5_monthsToEqual 1 = .ok (.iconst 0, 1) := by decide +kernel
theorem dX5_monthsToEqual_2 : decode cX5_monthsToEqual 2 = .ok (.putfield 29, 3) := by decide +kernel
theorem dX5_monthsToEqual_5 : decode cX5_monthsToEqual 5 = .ok (.aload_n 0, 1) := by decide +kernel
theorem dX5_monthsToEqual_6 : decode cX5_monthsToEqual 6 = .ok (.invokevirtual 198, 3) := by decide +kernel
theorem dX5_monthsToEqual_9 : decode cX5_monthsToEqual 9 = .ok (.ireturn, 1) := by decide +kernel
theorem dX5_shareOf_0 : decode cX5_shareOf 0 = .ok (.aload_n 0, 1) := by decide +kernel
theorem dX5_shareOf_1 : decode cX5_shareOf 1 = .ok (.getfield 7, 3) := by decide +kernel
theorem dX5_shareOf_4 : decode cX5_shareOf 4 = .ok (.iconst 0, 1) := by decide +kernel
theorem dX5_shareOf_5 : decode cX5_shareOf 5 = .ok (.iaload, 1) := by decide +kernel
theorem dX5_shareOf_6 : decode cX5_shareOf 6 = .ok (.aload_n 0, 1) := by decide +kernel
theorem dX5_shareOf_7 : decode cX5_shareOf 7 = .ok (.iconst 0, 1) := by decide +kernel
theorem dX5_shareOf_8 : decode cX5_shareOf 8 = .ok (.invokevirtual 109, 3) := by decide +kernel
theorem dX5_shareOf_11 : decode cX5_shareOf 11 = .ok (.isub, 1) := by decide +kernel
theorem dX5_shareOf_12 : decode cX5_shareOf 12 = .ok (.istore_n 1, 1) := by decide +kernel
theorem dX5_shareOf_13 : decode cX5_shareOf 13 = .ok (.iload_n 1, 1) := by decide +kernel
theorem dX5_shareOf_14 : decode cX5_shareOf 14 = .ok (.ifCond .ne 7, 3) := by decide +kernel
theorem dX5_shareOf_17 : decode cX5_shareOf 17 = .ok (.dconst 1, 1) := by decide +kernel
theorem dX5_shareOf_18 : decode cX5_shareOf 18 = .ok (.goto 13, 3) := by decide +kernel
theorem dX5_shareOf_21 : decode cX5_shareOf 21 = .ok (.iload_n 1, 1) := by decide +kernel
theorem dX5_shareOf_22 : decode cX5_shareOf 22 = .ok (.aload_n 0, 1) := by decide +kernel
theorem dX5_shareOf_23 : decode cX5_shareOf 23 = .ok (.invokevirtual 171, 3) := by decide +kernel
theorem dX5_shareOf_26 : decode cX5_shareOf 26 = .ok (.isub, 1) := by decide +kernel
theorem dX5_shareOf_27 : decode cX5_shareOf 27 = .ok (.i2d, 1) := by decide +kernel
theorem dX5_shareOf_28 : decode cX5_shareOf 28 = .ok (.iload_n 1, 1) := by decide +kernel
theorem dX5_shareOf_29 : decode cX5_shareOf 29 = .ok (.i2d, 1) := by decide +kernel
theorem dX5_shareOf_30 : decode cX5_shareOf 30 = .ok (.ddiv, 1) := by decide +kernel
theorem dX5_shareOf_31 : decode cX5_shareOf 31 = .ok (.dreturn, 1) := by decide +kernel
theorem dX5_followShare_0 : decode cX5_followShare 0 = .ok (.aload_n 0, 1) := by decide +kernel
theorem dX5_followShare_1 : decode cX5_followShare 1 = .ok (.iconst 0, 1) := by decide +kernel
theorem dX5_followShare_2 : decode cX5_followShare 2 = .ok (.putfield 29, 3) := by decide +kernel
theorem dX5_followShare_5 : decode cX5_followShare 5 = .ok (.aload_n 0, 1) := by decide +kernel
theorem dX5_followShare_6 : decode cX5_followShare 6 = .ok (.invokevirtual 201, 3) := by decide +kernel
theorem dX5_followShare_9 : decode cX5_followShare 9 = .ok (.dreturn, 1) := by decide +kernel
theorem dX5_mix_0 : decode cX5_mix 0 = .ok (.aload_n 0, 1) := by decide +kernel
theorem dX5_mix_1 : decode cX5_mix 1 = .ok (.ldc2_w 205, 3) := by decide +kernel
theorem dX5_mix_4 : decode cX5_mix 4 = .ok (.aload_n 0, 1) := by decide +kernel
theorem dX5_mix_5 : decode cX5_mix 5 = .ok (.getfield 207, 3) := by decide +kernel
theorem dX5_mix_8 : decode cX5_mix 8 = .ok (.lmul, 1) := by decide +kernel
theorem dX5_mix_9 : decode cX5_mix 9 = .ok (.lload_n 1, 1) := by decide +kernel
theorem dX5_mix_10 : decode cX5_mix 10 = .ok (.ladd, 1) := by decide +kernel
theorem dX5_mix_11 : decode cX5_mix 11 = .ok (.putfield 207, 3) := by decide +kernel
theorem dX5_mix_14 : decode cX5_mix 14 = .ok (.return_, 1) := by decide +kernel
theorem dX5_mixKind_0 : decode cX5_mixKind 0 = .ok (.iconst 0, 1) := by decide +kernel
theorem dX5_mixKind_1 : decode cX5_mixKind 1 = .ok (.istore_n 2, 1) := by decide +kernel
theorem dX5_mixKind_2 : decode cX5_mixKind 2 = .ok (.iload_n 2, 1) := by decide +kernel
theorem dX5_mixKind_3 : decode cX5_mixKind 3 = .ok (.bipush 8, 2) := by decide +kernel
theorem dX5_mixKind_5 : decode cX5_mixKind 5 = .ok (.if_icmp .ge 20, 3) := by decide +kernel
theorem dX5_mixKind_8 : decode cX5_mixKind 8 = .ok (.aload_n 0, 1) := by decide +kernel
theorem dX5_mixKind_9 : decode cX5_mixKind 9 = .ok (.aload_n 0, 1) := by decide +kernel
theorem dX5_mixKind_10 : decode cX5_mixKind 10 = .ok (.iload_n 1, 1) := by decide +kernel
theorem dX5_mixKind_11 : decode cX5_mixKind 11 = .ok (.iload_n 2, 1) := by decide +kernel
theorem dX5_mixKind_12 : decode cX5_mixKind 12 = .ok (.invokevirtual 168, 3) := by decide +kernel
theorem dX5_mixKind_15 : decode cX5_mixKind 15 = .ok (.i2l, 1) := by decide +kernel
theorem dX5_mixKind_16 : decode cX5_mixKind 16 = .ok (.invokevirtual 211, 3) := by decide +kernel
theorem dX5_mixKind_19 : decode cX5_mixKind 19 = .ok (.iinc 2 1, 3) := by decide +kernel
theorem dX5_mixKind_22 : decode cX5_mixKind 22 = .ok (.goto (-20), 3) := by decide +kernel
theorem dX5_mixKind_25 : decode cX5_mixKind 25 = .ok (.iconst 0, 1) := by decide +kernel
theorem dX5_mixKind_26 : decode cX5_mixKind 26 = .ok (.istore_n 2, 1) := by decide +kernel
theorem dX5_mixKind_27 : decode cX5_mixKind 27 = .ok (.iload_n 2, 1) := by decide +kernel
theorem dX5_mixKind_28 : decode cX5_mixKind 28 = .ok (.iconst 5, 1) := by decide +kernel
theorem dX5_mixKind_29 : decode cX5_mixKind 29 = .ok (.aload_n 0, 1) := by decide +kernel
theorem dX5_mixKind_30 : decode cX5_mixKind 30 = .ok (.getfield 7, 3) := by decide +kernel
theorem dX5_mixKind_33 : decode cX5_mixKind 33 = .ok (.iload_n 1, 1) := by decide +kernel
theorem dX5_mixKind_34 : decode cX5_mixKind 34 = .ok (.invokestatic 25, 3) := by decide +kernel
theorem dX5_mixKind_37 : decode cX5_mixKind 37 = .ok (.iconst 3, 1) := by decide +kernel
theorem dX5_mixKind_38 : decode cX5_mixKind 38 = .ok (.iadd, 1) := by decide +kernel
theorem dX5_mixKind_39 : decode cX5_mixKind 39 = .ok (.iaload, 1) := by decide +kernel
theorem dX5_mixKind_40 : decode cX5_mixKind 40 = .ok (.imul, 1) := by decide +kernel
theorem dX5_mixKind_41 : decode cX5_mixKind 41 = .ok (.if_icmp .ge 25, 3) := by decide +kernel
theorem dX5_mixKind_44 : decode cX5_mixKind 44 = .ok (.aload_n 0, 1) := by decide +kernel
theorem dX5_mixKind_45 : decode cX5_mixKind 45 = .ok (.aload_n 0, 1) := by decide +kernel
theorem dX5_mixKind_46 : decode cX5_mixKind 46 = .ok (.iload_n 1, 1) := by decide +kernel
theorem dX5_mixKind_47 : decode cX5_mixKind 47 = .ok (.iload_n 2, 1) := by decide +kernel
theorem dX5_mixKind_48 : decode cX5_mixKind 48 = .ok (.iconst 5, 1) := by decide +kernel
theorem dX5_mixKind_49 : decode cX5_mixKind 49 = .ok (.idiv, 1) := by decide +kernel
theorem dX5_mixKind_50 : decode cX5_mixKind 50 = .ok (.iload_n 2, 1) := by decide +kernel
theorem dX5_mixKind_51 : decode cX5_mixKind 51 = .ok (.iconst 5, 1) := by decide +kernel
theorem dX5_mixKind_52 : decode cX5_mixKind 52 = .ok (.irem, 1) := by decide +kernel
theorem dX5_mixKind_53 : decode cX5_mixKind 53 = .ok (.invokevirtual 156, 3) := by decide +kernel
theorem dX5_mixKind_56 : decode cX5_mixKind 56 = .ok (.i2l, 1) := by decide +kernel
theorem dX5_mixKind_57 : decode cX5_mixKind 57 = .ok (.invokevirtual 211, 3) := by decide +kernel
theorem dX5_mixKind_60 : decode cX5_mixKind 60 = .ok (.iinc 2 1, 3) := by decide +kernel
theorem dX5_mixKind_63 : decode cX5_mixKind 63 = .ok (.goto (-36), 3) := by decide +kernel
theorem dX5_mixKind_66 : decode cX5_mixKind 66 = .ok (.iconst 0, 1) := by decide +kernel
theorem dX5_mixKind_67 : decode cX5_mixKind 67 = .ok (.istore_n 2, 1) := by decide +kernel
theorem dX5_mixKind_68 : decode cX5_mixKind 68 = .ok (.iload_n 2, 1) := by decide +kernel
theorem dX5_mixKind_69 : decode cX5_mixKind 69 = .ok (.bipush 15, 2) := by decide +kernel
theorem dX5_mixKind_71 : decode cX5_mixKind 71 = .ok (.if_icmp .ge 25, 3) := by decide +kernel
theorem dX5_mixKind_74 : decode cX5_mixKind 74 = .ok (.aload_n 0, 1) := by decide +kernel
theorem dX5_mixKind_75 : decode cX5_mixKind 75 = .ok (.aload_n 0, 1) := by decide +kernel
theorem dX5_mixKind_76 : decode cX5_mixKind 76 = .ok (.iload_n 1, 1) := by decide +kernel
theorem dX5_mixKind_77 : decode cX5_mixKind 77 = .ok (.iload_n 2, 1) := by decide +kernel
theorem dX5_mixKind_78 : decode cX5_mixKind 78 = .ok (.iconst 5, 1) := by decide +kernel
theorem dX5_mixKind_79 : decode cX5_mixKind 79 = .ok (.idiv, 1) := by decide +kernel
theorem dX5_mixKind_80 : decode cX5_mixKind 80 = .ok (.iload_n 2, 1) := by decide +kernel
theorem dX5_mixKind_81 : decode cX5_mixKind 81 = .ok (.iconst 5, 1) := by decide +kernel
theorem dX5_mixKind_82 : decode cX5_mixKind 82 = .ok (.irem, 1) := by decide +kernel
theorem dX5_mixKind_83 : decode cX5_mixKind 83 = .ok (.invokevirtual 162, 3) := by decide +kernel
theorem dX5_mixKind_86 : decode cX5_mixKind 86 = .ok (.i2l, 1) := by decide +kernel
theorem dX5_mixKind_87 : decode cX5_mixKind 87 = .ok (.invokevirtual 211, 3) := by decide +kernel
theorem dX5_mixKind_90 : decode cX5_mixKind 90 = .ok (.iinc 2 1, 3) := by decide +kernel
theorem dX5_mixKind_93 : decode cX5_mixKind 93 = .ok (.goto (-25), 3) := by decide +kernel
theorem dX5_mixKind_96 : decode cX5_mixKind 96 = .ok (.return_, 1) := by decide +kernel
theorem dX5_mixComplaint_0 : decode cX5_mixComplaint 0 = .ok (.iconst 0, 1) := by decide +kernel
theorem dX5_mixComplaint_1 : decode cX5_mixComplaint 1 = .ok (.istore_n 2, 1) := by decide +kernel
theorem dX5_mixComplaint_2 : decode cX5_mixComplaint 2 = .ok (.iload_n 2, 1) := by decide +kernel
theorem dX5_mixComplaint_3 : decode cX5_mixComplaint 3 = .ok (.bipush 11, 2) := by decide +kernel
theorem dX5_mixComplaint_5 : decode cX5_mixComplaint 5 = .ok (.if_icmp .ge 20, 3) := by decide +kernel
theorem dX5_mixComplaint_8 : decode cX5_mixComplaint 8 = .ok (.aload_n 0, 1) := by decide +kernel
theorem dX5_mixComplaint_9 : decode cX5_mixComplaint 9 = .ok (.aload_n 0, 1) := by decide +kernel
theorem dX5_mixComplaint_10 : decode cX5_mixComplaint 10 = .ok (.iload_n 1, 1) := by decide +kernel
theorem dX5_mixComplaint_11 : decode cX5_mixComplaint 11 = .ok (.iload_n 2, 1) := by decide +kernel
theorem dX5_mixComplaint_12 : decode cX5_mixComplaint 12 = .ok (.invokevirtual 150, 3) := by decide +kernel
theorem dX5_mixComplaint_15 : decode cX5_mixComplaint 15 = .ok (.i2l, 1) := by decide +kernel
theorem dX5_mixComplaint_16 : decode cX5_mixComplaint 16 = .ok (.invokevirtual 211, 3) := by decide +kernel
theorem dX5_mixComplaint_19 : decode cX5_mixComplaint 19 = .ok (.iinc 2 1, 3) := by decide +kernel
theorem dX5_mixComplaint_22 : decode cX5_mixComplaint 22 = .ok (.goto (-20), 3) := by decide +kernel
theorem dX5_mixComplaint_25 : decode cX5_mixComplaint 25 = .ok (.aload_n 0, 1) := by decide +kernel
theorem dX5_mixComplaint_26 : decode cX5_mixComplaint 26 = .ok (.aload_n 0, 1) := by decide +kernel
theorem dX5_mixComplaint_27 : decode cX5_mixComplaint 27 = .ok (.iload_n 1, 1) := by decide +kernel
theorem dX5_mixComplaint_28 : decode cX5_mixComplaint 28 = .ok (.invokevirtual 186, 3) := by decide +kernel
theorem dX5_mixComplaint_31 : decode cX5_mixComplaint 31 = .ok (.i2l, 1) := by decide +kernel
theorem dX5_mixComplaint_32 : decode cX5_mixComplaint 32 = .ok (.invokevirtual 211, 3) := by decide +kernel
theorem dX5_mixComplaint_35 : decode cX5_mixComplaint 35 = .ok (.aload_n 0, 1) := by decide +kernel
theorem dX5_mixComplaint_36 : decode cX5_mixComplaint 36 = .ok (.aload_n 0, 1) := by decide +kernel
theorem dX5_mixComplaint_37 : decode cX5_mixComplaint 37 = .ok (.iload_n 1, 1) := by decide +kernel
theorem dX5_mixComplaint_38 : decode cX5_mixComplaint 38 = .ok (.iconst 0, 1) := by decide +kernel
theorem dX5_mixComplaint_39 : decode cX5_mixComplaint 39 = .ok (.iconst 0, 1) := by decide +kernel
theorem dX5_mixComplaint_40 : decode cX5_mixComplaint 40 = .ok (.invokevirtual 95, 3) := by decide +kernel
theorem dX5_mixComplaint_43 : decode cX5_mixComplaint 43 = .ok (.i2l, 1) := by decide +kernel
theorem dX5_mixComplaint_44 : decode cX5_mixComplaint 44 = .ok (.invokevirtual 211, 3) := by decide +kernel
theorem dX5_mixComplaint_47 : decode cX5_mixComplaint 47 = .ok (.iconst 0, 1) := by decide +kernel
theorem dX5_mixComplaint_48 : decode cX5_mixComplaint 48 = .ok (.istore_n 2, 1) := by decide +kernel
theorem dX5_mixComplaint_49 : decode cX5_mixComplaint 49 = .ok (.iload_n 2, 1) := by decide +kernel
theorem dX5_mixComplaint_50 : decode cX5_mixComplaint 50 = .ok (.iconst 4, 1) := by decide +kernel
theorem dX5_mixComplaint_51 : decode cX5_mixComplaint 51 = .ok (.if_icmp .ge 21, 3) := by decide +kernel
theorem dX5_mixComplaint_54 : decode cX5_mixComplaint 54 = .ok (.aload_n 0, 1) := by decide +kernel
theorem dX5_mixComplaint_55 : decode cX5_mixComplaint 55 = .ok (.aload_n 0, 1) := by decide +kernel
theorem dX5_mixComplaint_56 : decode cX5_mixComplaint 56 = .ok (.iload_n 1, 1) := by decide +kernel
theorem dX5_mixComplaint_57 : decode cX5_mixComplaint 57 = .ok (.iconst 1, 1) := by decide +kernel
theorem dX5_mixComplaint_58 : decode cX5_mixComplaint 58 = .ok (.iload_n 2, 1) := by decide +kernel
theorem dX5_mixComplaint_59 : decode cX5_mixComplaint 59 = .ok (.invokevirtual 195, 3) := by decide +kernel
theorem dX5_mixComplaint_62 : decode cX5_mixComplaint 62 = .ok (.i2l, 1) := by decide +kernel
theorem dX5_mixComplaint_63 : decode cX5_mixComplaint 63 = .ok (.invokevirtual 211, 3) := by decide +kernel
theorem dX5_mixComplaint_66 : decode cX5_mixComplaint 66 = .ok (.iinc 2 1, 3) := by decide +kernel
theorem dX5_mixComplaint_69 : decode cX5_mixComplaint 69 = .ok (.goto (-20), 3) := by decide +kernel
theorem dX5_mixComplaint_72 : decode cX5_mixComplaint 72 = .ok (.return_, 1) := by decide +kernel
theorem dX5_digest_0 : decode cX5_digest 0 = .ok (.aload_n 0, 1) := by decide +kernel
theorem dX5_digest_1 : decode cX5_digest 1 = .ok (.iconst 0, 1) := by decide +kernel
theorem dX5_digest_2 : decode cX5_digest 2 = .ok (.putfield 29, 3) := by decide +kernel
theorem dX5_digest_5 : decode cX5_digest 5 = .ok (.aload_n 0, 1) := by decide +kernel
theorem dX5_digest_6 : decode cX5_digest 6 = .ok (.ldc2_w 215, 3) := by decide +kernel
theorem dX5_digest_9 : decode cX5_digest 9 = .ok (.putfield 207, 3) := by decide +kernel
theorem dX5_digest_12 : decode cX5_digest 12 = .ok (.iconst 0, 1) := by decide +kernel
theorem dX5_digest_13 : decode cX5_digest 13 = .ok (.istore_n 1, 1) := by decide +kernel
theorem dX5_digest_14 : decode cX5_digest 14 = .ok (.iload_n 1, 1) := by decide +kernel
theorem dX5_digest_15 : decode cX5_digest 15 = .ok (.bipush 12, 2) := by decide +kernel
theorem dX5_digest_17 : decode cX5_digest 17 = .ok (.if_icmp .ge 19, 3) := by decide +kernel
theorem dX5_digest_20 : decode cX5_digest 20 = .ok (.aload_n 0, 1) := by decide +kernel
theorem dX5_digest_21 : decode cX5_digest 21 = .ok (.aload_n 0, 1) := by decide +kernel
theorem dX5_digest_22 : decode cX5_digest 22 = .ok (.iload_n 1, 1) := by decide +kernel
theorem dX5_digest_23 : decode cX5_digest 23 = .ok (.invokevirtual 177, 3) := by decide +kernel
theorem dX5_digest_26 : decode cX5_digest 26 = .ok (.i2l, 1) := by decide +kernel
theorem dX5_digest_27 : decode cX5_digest 27 = .ok (.invokevirtual 211, 3) := by decide +kernel
theorem dX5_digest_30 : decode cX5_digest 30 = .ok (.iinc 1 1, 3) := by decide +kernel
theorem dX5_digest_33 : decode cX5_digest 33 = .ok (.goto (-19), 3) := by decide +kernel
theorem dX5_digest_36 : decode cX5_digest 36 = .ok (.iconst 0, 1) := by decide +kernel
theorem dX5_digest_37 : decode cX5_digest 37 = .ok (.istore_n 1, 1) := by decide +kernel
theorem dX5_digest_38 : decode cX5_digest 38 = .ok (.iload_n 1, 1) := by decide +kernel
theorem dX5_digest_39 : decode cX5_digest 39 = .ok (.iconst 3, 1) := by decide +kernel
theorem dX5_digest_40 : decode cX5_digest 40 = .ok (.if_icmp .ge 22, 3) := by decide +kernel
theorem dX5_digest_43 : decode cX5_digest 43 = .ok (.aload_n 0, 1) := by decide +kernel
theorem dX5_digest_44 : decode cX5_digest 44 = .ok (.aload_n 0, 1) := by decide +kernel
theorem dX5_digest_45 : decode cX5_digest 45 = .ok (.getfield 7, 3) := by decide +kernel
theorem dX5_digest_48 : decode cX5_digest 48 = .ok (.iconst 2, 1) := by decide +kernel
theorem dX5_digest_49 : decode cX5_digest 49 = .ok (.iload_n 1, 1) := by decide +kernel
theorem dX5_digest_50 : decode cX5_digest 50 = .ok (.iadd, 1) := by decide +kernel
theorem dX5_digest_51 : decode cX5_digest 51 = .ok (.iaload, 1) := by decide +kernel
theorem dX5_digest_52 : decode cX5_digest 52 = .ok (.i2l, 1) := by decide +kernel
theorem dX5_digest_53 : decode cX5_digest 53 = .ok (.invokevirtual 211, 3) := by decide +kernel
theorem dX5_digest_56 : decode cX5_digest 56 = .ok (.iinc 1 1, 3) := by decide +kernel
theorem dX5_digest_59 : decode cX5_digest 59 = .ok (.goto (-21), 3) := by decide +kernel
theorem dX5_digest_62 : decode cX5_digest 62 = .ok (.iconst 0, 1) := by decide +kernel
theorem dX5_digest_63 : decode cX5_digest 63 = .ok (.istore_n 1, 1) := by decide +kernel
theorem dX5_digest_64 : decode cX5_digest 64 = .ok (.iload_n 1, 1) := by decide +kernel
theorem dX5_digest_65 : decode cX5_digest 65 = .ok (.iconst 4, 1) := by decide +kernel
theorem dX5_digest_66 : decode cX5_digest 66 = .ok (.if_icmp .ge 14, 3) := by decide +kernel
theorem dX5_digest_69 : decode cX5_digest 69 = .ok (.aload_n 0, 1) := by decide +kernel
theorem dX5_digest_70 : decode cX5_digest 70 = .ok (.iload_n 1, 1) := by decide +kernel
theorem dX5_digest_71 : decode cX5_digest 71 = .ok (.invokevirtual 217, 3) := by decide +kernel
theorem dX5_digest_74 : decode cX5_digest 74 = .ok (.iinc 1 1, 3) := by decide +kernel
theorem dX5_digest_77 : decode cX5_digest 77 = .ok (.goto (-13), 3) := by decide +kernel
theorem dX5_digest_80 : decode cX5_digest 80 = .ok (.iconst 0, 1) := by decide +kernel
theorem dX5_digest_81 : decode cX5_digest 81 = .ok (.istore_n 1, 1) := by decide +kernel
theorem dX5_digest_82 : decode cX5_digest 82 = .ok (.iload_n 1, 1) := by decide +kernel
theorem dX5_digest_83 : decode cX5_digest 83 = .ok (.aload_n 0, 1) := by decide +kernel
theorem dX5_digest_84 : decode cX5_digest 84 = .ok (.getfield 7, 3) := by decide +kernel
theorem dX5_digest_87 : decode cX5_digest 87 = .ok (.iconst 0, 1) := by decide +kernel
theorem dX5_digest_88 : decode cX5_digest 88 = .ok (.iaload, 1) := by decide +kernel
theorem dX5_digest_89 : decode cX5_digest 89 = .ok (.if_icmp .ge 14, 3) := by decide +kernel
theorem dX5_digest_92 : decode cX5_digest 92 = .ok (.aload_n 0, 1) := by decide +kernel
theorem dX5_digest_93 : decode cX5_digest 93 = .ok (.iload_n 1, 1) := by decide +kernel
theorem dX5_digest_94 : decode cX5_digest 94 = .ok (.invokevirtual 221, 3) := by decide +kernel
theorem dX5_digest_97 : decode cX5_digest 97 = .ok (.iinc 1 1, 3) := by decide +kernel
theorem dX5_digest_100 : decode cX5_digest 100 = .ok (.goto (-18), 3) := by decide +kernel
theorem dX5_digest_103 : decode cX5_digest 103 = .ok (.iconst 0, 1) := by decide +kernel
theorem dX5_digest_104 : decode cX5_digest 104 = .ok (.istore_n 1, 1) := by decide +kernel
theorem dX5_digest_105 : decode cX5_digest 105 = .ok (.iload_n 1, 1) := by decide +kernel
theorem dX5_digest_106 : decode cX5_digest 106 = .ok (.bipush 10, 2) := by decide +kernel
theorem dX5_digest_108 : decode cX5_digest 108 = .ok (.if_icmp .ge 20, 3) := by decide +kernel
theorem dX5_digest_111 : decode cX5_digest 111 = .ok (.aload_n 0, 1) := by decide +kernel
theorem dX5_digest_112 : decode cX5_digest 112 = .ok (.aload_n 0, 1) := by decide +kernel
theorem dX5_digest_113 : decode cX5_digest 113 = .ok (.iload_n 1, 1) := by decide +kernel
theorem dX5_digest_114 : decode cX5_digest 114 = .ok (.iconst 0, 1) := by decide +kernel
theorem dX5_digest_115 : decode cX5_digest 115 = .ok (.invokevirtual 180, 3) := by decide +kernel
theorem dX5_digest_118 : decode cX5_digest 118 = .ok (.i2l, 1) := by decide +kernel
theorem dX5_digest_119 : decode cX5_digest 119 = .ok (.invokevirtual 211, 3) := by decide +kernel
theorem dX5_digest_122 : decode cX5_digest 122 = .ok (.iinc 1 1, 3) := by decide +kernel
theorem dX5_digest_125 : decode cX5_digest 125 = .ok (.goto (-20), 3) := by decide +kernel
theorem dX5_digest_128 : decode cX5_digest 128 = .ok (.aload_n 0, 1) := by decide +kernel
theorem dX5_digest_129 : decode cX5_digest 129 = .ok (.aload_n 0, 1) := by decide +kernel
theorem dX5_digest_130 : decode cX5_digest 130 = .ok (.invokevirtual 198, 3) := by decide +kernel
theorem dX5_digest_133 : decode cX5_digest 133 = .ok (.i2l, 1) := by decide +kernel
theorem dX5_digest_134 : decode cX5_digest 134 = .ok (.invokevirtual 211, 3) := by decide +kernel
theorem dX5_digest_137 : decode cX5_digest 137 = .ok (.aload_n 0, 1) := by decide +kernel
theorem dX5_digest_138 : decode cX5_digest 138 = .ok (.aload_n 0, 1) := by decide +kernel
theorem dX5_digest_139 : decode cX5_digest 139 = .ok (.invokevirtual 201, 3) := by decide +kernel
theorem dX5_digest_142 : decode cX5_digest 142 = .ok (.invokestatic 224, 3) := by decide +kernel
theorem dX5_digest_145 : decode cX5_digest 145 = .ok (.invokevirtual 211, 3) := by decide +kernel
theorem dX5_digest_148 : decode cX5_digest 148 = .ok (.aload_n 0, 1) := by decide +kernel
theorem dX5_digest_149 : decode cX5_digest 149 = .ok (.aload_n 0, 1) := by decide +kernel
theorem dX5_digest_150 : decode cX5_digest 150 = .ok (.getfield 128, 3) := by decide +kernel
theorem dX5_digest_153 : decode cX5_digest 153 = .ok (.i2l, 1) := by decide +kernel
theorem dX5_digest_154 : decode cX5_digest 154 = .ok (.invokevirtual 211, 3) := by decide +kernel
theorem dX5_digest_157 : decode cX5_digest 157 = .ok (.iconst 0, 1) := by decide +kernel
theorem dX5_digest_158 : decode cX5_digest 158 = .ok (.istore_n 1, 1) := by decide +kernel
theorem dX5_digest_159 : decode cX5_digest 159 = .ok (.iload_n 1, 1) := by decide +kernel
theorem dX5_digest_160 : decode cX5_digest 160 = .ok (.aload_n 0, 1) := by decide +kernel
theorem dX5_digest_161 : decode cX5_digest 161 = .ok (.getfield 128, 3) := by decide +kernel
theorem dX5_digest_164 : decode cX5_digest 164 = .ok (.if_icmp .ge 20, 3) := by decide +kernel
theorem dX5_digest_167 : decode cX5_digest 167 = .ok (.aload_n 0, 1) := by decide +kernel
theorem dX5_digest_168 : decode cX5_digest 168 = .ok (.aload_n 0, 1) := by decide +kernel
theorem dX5_digest_169 : decode cX5_digest 169 = .ok (.getfield 19, 3) := by decide +kernel
theorem dX5_digest_172 : decode cX5_digest 172 = .ok (.iload_n 1, 1) := by decide +kernel
theorem dX5_digest_173 : decode cX5_digest 173 = .ok (.iaload, 1) := by decide +kernel
theorem dX5_digest_174 : decode cX5_digest 174 = .ok (.i2l, 1) := by decide +kernel
theorem dX5_digest_175 : decode cX5_digest 175 = .ok (.invokevirtual 211, 3) := by decide +kernel
theorem dX5_digest_178 : decode cX5_digest 178 = .ok (.iinc 1 1, 3) := by decide +kernel
theorem dX5_digest_181 : decode cX5_digest 181 = .ok (.goto (-22), 3) := by decide +kernel
theorem dX5_digest_184 : decode cX5_digest 184 = .ok (.aload_n 0, 1) := by decide +kernel
theorem dX5_digest_185 : decode cX5_digest 185 = .ok (.getfield 207, 3) := by decide +kernel
theorem dX5_digest_188 : decode cX5_digest 188 = .ok (.lreturn, 1) := by decide +kernel
def f_X5_amends_21 (m21 : XS) : Option (Int32 × XS) :=
    (f_X5_fails m21 1).bind fun q23 => (fun v23 m23 =>
    some (v23, m23)) q23.1 q23.2
def f_X5_amends (m : XS) (a0 : Int32) (a1 : Int32) (a2 : Int32) : Option (Int32 × XS) :=
    (some (ux m 0 6 0)).bind fun m2 =>
    (f_X5_isKind a0).bind fun v6 =>
    if (v6 = 0 : Prop) then
      f_X5_amends_21 m2
    else
      ((f_X5_isAmends m2 a0 a1).bind fun v15 =>
      if (v15 = 0 : Prop) then
        f_X5_amends_21 m2
      else
        ((f_X5_in a2 0 4).bind fun v30 =>
        if (v30 = 0 : Prop) then
          ((f_X5_fails m2 2).bind fun q48 => (fun v48 m48 =>
          some (v48, m48)) q48.1 q48.2)
        else
          ((f_X5_amendsOf m2 a0 a1 a2).bind fun v40 =>
          some (v40, m2))))
set_option maxRecDepth 100000 in
set_option maxHeartbeats 4000000 in
theorem p_X5_amends (l : Launch) (E : TE) (x m : XS) (g o : Int64) {a0 : Int32} {a1 : Int32} {a2 : Int32} {r : Int32} {mr : XS} (hf : f_X5_amends m a0 a1 a2 = some (r, mr)) : MG l E yX5_amends cX5_amends 4 (some .int) 3 [rf E 211, .int a0, .int a1, .int a2] (Wd E x m g o) (Wd E x mr g o) (some (.int r)) := by
  unfold f_X5_amends at hf
  refine m_in (by decide) (Nat.le_of_ble_eq_true rfl) ?_
  intro p e s mi args below meth c H ls hx hb hr hlk hml hown hB hK hW hS hl
  have hl : lv_has ls 4 [(0, rf E 211), (1, .int a0), (2, .int a1), (3, .int a2)] := hl
  have J21 : ∀ (m21 : XS) (H : Heap) (locs : List Loc) (ls : Array Slot), f_X5_amends_21 m21 = some (r, mr) → Wd E x m21 g o H → va_S (Ah E) s.heap H locs → lv_has ls 4 [(0, rf E 211)] → W p l e (rmH 3) s mi args below meth c H locs 0 0 (EQ E below args s (Wd E x mr g o) (some (.int r))) (F0 mi 21 ls []) := by
    intro m21 H locs ls hf hW hS hl
    unfold f_X5_amends_21 at hf
    refine lv_aload_n hx hb dX5_amends_21 rfl (lv_at hl 0 rfl) ?_
    refine lv_iconst (v := 1) hx hb dX5_amends_22 (by decide) ?_
    obtain ⟨⟨v23, m23⟩, e23, hf⟩ := ob2 hf
    dsimp only at hf
    refine c_V (As := [.int 1]) (st1 := [.int v23]) (rest := []) (p_X5_fails l E x m21 g o e23) (kc_X5_64 hB ⟨Nat.le_of_ble_eq_true rfl, Nat.le_of_ble_eq_true rfl⟩) (Wd.rec hK hW (by decide) cM_0 (ci := 5) rfl) hx hb hml hown hB hK hW hS ⟨Nat.zero_le _, Nat.zero_le _⟩ rfl hl.1 rfl (Nat.le_of_ble_eq_true rfl) rfl dX5_amends_23 (fun H locs hW hS => ?_)
    cases hf
    exact e_i hx hb hr hlk hW hS dX5_amends_26
  refine lv_aload_n hx hb dX5_amends_0 rfl (lv_at hl 0 rfl) ?_
  refine lv_iconst (v := 0) hx hb dX5_amends_1 (by decide) ?_
  obtain ⟨m2, e2, hf⟩ := ob hf
  refine pf_X5_29 hx hb hB hK hown hW hS e2 dX5_amends_2 (fun H locs hW hS => ?_)
  refine lv_iload_n hx hb dX5_amends_5 rfl (lv_at hl 1 rfl) ?_
  obtain ⟨v6, e6, hf⟩ := ob2 hf
  refine c_S (As := [.int a0]) (st1 := [.int v6]) (rest := []) (p_X5_isKind l E x m2 g o e6) (kc_X5_60 hB ⟨Nat.le_of_ble_eq_true rfl, Nat.le_of_ble_eq_true rfl⟩) hx hb hml hown hB hK hW hS ⟨Nat.zero_le _, Nat.zero_le _⟩ rfl hl.1 rfl (Nat.le_of_ble_eq_true rfl) rfl dX5_amends_6 (fun H locs hW hS => ?_)
  refine lv_if_eq (tgt := 21) hx hb dX5_amends_9 (by decide) (fun c9 => ?_) (fun c9 => ?_)
  · rw [if_pos c9] at hf
    exact J21 m2 _ _ _ hf hW hS (lv_sub hl [0] rfl)
  · rw [if_neg c9] at hf
    refine lv_aload_n hx hb dX5_amends_12 rfl (lv_at hl 0 rfl) ?_
    refine lv_iload_n hx hb dX5_amends_13 rfl (lv_at hl 1 rfl) ?_
    refine lv_iload_n hx hb dX5_amends_14 rfl (lv_at hl 2 rfl) ?_
    obtain ⟨v15, e15, hf⟩ := ob2 hf
    refine c_V (As := [.int a0, .int a1]) (st1 := [.int v15]) (rest := []) (p_X5_isAmends l E x m2 g o e15) (kc_X5_40 hB ⟨Nat.le_of_ble_eq_true rfl, Nat.le_of_ble_eq_true rfl⟩) (Wd.rec hK hW (by decide) cM_0 (ci := 5) rfl) hx hb hml hown hB hK hW hS ⟨Nat.zero_le _, Nat.zero_le _⟩ rfl hl.1 rfl (Nat.le_of_ble_eq_true rfl) rfl dX5_amends_15 (fun H locs hW hS => ?_)
    refine lv_if_ne (tgt := 27) hx hb dX5_amends_18 (by decide) (fun c18 => ?_) (fun c18 => ?_)
    · rw [if_neg c18] at hf
      refine lv_iload_n hx hb dX5_amends_27 rfl (lv_at hl 3 rfl) ?_
      refine lv_iconst (v := 0) hx hb dX5_amends_28 (by decide) ?_
      refine lv_iconst (v := 4) hx hb dX5_amends_29 (by decide) ?_
      obtain ⟨v30, e30, hf⟩ := ob2 hf
      refine c_S (As := [.int a2, .int 0, .int 4]) (st1 := [.int v30]) (rest := []) (p_X5_in l E x m2 g o e30) (kc_X5_36 hB ⟨Nat.le_of_ble_eq_true rfl, Nat.le_of_ble_eq_true rfl⟩) hx hb hml hown hB hK hW hS ⟨Nat.zero_le _, Nat.zero_le _⟩ rfl hl.1 rfl (Nat.le_of_ble_eq_true rfl) rfl dX5_amends_30 (fun H locs hW hS => ?_)
      refine lv_if_eq (tgt := 46) hx hb dX5_amends_33 (by decide) (fun c33 => ?_) (fun c33 => ?_)
      · rw [if_pos c33] at hf
        refine lv_aload_n hx hb dX5_amends_46 rfl (lv_at hl 0 rfl) ?_
        refine lv_iconst (v := 2) hx hb dX5_amends_47 (by decide) ?_
        obtain ⟨⟨v48, m48⟩, e48, hf⟩ := ob2 hf
        dsimp only at hf
        refine c_V (As := [.int 2]) (st1 := [.int v48]) (rest := []) (p_X5_fails l E x m2 g o e48) (kc_X5_64 hB ⟨Nat.le_of_ble_eq_true rfl, Nat.le_of_ble_eq_true rfl⟩) (Wd.rec hK hW (by decide) cM_0 (ci := 5) rfl) hx hb hml hown hB hK hW hS ⟨Nat.zero_le _, Nat.zero_le _⟩ rfl hl.1 rfl (Nat.le_of_ble_eq_true rfl) rfl dX5_amends_48 (fun H locs hW hS => ?_)
        cases hf
        exact e_i hx hb hr hlk hW hS dX5_amends_51
      · rw [if_neg c33] at hf
        refine lv_aload_n hx hb dX5_amends_36 rfl (lv_at hl 0 rfl) ?_
        refine lv_iload_n hx hb dX5_amends_37 rfl (lv_at hl 1 rfl) ?_
        refine lv_iload_n hx hb dX5_amends_38 rfl (lv_at hl 2 rfl) ?_
        refine lv_iload_n hx hb dX5_amends_39 rfl (lv_at hl 3 rfl) ?_
        obtain ⟨v40, e40, hf⟩ := ob2 hf
        refine c_V (As := [.int a0, .int a1, .int a2]) (st1 := [.int v40]) (rest := []) (p_X5_amendsOf l E x m2 g o e40) (kc_X5_156 hB ⟨Nat.le_of_ble_eq_true rfl, Nat.le_of_ble_eq_true rfl⟩) (Wd.rec hK hW (by decide) cM_0 (ci := 5) rfl) hx hb hml hown hB hK hW hS ⟨Nat.zero_le _, Nat.zero_le _⟩ rfl hl.1 rfl (Nat.le_of_ble_eq_true rfl) rfl dX5_amends_40 (fun H locs hW hS => ?_)
        refine lv_goto (tgt := 51) hx hb dX5_amends_43 (by decide) ?_
        cases hf
        exact e_i hx hb hr hlk hW hS dX5_amends_51
    · rw [if_pos c18] at hf
      exact J21 m2 _ _ _ hf hW hS (lv_sub hl [0] rfl)
def f_X5_following_36 (m : XS) (k4 : Int32 → Int32 → Int32 → Option (Int32)) (l1_36 : Int32) (l3_36 : Int32) (t0_36 : Int32) (t1_36 : Int32) : Option (Int32) :=
    (some ((t1_36 + t0_36))).bind fun v37 =>
    (some (l3_36 + 1)).bind fun v38 =>
    k4 l1_36 v37 v38
def f_X5_following_4 (m : XS) : Nat → Int32 → Int32 → Int32 → Option (Int32)
  | 0, _, _, _ => none
  | n4 + 1, l1_4, l2_4, l3_4 =>
    (aget 442 (m 1) 0).bind fun v10 =>
    if (v10 ≤ l3_4 : Prop) then
      some l2_4
    else
      ((f_X5_of l3_4).bind fun v20 =>
      (aget 442 (m 1) (v20 + 8)).bind fun v26 =>
      if (v26 = l1_4 : Prop) then
        f_X5_following_36 m (f_X5_following_4 m n4) l1_4 l3_4 1 l2_4
      else
        f_X5_following_36 m (f_X5_following_4 m n4) l1_4 l3_4 0 l2_4)
def f_X5_following (m : XS) (a0 : Int32) : Option (Int32) :=
    f_X5_following_4 m 4096 a0 0 0
set_option maxRecDepth 100000 in
set_option maxHeartbeats 4000000 in
theorem p_X5_following (l : Launch) (E : TE) (x m : XS) (g o : Int64) {a0 : Int32} {r : Int32} (hf : f_X5_following m a0 = some r) : MG l E yX5_following cX5_following 4 (some .int) 1 [rf E 211, .int a0] (Wd E x m g o) (Wd E x m g o) (some (.int r)) := by
  unfold f_X5_following at hf
  refine m_in (by decide) (Nat.le_of_ble_eq_true rfl) ?_
  intro p e s mi args below meth c H ls hx hb hr hlk hml hown hB hK hW hS hl
  have hl : lv_has ls 4 [(0, rf E 211), (1, .int a0)] := hl
  have J4 : ∀ (n4 : Nat), ∀ (l1_4 : Int32) (l2_4 : Int32) (l3_4 : Int32) (H : Heap) (locs : List Loc) (ls : Array Slot), f_X5_following_4 m n4 l1_4 l2_4 l3_4 = some r → Wd E x m g o H → va_S (Ah E) s.heap H locs → lv_has ls 4 [(0, rf E 211), (1, .int l1_4), (2, .int l2_4), (3, .int l3_4)] → W p l e (rmH 1) s mi args below meth c H locs 0 0 (EQ E below args s (Wd E x m g o) (some (.int r))) (F0 mi 4 ls []) := by
    intro n4
    induction n4 with
    | zero => intro l1_4 l2_4 l3_4 H locs ls hf; exact absurd hf (fun z => nomatch (show (none : Option (Int32)) = some _ from z))
    | succ n4 ih4 =>
      intro l1_4 l2_4 l3_4 H locs ls hf hW hS hl
      rw [f_X5_following_4.eq_2] at hf
      have J36 : ∀ (l1_36 : Int32) (l3_36 : Int32) (t0_36 : Int32) (t1_36 : Int32) (H : Heap) (locs : List Loc) (ls : Array Slot), f_X5_following_36 m (f_X5_following_4 m n4) l1_36 l3_36 t0_36 t1_36 = some r → Wd E x m g o H → va_S (Ah E) s.heap H locs → lv_has ls 4 [(0, rf E 211), (1, .int l1_36), (3, .int l3_36)] → W p l e (rmH 1) s mi args below meth c H locs 0 0 (EQ E below args s (Wd E x m g o) (some (.int r))) (F0 mi 36 ls [.int t0_36, .int t1_36]) := by
        intro l1_36 l3_36 t0_36 t1_36 H locs ls hf hW hS hl
        unfold f_X5_following_36 at hf
        refine lv_iadd hx hb dX5_following_36 ?_
        obtain ⟨v37, e37, hf⟩ := ob hf
        refine lv_nm e37 ?_
        refine lv_istore_n (lv' := [(2, .int v37), (0, rf E 211), (1, .int l1_36), (3, .int l3_36)]) hx hb dX5_following_37 rfl hl (by decide) rfl (fun ls hl => ?_)
        obtain ⟨v38, e38, hf⟩ := ob hf
        refine lv_iinc (v := v38) (lv' := [(3, .int v38), (2, .int v37), (0, rf E 211), (1, .int l1_36)]) hx hb dX5_following_38 hl (k := 3) rfl (by rw [e38]; rfl) (by decide) rfl (fun ls hl => ?_)
        refine lv_goto (tgt := 4) hx hb dX5_following_41 (by decide) ?_
        exact ih4 l1_36 v37 v38 _ _ _ hf hW hS (lv_sub hl [2, 3, 1, 0] rfl)
      refine lv_iload_n hx hb dX5_following_4 rfl (lv_at hl 3 rfl) ?_
      refine lv_aload_n hx hb dX5_following_5 rfl (lv_at hl 0 rfl) ?_
      refine gf_X5_7 hx hb hB hK hown hW dX5_following_6 ?_
      refine lv_iconst (v := 0) hx hb dX5_following_9 (by decide) ?_
      obtain ⟨v10, e10, hf⟩ := ob2 hf
      refine r_iald hx hb hK hW (by decide) (cM_1) e10 dX5_following_10 ?_
      refine lv_icmp_ge (tgt := 44) hx hb dX5_following_11 (by decide) (fun c11 => ?_) (fun c11 => ?_)
      · rw [if_pos c11] at hf
        refine lv_iload_n hx hb dX5_following_44 rfl (lv_at hl 2 rfl) ?_
        cases hf
        exact e_i hx hb hr hlk hW hS dX5_following_45
      · rw [if_neg c11] at hf
        refine lv_iload_n hx hb dX5_following_14 rfl (lv_at hl 2 rfl) ?_
        refine lv_aload_n hx hb dX5_following_15 rfl (lv_at hl 0 rfl) ?_
        refine gf_X5_7 hx hb hB hK hown hW dX5_following_16 ?_
        refine lv_iload_n hx hb dX5_following_19 rfl (lv_at hl 3 rfl) ?_
        obtain ⟨v20, e20, hf⟩ := ob2 hf
        refine c_S (As := [.int l3_4]) (st1 := [.int v20, rf E 212, .int l2_4]) (rest := [rf E 212, .int l2_4]) (p_X5_of l E x m g o e20) (kc_X5_54 hB ⟨Nat.le_of_ble_eq_true rfl, Nat.le_of_ble_eq_true rfl⟩) hx hb hml hown hB hK hW hS ⟨Nat.zero_le _, Nat.zero_le _⟩ rfl hl.1 rfl (Nat.le_of_ble_eq_true rfl) rfl dX5_following_20 (fun H locs hW hS => ?_)
        refine lv_bipush (v := 8) hx hb dX5_following_23 (by decide) ?_
        refine lv_iadd hx hb dX5_following_25 ?_
        obtain ⟨v26, e26, hf⟩ := ob2 hf
        refine r_iald hx hb hK hW (by decide) (cM_1) e26 dX5_following_26 ?_
        refine lv_iload_n hx hb dX5_following_27 rfl (lv_at hl 1 rfl) ?_
        refine lv_icmp_ne (tgt := 35) hx hb dX5_following_28 (by decide) (fun c28 => ?_) (fun c28 => ?_)
        · rw [if_neg c28] at hf
          refine lv_iconst (v := 0) hx hb dX5_following_35 (by decide) ?_
          exact J36 l1_4 l3_4 0 l2_4 _ _ _ hf hW hS (lv_sub hl [0, 1, 3] rfl)
        · rw [if_pos c28] at hf
          refine lv_iconst (v := 1) hx hb dX5_following_31 (by decide) ?_
          refine lv_goto (tgt := 36) hx hb dX5_following_32 (by decide) ?_
          exact J36 l1_4 l3_4 1 l2_4 _ _ _ hf hW hS (lv_sub hl [0, 1, 3] rfl)
  refine lv_iconst (v := 0) hx hb dX5_following_0 (by decide) ?_
  refine lv_istore_n (lv' := [(2, .int 0), (0, rf E 211), (1, .int a0)]) hx hb dX5_following_1 rfl hl (by decide) rfl (fun ls hl => ?_)
  refine lv_iconst (v := 0) hx hb dX5_following_2 (by decide) ?_
  refine lv_istore_n (lv' := [(3, .int 0), (2, .int 0), (0, rf E 211), (1, .int a0)]) hx hb dX5_following_3 rfl hl (by decide) rfl (fun ls hl => ?_)
  exact J4 4096 a0 0 0 _ _ _ hf hW hS (lv_sub hl [2, 3, 1, 0] rfl)
def f_X5_precedentOf (m : XS) (a0 : Int32) (a1 : Int32) (a2 : Int32) : Option (Int32) :=
    (f_X5_latest m a0 a1).bind fun v3 =>
    if (v3 = (-1) : Prop) then
      some (-1)
    else
      (if (3 ≤ a2 : Prop) then
        (if (a2 = 3 : Prop) then
          ((f_X5_binds m a0 a1).bind fun v47 =>
          if (v47 = 0 : Prop) then
            some 0
          else
            some 1)
        else
          ((f_X5_following m v3).bind fun v64 =>
          some v64))
      else
        ((aget 442 (m 1) ((130 + (3 * v3)) + a2)).bind fun v35 =>
        some v35))
set_option maxRecDepth 100000 in
set_option maxHeartbeats 4000000 in
theorem p_X5_precedentOf (l : Launch) (E : TE) (x m : XS) (g o : Int64) {a0 : Int32} {a1 : Int32} {a2 : Int32} {r : Int32} (hf : f_X5_precedentOf m a0 a1 a2 = some r) : MG l E yX5_precedentOf cX5_precedentOf 5 (some .int) 4 [rf E 211, .int a0, .int a1, .int a2] (Wd E x m g o) (Wd E x m g o) (some (.int r)) := by
  unfold f_X5_precedentOf at hf
  refine m_in (by decide) (Nat.le_of_ble_eq_true rfl) ?_
  intro p e s mi args below meth c H ls hx hb hr hlk hml hown hB hK hW hS hl
  have hl : lv_has ls 5 [(0, rf E 211), (1, .int a0), (2, .int a1), (3, .int a2)] := hl
  refine lv_aload_n hx hb dX5_precedentOf_0 rfl (lv_at hl 0 rfl) ?_
  refine lv_iload_n hx hb dX5_precedentOf_1 rfl (lv_at hl 1 rfl) ?_
  refine lv_iload_n hx hb dX5_precedentOf_2 rfl (lv_at hl 2 rfl) ?_
  obtain ⟨v3, e3, hf⟩ := ob2 hf
  refine c_V (As := [.int a0, .int a1]) (st1 := [.int v3]) (rest := []) (p_X5_latest l E x m g o e3) (kc_X5_48 hB ⟨Nat.le_of_ble_eq_true rfl, Nat.le_of_ble_eq_true rfl⟩) (Wd.rec hK hW (by decide) cM_0 (ci := 5) rfl) hx hb hml hown hB hK hW hS ⟨Nat.zero_le _, Nat.zero_le _⟩ rfl hl.1 rfl (Nat.le_of_ble_eq_true rfl) rfl dX5_precedentOf_3 (fun H locs hW hS => ?_)
  refine lv_istore (lv' := [(4, .int v3), (0, rf E 211), (1, .int a0), (2, .int a1), (3, .int a2)]) hx hb dX5_precedentOf_6 hl (by decide) rfl (fun ls hl => ?_)
  refine lv_iload hx hb dX5_precedentOf_8 (lv_at hl 0 rfl) ?_
  refine lv_iconst (v := (-1)) hx hb dX5_precedentOf_10 (by decide) ?_
  refine lv_icmp_ne (tgt := 16) hx hb dX5_precedentOf_11 (by decide) (fun c11 => ?_) (fun c11 => ?_)
  · rw [if_neg c11] at hf
    refine lv_iload_n hx hb dX5_precedentOf_16 rfl (lv_at hl 4 rfl) ?_
    refine lv_iconst (v := 3) hx hb dX5_precedentOf_17 (by decide) ?_
    refine lv_icmp_ge (tgt := 39) hx hb dX5_precedentOf_18 (by decide) (fun c18 => ?_) (fun c18 => ?_)
    · rw [if_pos c18] at hf
      refine lv_iload_n hx hb dX5_precedentOf_39 rfl (lv_at hl 4 rfl) ?_
      refine lv_iconst (v := 3) hx hb dX5_precedentOf_40 (by decide) ?_
      refine lv_icmp_ne (tgt := 61) hx hb dX5_precedentOf_41 (by decide) (fun c41 => ?_) (fun c41 => ?_)
      · rw [if_neg c41] at hf
        refine lv_aload_n hx hb dX5_precedentOf_61 rfl (lv_at hl 1 rfl) ?_
        refine lv_iload hx hb dX5_precedentOf_62 (lv_at hl 0 rfl) ?_
        obtain ⟨v64, e64, hf⟩ := ob2 hf
        refine c_V (As := [.int v3]) (st1 := [.int v64]) (rest := []) (p_X5_following l E x m g o e64) (kc_X5_159 hB ⟨Nat.le_of_ble_eq_true rfl, Nat.le_of_ble_eq_true rfl⟩) (Wd.rec hK hW (by decide) cM_0 (ci := 5) rfl) hx hb hml hown hB hK hW hS ⟨Nat.zero_le _, Nat.zero_le _⟩ rfl hl.1 rfl (Nat.le_of_ble_eq_true rfl) rfl dX5_precedentOf_64 (fun H locs hW hS => ?_)
        cases hf
        exact e_i hx hb hr hlk hW hS dX5_precedentOf_67
      · rw [if_pos c41] at hf
        refine lv_aload_n hx hb dX5_precedentOf_44 rfl (lv_at hl 1 rfl) ?_
        refine lv_iload_n hx hb dX5_precedentOf_45 rfl (lv_at hl 2 rfl) ?_
        refine lv_iload_n hx hb dX5_precedentOf_46 rfl (lv_at hl 3 rfl) ?_
        obtain ⟨v47, e47, hf⟩ := ob2 hf
        refine c_V (As := [.int a0, .int a1]) (st1 := [.int v47]) (rest := []) (p_X5_binds l E x m g o e47) (kc_X5_86 hB ⟨Nat.le_of_ble_eq_true rfl, Nat.le_of_ble_eq_true rfl⟩) (Wd.rec hK hW (by decide) cM_0 (ci := 5) rfl) hx hb hml hown hB hK hW hS ⟨Nat.zero_le _, Nat.zero_le _⟩ rfl hl.1 rfl (Nat.le_of_ble_eq_true rfl) rfl dX5_precedentOf_47 (fun H locs hW hS => ?_)
        refine lv_if_eq (tgt := 57) hx hb dX5_precedentOf_50 (by decide) (fun c50 => ?_) (fun c50 => ?_)
        · rw [if_pos c50] at hf
          refine lv_iconst (v := 0) hx hb dX5_precedentOf_57 (by decide) ?_
          refine lv_goto (tgt := 67) hx hb dX5_precedentOf_58 (by decide) ?_
          cases hf
          exact e_i hx hb hr hlk hW hS dX5_precedentOf_67
        · rw [if_neg c50] at hf
          refine lv_iconst (v := 1) hx hb dX5_precedentOf_53 (by decide) ?_
          refine lv_goto (tgt := 67) hx hb dX5_precedentOf_54 (by decide) ?_
          cases hf
          exact e_i hx hb hr hlk hW hS dX5_precedentOf_67
    · rw [if_neg c18] at hf
      refine lv_aload_n hx hb dX5_precedentOf_21 rfl (lv_at hl 1 rfl) ?_
      refine gf_X5_7 hx hb hB hK hown hW dX5_precedentOf_22 ?_
      refine lv_sipush (v := 130) hx hb dX5_precedentOf_25 (by decide) ?_
      refine lv_iconst (v := 3) hx hb dX5_precedentOf_28 (by decide) ?_
      refine lv_iload hx hb dX5_precedentOf_29 (lv_at hl 0 rfl) ?_
      refine lv_imul hx hb dX5_precedentOf_31 ?_
      refine lv_iadd hx hb dX5_precedentOf_32 ?_
      refine lv_iload_n hx hb dX5_precedentOf_33 rfl (lv_at hl 4 rfl) ?_
      refine lv_iadd hx hb dX5_precedentOf_34 ?_
      obtain ⟨v35, e35, hf⟩ := ob2 hf
      refine r_iald hx hb hK hW (by decide) (cM_1) e35 dX5_precedentOf_35 ?_
      refine lv_goto (tgt := 67) hx hb dX5_precedentOf_36 (by decide) ?_
      cases hf
      exact e_i hx hb hr hlk hW hS dX5_precedentOf_67
  · rw [if_pos c11] at hf
    refine lv_iconst (v := (-1)) hx hb dX5_precedentOf_14 (by decide) ?_
    cases hf
    exact e_i hx hb hr hlk hW hS dX5_precedentOf_15
def f_X5_precedent_21 (m21 : XS) : Option (Int32 × XS) :=
    (f_X5_fails m21 1).bind fun q23 => (fun v23 m23 =>
    some (v23, m23)) q23.1 q23.2
def f_X5_precedent (m : XS) (a0 : Int32) (a1 : Int32) (a2 : Int32) : Option (Int32 × XS) :=
    (some (ux m 0 6 0)).bind fun m2 =>
    (f_X5_isKind a0).bind fun v6 =>
    if (v6 = 0 : Prop) then
      f_X5_precedent_21 m2
    else
      ((f_X5_in a1 0 2).bind fun v15 =>
      if (v15 = 0 : Prop) then
        f_X5_precedent_21 m2
      else
        ((f_X5_in a2 0 4).bind fun v30 =>
        if (v30 = 0 : Prop) then
          ((f_X5_fails m2 2).bind fun q48 => (fun v48 m48 =>
          some (v48, m48)) q48.1 q48.2)
        else
          ((f_X5_precedentOf m2 a0 a1 a2).bind fun v40 =>
          some (v40, m2))))
set_option maxRecDepth 100000 in
set_option maxHeartbeats 4000000 in
theorem p_X5_precedent (l : Launch) (E : TE) (x m : XS) (g o : Int64) {a0 : Int32} {a1 : Int32} {a2 : Int32} {r : Int32} {mr : XS} (hf : f_X5_precedent m a0 a1 a2 = some (r, mr)) : MG l E yX5_precedent cX5_precedent 4 (some .int) 5 [rf E 211, .int a0, .int a1, .int a2] (Wd E x m g o) (Wd E x mr g o) (some (.int r)) := by
  unfold f_X5_precedent at hf
  refine m_in (by decide) (Nat.le_of_ble_eq_true rfl) ?_
  intro p e s mi args below meth c H ls hx hb hr hlk hml hown hB hK hW hS hl
  have hl : lv_has ls 4 [(0, rf E 211), (1, .int a0), (2, .int a1), (3, .int a2)] := hl
  have J21 : ∀ (m21 : XS) (H : Heap) (locs : List Loc) (ls : Array Slot), f_X5_precedent_21 m21 = some (r, mr) → Wd E x m21 g o H → va_S (Ah E) s.heap H locs → lv_has ls 4 [(0, rf E 211)] → W p l e (rmH 5) s mi args below meth c H locs 0 0 (EQ E below args s (Wd E x mr g o) (some (.int r))) (F0 mi 21 ls []) := by
    intro m21 H locs ls hf hW hS hl
    unfold f_X5_precedent_21 at hf
    refine lv_aload_n hx hb dX5_precedent_21 rfl (lv_at hl 0 rfl) ?_
    refine lv_iconst (v := 1) hx hb dX5_precedent_22 (by decide) ?_
    obtain ⟨⟨v23, m23⟩, e23, hf⟩ := ob2 hf
    dsimp only at hf
    refine c_V (As := [.int 1]) (st1 := [.int v23]) (rest := []) (p_X5_fails l E x m21 g o e23) (kc_X5_64 hB ⟨Nat.le_of_ble_eq_true rfl, Nat.le_of_ble_eq_true rfl⟩) (Wd.rec hK hW (by decide) cM_0 (ci := 5) rfl) hx hb hml hown hB hK hW hS ⟨Nat.zero_le _, Nat.zero_le _⟩ rfl hl.1 rfl (Nat.le_of_ble_eq_true rfl) rfl dX5_precedent_23 (fun H locs hW hS => ?_)
    cases hf
    exact e_i hx hb hr hlk hW hS dX5_precedent_26
  refine lv_aload_n hx hb dX5_precedent_0 rfl (lv_at hl 0 rfl) ?_
  refine lv_iconst (v := 0) hx hb dX5_precedent_1 (by decide) ?_
  obtain ⟨m2, e2, hf⟩ := ob hf
  refine pf_X5_29 hx hb hB hK hown hW hS e2 dX5_precedent_2 (fun H locs hW hS => ?_)
  refine lv_iload_n hx hb dX5_precedent_5 rfl (lv_at hl 1 rfl) ?_
  obtain ⟨v6, e6, hf⟩ := ob2 hf
  refine c_S (As := [.int a0]) (st1 := [.int v6]) (rest := []) (p_X5_isKind l E x m2 g o e6) (kc_X5_60 hB ⟨Nat.le_of_ble_eq_true rfl, Nat.le_of_ble_eq_true rfl⟩) hx hb hml hown hB hK hW hS ⟨Nat.zero_le _, Nat.zero_le _⟩ rfl hl.1 rfl (Nat.le_of_ble_eq_true rfl) rfl dX5_precedent_6 (fun H locs hW hS => ?_)
  refine lv_if_eq (tgt := 21) hx hb dX5_precedent_9 (by decide) (fun c9 => ?_) (fun c9 => ?_)
  · rw [if_pos c9] at hf
    exact J21 m2 _ _ _ hf hW hS (lv_sub hl [0] rfl)
  · rw [if_neg c9] at hf
    refine lv_iload_n hx hb dX5_precedent_12 rfl (lv_at hl 2 rfl) ?_
    refine lv_iconst (v := 0) hx hb dX5_precedent_13 (by decide) ?_
    refine lv_iconst (v := 2) hx hb dX5_precedent_14 (by decide) ?_
    obtain ⟨v15, e15, hf⟩ := ob2 hf
    refine c_S (As := [.int a1, .int 0, .int 2]) (st1 := [.int v15]) (rest := []) (p_X5_in l E x m2 g o e15) (kc_X5_36 hB ⟨Nat.le_of_ble_eq_true rfl, Nat.le_of_ble_eq_true rfl⟩) hx hb hml hown hB hK hW hS ⟨Nat.zero_le _, Nat.zero_le _⟩ rfl hl.1 rfl (Nat.le_of_ble_eq_true rfl) rfl dX5_precedent_15 (fun H locs hW hS => ?_)
    refine lv_if_ne (tgt := 27) hx hb dX5_precedent_18 (by decide) (fun c18 => ?_) (fun c18 => ?_)
    · rw [if_neg c18] at hf
      refine lv_iload_n hx hb dX5_precedent_27 rfl (lv_at hl 3 rfl) ?_
      refine lv_iconst (v := 0) hx hb dX5_precedent_28 (by decide) ?_
      refine lv_iconst (v := 4) hx hb dX5_precedent_29 (by decide) ?_
      obtain ⟨v30, e30, hf⟩ := ob2 hf
      refine c_S (As := [.int a2, .int 0, .int 4]) (st1 := [.int v30]) (rest := []) (p_X5_in l E x m2 g o e30) (kc_X5_36 hB ⟨Nat.le_of_ble_eq_true rfl, Nat.le_of_ble_eq_true rfl⟩) hx hb hml hown hB hK hW hS ⟨Nat.zero_le _, Nat.zero_le _⟩ rfl hl.1 rfl (Nat.le_of_ble_eq_true rfl) rfl dX5_precedent_30 (fun H locs hW hS => ?_)
      refine lv_if_eq (tgt := 46) hx hb dX5_precedent_33 (by decide) (fun c33 => ?_) (fun c33 => ?_)
      · rw [if_pos c33] at hf
        refine lv_aload_n hx hb dX5_precedent_46 rfl (lv_at hl 0 rfl) ?_
        refine lv_iconst (v := 2) hx hb dX5_precedent_47 (by decide) ?_
        obtain ⟨⟨v48, m48⟩, e48, hf⟩ := ob2 hf
        dsimp only at hf
        refine c_V (As := [.int 2]) (st1 := [.int v48]) (rest := []) (p_X5_fails l E x m2 g o e48) (kc_X5_64 hB ⟨Nat.le_of_ble_eq_true rfl, Nat.le_of_ble_eq_true rfl⟩) (Wd.rec hK hW (by decide) cM_0 (ci := 5) rfl) hx hb hml hown hB hK hW hS ⟨Nat.zero_le _, Nat.zero_le _⟩ rfl hl.1 rfl (Nat.le_of_ble_eq_true rfl) rfl dX5_precedent_48 (fun H locs hW hS => ?_)
        cases hf
        exact e_i hx hb hr hlk hW hS dX5_precedent_51
      · rw [if_neg c33] at hf
        refine lv_aload_n hx hb dX5_precedent_36 rfl (lv_at hl 0 rfl) ?_
        refine lv_iload_n hx hb dX5_precedent_37 rfl (lv_at hl 1 rfl) ?_
        refine lv_iload_n hx hb dX5_precedent_38 rfl (lv_at hl 2 rfl) ?_
        refine lv_iload_n hx hb dX5_precedent_39 rfl (lv_at hl 3 rfl) ?_
        obtain ⟨v40, e40, hf⟩ := ob2 hf
        refine c_V (As := [.int a0, .int a1, .int a2]) (st1 := [.int v40]) (rest := []) (p_X5_precedentOf l E x m2 g o e40) (kc_X5_162 hB ⟨Nat.le_of_ble_eq_true rfl, Nat.le_of_ble_eq_true rfl⟩) (Wd.rec hK hW (by decide) cM_0 (ci := 5) rfl) hx hb hml hown hB hK hW hS ⟨Nat.zero_le _, Nat.zero_le _⟩ rfl hl.1 rfl (Nat.le_of_ble_eq_true rfl) rfl dX5_precedent_40 (fun H locs hW hS => ?_)
        refine lv_goto (tgt := 51) hx hb dX5_precedent_43 (by decide) ?_
        cases hf
        exact e_i hx hb hr hlk hW hS dX5_precedent_51
    · rw [if_pos c18] at hf
      exact J21 m2 _ _ _ hf hW hS (lv_sub hl [0] rfl)
def f_X5_ofComplaints_111 (m : XS) (k5 : Int32 → Int32 → Int32 → Int32 → Option (Int32)) (l1_111 : Int32) (l2_111 : Int32) (l4_111 : Int32) (t0_111 : Int32) (t1_111 : Int32) : Option (Int32) :=
    (some ((t1_111 + t0_111))).bind fun v112 =>
    (some (l4_111 + 1)).bind fun v113 =>
    k5 l1_111 l2_111 v112 v113
def f_X5_ofComplaints_40 (m : XS) (k5 : Int32 → Int32 → Int32 → Int32 → Option (Int32)) (l1_40 : Int32) (l2_40 : Int32) (l3_40 : Int32) (l4_40 : Int32) (t0_40 : Int32) : Option (Int32) :=
    if (t0_40 = 0 : Prop) then
      f_X5_ofComplaints_111 m k5 l1_40 l2_40 l4_40 0 l3_40
    else
      (if (l2_40 = 5 : Prop) then
        f_X5_ofComplaints_111 m k5 l1_40 l2_40 l4_40 1 l3_40
      else
        (if (l2_40 = 6 : Prop) then
          ((f_X5_of l4_40).bind fun v73 =>
          (aget 442 (m 1) (v73 + 5)).bind fun v78 =>
          f_X5_ofComplaints_111 m k5 l1_40 l2_40 l4_40 v78 l3_40)
        else
          (if (l2_40 = 7 : Prop) then
            ((f_X5_waitsFor m l4_40).bind fun v91 =>
            f_X5_ofComplaints_111 m k5 l1_40 l2_40 l4_40 v91 l3_40)
          else
            ((f_X5_waitsFor m l4_40).bind fun v100 =>
            if (v100 ≤ 0 : Prop) then
              f_X5_ofComplaints_111 m k5 l1_40 l2_40 l4_40 0 l3_40
            else
              f_X5_ofComplaints_111 m k5 l1_40 l2_40 l4_40 1 l3_40))))
def f_X5_ofComplaints_35 (m : XS) (k5 : Int32 → Int32 → Int32 → Int32 → Option (Int32)) (l1_35 : Int32) (l2_35 : Int32) (l3_35 : Int32) (l4_35 : Int32) : Option (Int32) :=
    f_X5_ofComplaints_40 m k5 l1_35 l2_35 l3_35 l4_35 1
def f_X5_ofComplaints_5 (m : XS) : Nat → Int32 → Int32 → Int32 → Int32 → Option (Int32)
  | 0, _, _, _, _ => none
  | n5 + 1, l1_5, l2_5, l3_5, l4_5 =>
    (aget 442 (m 1) 0).bind fun v12 =>
    if (v12 ≤ l4_5 : Prop) then
      some l3_5
    else
      (if (l1_5 = (-1) : Prop) then
        f_X5_ofComplaints_35 m (f_X5_ofComplaints_5 m n5) l1_5 l2_5 l3_5 l4_5
      else
        ((f_X5_of l4_5).bind fun v27 =>
        (aget 442 (m 1) v27).bind fun v30 =>
        if (v30 = l1_5 : Prop) then
          f_X5_ofComplaints_35 m (f_X5_ofComplaints_5 m n5) l1_5 l2_5 l3_5 l4_5
        else
          f_X5_ofComplaints_40 m (f_X5_ofComplaints_5 m n5) l1_5 l2_5 l3_5 l4_5 0))
def f_X5_ofComplaints (m : XS) (a0 : Int32) (a1 : Int32) : Option (Int32) :=
    f_X5_ofComplaints_5 m 4096 a0 a1 0 0
set_option maxRecDepth 100000 in
set_option maxHeartbeats 4000000 in
theorem p_X5_ofComplaints (l : Launch) (E : TE) (x m : XS) (g o : Int64) {a0 : Int32} {a1 : Int32} {r : Int32} (hf : f_X5_ofComplaints m a0 a1 = some r) : MG l E yX5_ofComplaints cX5_ofComplaints 6 (some .int) 4 [rf E 211, .int a0, .int a1] (Wd E x m g o) (Wd E x m g o) (some (.int r)) := by
  unfold f_X5_ofComplaints at hf
  refine m_in (by decide) (Nat.le_of_ble_eq_true rfl) ?_
  intro p e s mi args below meth c H ls hx hb hr hlk hml hown hB hK hW hS hl
  have hl : lv_has ls 6 [(0, rf E 211), (1, .int a0), (2, .int a1)] := hl
  have J5 : ∀ (n5 : Nat), ∀ (l1_5 : Int32) (l2_5 : Int32) (l3_5 : Int32) (l4_5 : Int32) (H : Heap) (locs : List Loc) (ls : Array Slot), f_X5_ofComplaints_5 m n5 l1_5 l2_5 l3_5 l4_5 = some r → Wd E x m g o H → va_S (Ah E) s.heap H locs → lv_has ls 6 [(0, rf E 211), (1, .int l1_5), (2, .int l2_5), (3, .int l3_5), (4, .int l4_5)] → W p l e (rmH 4) s mi args below meth c H locs 0 0 (EQ E below args s (Wd E x m g o) (some (.int r))) (F0 mi 5 ls []) := by
    intro n5
    induction n5 with
    | zero => intro l1_5 l2_5 l3_5 l4_5 H locs ls hf; exact absurd hf (fun z => nomatch (show (none : Option (Int32)) = some _ from z))
    | succ n5 ih5 =>
      intro l1_5 l2_5 l3_5 l4_5 H locs ls hf hW hS hl
      rw [f_X5_ofComplaints_5.eq_2] at hf
      have J111 : ∀ (l1_111 : Int32) (l2_111 : Int32) (l4_111 : Int32) (t0_111 : Int32) (t1_111 : Int32) (H : Heap) (locs : List Loc) (ls : Array Slot), f_X5_ofComplaints_111 m (f_X5_ofComplaints_5 m n5) l1_111 l2_111 l4_111 t0_111 t1_111 = some r → Wd E x m g o H → va_S (Ah E) s.heap H locs → lv_has ls 6 [(0, rf E 211), (1, .int l1_111), (2, .int l2_111), (4, .int l4_111)] → W p l e (rmH 4) s mi args below meth c H locs 0 0 (EQ E below args s (Wd E x m g o) (some (.int r))) (F0 mi 111 ls [.int t0_111, .int t1_111]) := by
        intro l1_111 l2_111 l4_111 t0_111 t1_111 H locs ls hf hW hS hl
        unfold f_X5_ofComplaints_111 at hf
        refine lv_iadd hx hb dX5_ofComplaints_111 ?_
        obtain ⟨v112, e112, hf⟩ := ob hf
        refine lv_nm e112 ?_
        refine lv_istore_n (lv' := [(3, .int v112), (0, rf E 211), (1, .int l1_111), (2, .int l2_111), (4, .int l4_111)]) hx hb dX5_ofComplaints_112 rfl hl (by decide) rfl (fun ls hl => ?_)
        obtain ⟨v113, e113, hf⟩ := ob hf
        refine lv_iinc (v := v113) (lv' := [(4, .int v113), (3, .int v112), (0, rf E 211), (1, .int l1_111), (2, .int l2_111)]) hx hb dX5_ofComplaints_113 hl (k := 4) rfl (by rw [e113]; rfl) (by decide) rfl (fun ls hl => ?_)
        refine lv_goto (tgt := 5) hx hb dX5_ofComplaints_116 (by decide) ?_
        exact ih5 l1_111 l2_111 v112 v113 _ _ _ hf hW hS (lv_sub hl [2, 3, 4, 1, 0] rfl)
      have J40 : ∀ (l1_40 : Int32) (l2_40 : Int32) (l3_40 : Int32) (l4_40 : Int32) (t0_40 : Int32) (H : Heap) (locs : List Loc) (ls : Array Slot), f_X5_ofComplaints_40 m (f_X5_ofComplaints_5 m n5) l1_40 l2_40 l3_40 l4_40 t0_40 = some r → Wd E x m g o H → va_S (Ah E) s.heap H locs → lv_has ls 6 [(0, rf E 211), (1, .int l1_40), (2, .int l2_40), (3, .int l3_40), (4, .int l4_40)] → W p l e (rmH 4) s mi args below meth c H locs 0 0 (EQ E below args s (Wd E x m g o) (some (.int r))) (F0 mi 40 ls [.int t0_40]) := by
        intro l1_40 l2_40 l3_40 l4_40 t0_40 H locs ls hf hW hS hl
        unfold f_X5_ofComplaints_40 at hf
        refine lv_istore (lv' := [(5, .int t0_40), (0, rf E 211), (1, .int l1_40), (2, .int l2_40), (3, .int l3_40), (4, .int l4_40)]) hx hb dX5_ofComplaints_40 hl (by decide) rfl (fun ls hl => ?_)
        refine lv_iload_n hx hb dX5_ofComplaints_42 rfl (lv_at hl 4 rfl) ?_
        refine lv_iload hx hb dX5_ofComplaints_43 (lv_at hl 0 rfl) ?_
        refine lv_if_ne (tgt := 52) hx hb dX5_ofComplaints_45 (by decide) (fun c45 => ?_) (fun c45 => ?_)
        · rw [if_neg c45] at hf
          refine lv_iload_n hx hb dX5_ofComplaints_52 rfl (lv_at hl 3 rfl) ?_
          refine lv_iconst (v := 5) hx hb dX5_ofComplaints_53 (by decide) ?_
          refine lv_icmp_ne (tgt := 61) hx hb dX5_ofComplaints_54 (by decide) (fun c54 => ?_) (fun c54 => ?_)
          · rw [if_neg c54] at hf
            refine lv_iload_n hx hb dX5_ofComplaints_61 rfl (lv_at hl 3 rfl) ?_
            refine lv_bipush (v := 6) hx hb dX5_ofComplaints_62 (by decide) ?_
            refine lv_icmp_ne (tgt := 82) hx hb dX5_ofComplaints_64 (by decide) (fun c64 => ?_) (fun c64 => ?_)
            · rw [if_neg c64] at hf
              refine lv_iload_n hx hb dX5_ofComplaints_82 rfl (lv_at hl 3 rfl) ?_
              refine lv_bipush (v := 7) hx hb dX5_ofComplaints_83 (by decide) ?_
              refine lv_icmp_ne (tgt := 97) hx hb dX5_ofComplaints_85 (by decide) (fun c85 => ?_) (fun c85 => ?_)
              · rw [if_neg c85] at hf
                refine lv_aload_n hx hb dX5_ofComplaints_97 rfl (lv_at hl 1 rfl) ?_
                refine lv_iload hx hb dX5_ofComplaints_98 (lv_at hl 5 rfl) ?_
                obtain ⟨v100, e100, hf⟩ := ob2 hf
                refine c_V (As := [.int l4_40]) (st1 := [.int v100, .int l3_40]) (rest := [.int l3_40]) (p_X5_waitsFor l E x m g o e100) (kc_X5_115 hB ⟨Nat.le_of_ble_eq_true rfl, Nat.le_of_ble_eq_true rfl⟩) (Wd.rec hK hW (by decide) cM_0 (ci := 5) rfl) hx hb hml hown hB hK hW hS ⟨Nat.zero_le _, Nat.zero_le _⟩ rfl hl.1 rfl (Nat.le_of_ble_eq_true rfl) rfl dX5_ofComplaints_100 (fun H locs hW hS => ?_)
                refine lv_if_le (tgt := 110) hx hb dX5_ofComplaints_103 (by decide) (fun c103 => ?_) (fun c103 => ?_)
                · rw [if_pos c103] at hf
                  refine lv_iconst (v := 0) hx hb dX5_ofComplaints_110 (by decide) ?_
                  exact J111 l1_40 l2_40 l4_40 0 l3_40 _ _ _ hf hW hS (lv_sub hl [1, 2, 3, 5] rfl)
                · rw [if_neg c103] at hf
                  refine lv_iconst (v := 1) hx hb dX5_ofComplaints_106 (by decide) ?_
                  refine lv_goto (tgt := 111) hx hb dX5_ofComplaints_107 (by decide) ?_
                  exact J111 l1_40 l2_40 l4_40 1 l3_40 _ _ _ hf hW hS (lv_sub hl [1, 2, 3, 5] rfl)
              · rw [if_pos c85] at hf
                refine lv_aload_n hx hb dX5_ofComplaints_88 rfl (lv_at hl 1 rfl) ?_
                refine lv_iload hx hb dX5_ofComplaints_89 (lv_at hl 5 rfl) ?_
                obtain ⟨v91, e91, hf⟩ := ob2 hf
                refine c_V (As := [.int l4_40]) (st1 := [.int v91, .int l3_40]) (rest := [.int l3_40]) (p_X5_waitsFor l E x m g o e91) (kc_X5_115 hB ⟨Nat.le_of_ble_eq_true rfl, Nat.le_of_ble_eq_true rfl⟩) (Wd.rec hK hW (by decide) cM_0 (ci := 5) rfl) hx hb hml hown hB hK hW hS ⟨Nat.zero_le _, Nat.zero_le _⟩ rfl hl.1 rfl (Nat.le_of_ble_eq_true rfl) rfl dX5_ofComplaints_91 (fun H locs hW hS => ?_)
                refine lv_goto (tgt := 111) hx hb dX5_ofComplaints_94 (by decide) ?_
                exact J111 l1_40 l2_40 l4_40 v91 l3_40 _ _ _ hf hW hS (lv_sub hl [1, 2, 3, 5] rfl)
            · rw [if_pos c64] at hf
              refine lv_aload_n hx hb dX5_ofComplaints_67 rfl (lv_at hl 1 rfl) ?_
              refine gf_X5_7 hx hb hB hK hown hW dX5_ofComplaints_68 ?_
              refine lv_iload hx hb dX5_ofComplaints_71 (lv_at hl 5 rfl) ?_
              obtain ⟨v73, e73, hf⟩ := ob2 hf
              refine c_S (As := [.int l4_40]) (st1 := [.int v73, rf E 212, .int l3_40]) (rest := [rf E 212, .int l3_40]) (p_X5_of l E x m g o e73) (kc_X5_54 hB ⟨Nat.le_of_ble_eq_true rfl, Nat.le_of_ble_eq_true rfl⟩) hx hb hml hown hB hK hW hS ⟨Nat.zero_le _, Nat.zero_le _⟩ rfl hl.1 rfl (Nat.le_of_ble_eq_true rfl) rfl dX5_ofComplaints_73 (fun H locs hW hS => ?_)
              refine lv_iconst (v := 5) hx hb dX5_ofComplaints_76 (by decide) ?_
              refine lv_iadd hx hb dX5_ofComplaints_77 ?_
              obtain ⟨v78, e78, hf⟩ := ob2 hf
              refine r_iald hx hb hK hW (by decide) (cM_1) e78 dX5_ofComplaints_78 ?_
              refine lv_goto (tgt := 111) hx hb dX5_ofComplaints_79 (by decide) ?_
              exact J111 l1_40 l2_40 l4_40 v78 l3_40 _ _ _ hf hW hS (lv_sub hl [1, 2, 3, 5] rfl)
          · rw [if_pos c54] at hf
            refine lv_iconst (v := 1) hx hb dX5_ofComplaints_57 (by decide) ?_
            refine lv_goto (tgt := 111) hx hb dX5_ofComplaints_58 (by decide) ?_
            exact J111 l1_40 l2_40 l4_40 1 l3_40 _ _ _ hf hW hS (lv_sub hl [1, 2, 3, 5] rfl)
        · rw [if_pos c45] at hf
          refine lv_iconst (v := 0) hx hb dX5_ofComplaints_48 (by decide) ?_
          refine lv_goto (tgt := 111) hx hb dX5_ofComplaints_49 (by decide) ?_
          exact J111 l1_40 l2_40 l4_40 0 l3_40 _ _ _ hf hW hS (lv_sub hl [1, 2, 3, 5] rfl)
      have J35 : ∀ (l1_35 : Int32) (l2_35 : Int32) (l3_35 : Int32) (l4_35 : Int32) (H : Heap) (locs : List Loc) (ls : Array Slot), f_X5_ofComplaints_35 m (f_X5_ofComplaints_5 m n5) l1_35 l2_35 l3_35 l4_35 = some r → Wd E x m g o H → va_S (Ah E) s.heap H locs → lv_has ls 6 [(0, rf E 211), (1, .int l1_35), (2, .int l2_35), (3, .int l3_35), (4, .int l4_35)] → W p l e (rmH 4) s mi args below meth c H locs 0 0 (EQ E below args s (Wd E x m g o) (some (.int r))) (F0 mi 35 ls []) := by
        intro l1_35 l2_35 l3_35 l4_35 H locs ls hf hW hS hl
        unfold f_X5_ofComplaints_35 at hf
        refine lv_iconst (v := 1) hx hb dX5_ofComplaints_35 (by decide) ?_
        refine lv_goto (tgt := 40) hx hb dX5_ofComplaints_36 (by decide) ?_
        exact J40 l1_35 l2_35 l3_35 l4_35 1 _ _ _ hf hW hS (lv_sub hl [0, 1, 2, 3, 4] rfl)
      refine lv_iload hx hb dX5_ofComplaints_5 (lv_at hl 4 rfl) ?_
      refine lv_aload_n hx hb dX5_ofComplaints_7 rfl (lv_at hl 0 rfl) ?_
      refine gf_X5_7 hx hb hB hK hown hW dX5_ofComplaints_8 ?_
      refine lv_iconst (v := 0) hx hb dX5_ofComplaints_11 (by decide) ?_
      obtain ⟨v12, e12, hf⟩ := ob2 hf
      refine r_iald hx hb hK hW (by decide) (cM_1) e12 dX5_ofComplaints_12 ?_
      refine lv_icmp_ge (tgt := 119) hx hb dX5_ofComplaints_13 (by decide) (fun c13 => ?_) (fun c13 => ?_)
      · rw [if_pos c13] at hf
        refine lv_iload_n hx hb dX5_ofComplaints_119 rfl (lv_at hl 3 rfl) ?_
        cases hf
        exact e_i hx hb hr hlk hW hS dX5_ofComplaints_120
      · rw [if_neg c13] at hf
        refine lv_iload_n hx hb dX5_ofComplaints_16 rfl (lv_at hl 1 rfl) ?_
        refine lv_iconst (v := (-1)) hx hb dX5_ofComplaints_17 (by decide) ?_
        refine lv_icmp_eq (tgt := 35) hx hb dX5_ofComplaints_18 (by decide) (fun c18 => ?_) (fun c18 => ?_)
        · rw [if_pos c18] at hf
          exact J35 l1_5 l2_5 l3_5 l4_5 _ _ _ hf hW hS (lv_sub hl [0, 1, 2, 3, 4] rfl)
        · rw [if_neg c18] at hf
          refine lv_aload_n hx hb dX5_ofComplaints_21 rfl (lv_at hl 0 rfl) ?_
          refine gf_X5_7 hx hb hB hK hown hW dX5_ofComplaints_22 ?_
          refine lv_iload hx hb dX5_ofComplaints_25 (lv_at hl 4 rfl) ?_
          obtain ⟨v27, e27, hf⟩ := ob2 hf
          refine c_S (As := [.int l4_5]) (st1 := [.int v27, rf E 212]) (rest := [rf E 212]) (p_X5_of l E x m g o e27) (kc_X5_54 hB ⟨Nat.le_of_ble_eq_true rfl, Nat.le_of_ble_eq_true rfl⟩) hx hb hml hown hB hK hW hS ⟨Nat.zero_le _, Nat.zero_le _⟩ rfl hl.1 rfl (Nat.le_of_ble_eq_true rfl) rfl dX5_ofComplaints_27 (fun H locs hW hS => ?_)
          obtain ⟨v30, e30, hf⟩ := ob2 hf
          refine r_iald hx hb hK hW (by decide) (cM_1) e30 dX5_ofComplaints_30 ?_
          refine lv_iload_n hx hb dX5_ofComplaints_31 rfl (lv_at hl 1 rfl) ?_
          refine lv_icmp_ne (tgt := 39) hx hb dX5_ofComplaints_32 (by decide) (fun c32 => ?_) (fun c32 => ?_)
          · rw [if_neg c32] at hf
            refine lv_iconst (v := 0) hx hb dX5_ofComplaints_39 (by decide) ?_
            exact J40 l1_5 l2_5 l3_5 l4_5 0 _ _ _ hf hW hS (lv_sub hl [0, 1, 2, 3, 4] rfl)
          · rw [if_pos c32] at hf
            exact J35 l1_5 l2_5 l3_5 l4_5 _ _ _ hf hW hS (lv_sub hl [0, 1, 2, 3, 4] rfl)
  refine lv_iconst (v := 0) hx hb dX5_ofComplaints_0 (by decide) ?_
  refine lv_istore_n (lv' := [(3, .int 0), (0, rf E 211), (1, .int a0), (2, .int a1)]) hx hb dX5_ofComplaints_1 rfl hl (by decide) rfl (fun ls hl => ?_)
  refine lv_iconst (v := 0) hx hb dX5_ofComplaints_2 (by decide) ?_
  refine lv_istore (lv' := [(4, .int 0), (3, .int 0), (0, rf E 211), (1, .int a0), (2, .int a1)]) hx hb dX5_ofComplaints_3 hl (by decide) rfl (fun ls hl => ?_)
  exact J5 4096 a0 a1 0 0 _ _ _ hf hW hS (lv_sub hl [2, 3, 4, 1, 0] rfl)
def f_X5_kindOf (m : XS) (a0 : Int32) (a1 : Int32) : Option (Int32) :=
    if (3 ≤ a1 : Prop) then
      (if (a1 = 3 : Prop) then
        ((f_X5_left m a0).bind fun v24 =>
        some v24)
      else
        (if (a1 = 4 : Prop) then
          ((f_X5_at a0).bind fun v40 =>
          (aget 442 (m 1) (v40 + 3)).bind fun v45 =>
          some v45)
        else
          ((f_X5_ofComplaints m a0 a1).bind fun v52 =>
          some v52)))
    else
      ((f_X5_at a0).bind fun v10 =>
      (aget 442 (m 1) (v10 + a1)).bind fun v15 =>
      some v15)
set_option maxRecDepth 100000 in
set_option maxHeartbeats 4000000 in
theorem p_X5_kindOf (l : Launch) (E : TE) (x m : XS) (g o : Int64) {a0 : Int32} {a1 : Int32} {r : Int32} (hf : f_X5_kindOf m a0 a1 = some r) : MG l E yX5_kindOf cX5_kindOf 3 (some .int) 5 [rf E 211, .int a0, .int a1] (Wd E x m g o) (Wd E x m g o) (some (.int r)) := by
  unfold f_X5_kindOf at hf
  refine m_in (by decide) (Nat.le_of_ble_eq_true rfl) ?_
  intro p e s mi args below meth c H ls hx hb hr hlk hml hown hB hK hW hS hl
  have hl : lv_has ls 3 [(0, rf E 211), (1, .int a0), (2, .int a1)] := hl
  refine lv_iload_n hx hb dX5_kindOf_0 rfl (lv_at hl 2 rfl) ?_
  refine lv_iconst (v := 3) hx hb dX5_kindOf_1 (by decide) ?_
  refine lv_icmp_ge (tgt := 17) hx hb dX5_kindOf_2 (by decide) (fun c2 => ?_) (fun c2 => ?_)
  · rw [if_pos c2] at hf
    refine lv_iload_n hx hb dX5_kindOf_17 rfl (lv_at hl 2 rfl) ?_
    refine lv_iconst (v := 3) hx hb dX5_kindOf_18 (by decide) ?_
    refine lv_icmp_ne (tgt := 30) hx hb dX5_kindOf_19 (by decide) (fun c19 => ?_) (fun c19 => ?_)
    · rw [if_neg c19] at hf
      refine lv_iload_n hx hb dX5_kindOf_30 rfl (lv_at hl 2 rfl) ?_
      refine lv_iconst (v := 4) hx hb dX5_kindOf_31 (by decide) ?_
      refine lv_icmp_ne (tgt := 49) hx hb dX5_kindOf_32 (by decide) (fun c32 => ?_) (fun c32 => ?_)
      · rw [if_neg c32] at hf
        refine lv_aload_n hx hb dX5_kindOf_49 rfl (lv_at hl 0 rfl) ?_
        refine lv_iload_n hx hb dX5_kindOf_50 rfl (lv_at hl 1 rfl) ?_
        refine lv_iload_n hx hb dX5_kindOf_51 rfl (lv_at hl 2 rfl) ?_
        obtain ⟨v52, e52, hf⟩ := ob2 hf
        refine c_V (As := [.int a0, .int a1]) (st1 := [.int v52]) (rest := []) (p_X5_ofComplaints l E x m g o e52) (kc_X5_165 hB ⟨Nat.le_of_ble_eq_true rfl, Nat.le_of_ble_eq_true rfl⟩) (Wd.rec hK hW (by decide) cM_0 (ci := 5) rfl) hx hb hml hown hB hK hW hS ⟨Nat.zero_le _, Nat.zero_le _⟩ rfl hl.1 rfl (Nat.le_of_ble_eq_true rfl) rfl dX5_kindOf_52 (fun H locs hW hS => ?_)
        cases hf
        exact e_i hx hb hr hlk hW hS dX5_kindOf_55
      · rw [if_pos c32] at hf
        refine lv_aload_n hx hb dX5_kindOf_35 rfl (lv_at hl 0 rfl) ?_
        refine gf_X5_7 hx hb hB hK hown hW dX5_kindOf_36 ?_
        refine lv_iload_n hx hb dX5_kindOf_39 rfl (lv_at hl 1 rfl) ?_
        obtain ⟨v40, e40, hf⟩ := ob2 hf
        refine c_S (As := [.int a0]) (st1 := [.int v40, rf E 212]) (rest := [rf E 212]) (p_X5_at l E x m g o e40) (kc_X5_25 hB ⟨Nat.le_of_ble_eq_true rfl, Nat.le_of_ble_eq_true rfl⟩) hx hb hml hown hB hK hW hS ⟨Nat.zero_le _, Nat.zero_le _⟩ rfl hl.1 rfl (Nat.le_of_ble_eq_true rfl) rfl dX5_kindOf_40 (fun H locs hW hS => ?_)
        refine lv_iconst (v := 3) hx hb dX5_kindOf_43 (by decide) ?_
        refine lv_iadd hx hb dX5_kindOf_44 ?_
        obtain ⟨v45, e45, hf⟩ := ob2 hf
        refine r_iald hx hb hK hW (by decide) (cM_1) e45 dX5_kindOf_45 ?_
        refine lv_goto (tgt := 55) hx hb dX5_kindOf_46 (by decide) ?_
        cases hf
        exact e_i hx hb hr hlk hW hS dX5_kindOf_55
    · rw [if_pos c19] at hf
      refine lv_aload_n hx hb dX5_kindOf_22 rfl (lv_at hl 0 rfl) ?_
      refine lv_iload_n hx hb dX5_kindOf_23 rfl (lv_at hl 1 rfl) ?_
      obtain ⟨v24, e24, hf⟩ := ob2 hf
      refine c_V (As := [.int a0]) (st1 := [.int v24]) (rest := []) (p_X5_left l E x m g o e24) (kc_X5_89 hB ⟨Nat.le_of_ble_eq_true rfl, Nat.le_of_ble_eq_true rfl⟩) (Wd.rec hK hW (by decide) cM_0 (ci := 5) rfl) hx hb hml hown hB hK hW hS ⟨Nat.zero_le _, Nat.zero_le _⟩ rfl hl.1 rfl (Nat.le_of_ble_eq_true rfl) rfl dX5_kindOf_24 (fun H locs hW hS => ?_)
      refine lv_goto (tgt := 55) hx hb dX5_kindOf_27 (by decide) ?_
      cases hf
      exact e_i hx hb hr hlk hW hS dX5_kindOf_55
  · rw [if_neg c2] at hf
    refine lv_aload_n hx hb dX5_kindOf_5 rfl (lv_at hl 0 rfl) ?_
    refine gf_X5_7 hx hb hB hK hown hW dX5_kindOf_6 ?_
    refine lv_iload_n hx hb dX5_kindOf_9 rfl (lv_at hl 1 rfl) ?_
    obtain ⟨v10, e10, hf⟩ := ob2 hf
    refine c_S (As := [.int a0]) (st1 := [.int v10, rf E 212]) (rest := [rf E 212]) (p_X5_at l E x m g o e10) (kc_X5_25 hB ⟨Nat.le_of_ble_eq_true rfl, Nat.le_of_ble_eq_true rfl⟩) hx hb hml hown hB hK hW hS ⟨Nat.zero_le _, Nat.zero_le _⟩ rfl hl.1 rfl (Nat.le_of_ble_eq_true rfl) rfl dX5_kindOf_10 (fun H locs hW hS => ?_)
    refine lv_iload_n hx hb dX5_kindOf_13 rfl (lv_at hl 2 rfl) ?_
    refine lv_iadd hx hb dX5_kindOf_14 ?_
    obtain ⟨v15, e15, hf⟩ := ob2 hf
    refine r_iald hx hb hK hW (by decide) (cM_1) e15 dX5_kindOf_15 ?_
    cases hf
    exact e_i hx hb hr hlk hW hS dX5_kindOf_16
def f_X5_kind (m : XS) (a0 : Int32) (a1 : Int32) : Option (Int32 × XS) :=
    (some (ux m 0 6 0)).bind fun m2 =>
    (f_X5_isKind a0).bind fun v6 =>
    if (v6 = 0 : Prop) then
      ((f_X5_fails m2 1).bind fun q14 => (fun v14 m14 =>
      some (v14, m14)) q14.1 q14.2)
    else
      ((f_X5_in a1 0 7).bind fun v22 =>
      if (v22 = 0 : Prop) then
        ((f_X5_fails m2 2).bind fun q39 => (fun v39 m39 =>
        some (v39, m39)) q39.1 q39.2)
      else
        ((f_X5_kindOf m2 a0 a1).bind fun v31 =>
        some (v31, m2)))
set_option maxRecDepth 100000 in
set_option maxHeartbeats 4000000 in
theorem p_X5_kind (l : Launch) (E : TE) (x m : XS) (g o : Int64) {a0 : Int32} {a1 : Int32} {r : Int32} {mr : XS} (hf : f_X5_kind m a0 a1 = some (r, mr)) : MG l E yX5_kind cX5_kind 3 (some .int) 6 [rf E 211, .int a0, .int a1] (Wd E x m g o) (Wd E x mr g o) (some (.int r)) := by
  unfold f_X5_kind at hf
  refine m_in (by decide) (Nat.le_of_ble_eq_true rfl) ?_
  intro p e s mi args below meth c H ls hx hb hr hlk hml hown hB hK hW hS hl
  have hl : lv_has ls 3 [(0, rf E 211), (1, .int a0), (2, .int a1)] := hl
  refine lv_aload_n hx hb dX5_kind_0 rfl (lv_at hl 0 rfl) ?_
  refine lv_iconst (v := 0) hx hb dX5_kind_1 (by decide) ?_
  obtain ⟨m2, e2, hf⟩ := ob hf
  refine pf_X5_29 hx hb hB hK hown hW hS e2 dX5_kind_2 (fun H locs hW hS => ?_)
  refine lv_iload_n hx hb dX5_kind_5 rfl (lv_at hl 1 rfl) ?_
  obtain ⟨v6, e6, hf⟩ := ob2 hf
  refine c_S (As := [.int a0]) (st1 := [.int v6]) (rest := []) (p_X5_isKind l E x m2 g o e6) (kc_X5_60 hB ⟨Nat.le_of_ble_eq_true rfl, Nat.le_of_ble_eq_true rfl⟩) hx hb hml hown hB hK hW hS ⟨Nat.zero_le _, Nat.zero_le _⟩ rfl hl.1 rfl (Nat.le_of_ble_eq_true rfl) rfl dX5_kind_6 (fun H locs hW hS => ?_)
  refine lv_if_ne (tgt := 18) hx hb dX5_kind_9 (by decide) (fun c9 => ?_) (fun c9 => ?_)
  · rw [if_neg c9] at hf
    refine lv_iload_n hx hb dX5_kind_18 rfl (lv_at hl 2 rfl) ?_
    refine lv_iconst (v := 0) hx hb dX5_kind_19 (by decide) ?_
    refine lv_bipush (v := 7) hx hb dX5_kind_20 (by decide) ?_
    obtain ⟨v22, e22, hf⟩ := ob2 hf
    refine c_S (As := [.int a1, .int 0, .int 7]) (st1 := [.int v22]) (rest := []) (p_X5_in l E x m2 g o e22) (kc_X5_36 hB ⟨Nat.le_of_ble_eq_true rfl, Nat.le_of_ble_eq_true rfl⟩) hx hb hml hown hB hK hW hS ⟨Nat.zero_le _, Nat.zero_le _⟩ rfl hl.1 rfl (Nat.le_of_ble_eq_true rfl) rfl dX5_kind_22 (fun H locs hW hS => ?_)
    refine lv_if_eq (tgt := 37) hx hb dX5_kind_25 (by decide) (fun c25 => ?_) (fun c25 => ?_)
    · rw [if_pos c25] at hf
      refine lv_aload_n hx hb dX5_kind_37 rfl (lv_at hl 0 rfl) ?_
      refine lv_iconst (v := 2) hx hb dX5_kind_38 (by decide) ?_
      obtain ⟨⟨v39, m39⟩, e39, hf⟩ := ob2 hf
      dsimp only at hf
      refine c_V (As := [.int 2]) (st1 := [.int v39]) (rest := []) (p_X5_fails l E x m2 g o e39) (kc_X5_64 hB ⟨Nat.le_of_ble_eq_true rfl, Nat.le_of_ble_eq_true rfl⟩) (Wd.rec hK hW (by decide) cM_0 (ci := 5) rfl) hx hb hml hown hB hK hW hS ⟨Nat.zero_le _, Nat.zero_le _⟩ rfl hl.1 rfl (Nat.le_of_ble_eq_true rfl) rfl dX5_kind_39 (fun H locs hW hS => ?_)
      cases hf
      exact e_i hx hb hr hlk hW hS dX5_kind_42
    · rw [if_neg c25] at hf
      refine lv_aload_n hx hb dX5_kind_28 rfl (lv_at hl 0 rfl) ?_
      refine lv_iload_n hx hb dX5_kind_29 rfl (lv_at hl 1 rfl) ?_
      refine lv_iload_n hx hb dX5_kind_30 rfl (lv_at hl 2 rfl) ?_
      obtain ⟨v31, e31, hf⟩ := ob2 hf
      refine c_V (As := [.int a0, .int a1]) (st1 := [.int v31]) (rest := []) (p_X5_kindOf l E x m2 g o e31) (kc_X5_168 hB ⟨Nat.le_of_ble_eq_true rfl, Nat.le_of_ble_eq_true rfl⟩) (Wd.rec hK hW (by decide) cM_0 (ci := 5) rfl) hx hb hml hown hB hK hW hS ⟨Nat.zero_le _, Nat.zero_le _⟩ rfl hl.1 rfl (Nat.le_of_ble_eq_true rfl) rfl dX5_kind_31 (fun H locs hW hS => ?_)
      refine lv_goto (tgt := 42) hx hb dX5_kind_34 (by decide) ?_
      cases hf
      exact e_i hx hb hr hlk hW hS dX5_kind_42
  · rw [if_pos c9] at hf
    refine lv_aload_n hx hb dX5_kind_12 rfl (lv_at hl 0 rfl) ?_
    refine lv_iconst (v := 1) hx hb dX5_kind_13 (by decide) ?_
    obtain ⟨⟨v14, m14⟩, e14, hf⟩ := ob2 hf
    dsimp only at hf
    refine c_V (As := [.int 1]) (st1 := [.int v14]) (rest := []) (p_X5_fails l E x m2 g o e14) (kc_X5_64 hB ⟨Nat.le_of_ble_eq_true rfl, Nat.le_of_ble_eq_true rfl⟩) (Wd.rec hK hW (by decide) cM_0 (ci := 5) rfl) hx hb hml hown hB hK hW hS ⟨Nat.zero_le _, Nat.zero_le _⟩ rfl hl.1 rfl (Nat.le_of_ble_eq_true rfl) rfl dX5_kind_14 (fun H locs hW hS => ?_)
    cases hf
    exact e_i hx hb hr hlk hW hS dX5_kind_17
def f_X5_departing_36 (m : XS) (k4 : Int32 → Int32 → Option (Int32)) (l2_36 : Int32) (t0_36 : Int32) (t1_36 : Int32) : Option (Int32) :=
    (some ((t1_36 + t0_36))).bind fun v37 =>
    (some (l2_36 + 1)).bind fun v38 =>
    k4 v37 v38
def f_X5_departing_4 (m : XS) : Nat → Int32 → Int32 → Option (Int32)
  | 0, _, _ => none
  | n4 + 1, l1_4, l2_4 =>
    (aget 442 (m 1) 0).bind fun v10 =>
    if (v10 ≤ l2_4 : Prop) then
      some l1_4
    else
      ((f_X5_of l2_4).bind fun v20 =>
      (aget 442 (m 1) (v20 + 9)).bind fun v26 =>
      if (v26 = 3 : Prop) then
        f_X5_departing_36 m (f_X5_departing_4 m n4) l2_4 1 l1_4
      else
        f_X5_departing_36 m (f_X5_departing_4 m n4) l2_4 0 l1_4)
def f_X5_departing (m : XS) : Option (Int32) :=
    f_X5_departing_4 m 4096 0 0
set_option maxRecDepth 100000 in
set_option maxHeartbeats 4000000 in
theorem p_X5_departing (l : Launch) (E : TE) (x m : XS) (g o : Int64) {r : Int32} (hf : f_X5_departing m = some r) : MG l E yX5_departing cX5_departing 3 (some .int) 1 [rf E 211] (Wd E x m g o) (Wd E x m g o) (some (.int r)) := by
  unfold f_X5_departing at hf
  refine m_in (by decide) (Nat.le_of_ble_eq_true rfl) ?_
  intro p e s mi args below meth c H ls hx hb hr hlk hml hown hB hK hW hS hl
  have hl : lv_has ls 3 [(0, rf E 211)] := hl
  have J4 : ∀ (n4 : Nat), ∀ (l1_4 : Int32) (l2_4 : Int32) (H : Heap) (locs : List Loc) (ls : Array Slot), f_X5_departing_4 m n4 l1_4 l2_4 = some r → Wd E x m g o H → va_S (Ah E) s.heap H locs → lv_has ls 3 [(0, rf E 211), (1, .int l1_4), (2, .int l2_4)] → W p l e (rmH 1) s mi args below meth c H locs 0 0 (EQ E below args s (Wd E x m g o) (some (.int r))) (F0 mi 4 ls []) := by
    intro n4
    induction n4 with
    | zero => intro l1_4 l2_4 H locs ls hf; exact absurd hf (fun z => nomatch (show (none : Option (Int32)) = some _ from z))
    | succ n4 ih4 =>
      intro l1_4 l2_4 H locs ls hf hW hS hl
      rw [f_X5_departing_4.eq_2] at hf
      have J36 : ∀ (l2_36 : Int32) (t0_36 : Int32) (t1_36 : Int32) (H : Heap) (locs : List Loc) (ls : Array Slot), f_X5_departing_36 m (f_X5_departing_4 m n4) l2_36 t0_36 t1_36 = some r → Wd E x m g o H → va_S (Ah E) s.heap H locs → lv_has ls 3 [(0, rf E 211), (2, .int l2_36)] → W p l e (rmH 1) s mi args below meth c H locs 0 0 (EQ E below args s (Wd E x m g o) (some (.int r))) (F0 mi 36 ls [.int t0_36, .int t1_36]) := by
        intro l2_36 t0_36 t1_36 H locs ls hf hW hS hl
        unfold f_X5_departing_36 at hf
        refine lv_iadd hx hb dX5_departing_36 ?_
        obtain ⟨v37, e37, hf⟩ := ob hf
        refine lv_nm e37 ?_
        refine lv_istore_n (lv' := [(1, .int v37), (0, rf E 211), (2, .int l2_36)]) hx hb dX5_departing_37 rfl hl (by decide) rfl (fun ls hl => ?_)
        obtain ⟨v38, e38, hf⟩ := ob hf
        refine lv_iinc (v := v38) (lv' := [(2, .int v38), (1, .int v37), (0, rf E 211)]) hx hb dX5_departing_38 hl (k := 2) rfl (by rw [e38]; rfl) (by decide) rfl (fun ls hl => ?_)
        refine lv_goto (tgt := 4) hx hb dX5_departing_41 (by decide) ?_
        exact ih4 v37 v38 _ _ _ hf hW hS (lv_sub hl [2, 1, 0] rfl)
      refine lv_iload_n hx hb dX5_departing_4 rfl (lv_at hl 2 rfl) ?_
      refine lv_aload_n hx hb dX5_departing_5 rfl (lv_at hl 0 rfl) ?_
      refine gf_X5_7 hx hb hB hK hown hW dX5_departing_6 ?_
      refine lv_iconst (v := 0) hx hb dX5_departing_9 (by decide) ?_
      obtain ⟨v10, e10, hf⟩ := ob2 hf
      refine r_iald hx hb hK hW (by decide) (cM_1) e10 dX5_departing_10 ?_
      refine lv_icmp_ge (tgt := 44) hx hb dX5_departing_11 (by decide) (fun c11 => ?_) (fun c11 => ?_)
      · rw [if_pos c11] at hf
        refine lv_iload_n hx hb dX5_departing_44 rfl (lv_at hl 1 rfl) ?_
        cases hf
        exact e_i hx hb hr hlk hW hS dX5_departing_45
      · rw [if_neg c11] at hf
        refine lv_iload_n hx hb dX5_departing_14 rfl (lv_at hl 1 rfl) ?_
        refine lv_aload_n hx hb dX5_departing_15 rfl (lv_at hl 0 rfl) ?_
        refine gf_X5_7 hx hb hB hK hown hW dX5_departing_16 ?_
        refine lv_iload_n hx hb dX5_departing_19 rfl (lv_at hl 2 rfl) ?_
        obtain ⟨v20, e20, hf⟩ := ob2 hf
        refine c_S (As := [.int l2_4]) (st1 := [.int v20, rf E 212, .int l1_4]) (rest := [rf E 212, .int l1_4]) (p_X5_of l E x m g o e20) (kc_X5_54 hB ⟨Nat.le_of_ble_eq_true rfl, Nat.le_of_ble_eq_true rfl⟩) hx hb hml hown hB hK hW hS ⟨Nat.zero_le _, Nat.zero_le _⟩ rfl hl.1 rfl (Nat.le_of_ble_eq_true rfl) rfl dX5_departing_20 (fun H locs hW hS => ?_)
        refine lv_bipush (v := 9) hx hb dX5_departing_23 (by decide) ?_
        refine lv_iadd hx hb dX5_departing_25 ?_
        obtain ⟨v26, e26, hf⟩ := ob2 hf
        refine r_iald hx hb hK hW (by decide) (cM_1) e26 dX5_departing_26 ?_
        refine lv_iconst (v := 3) hx hb dX5_departing_27 (by decide) ?_
        refine lv_icmp_ne (tgt := 35) hx hb dX5_departing_28 (by decide) (fun c28 => ?_) (fun c28 => ?_)
        · rw [if_neg c28] at hf
          refine lv_iconst (v := 0) hx hb dX5_departing_35 (by decide) ?_
          exact J36 l2_4 0 l1_4 _ _ _ hf hW hS (lv_sub hl [0, 2] rfl)
        · rw [if_pos c28] at hf
          refine lv_iconst (v := 1) hx hb dX5_departing_31 (by decide) ?_
          refine lv_goto (tgt := 36) hx hb dX5_departing_32 (by decide) ?_
          exact J36 l2_4 1 l1_4 _ _ _ hf hW hS (lv_sub hl [0, 2] rfl)
  refine lv_iconst (v := 0) hx hb dX5_departing_0 (by decide) ?_
  refine lv_istore_n (lv' := [(1, .int 0), (0, rf E 211)]) hx hb dX5_departing_1 rfl hl (by decide) rfl (fun ls hl => ?_)
  refine lv_iconst (v := 0) hx hb dX5_departing_2 (by decide) ?_
  refine lv_istore_n (lv' := [(2, .int 0), (1, .int 0), (0, rf E 211)]) hx hb dX5_departing_3 rfl hl (by decide) rfl (fun ls hl => ?_)
  exact J4 4096 0 0 _ _ _ hf hW hS (lv_sub hl [2, 1, 0] rfl)
def f_X5_unequal_114 (m : XS) (k4 : Int32 → Int32 → Option (Int32)) (k18 : Int32 → Int32 → Int32 → Option (Int32)) (l2_114 : Int32) (l3_114 : Int32) (t0_114 : Int32) (t1_114 : Int32) : Option (Int32) :=
    (some ((t1_114 + t0_114))).bind fun v115 =>
    (some (l3_114 + 1)).bind fun v116 =>
    k18 v115 l2_114 v116
def f_X5_unequal_113 (m : XS) (k4 : Int32 → Int32 → Option (Int32)) (k18 : Int32 → Int32 → Int32 → Option (Int32)) (l2_113 : Int32) (l3_113 : Int32) (t0_113 : Int32) : Option (Int32) :=
    f_X5_unequal_114 m k4 k18 l2_113 l3_113 0 t0_113
def f_X5_unequal_76 (m : XS) (k4 : Int32 → Int32 → Option (Int32)) (k18 : Int32 → Int32 → Int32 → Option (Int32)) (l1_76 : Int32) (l2_76 : Int32) (l3_76 : Int32) (t0_76 : Int32) : Option (Int32) :=
    if (t0_76 = 0 : Prop) then
      f_X5_unequal_113 m k4 k18 l2_76 l3_76 l1_76
    else
      ((f_X5_of l2_76).bind fun v89 =>
      (aget 442 (m 1) (v89 + 5)).bind fun v94 =>
      (f_X5_of l3_76).bind fun v100 =>
      (aget 442 (m 1) (v100 + 5)).bind fun v105 =>
      if (v94 = v105 : Prop) then
        f_X5_unequal_113 m k4 k18 l2_76 l3_76 l1_76
      else
        f_X5_unequal_114 m k4 k18 l2_76 l3_76 1 l1_76)
def f_X5_unequal_75 (m : XS) (k4 : Int32 → Int32 → Option (Int32)) (k18 : Int32 → Int32 → Int32 → Option (Int32)) (l1_75 : Int32) (l2_75 : Int32) (l3_75 : Int32) : Option (Int32) :=
    f_X5_unequal_76 m k4 k18 l1_75 l2_75 l3_75 0
def f_X5_unequal_18 (m : XS) (k4 : Int32 → Int32 → Option (Int32)) : Nat → Int32 → Int32 → Int32 → Option (Int32)
  | 0, _, _, _ => none
  | n18 + 1, l1_18, l2_18, l3_18 =>
    (aget 442 (m 1) 0).bind fun v24 =>
    if (v24 ≤ l3_18 : Prop) then
      ((some (l2_18 + 1)).bind fun v122 =>
      k4 l1_18 v122)
    else
      ((f_X5_of l2_18).bind fun v33 =>
      (aget 442 (m 1) (v33 + 8)).bind fun v39 =>
      if (v39 = (-1) : Prop) then
        f_X5_unequal_75 m k4 (f_X5_unequal_18 m k4 n18) l1_18 l2_18 l3_18
      else
        ((f_X5_of l2_18).bind fun v49 =>
        (aget 442 (m 1) (v49 + 8)).bind fun v55 =>
        (f_X5_of l3_18).bind fun v61 =>
        (aget 442 (m 1) (v61 + 8)).bind fun v67 =>
        if (v55 = v67 : Prop) then
          f_X5_unequal_76 m k4 (f_X5_unequal_18 m k4 n18) l1_18 l2_18 l3_18 1
        else
          f_X5_unequal_75 m k4 (f_X5_unequal_18 m k4 n18) l1_18 l2_18 l3_18))
def f_X5_unequal_4 (m : XS) : Nat → Int32 → Int32 → Option (Int32)
  | 0, _, _ => none
  | n4 + 1, l1_4, l2_4 =>
    (aget 442 (m 1) 0).bind fun v10 =>
    if (v10 ≤ l2_4 : Prop) then
      some l1_4
    else
      ((some ((l2_4 + 1))).bind fun v17 =>
      f_X5_unequal_18 m (f_X5_unequal_4 m n4) 4096 l1_4 l2_4 v17)
def f_X5_unequal (m : XS) : Option (Int32) :=
    f_X5_unequal_4 m 4096 0 0
set_option maxRecDepth 100000 in
set_option maxHeartbeats 4000000 in
theorem p_X5_unequal (l : Launch) (E : TE) (x m : XS) (g o : Int64) {r : Int32} (hf : f_X5_unequal m = some r) : MG l E yX5_unequal cX5_unequal 5 (some .int) 1 [rf E 211] (Wd E x m g o) (Wd E x m g o) (some (.int r)) := by
  unfold f_X5_unequal at hf
  refine m_in (by decide) (Nat.le_of_ble_eq_true rfl) ?_
  intro p e s mi args below meth c H ls hx hb hr hlk hml hown hB hK hW hS hl
  have hl : lv_has ls 5 [(0, rf E 211)] := hl
  have J4 : ∀ (n4 : Nat), ∀ (l1_4 : Int32) (l2_4 : Int32) (H : Heap) (locs : List Loc) (ls : Array Slot), f_X5_unequal_4 m n4 l1_4 l2_4 = some r → Wd E x m g o H → va_S (Ah E) s.heap H locs → lv_has ls 5 [(0, rf E 211), (1, .int l1_4), (2, .int l2_4)] → W p l e (rmH 1) s mi args below meth c H locs 0 0 (EQ E below args s (Wd E x m g o) (some (.int r))) (F0 mi 4 ls []) := by
    intro n4
    induction n4 with
    | zero => intro l1_4 l2_4 H locs ls hf; exact absurd hf (fun z => nomatch (show (none : Option (Int32)) = some _ from z))
    | succ n4 ih4 =>
      intro l1_4 l2_4 H locs ls hf hW hS hl
      rw [f_X5_unequal_4.eq_2] at hf
      have J18 : ∀ (n18 : Nat), ∀ (l1_18 : Int32) (l2_18 : Int32) (l3_18 : Int32) (H : Heap) (locs : List Loc) (ls : Array Slot), f_X5_unequal_18 m (f_X5_unequal_4 m n4) n18 l1_18 l2_18 l3_18 = some r → Wd E x m g o H → va_S (Ah E) s.heap H locs → lv_has ls 5 [(0, rf E 211), (1, .int l1_18), (2, .int l2_18), (3, .int l3_18)] → W p l e (rmH 1) s mi args below meth c H locs 0 0 (EQ E below args s (Wd E x m g o) (some (.int r))) (F0 mi 18 ls []) := by
        intro n18
        induction n18 with
        | zero => intro l1_18 l2_18 l3_18 H locs ls hf; exact absurd hf (fun z => nomatch (show (none : Option (Int32)) = some _ from z))
        | succ n18 ih18 =>
          intro l1_18 l2_18 l3_18 H locs ls hf hW hS hl
          rw [f_X5_unequal_18.eq_2] at hf
          have J114 : ∀ (l2_114 : Int32) (l3_114 : Int32) (t0_114 : Int32) (t1_114 : Int32) (H : Heap) (locs : List Loc) (ls : Array Slot), f_X5_unequal_114 m (f_X5_unequal_4 m n4) (f_X5_unequal_18 m (f_X5_unequal_4 m n4) n18) l2_114 l3_114 t0_114 t1_114 = some r → Wd E x m g o H → va_S (Ah E) s.heap H locs → lv_has ls 5 [(0, rf E 211), (2, .int l2_114), (3, .int l3_114)] → W p l e (rmH 1) s mi args below meth c H locs 0 0 (EQ E below args s (Wd E x m g o) (some (.int r))) (F0 mi 114 ls [.int t0_114, .int t1_114]) := by
            intro l2_114 l3_114 t0_114 t1_114 H locs ls hf hW hS hl
            unfold f_X5_unequal_114 at hf
            refine lv_iadd hx hb dX5_unequal_114 ?_
            obtain ⟨v115, e115, hf⟩ := ob hf
            refine lv_nm e115 ?_
            refine lv_istore_n (lv' := [(1, .int v115), (0, rf E 211), (2, .int l2_114), (3, .int l3_114)]) hx hb dX5_unequal_115 rfl hl (by decide) rfl (fun ls hl => ?_)
            obtain ⟨v116, e116, hf⟩ := ob hf
            refine lv_iinc (v := v116) (lv' := [(3, .int v116), (1, .int v115), (0, rf E 211), (2, .int l2_114)]) hx hb dX5_unequal_116 hl (k := 3) rfl (by rw [e116]; rfl) (by decide) rfl (fun ls hl => ?_)
            refine lv_goto (tgt := 18) hx hb dX5_unequal_119 (by decide) ?_
            exact ih18 v115 l2_114 v116 _ _ _ hf hW hS (lv_sub hl [2, 1, 3, 0] rfl)
          have J113 : ∀ (l2_113 : Int32) (l3_113 : Int32) (t0_113 : Int32) (H : Heap) (locs : List Loc) (ls : Array Slot), f_X5_unequal_113 m (f_X5_unequal_4 m n4) (f_X5_unequal_18 m (f_X5_unequal_4 m n4) n18) l2_113 l3_113 t0_113 = some r → Wd E x m g o H → va_S (Ah E) s.heap H locs → lv_has ls 5 [(0, rf E 211), (2, .int l2_113), (3, .int l3_113)] → W p l e (rmH 1) s mi args below meth c H locs 0 0 (EQ E below args s (Wd E x m g o) (some (.int r))) (F0 mi 113 ls [.int t0_113]) := by
            intro l2_113 l3_113 t0_113 H locs ls hf hW hS hl
            unfold f_X5_unequal_113 at hf
            refine lv_iconst (v := 0) hx hb dX5_unequal_113 (by decide) ?_
            exact J114 l2_113 l3_113 0 t0_113 _ _ _ hf hW hS (lv_sub hl [0, 1, 2] rfl)
          have J76 : ∀ (l1_76 : Int32) (l2_76 : Int32) (l3_76 : Int32) (t0_76 : Int32) (H : Heap) (locs : List Loc) (ls : Array Slot), f_X5_unequal_76 m (f_X5_unequal_4 m n4) (f_X5_unequal_18 m (f_X5_unequal_4 m n4) n18) l1_76 l2_76 l3_76 t0_76 = some r → Wd E x m g o H → va_S (Ah E) s.heap H locs → lv_has ls 5 [(0, rf E 211), (1, .int l1_76), (2, .int l2_76), (3, .int l3_76)] → W p l e (rmH 1) s mi args below meth c H locs 0 0 (EQ E below args s (Wd E x m g o) (some (.int r))) (F0 mi 76 ls [.int t0_76]) := by
            intro l1_76 l2_76 l3_76 t0_76 H locs ls hf hW hS hl
            unfold f_X5_unequal_76 at hf
            refine lv_istore (lv' := [(4, .int t0_76), (0, rf E 211), (1, .int l1_76), (2, .int l2_76), (3, .int l3_76)]) hx hb dX5_unequal_76 hl (by decide) rfl (fun ls hl => ?_)
            refine lv_iload_n hx hb dX5_unequal_78 rfl (lv_at hl 2 rfl) ?_
            refine lv_iload hx hb dX5_unequal_79 (lv_at hl 0 rfl) ?_
            refine lv_if_eq (tgt := 113) hx hb dX5_unequal_81 (by decide) (fun c81 => ?_) (fun c81 => ?_)
            · rw [if_pos c81] at hf
              exact J113 l2_76 l3_76 l1_76 _ _ _ hf hW hS (lv_sub hl [1, 3, 4] rfl)
            · rw [if_neg c81] at hf
              refine lv_aload_n hx hb dX5_unequal_84 rfl (lv_at hl 1 rfl) ?_
              refine gf_X5_7 hx hb hB hK hown hW dX5_unequal_85 ?_
              refine lv_iload_n hx hb dX5_unequal_88 rfl (lv_at hl 3 rfl) ?_
              obtain ⟨v89, e89, hf⟩ := ob2 hf
              refine c_S (As := [.int l2_76]) (st1 := [.int v89, rf E 212, .int l1_76]) (rest := [rf E 212, .int l1_76]) (p_X5_of l E x m g o e89) (kc_X5_54 hB ⟨Nat.le_of_ble_eq_true rfl, Nat.le_of_ble_eq_true rfl⟩) hx hb hml hown hB hK hW hS ⟨Nat.zero_le _, Nat.zero_le _⟩ rfl hl.1 rfl (Nat.le_of_ble_eq_true rfl) rfl dX5_unequal_89 (fun H locs hW hS => ?_)
              refine lv_iconst (v := 5) hx hb dX5_unequal_92 (by decide) ?_
              refine lv_iadd hx hb dX5_unequal_93 ?_
              obtain ⟨v94, e94, hf⟩ := ob2 hf
              refine r_iald hx hb hK hW (by decide) (cM_1) e94 dX5_unequal_94 ?_
              refine lv_aload_n hx hb dX5_unequal_95 rfl (lv_at hl 1 rfl) ?_
              refine gf_X5_7 hx hb hB hK hown hW dX5_unequal_96 ?_
              refine lv_iload_n hx hb dX5_unequal_99 rfl (lv_at hl 4 rfl) ?_
              obtain ⟨v100, e100, hf⟩ := ob2 hf
              refine c_S (As := [.int l3_76]) (st1 := [.int v100, rf E 212, .int v94, .int l1_76]) (rest := [rf E 212, .int v94, .int l1_76]) (p_X5_of l E x m g o e100) (kc_X5_54 hB ⟨Nat.le_of_ble_eq_true rfl, Nat.le_of_ble_eq_true rfl⟩) hx hb hml hown hB hK hW hS ⟨Nat.zero_le _, Nat.zero_le _⟩ rfl hl.1 rfl (Nat.le_of_ble_eq_true rfl) rfl dX5_unequal_100 (fun H locs hW hS => ?_)
              refine lv_iconst (v := 5) hx hb dX5_unequal_103 (by decide) ?_
              refine lv_iadd hx hb dX5_unequal_104 ?_
              obtain ⟨v105, e105, hf⟩ := ob2 hf
              refine r_iald hx hb hK hW (by decide) (cM_1) e105 dX5_unequal_105 ?_
              refine lv_icmp_eq (tgt := 113) hx hb dX5_unequal_106 (by decide) (fun c106 => ?_) (fun c106 => ?_)
              · rw [if_pos c106] at hf
                exact J113 l2_76 l3_76 l1_76 _ _ _ hf hW hS (lv_sub hl [1, 3, 4] rfl)
              · rw [if_neg c106] at hf
                refine lv_iconst (v := 1) hx hb dX5_unequal_109 (by decide) ?_
                refine lv_goto (tgt := 114) hx hb dX5_unequal_110 (by decide) ?_
                exact J114 l2_76 l3_76 1 l1_76 _ _ _ hf hW hS (lv_sub hl [1, 3, 4] rfl)
          have J75 : ∀ (l1_75 : Int32) (l2_75 : Int32) (l3_75 : Int32) (H : Heap) (locs : List Loc) (ls : Array Slot), f_X5_unequal_75 m (f_X5_unequal_4 m n4) (f_X5_unequal_18 m (f_X5_unequal_4 m n4) n18) l1_75 l2_75 l3_75 = some r → Wd E x m g o H → va_S (Ah E) s.heap H locs → lv_has ls 5 [(0, rf E 211), (1, .int l1_75), (2, .int l2_75), (3, .int l3_75)] → W p l e (rmH 1) s mi args below meth c H locs 0 0 (EQ E below args s (Wd E x m g o) (some (.int r))) (F0 mi 75 ls []) := by
            intro l1_75 l2_75 l3_75 H locs ls hf hW hS hl
            unfold f_X5_unequal_75 at hf
            refine lv_iconst (v := 0) hx hb dX5_unequal_75 (by decide) ?_
            exact J76 l1_75 l2_75 l3_75 0 _ _ _ hf hW hS (lv_sub hl [0, 1, 2, 3] rfl)
          refine lv_iload_n hx hb dX5_unequal_18 rfl (lv_at hl 3 rfl) ?_
          refine lv_aload_n hx hb dX5_unequal_19 rfl (lv_at hl 0 rfl) ?_
          refine gf_X5_7 hx hb hB hK hown hW dX5_unequal_20 ?_
          refine lv_iconst (v := 0) hx hb dX5_unequal_23 (by decide) ?_
          obtain ⟨v24, e24, hf⟩ := ob2 hf
          refine r_iald hx hb hK hW (by decide) (cM_1) e24 dX5_unequal_24 ?_
          refine lv_icmp_ge (tgt := 122) hx hb dX5_unequal_25 (by decide) (fun c25 => ?_) (fun c25 => ?_)
          · rw [if_pos c25] at hf
            obtain ⟨v122, e122, hf⟩ := ob hf
            refine lv_iinc (v := v122) (lv' := [(2, .int v122), (0, rf E 211), (1, .int l1_18), (3, .int l3_18)]) hx hb dX5_unequal_122 hl (k := 2) rfl (by rw [e122]; rfl) (by decide) rfl (fun ls hl => ?_)
            refine lv_goto (tgt := 4) hx hb dX5_unequal_125 (by decide) ?_
            exact ih4 l1_18 v122 _ _ _ hf hW hS (lv_sub hl [1, 2, 0] rfl)
          · rw [if_neg c25] at hf
            refine lv_aload_n hx hb dX5_unequal_28 rfl (lv_at hl 0 rfl) ?_
            refine gf_X5_7 hx hb hB hK hown hW dX5_unequal_29 ?_
            refine lv_iload_n hx hb dX5_unequal_32 rfl (lv_at hl 2 rfl) ?_
            obtain ⟨v33, e33, hf⟩ := ob2 hf
            refine c_S (As := [.int l2_18]) (st1 := [.int v33, rf E 212]) (rest := [rf E 212]) (p_X5_of l E x m g o e33) (kc_X5_54 hB ⟨Nat.le_of_ble_eq_true rfl, Nat.le_of_ble_eq_true rfl⟩) hx hb hml hown hB hK hW hS ⟨Nat.zero_le _, Nat.zero_le _⟩ rfl hl.1 rfl (Nat.le_of_ble_eq_true rfl) rfl dX5_unequal_33 (fun H locs hW hS => ?_)
            refine lv_bipush (v := 8) hx hb dX5_unequal_36 (by decide) ?_
            refine lv_iadd hx hb dX5_unequal_38 ?_
            obtain ⟨v39, e39, hf⟩ := ob2 hf
            refine r_iald hx hb hK hW (by decide) (cM_1) e39 dX5_unequal_39 ?_
            refine lv_iconst (v := (-1)) hx hb dX5_unequal_40 (by decide) ?_
            refine lv_icmp_eq (tgt := 75) hx hb dX5_unequal_41 (by decide) (fun c41 => ?_) (fun c41 => ?_)
            · rw [if_pos c41] at hf
              exact J75 l1_18 l2_18 l3_18 _ _ _ hf hW hS (lv_sub hl [0, 1, 2, 3] rfl)
            · rw [if_neg c41] at hf
              refine lv_aload_n hx hb dX5_unequal_44 rfl (lv_at hl 0 rfl) ?_
              refine gf_X5_7 hx hb hB hK hown hW dX5_unequal_45 ?_
              refine lv_iload_n hx hb dX5_unequal_48 rfl (lv_at hl 2 rfl) ?_
              obtain ⟨v49, e49, hf⟩ := ob2 hf
              refine c_S (As := [.int l2_18]) (st1 := [.int v49, rf E 212]) (rest := [rf E 212]) (p_X5_of l E x m g o e49) (kc_X5_54 hB ⟨Nat.le_of_ble_eq_true rfl, Nat.le_of_ble_eq_true rfl⟩) hx hb hml hown hB hK hW hS ⟨Nat.zero_le _, Nat.zero_le _⟩ rfl hl.1 rfl (Nat.le_of_ble_eq_true rfl) rfl dX5_unequal_49 (fun H locs hW hS => ?_)
              refine lv_bipush (v := 8) hx hb dX5_unequal_52 (by decide) ?_
              refine lv_iadd hx hb dX5_unequal_54 ?_
              obtain ⟨v55, e55, hf⟩ := ob2 hf
              refine r_iald hx hb hK hW (by decide) (cM_1) e55 dX5_unequal_55 ?_
              refine lv_aload_n hx hb dX5_unequal_56 rfl (lv_at hl 0 rfl) ?_
              refine gf_X5_7 hx hb hB hK hown hW dX5_unequal_57 ?_
              refine lv_iload_n hx hb dX5_unequal_60 rfl (lv_at hl 3 rfl) ?_
              obtain ⟨v61, e61, hf⟩ := ob2 hf
              refine c_S (As := [.int l3_18]) (st1 := [.int v61, rf E 212, .int v55]) (rest := [rf E 212, .int v55]) (p_X5_of l E x m g o e61) (kc_X5_54 hB ⟨Nat.le_of_ble_eq_true rfl, Nat.le_of_ble_eq_true rfl⟩) hx hb hml hown hB hK hW hS ⟨Nat.zero_le _, Nat.zero_le _⟩ rfl hl.1 rfl (Nat.le_of_ble_eq_true rfl) rfl dX5_unequal_61 (fun H locs hW hS => ?_)
              refine lv_bipush (v := 8) hx hb dX5_unequal_64 (by decide) ?_
              refine lv_iadd hx hb dX5_unequal_66 ?_
              obtain ⟨v67, e67, hf⟩ := ob2 hf
              refine r_iald hx hb hK hW (by decide) (cM_1) e67 dX5_unequal_67 ?_
              refine lv_icmp_ne (tgt := 75) hx hb dX5_unequal_68 (by decide) (fun c68 => ?_) (fun c68 => ?_)
              · rw [if_neg c68] at hf
                exact J75 l1_18 l2_18 l3_18 _ _ _ hf hW hS (lv_sub hl [0, 1, 2, 3] rfl)
              · rw [if_pos c68] at hf
                refine lv_iconst (v := 1) hx hb dX5_unequal_71 (by decide) ?_
                refine lv_goto (tgt := 76) hx hb dX5_unequal_72 (by decide) ?_
                exact J76 l1_18 l2_18 l3_18 1 _ _ _ hf hW hS (lv_sub hl [0, 1, 2, 3] rfl)
      refine lv_iload_n hx hb dX5_unequal_4 rfl (lv_at hl 2 rfl) ?_
      refine lv_aload_n hx hb dX5_unequal_5 rfl (lv_at hl 0 rfl) ?_
      refine gf_X5_7 hx hb hB hK hown hW dX5_unequal_6 ?_
      refine lv_iconst (v := 0) hx hb dX5_unequal_9 (by decide) ?_
      obtain ⟨v10, e10, hf⟩ := ob2 hf
      refine r_iald hx hb hK hW (by decide) (cM_1) e10 dX5_unequal_10 ?_
      refine lv_icmp_ge (tgt := 128) hx hb dX5_unequal_11 (by decide) (fun c11 => ?_) (fun c11 => ?_)
      · rw [if_pos c11] at hf
        refine lv_iload_n hx hb dX5_unequal_128 rfl (lv_at hl 1 rfl) ?_
        cases hf
        exact e_i hx hb hr hlk hW hS dX5_unequal_129
      · rw [if_neg c11] at hf
        refine lv_iload_n hx hb dX5_unequal_14 rfl (lv_at hl 2 rfl) ?_
        refine lv_iconst (v := 1) hx hb dX5_unequal_15 (by decide) ?_
        refine lv_iadd hx hb dX5_unequal_16 ?_
        obtain ⟨v17, e17, hf⟩ := ob hf
        refine lv_nm e17 ?_
        refine lv_istore_n (lv' := [(3, .int v17), (0, rf E 211), (1, .int l1_4), (2, .int l2_4)]) hx hb dX5_unequal_17 rfl hl (by decide) rfl (fun ls hl => ?_)
        exact J18 4096 l1_4 l2_4 v17 _ _ _ hf hW hS (lv_sub hl [1, 2, 3, 0] rfl)
  refine lv_iconst (v := 0) hx hb dX5_unequal_0 (by decide) ?_
  refine lv_istore_n (lv' := [(1, .int 0), (0, rf E 211)]) hx hb dX5_unequal_1 rfl hl (by decide) rfl (fun ls hl => ?_)
  refine lv_iconst (v := 0) hx hb dX5_unequal_2 (by decide) ?_
  refine lv_istore_n (lv' := [(2, .int 0), (1, .int 0), (0, rf E 211)]) hx hb dX5_unequal_3 rfl hl (by decide) rfl (fun ls hl => ?_)
  exact J4 4096 0 0 _ _ _ hf hW hS (lv_sub hl [2, 1, 0] rfl)
def f_X5_counted_123 (m : XS) : Option (Int32) :=
    some (m 0 3)
def f_X5_counted_17 (m : XS) (l1_17 : Int32) : Option (Int32) :=
    if (l1_17 = 0 : Prop) then
      ((aget 442 (m 1) 0).bind fun v81 =>
      some v81)
    else if (l1_17 = 1 : Prop) then
      f_X5_counted_123 m 
    else if (l1_17 = 2 : Prop) then
      f_X5_counted_123 m 
    else if (l1_17 = 3 : Prop) then
      f_X5_counted_123 m 
    else if (l1_17 = 4 : Prop) then
      f_X5_counted_123 m 
    else if (l1_17 = 5 : Prop) then
      ((aget 442 (m 1) 1).bind fun v88 =>
      some v88)
    else if (l1_17 = 6 : Prop) then
      ((f_X5_ofComplaints m (-1) 6).bind fun v94 =>
      some v94)
    else if (l1_17 = 7 : Prop) then
      ((f_X5_ofComplaints m (-1) 8).bind fun v102 =>
      some v102)
    else if (l1_17 = 8 : Prop) then
      ((f_X5_departing m).bind fun v107 =>
      some v107)
    else if (l1_17 = 9 : Prop) then
      ((aget 442 (m 1) 5).bind fun v116 =>
      some v116)
    else if (l1_17 = 10 : Prop) then
      ((f_X5_unequal m).bind fun v119 =>
      some v119)
    else   f_X5_counted_123 m 
def f_X5_counted (m : XS) (a0 : Int32) : Option (Int32) :=
    if (a0 ≤ 0 : Prop) then
      f_X5_counted_17 m a0
    else
      (if (5 ≤ a0 : Prop) then
        f_X5_counted_17 m a0
      else
        ((f_X5_staged m (a0 - 1)).bind fun v13 =>
        some v13))
set_option maxRecDepth 100000 in
set_option maxHeartbeats 4000000 in
theorem p_X5_counted (l : Launch) (E : TE) (x m : XS) (g o : Int64) {a0 : Int32} {r : Int32} (hf : f_X5_counted m a0 = some r) : MG l E yX5_counted cX5_counted 2 (some .int) 5 [rf E 211, .int a0] (Wd E x m g o) (Wd E x m g o) (some (.int r)) := by
  unfold f_X5_counted at hf
  refine m_in (by decide) (Nat.le_of_ble_eq_true rfl) ?_
  intro p e s mi args below meth c H ls hx hb hr hlk hml hown hB hK hW hS hl
  have hl : lv_has ls 2 [(0, rf E 211), (1, .int a0)] := hl
  have J123 : ∀  (H : Heap) (locs : List Loc) (ls : Array Slot), f_X5_counted_123 m = some r → Wd E x m g o H → va_S (Ah E) s.heap H locs → lv_has ls 2 [(0, rf E 211)] → W p l e (rmH 5) s mi args below meth c H locs 0 0 (EQ E below args s (Wd E x m g o) (some (.int r))) (F0 mi 123 ls []) := by
    intro H locs ls hf hW hS hl
    unfold f_X5_counted_123 at hf
    refine lv_aload_n hx hb dX5_counted_123 rfl (lv_at hl 0 rfl) ?_
    refine gf_X5_33 hx hb hB hK hown hW dX5_counted_124 ?_
    cases hf
    exact e_i hx hb hr hlk hW hS dX5_counted_127
  have J17 : ∀ (l1_17 : Int32) (H : Heap) (locs : List Loc) (ls : Array Slot), f_X5_counted_17 m l1_17 = some r → Wd E x m g o H → va_S (Ah E) s.heap H locs → lv_has ls 2 [(0, rf E 211), (1, .int l1_17)] → W p l e (rmH 5) s mi args below meth c H locs 0 0 (EQ E below args s (Wd E x m g o) (some (.int r))) (F0 mi 17 ls []) := by
    intro l1_17 H locs ls hf hW hS hl
    unfold f_X5_counted_17 at hf
    refine lv_iload_n hx hb dX5_counted_17 rfl (lv_at hl 1 rfl) ?_
    by_cases c18_0 : l1_17 = 0
    · rw [if_pos c18_0] at hf
      refine lv_tableIn (tgt := 76) (off := 58) hx hb dX5_counted_18 (by rw [c18_0]; decide) (by rw [c18_0]; decide) (by rw [c18_0]; rfl) (by decide) ?_
      refine lv_aload_n hx hb dX5_counted_76 rfl (lv_at hl 0 rfl) ?_
      refine gf_X5_7 hx hb hB hK hown hW dX5_counted_77 ?_
      refine lv_iconst (v := 0) hx hb dX5_counted_80 (by decide) ?_
      obtain ⟨v81, e81, hf⟩ := ob2 hf
      refine r_iald hx hb hK hW (by decide) (cM_1) e81 dX5_counted_81 ?_
      cases hf
      exact e_i hx hb hr hlk hW hS dX5_counted_82
    rw [if_neg c18_0] at hf
    by_cases c18_1 : l1_17 = 1
    · rw [if_pos c18_1] at hf
      refine lv_tableIn (tgt := 123) (off := 105) hx hb dX5_counted_18 (by rw [c18_1]; decide) (by rw [c18_1]; decide) (by rw [c18_1]; rfl) (by decide) ?_
      exact J123  _ _ _ hf hW hS (lv_sub hl [0] rfl)
    rw [if_neg c18_1] at hf
    by_cases c18_2 : l1_17 = 2
    · rw [if_pos c18_2] at hf
      refine lv_tableIn (tgt := 123) (off := 105) hx hb dX5_counted_18 (by rw [c18_2]; decide) (by rw [c18_2]; decide) (by rw [c18_2]; rfl) (by decide) ?_
      exact J123  _ _ _ hf hW hS (lv_sub hl [0] rfl)
    rw [if_neg c18_2] at hf
    by_cases c18_3 : l1_17 = 3
    · rw [if_pos c18_3] at hf
      refine lv_tableIn (tgt := 123) (off := 105) hx hb dX5_counted_18 (by rw [c18_3]; decide) (by rw [c18_3]; decide) (by rw [c18_3]; rfl) (by decide) ?_
      exact J123  _ _ _ hf hW hS (lv_sub hl [0] rfl)
    rw [if_neg c18_3] at hf
    by_cases c18_4 : l1_17 = 4
    · rw [if_pos c18_4] at hf
      refine lv_tableIn (tgt := 123) (off := 105) hx hb dX5_counted_18 (by rw [c18_4]; decide) (by rw [c18_4]; decide) (by rw [c18_4]; rfl) (by decide) ?_
      exact J123  _ _ _ hf hW hS (lv_sub hl [0] rfl)
    rw [if_neg c18_4] at hf
    by_cases c18_5 : l1_17 = 5
    · rw [if_pos c18_5] at hf
      refine lv_tableIn (tgt := 83) (off := 65) hx hb dX5_counted_18 (by rw [c18_5]; decide) (by rw [c18_5]; decide) (by rw [c18_5]; rfl) (by decide) ?_
      refine lv_aload_n hx hb dX5_counted_83 rfl (lv_at hl 0 rfl) ?_
      refine gf_X5_7 hx hb hB hK hown hW dX5_counted_84 ?_
      refine lv_iconst (v := 1) hx hb dX5_counted_87 (by decide) ?_
      obtain ⟨v88, e88, hf⟩ := ob2 hf
      refine r_iald hx hb hK hW (by decide) (cM_1) e88 dX5_counted_88 ?_
      cases hf
      exact e_i hx hb hr hlk hW hS dX5_counted_89
    rw [if_neg c18_5] at hf
    by_cases c18_6 : l1_17 = 6
    · rw [if_pos c18_6] at hf
      refine lv_tableIn (tgt := 90) (off := 72) hx hb dX5_counted_18 (by rw [c18_6]; decide) (by rw [c18_6]; decide) (by rw [c18_6]; rfl) (by decide) ?_
      refine lv_aload_n hx hb dX5_counted_90 rfl (lv_at hl 0 rfl) ?_
      refine lv_iconst (v := (-1)) hx hb dX5_counted_91 (by decide) ?_
      refine lv_bipush (v := 6) hx hb dX5_counted_92 (by decide) ?_
      obtain ⟨v94, e94, hf⟩ := ob2 hf
      refine c_V (As := [.int (-1), .int 6]) (st1 := [.int v94]) (rest := []) (p_X5_ofComplaints l E x m g o e94) (kc_X5_165 hB ⟨Nat.le_of_ble_eq_true rfl, Nat.le_of_ble_eq_true rfl⟩) (Wd.rec hK hW (by decide) cM_0 (ci := 5) rfl) hx hb hml hown hB hK hW hS ⟨Nat.zero_le _, Nat.zero_le _⟩ rfl hl.1 rfl (Nat.le_of_ble_eq_true rfl) rfl dX5_counted_94 (fun H locs hW hS => ?_)
      cases hf
      exact e_i hx hb hr hlk hW hS dX5_counted_97
    rw [if_neg c18_6] at hf
    by_cases c18_7 : l1_17 = 7
    · rw [if_pos c18_7] at hf
      refine lv_tableIn (tgt := 98) (off := 80) hx hb dX5_counted_18 (by rw [c18_7]; decide) (by rw [c18_7]; decide) (by rw [c18_7]; rfl) (by decide) ?_
      refine lv_aload_n hx hb dX5_counted_98 rfl (lv_at hl 0 rfl) ?_
      refine lv_iconst (v := (-1)) hx hb dX5_counted_99 (by decide) ?_
      refine lv_bipush (v := 8) hx hb dX5_counted_100 (by decide) ?_
      obtain ⟨v102, e102, hf⟩ := ob2 hf
      refine c_V (As := [.int (-1), .int 8]) (st1 := [.int v102]) (rest := []) (p_X5_ofComplaints l E x m g o e102) (kc_X5_165 hB ⟨Nat.le_of_ble_eq_true rfl, Nat.le_of_ble_eq_true rfl⟩) (Wd.rec hK hW (by decide) cM_0 (ci := 5) rfl) hx hb hml hown hB hK hW hS ⟨Nat.zero_le _, Nat.zero_le _⟩ rfl hl.1 rfl (Nat.le_of_ble_eq_true rfl) rfl dX5_counted_102 (fun H locs hW hS => ?_)
      cases hf
      exact e_i hx hb hr hlk hW hS dX5_counted_105
    rw [if_neg c18_7] at hf
    by_cases c18_8 : l1_17 = 8
    · rw [if_pos c18_8] at hf
      refine lv_tableIn (tgt := 106) (off := 88) hx hb dX5_counted_18 (by rw [c18_8]; decide) (by rw [c18_8]; decide) (by rw [c18_8]; rfl) (by decide) ?_
      refine lv_aload_n hx hb dX5_counted_106 rfl (lv_at hl 0 rfl) ?_
      obtain ⟨v107, e107, hf⟩ := ob2 hf
      refine c_V (As := []) (st1 := [.int v107]) (rest := []) (p_X5_departing l E x m g o e107) (kc_X5_171 hB ⟨Nat.le_of_ble_eq_true rfl, Nat.le_of_ble_eq_true rfl⟩) (Wd.rec hK hW (by decide) cM_0 (ci := 5) rfl) hx hb hml hown hB hK hW hS ⟨Nat.zero_le _, Nat.zero_le _⟩ rfl hl.1 rfl (Nat.le_of_ble_eq_true rfl) rfl dX5_counted_107 (fun H locs hW hS => ?_)
      cases hf
      exact e_i hx hb hr hlk hW hS dX5_counted_110
    rw [if_neg c18_8] at hf
    by_cases c18_9 : l1_17 = 9
    · rw [if_pos c18_9] at hf
      refine lv_tableIn (tgt := 111) (off := 93) hx hb dX5_counted_18 (by rw [c18_9]; decide) (by rw [c18_9]; decide) (by rw [c18_9]; rfl) (by decide) ?_
      refine lv_aload_n hx hb dX5_counted_111 rfl (lv_at hl 0 rfl) ?_
      refine gf_X5_7 hx hb hB hK hown hW dX5_counted_112 ?_
      refine lv_iconst (v := 5) hx hb dX5_counted_115 (by decide) ?_
      obtain ⟨v116, e116, hf⟩ := ob2 hf
      refine r_iald hx hb hK hW (by decide) (cM_1) e116 dX5_counted_116 ?_
      cases hf
      exact e_i hx hb hr hlk hW hS dX5_counted_117
    rw [if_neg c18_9] at hf
    by_cases c18_10 : l1_17 = 10
    · rw [if_pos c18_10] at hf
      refine lv_tableIn (tgt := 118) (off := 100) hx hb dX5_counted_18 (by rw [c18_10]; decide) (by rw [c18_10]; decide) (by rw [c18_10]; rfl) (by decide) ?_
      refine lv_aload_n hx hb dX5_counted_118 rfl (lv_at hl 0 rfl) ?_
      obtain ⟨v119, e119, hf⟩ := ob2 hf
      refine c_V (As := []) (st1 := [.int v119]) (rest := []) (p_X5_unequal l E x m g o e119) (kc_X5_174 hB ⟨Nat.le_of_ble_eq_true rfl, Nat.le_of_ble_eq_true rfl⟩) (Wd.rec hK hW (by decide) cM_0 (ci := 5) rfl) hx hb hml hown hB hK hW hS ⟨Nat.zero_le _, Nat.zero_le _⟩ rfl hl.1 rfl (Nat.le_of_ble_eq_true rfl) rfl dX5_counted_119 (fun H locs hW hS => ?_)
      cases hf
      exact e_i hx hb hr hlk hW hS dX5_counted_122
    rw [if_neg c18_10] at hf
    refine lv_tableOut (tgt := 123) hx hb dX5_counted_18 (by have h0 := lv_neT c18_0 (show (0 : Int32).toInt = 0 by decide); have h1 := lv_neT c18_1 (show (1 : Int32).toInt = 1 by decide); have h2 := lv_neT c18_2 (show (2 : Int32).toInt = 2 by decide); have h3 := lv_neT c18_3 (show (3 : Int32).toInt = 3 by decide); have h4 := lv_neT c18_4 (show (4 : Int32).toInt = 4 by decide); have h5 := lv_neT c18_5 (show (5 : Int32).toInt = 5 by decide); have h6 := lv_neT c18_6 (show (6 : Int32).toInt = 6 by decide); have h7 := lv_neT c18_7 (show (7 : Int32).toInt = 7 by decide); have h8 := lv_neT c18_8 (show (8 : Int32).toInt = 8 by decide); have h9 := lv_neT c18_9 (show (9 : Int32).toInt = 9 by decide); have h10 := lv_neT c18_10 (show (10 : Int32).toInt = 10 by decide); omega) (by decide) ?_
    exact J123  _ _ _ hf hW hS (lv_sub hl [0] rfl)
  refine lv_iload_n hx hb dX5_counted_0 rfl (lv_at hl 1 rfl) ?_
  refine lv_if_le (tgt := 17) hx hb dX5_counted_1 (by decide) (fun c1 => ?_) (fun c1 => ?_)
  · rw [if_pos c1] at hf
    exact J17 a0 _ _ _ hf hW hS (lv_sub hl [0, 1] rfl)
  · rw [if_neg c1] at hf
    refine lv_iload_n hx hb dX5_counted_4 rfl (lv_at hl 1 rfl) ?_
    refine lv_iconst (v := 5) hx hb dX5_counted_5 (by decide) ?_
    refine lv_icmp_ge (tgt := 17) hx hb dX5_counted_6 (by decide) (fun c6 => ?_) (fun c6 => ?_)
    · rw [if_pos c6] at hf
      exact J17 a0 _ _ _ hf hW hS (lv_sub hl [0, 1] rfl)
    · rw [if_neg c6] at hf
      refine lv_aload_n hx hb dX5_counted_9 rfl (lv_at hl 0 rfl) ?_
      refine lv_iload_n hx hb dX5_counted_10 rfl (lv_at hl 1 rfl) ?_
      refine lv_iconst (v := 1) hx hb dX5_counted_11 (by decide) ?_
      refine lv_isub hx hb dX5_counted_12 ?_
      obtain ⟨v13, e13, hf⟩ := ob2 hf
      refine c_V (As := [.int (a0 - 1)]) (st1 := [.int v13]) (rest := []) (p_X5_staged l E x m g o e13) (kc_X5_109 hB ⟨Nat.le_of_ble_eq_true rfl, Nat.le_of_ble_eq_true rfl⟩) (Wd.rec hK hW (by decide) cM_0 (ci := 5) rfl) hx hb hml hown hB hK hW hS ⟨Nat.zero_le _, Nat.zero_le _⟩ rfl hl.1 rfl (Nat.le_of_ble_eq_true rfl) rfl dX5_counted_13 (fun H locs hW hS => ?_)
      cases hf
      exact e_i hx hb hr hlk hW hS dX5_counted_16
def f_X5_count (m : XS) (a0 : Int32) : Option (Int32 × XS) :=
    (some (ux m 0 6 0)).bind fun m2 =>
    (f_X5_in a0 0 11).bind fun v9 =>
    if (v9 = 0 : Prop) then
      ((f_X5_fails m2 1).bind fun q25 => (fun v25 m25 =>
      some (v25, m25)) q25.1 q25.2)
    else
      ((f_X5_counted m2 a0).bind fun v17 =>
      some (v17, m2))
set_option maxRecDepth 100000 in
set_option maxHeartbeats 4000000 in
theorem p_X5_count (l : Launch) (E : TE) (x m : XS) (g o : Int64) {a0 : Int32} {r : Int32} {mr : XS} (hf : f_X5_count m a0 = some (r, mr)) : MG l E yX5_count cX5_count 2 (some .int) 6 [rf E 211, .int a0] (Wd E x m g o) (Wd E x mr g o) (some (.int r)) := by
  unfold f_X5_count at hf
  refine m_in (by decide) (Nat.le_of_ble_eq_true rfl) ?_
  intro p e s mi args below meth c H ls hx hb hr hlk hml hown hB hK hW hS hl
  have hl : lv_has ls 2 [(0, rf E 211), (1, .int a0)] := hl
  refine lv_aload_n hx hb dX5_count_0 rfl (lv_at hl 0 rfl) ?_
  refine lv_iconst (v := 0) hx hb dX5_count_1 (by decide) ?_
  obtain ⟨m2, e2, hf⟩ := ob hf
  refine pf_X5_29 hx hb hB hK hown hW hS e2 dX5_count_2 (fun H locs hW hS => ?_)
  refine lv_iload_n hx hb dX5_count_5 rfl (lv_at hl 1 rfl) ?_
  refine lv_iconst (v := 0) hx hb dX5_count_6 (by decide) ?_
  refine lv_bipush (v := 11) hx hb dX5_count_7 (by decide) ?_
  obtain ⟨v9, e9, hf⟩ := ob2 hf
  refine c_S (As := [.int a0, .int 0, .int 11]) (st1 := [.int v9]) (rest := []) (p_X5_in l E x m2 g o e9) (kc_X5_36 hB ⟨Nat.le_of_ble_eq_true rfl, Nat.le_of_ble_eq_true rfl⟩) hx hb hml hown hB hK hW hS ⟨Nat.zero_le _, Nat.zero_le _⟩ rfl hl.1 rfl (Nat.le_of_ble_eq_true rfl) rfl dX5_count_9 (fun H locs hW hS => ?_)
  refine lv_if_eq (tgt := 23) hx hb dX5_count_12 (by decide) (fun c12 => ?_) (fun c12 => ?_)
  · rw [if_pos c12] at hf
    refine lv_aload_n hx hb dX5_count_23 rfl (lv_at hl 0 rfl) ?_
    refine lv_iconst (v := 1) hx hb dX5_count_24 (by decide) ?_
    obtain ⟨⟨v25, m25⟩, e25, hf⟩ := ob2 hf
    dsimp only at hf
    refine c_V (As := [.int 1]) (st1 := [.int v25]) (rest := []) (p_X5_fails l E x m2 g o e25) (kc_X5_64 hB ⟨Nat.le_of_ble_eq_true rfl, Nat.le_of_ble_eq_true rfl⟩) (Wd.rec hK hW (by decide) cM_0 (ci := 5) rfl) hx hb hml hown hB hK hW hS ⟨Nat.zero_le _, Nat.zero_le _⟩ rfl hl.1 rfl (Nat.le_of_ble_eq_true rfl) rfl dX5_count_25 (fun H locs hW hS => ?_)
    cases hf
    exact e_i hx hb hr hlk hW hS dX5_count_28
  · rw [if_neg c12] at hf
    refine lv_aload_n hx hb dX5_count_15 rfl (lv_at hl 0 rfl) ?_
    refine lv_iload_n hx hb dX5_count_16 rfl (lv_at hl 1 rfl) ?_
    obtain ⟨v17, e17, hf⟩ := ob2 hf
    refine c_V (As := [.int a0]) (st1 := [.int v17]) (rest := []) (p_X5_counted l E x m2 g o e17) (kc_X5_177 hB ⟨Nat.le_of_ble_eq_true rfl, Nat.le_of_ble_eq_true rfl⟩) (Wd.rec hK hW (by decide) cM_0 (ci := 5) rfl) hx hb hml hown hB hK hW hS ⟨Nat.zero_le _, Nat.zero_le _⟩ rfl hl.1 rfl (Nat.le_of_ble_eq_true rfl) rfl dX5_count_17 (fun H locs hW hS => ?_)
    refine lv_goto (tgt := 28) hx hb dX5_count_20 (by decide) ?_
    cases hf
    exact e_i hx hb hr hlk hW hS dX5_count_28
def f_X5_setting (m : XS) (a0 : Int32) : Option (Int32 × XS) :=
    (some (ux m 0 6 0)).bind fun m2 =>
    (f_X5_in a0 0 2).bind fun v8 =>
    if (v8 = 0 : Prop) then
      ((f_X5_fails m2 1).bind fun q27 => (fun v27 m27 =>
      some (v27, m27)) q27.1 q27.2)
    else
      ((aget 442 (m2 1) (2 + a0)).bind fun v21 =>
      some (v21, m2))
set_option maxRecDepth 100000 in
set_option maxHeartbeats 4000000 in
theorem p_X5_setting (l : Launch) (E : TE) (x m : XS) (g o : Int64) {a0 : Int32} {r : Int32} {mr : XS} (hf : f_X5_setting m a0 = some (r, mr)) : MG l E yX5_setting cX5_setting 2 (some .int) 1 [rf E 211, .int a0] (Wd E x m g o) (Wd E x mr g o) (some (.int r)) := by
  unfold f_X5_setting at hf
  refine m_in (by decide) (Nat.le_of_ble_eq_true rfl) ?_
  intro p e s mi args below meth c H ls hx hb hr hlk hml hown hB hK hW hS hl
  have hl : lv_has ls 2 [(0, rf E 211), (1, .int a0)] := hl
  refine lv_aload_n hx hb dX5_setting_0 rfl (lv_at hl 0 rfl) ?_
  refine lv_iconst (v := 0) hx hb dX5_setting_1 (by decide) ?_
  obtain ⟨m2, e2, hf⟩ := ob hf
  refine pf_X5_29 hx hb hB hK hown hW hS e2 dX5_setting_2 (fun H locs hW hS => ?_)
  refine lv_iload_n hx hb dX5_setting_5 rfl (lv_at hl 1 rfl) ?_
  refine lv_iconst (v := 0) hx hb dX5_setting_6 (by decide) ?_
  refine lv_iconst (v := 2) hx hb dX5_setting_7 (by decide) ?_
  obtain ⟨v8, e8, hf⟩ := ob2 hf
  refine c_S (As := [.int a0, .int 0, .int 2]) (st1 := [.int v8]) (rest := []) (p_X5_in l E x m2 g o e8) (kc_X5_36 hB ⟨Nat.le_of_ble_eq_true rfl, Nat.le_of_ble_eq_true rfl⟩) hx hb hml hown hB hK hW hS ⟨Nat.zero_le _, Nat.zero_le _⟩ rfl hl.1 rfl (Nat.le_of_ble_eq_true rfl) rfl dX5_setting_8 (fun H locs hW hS => ?_)
  refine lv_if_eq (tgt := 25) hx hb dX5_setting_11 (by decide) (fun c11 => ?_) (fun c11 => ?_)
  · rw [if_pos c11] at hf
    refine lv_aload_n hx hb dX5_setting_25 rfl (lv_at hl 0 rfl) ?_
    refine lv_iconst (v := 1) hx hb dX5_setting_26 (by decide) ?_
    obtain ⟨⟨v27, m27⟩, e27, hf⟩ := ob2 hf
    dsimp only at hf
    refine c_V (As := [.int 1]) (st1 := [.int v27]) (rest := []) (p_X5_fails l E x m2 g o e27) (kc_X5_64 hB ⟨Nat.le_of_ble_eq_true rfl, Nat.le_of_ble_eq_true rfl⟩) (Wd.rec hK hW (by decide) cM_0 (ci := 5) rfl) hx hb hml hown hB hK hW hS ⟨Nat.zero_le _, Nat.zero_le _⟩ rfl hl.1 rfl (Nat.le_of_ble_eq_true rfl) rfl dX5_setting_27 (fun H locs hW hS => ?_)
    cases hf
    exact e_i hx hb hr hlk hW hS dX5_setting_30
  · rw [if_neg c11] at hf
    refine lv_aload_n hx hb dX5_setting_14 rfl (lv_at hl 0 rfl) ?_
    refine gf_X5_7 hx hb hB hK hown hW dX5_setting_15 ?_
    refine lv_iconst (v := 2) hx hb dX5_setting_18 (by decide) ?_
    refine lv_iload_n hx hb dX5_setting_19 rfl (lv_at hl 1 rfl) ?_
    refine lv_iadd hx hb dX5_setting_20 ?_
    obtain ⟨v21, e21, hf⟩ := ob2 hf
    refine r_iald hx hb hK hW (by decide) (cM_1) e21 dX5_setting_21 ?_
    refine lv_goto (tgt := 30) hx hb dX5_setting_22 (by decide) ?_
    cases hf
    exact e_i hx hb hr hlk hW hS dX5_setting_30
def f_X5_customerAt_72 (m : XS) (k8 : Int32 → Int32 → Int32 → Int32 → Int32 → Option (Int32)) (l1_72 : Int32) (l2_72 : Int32) (l4_72 : Int32) (l5_72 : Int32) (t0_72 : Int32) (t1_72 : Int32) : Option (Int32) :=
    (some ((t1_72 + t0_72))).bind fun v73 =>
    (some (l5_72 + 1)).bind fun v74 =>
    k8 l1_72 l2_72 v73 l4_72 v74
def f_X5_customerAt_59 (m : XS) (k8 : Int32 → Int32 → Int32 → Int32 → Int32 → Option (Int32)) (l1_59 : Int32) (l2_59 : Int32) (l3_59 : Int32) (l5_59 : Int32) (l6_59 : Int32) (t0_59 : Int32) : Option (Int32) :=
    if (l6_59 = 0 : Prop) then
      f_X5_customerAt_72 m k8 l1_59 l2_59 t0_59 l5_59 0 l3_59
    else
      f_X5_customerAt_72 m k8 l1_59 l2_59 t0_59 l5_59 1 l3_59
def f_X5_customerAt_57 (m : XS) (k8 : Int32 → Int32 → Int32 → Int32 → Int32 → Option (Int32)) (l1_57 : Int32) (l2_57 : Int32) (l3_57 : Int32) (l4_57 : Int32) (l5_57 : Int32) (l6_57 : Int32) : Option (Int32) :=
    f_X5_customerAt_59 m k8 l1_57 l2_57 l3_57 l5_57 l6_57 l4_57
def f_X5_customerAt_40 (m : XS) (k8 : Int32 → Int32 → Int32 → Int32 → Int32 → Option (Int32)) (l1_40 : Int32) (l2_40 : Int32) (l3_40 : Int32) (l4_40 : Int32) (l5_40 : Int32) (t0_40 : Int32) : Option (Int32) :=
    if (t0_40 = 0 : Prop) then
      f_X5_customerAt_57 m k8 l1_40 l2_40 l3_40 l4_40 l5_40 t0_40
    else
      (if (l3_40 = l2_40 : Prop) then
        f_X5_customerAt_59 m k8 l1_40 l2_40 l3_40 l5_40 t0_40 l5_40
      else
        f_X5_customerAt_57 m k8 l1_40 l2_40 l3_40 l4_40 l5_40 t0_40)
def f_X5_customerAt_8 (m : XS) : Nat → Int32 → Int32 → Int32 → Int32 → Int32 → Option (Int32)
  | 0, _, _, _, _, _ => none
  | n8 + 1, l1_8, l2_8, l3_8, l4_8, l5_8 =>
    (aget 442 (m 1) 0).bind fun v15 =>
    if (v15 ≤ l5_8 : Prop) then
      some l4_8
    else
      ((f_X5_of l5_8).bind fun v25 =>
      (aget 442 (m 1) (v25 + 2)).bind fun v30 =>
      if (v30 = l1_8 : Prop) then
        f_X5_customerAt_40 m (f_X5_customerAt_8 m n8) l1_8 l2_8 l3_8 l4_8 l5_8 1
      else
        f_X5_customerAt_40 m (f_X5_customerAt_8 m n8) l1_8 l2_8 l3_8 l4_8 l5_8 0)
def f_X5_customerAt (m : XS) (a0 : Int32) (a1 : Int32) : Option (Int32) :=
    f_X5_customerAt_8 m 4096 a0 a1 0 (-1) 0
set_option maxRecDepth 100000 in
set_option maxHeartbeats 4000000 in
theorem p_X5_customerAt (l : Launch) (E : TE) (x m : XS) (g o : Int64) {a0 : Int32} {a1 : Int32} {r : Int32} (hf : f_X5_customerAt m a0 a1 = some r) : MG l E yX5_customerAt cX5_customerAt 7 (some .int) 1 [rf E 211, .int a0, .int a1] (Wd E x m g o) (Wd E x m g o) (some (.int r)) := by
  unfold f_X5_customerAt at hf
  refine m_in (by decide) (Nat.le_of_ble_eq_true rfl) ?_
  intro p e s mi args below meth c H ls hx hb hr hlk hml hown hB hK hW hS hl
  have hl : lv_has ls 7 [(0, rf E 211), (1, .int a0), (2, .int a1)] := hl
  have J8 : ∀ (n8 : Nat), ∀ (l1_8 : Int32) (l2_8 : Int32) (l3_8 : Int32) (l4_8 : Int32) (l5_8 : Int32) (H : Heap) (locs : List Loc) (ls : Array Slot), f_X5_customerAt_8 m n8 l1_8 l2_8 l3_8 l4_8 l5_8 = some r → Wd E x m g o H → va_S (Ah E) s.heap H locs → lv_has ls 7 [(0, rf E 211), (1, .int l1_8), (2, .int l2_8), (3, .int l3_8), (4, .int l4_8), (5, .int l5_8)] → W p l e (rmH 1) s mi args below meth c H locs 0 0 (EQ E below args s (Wd E x m g o) (some (.int r))) (F0 mi 8 ls []) := by
    intro n8
    induction n8 with
    | zero => intro l1_8 l2_8 l3_8 l4_8 l5_8 H locs ls hf; exact absurd hf (fun z => nomatch (show (none : Option (Int32)) = some _ from z))
    | succ n8 ih8 =>
      intro l1_8 l2_8 l3_8 l4_8 l5_8 H locs ls hf hW hS hl
      rw [f_X5_customerAt_8.eq_2] at hf
      have J72 : ∀ (l1_72 : Int32) (l2_72 : Int32) (l4_72 : Int32) (l5_72 : Int32) (t0_72 : Int32) (t1_72 : Int32) (H : Heap) (locs : List Loc) (ls : Array Slot), f_X5_customerAt_72 m (f_X5_customerAt_8 m n8) l1_72 l2_72 l4_72 l5_72 t0_72 t1_72 = some r → Wd E x m g o H → va_S (Ah E) s.heap H locs → lv_has ls 7 [(0, rf E 211), (1, .int l1_72), (2, .int l2_72), (4, .int l4_72), (5, .int l5_72)] → W p l e (rmH 1) s mi args below meth c H locs 0 0 (EQ E below args s (Wd E x m g o) (some (.int r))) (F0 mi 72 ls [.int t0_72, .int t1_72]) := by
        intro l1_72 l2_72 l4_72 l5_72 t0_72 t1_72 H locs ls hf hW hS hl
        unfold f_X5_customerAt_72 at hf
        refine lv_iadd hx hb dX5_customerAt_72 ?_
        obtain ⟨v73, e73, hf⟩ := ob hf
        refine lv_nm e73 ?_
        refine lv_istore_n (lv' := [(3, .int v73), (0, rf E 211), (1, .int l1_72), (2, .int l2_72), (4, .int l4_72), (5, .int l5_72)]) hx hb dX5_customerAt_73 rfl hl (by decide) rfl (fun ls hl => ?_)
        obtain ⟨v74, e74, hf⟩ := ob hf
        refine lv_iinc (v := v74) (lv' := [(5, .int v74), (3, .int v73), (0, rf E 211), (1, .int l1_72), (2, .int l2_72), (4, .int l4_72)]) hx hb dX5_customerAt_74 hl (k := 5) rfl (by rw [e74]; rfl) (by decide) rfl (fun ls hl => ?_)
        refine lv_goto (tgt := 8) hx hb dX5_customerAt_77 (by decide) ?_
        exact ih8 l1_72 l2_72 v73 l4_72 v74 _ _ _ hf hW hS (lv_sub hl [2, 3, 4, 1, 5, 0] rfl)
      have J59 : ∀ (l1_59 : Int32) (l2_59 : Int32) (l3_59 : Int32) (l5_59 : Int32) (l6_59 : Int32) (t0_59 : Int32) (H : Heap) (locs : List Loc) (ls : Array Slot), f_X5_customerAt_59 m (f_X5_customerAt_8 m n8) l1_59 l2_59 l3_59 l5_59 l6_59 t0_59 = some r → Wd E x m g o H → va_S (Ah E) s.heap H locs → lv_has ls 7 [(0, rf E 211), (1, .int l1_59), (2, .int l2_59), (3, .int l3_59), (5, .int l5_59), (6, .int l6_59)] → W p l e (rmH 1) s mi args below meth c H locs 0 0 (EQ E below args s (Wd E x m g o) (some (.int r))) (F0 mi 59 ls [.int t0_59]) := by
        intro l1_59 l2_59 l3_59 l5_59 l6_59 t0_59 H locs ls hf hW hS hl
        unfold f_X5_customerAt_59 at hf
        refine lv_istore (lv' := [(4, .int t0_59), (0, rf E 211), (1, .int l1_59), (2, .int l2_59), (3, .int l3_59), (5, .int l5_59), (6, .int l6_59)]) hx hb dX5_customerAt_59 hl (by decide) rfl (fun ls hl => ?_)
        refine lv_iload_n hx hb dX5_customerAt_61 rfl (lv_at hl 4 rfl) ?_
        refine lv_iload hx hb dX5_customerAt_62 (lv_at hl 6 rfl) ?_
        refine lv_if_eq (tgt := 71) hx hb dX5_customerAt_64 (by decide) (fun c64 => ?_) (fun c64 => ?_)
        · rw [if_pos c64] at hf
          refine lv_iconst (v := 0) hx hb dX5_customerAt_71 (by decide) ?_
          exact J72 l1_59 l2_59 t0_59 l5_59 0 l3_59 _ _ _ hf hW hS (lv_sub hl [1, 2, 3, 0, 5] rfl)
        · rw [if_neg c64] at hf
          refine lv_iconst (v := 1) hx hb dX5_customerAt_67 (by decide) ?_
          refine lv_goto (tgt := 72) hx hb dX5_customerAt_68 (by decide) ?_
          exact J72 l1_59 l2_59 t0_59 l5_59 1 l3_59 _ _ _ hf hW hS (lv_sub hl [1, 2, 3, 0, 5] rfl)
      have J57 : ∀ (l1_57 : Int32) (l2_57 : Int32) (l3_57 : Int32) (l4_57 : Int32) (l5_57 : Int32) (l6_57 : Int32) (H : Heap) (locs : List Loc) (ls : Array Slot), f_X5_customerAt_57 m (f_X5_customerAt_8 m n8) l1_57 l2_57 l3_57 l4_57 l5_57 l6_57 = some r → Wd E x m g o H → va_S (Ah E) s.heap H locs → lv_has ls 7 [(0, rf E 211), (1, .int l1_57), (2, .int l2_57), (3, .int l3_57), (4, .int l4_57), (5, .int l5_57), (6, .int l6_57)] → W p l e (rmH 1) s mi args below meth c H locs 0 0 (EQ E below args s (Wd E x m g o) (some (.int r))) (F0 mi 57 ls []) := by
        intro l1_57 l2_57 l3_57 l4_57 l5_57 l6_57 H locs ls hf hW hS hl
        unfold f_X5_customerAt_57 at hf
        refine lv_iload hx hb dX5_customerAt_57 (lv_at hl 4 rfl) ?_
        exact J59 l1_57 l2_57 l3_57 l5_57 l6_57 l4_57 _ _ _ hf hW hS (lv_sub hl [0, 1, 2, 3, 5, 6] rfl)
      have J40 : ∀ (l1_40 : Int32) (l2_40 : Int32) (l3_40 : Int32) (l4_40 : Int32) (l5_40 : Int32) (t0_40 : Int32) (H : Heap) (locs : List Loc) (ls : Array Slot), f_X5_customerAt_40 m (f_X5_customerAt_8 m n8) l1_40 l2_40 l3_40 l4_40 l5_40 t0_40 = some r → Wd E x m g o H → va_S (Ah E) s.heap H locs → lv_has ls 7 [(0, rf E 211), (1, .int l1_40), (2, .int l2_40), (3, .int l3_40), (4, .int l4_40), (5, .int l5_40)] → W p l e (rmH 1) s mi args below meth c H locs 0 0 (EQ E below args s (Wd E x m g o) (some (.int r))) (F0 mi 40 ls [.int t0_40]) := by
        intro l1_40 l2_40 l3_40 l4_40 l5_40 t0_40 H locs ls hf hW hS hl
        unfold f_X5_customerAt_40 at hf
        refine lv_istore (lv' := [(6, .int t0_40), (0, rf E 211), (1, .int l1_40), (2, .int l2_40), (3, .int l3_40), (4, .int l4_40), (5, .int l5_40)]) hx hb dX5_customerAt_40 hl (by decide) rfl (fun ls hl => ?_)
        refine lv_iload hx hb dX5_customerAt_42 (lv_at hl 0 rfl) ?_
        refine lv_if_eq (tgt := 57) hx hb dX5_customerAt_44 (by decide) (fun c44 => ?_) (fun c44 => ?_)
        · rw [if_pos c44] at hf
          exact J57 l1_40 l2_40 l3_40 l4_40 l5_40 t0_40 _ _ _ hf hW hS (lv_sub hl [1, 2, 3, 4, 5, 6, 0] rfl)
        · rw [if_neg c44] at hf
          refine lv_iload_n hx hb dX5_customerAt_47 rfl (lv_at hl 4 rfl) ?_
          refine lv_iload_n hx hb dX5_customerAt_48 rfl (lv_at hl 3 rfl) ?_
          refine lv_icmp_ne (tgt := 57) hx hb dX5_customerAt_49 (by decide) (fun c49 => ?_) (fun c49 => ?_)
          · rw [if_neg c49] at hf
            exact J57 l1_40 l2_40 l3_40 l4_40 l5_40 t0_40 _ _ _ hf hW hS (lv_sub hl [1, 2, 3, 4, 5, 6, 0] rfl)
          · rw [if_pos c49] at hf
            refine lv_iload hx hb dX5_customerAt_52 (lv_at hl 6 rfl) ?_
            refine lv_goto (tgt := 59) hx hb dX5_customerAt_54 (by decide) ?_
            exact J59 l1_40 l2_40 l3_40 l5_40 t0_40 l5_40 _ _ _ hf hW hS (lv_sub hl [1, 2, 3, 4, 6, 0] rfl)
      refine lv_iload hx hb dX5_customerAt_8 (lv_at hl 5 rfl) ?_
      refine lv_aload_n hx hb dX5_customerAt_10 rfl (lv_at hl 0 rfl) ?_
      refine gf_X5_7 hx hb hB hK hown hW dX5_customerAt_11 ?_
      refine lv_iconst (v := 0) hx hb dX5_customerAt_14 (by decide) ?_
      obtain ⟨v15, e15, hf⟩ := ob2 hf
      refine r_iald hx hb hK hW (by decide) (cM_1) e15 dX5_customerAt_15 ?_
      refine lv_icmp_ge (tgt := 80) hx hb dX5_customerAt_16 (by decide) (fun c16 => ?_) (fun c16 => ?_)
      · rw [if_pos c16] at hf
        refine lv_iload hx hb dX5_customerAt_80 (lv_at hl 4 rfl) ?_
        cases hf
        exact e_i hx hb hr hlk hW hS dX5_customerAt_82
      · rw [if_neg c16] at hf
        refine lv_aload_n hx hb dX5_customerAt_19 rfl (lv_at hl 0 rfl) ?_
        refine gf_X5_7 hx hb hB hK hown hW dX5_customerAt_20 ?_
        refine lv_iload hx hb dX5_customerAt_23 (lv_at hl 5 rfl) ?_
        obtain ⟨v25, e25, hf⟩ := ob2 hf
        refine c_S (As := [.int l5_8]) (st1 := [.int v25, rf E 212]) (rest := [rf E 212]) (p_X5_of l E x m g o e25) (kc_X5_54 hB ⟨Nat.le_of_ble_eq_true rfl, Nat.le_of_ble_eq_true rfl⟩) hx hb hml hown hB hK hW hS ⟨Nat.zero_le _, Nat.zero_le _⟩ rfl hl.1 rfl (Nat.le_of_ble_eq_true rfl) rfl dX5_customerAt_25 (fun H locs hW hS => ?_)
        refine lv_iconst (v := 2) hx hb dX5_customerAt_28 (by decide) ?_
        refine lv_iadd hx hb dX5_customerAt_29 ?_
        obtain ⟨v30, e30, hf⟩ := ob2 hf
        refine r_iald hx hb hK hW (by decide) (cM_1) e30 dX5_customerAt_30 ?_
        refine lv_iload_n hx hb dX5_customerAt_31 rfl (lv_at hl 1 rfl) ?_
        refine lv_icmp_ne (tgt := 39) hx hb dX5_customerAt_32 (by decide) (fun c32 => ?_) (fun c32 => ?_)
        · rw [if_neg c32] at hf
          refine lv_iconst (v := 0) hx hb dX5_customerAt_39 (by decide) ?_
          exact J40 l1_8 l2_8 l3_8 l4_8 l5_8 0 _ _ _ hf hW hS (lv_sub hl [0, 1, 2, 3, 4, 5] rfl)
        · rw [if_pos c32] at hf
          refine lv_iconst (v := 1) hx hb dX5_customerAt_35 (by decide) ?_
          refine lv_goto (tgt := 40) hx hb dX5_customerAt_36 (by decide) ?_
          exact J40 l1_8 l2_8 l3_8 l4_8 l5_8 1 _ _ _ hf hW hS (lv_sub hl [0, 1, 2, 3, 4, 5] rfl)
  refine lv_iconst (v := 0) hx hb dX5_customerAt_0 (by decide) ?_
  refine lv_istore_n (lv' := [(3, .int 0), (0, rf E 211), (1, .int a0), (2, .int a1)]) hx hb dX5_customerAt_1 rfl hl (by decide) rfl (fun ls hl => ?_)
  refine lv_iconst (v := (-1)) hx hb dX5_customerAt_2 (by decide) ?_
  refine lv_istore (lv' := [(4, .int (-1)), (3, .int 0), (0, rf E 211), (1, .int a0), (2, .int a1)]) hx hb dX5_customerAt_3 hl (by decide) rfl (fun ls hl => ?_)
  refine lv_iconst (v := 0) hx hb dX5_customerAt_5 (by decide) ?_
  refine lv_istore (lv' := [(5, .int 0), (4, .int (-1)), (3, .int 0), (0, rf E 211), (1, .int a0), (2, .int a1)]) hx hb dX5_customerAt_6 hl (by decide) rfl (fun ls hl => ?_)
  exact J8 4096 a0 a1 0 (-1) 0 _ _ _ hf hW hS (lv_sub hl [3, 4, 5, 2, 1, 0] rfl)
def f_X5_ofCustomer (m : XS) (a0 : Int32) (a1 : Int32) : Option (Int32 × XS) :=
    (some (ux m 0 6 0)).bind fun m2 =>
    (f_X5_in a0 0 9).bind fun v9 =>
    if (v9 = 0 : Prop) then
      ((f_X5_fails m2 1).bind fun q17 => (fun v17 m17 =>
      some (v17, m17)) q17.1 q17.2)
    else
      ((f_X5_in a1 0 23).bind fun v25 =>
      if (v25 = 0 : Prop) then
        ((f_X5_fails m2 2).bind fun q42 => (fun v42 m42 =>
        some (v42, m42)) q42.1 q42.2)
      else
        ((f_X5_customerAt m2 a0 a1).bind fun v34 =>
        some (v34, m2)))
set_option maxRecDepth 100000 in
set_option maxHeartbeats 4000000 in
theorem p_X5_ofCustomer (l : Launch) (E : TE) (x m : XS) (g o : Int64) {a0 : Int32} {a1 : Int32} {r : Int32} {mr : XS} (hf : f_X5_ofCustomer m a0 a1 = some (r, mr)) : MG l E yX5_ofCustomer cX5_ofCustomer 3 (some .int) 2 [rf E 211, .int a0, .int a1] (Wd E x m g o) (Wd E x mr g o) (some (.int r)) := by
  unfold f_X5_ofCustomer at hf
  refine m_in (by decide) (Nat.le_of_ble_eq_true rfl) ?_
  intro p e s mi args below meth c H ls hx hb hr hlk hml hown hB hK hW hS hl
  have hl : lv_has ls 3 [(0, rf E 211), (1, .int a0), (2, .int a1)] := hl
  refine lv_aload_n hx hb dX5_ofCustomer_0 rfl (lv_at hl 0 rfl) ?_
  refine lv_iconst (v := 0) hx hb dX5_ofCustomer_1 (by decide) ?_
  obtain ⟨m2, e2, hf⟩ := ob hf
  refine pf_X5_29 hx hb hB hK hown hW hS e2 dX5_ofCustomer_2 (fun H locs hW hS => ?_)
  refine lv_iload_n hx hb dX5_ofCustomer_5 rfl (lv_at hl 1 rfl) ?_
  refine lv_iconst (v := 0) hx hb dX5_ofCustomer_6 (by decide) ?_
  refine lv_bipush (v := 9) hx hb dX5_ofCustomer_7 (by decide) ?_
  obtain ⟨v9, e9, hf⟩ := ob2 hf
  refine c_S (As := [.int a0, .int 0, .int 9]) (st1 := [.int v9]) (rest := []) (p_X5_in l E x m2 g o e9) (kc_X5_36 hB ⟨Nat.le_of_ble_eq_true rfl, Nat.le_of_ble_eq_true rfl⟩) hx hb hml hown hB hK hW hS ⟨Nat.zero_le _, Nat.zero_le _⟩ rfl hl.1 rfl (Nat.le_of_ble_eq_true rfl) rfl dX5_ofCustomer_9 (fun H locs hW hS => ?_)
  refine lv_if_ne (tgt := 21) hx hb dX5_ofCustomer_12 (by decide) (fun c12 => ?_) (fun c12 => ?_)
  · rw [if_neg c12] at hf
    refine lv_iload_n hx hb dX5_ofCustomer_21 rfl (lv_at hl 2 rfl) ?_
    refine lv_iconst (v := 0) hx hb dX5_ofCustomer_22 (by decide) ?_
    refine lv_bipush (v := 23) hx hb dX5_ofCustomer_23 (by decide) ?_
    obtain ⟨v25, e25, hf⟩ := ob2 hf
    refine c_S (As := [.int a1, .int 0, .int 23]) (st1 := [.int v25]) (rest := []) (p_X5_in l E x m2 g o e25) (kc_X5_36 hB ⟨Nat.le_of_ble_eq_true rfl, Nat.le_of_ble_eq_true rfl⟩) hx hb hml hown hB hK hW hS ⟨Nat.zero_le _, Nat.zero_le _⟩ rfl hl.1 rfl (Nat.le_of_ble_eq_true rfl) rfl dX5_ofCustomer_25 (fun H locs hW hS => ?_)
    refine lv_if_eq (tgt := 40) hx hb dX5_ofCustomer_28 (by decide) (fun c28 => ?_) (fun c28 => ?_)
    · rw [if_pos c28] at hf
      refine lv_aload_n hx hb dX5_ofCustomer_40 rfl (lv_at hl 0 rfl) ?_
      refine lv_iconst (v := 2) hx hb dX5_ofCustomer_41 (by decide) ?_
      obtain ⟨⟨v42, m42⟩, e42, hf⟩ := ob2 hf
      dsimp only at hf
      refine c_V (As := [.int 2]) (st1 := [.int v42]) (rest := []) (p_X5_fails l E x m2 g o e42) (kc_X5_64 hB ⟨Nat.le_of_ble_eq_true rfl, Nat.le_of_ble_eq_true rfl⟩) (Wd.rec hK hW (by decide) cM_0 (ci := 5) rfl) hx hb hml hown hB hK hW hS ⟨Nat.zero_le _, Nat.zero_le _⟩ rfl hl.1 rfl (Nat.le_of_ble_eq_true rfl) rfl dX5_ofCustomer_42 (fun H locs hW hS => ?_)
      cases hf
      exact e_i hx hb hr hlk hW hS dX5_ofCustomer_45
    · rw [if_neg c28] at hf
      refine lv_aload_n hx hb dX5_ofCustomer_31 rfl (lv_at hl 0 rfl) ?_
      refine lv_iload_n hx hb dX5_ofCustomer_32 rfl (lv_at hl 1 rfl) ?_
      refine lv_iload_n hx hb dX5_ofCustomer_33 rfl (lv_at hl 2 rfl) ?_
      obtain ⟨v34, e34, hf⟩ := ob2 hf
      refine c_V (As := [.int a0, .int a1]) (st1 := [.int v34]) (rest := []) (p_X5_customerAt l E x m2 g o e34) (kc_X5_180 hB ⟨Nat.le_of_ble_eq_true rfl, Nat.le_of_ble_eq_true rfl⟩) (Wd.rec hK hW (by decide) cM_0 (ci := 5) rfl) hx hb hml hown hB hK hW hS ⟨Nat.zero_le _, Nat.zero_le _⟩ rfl hl.1 rfl (Nat.le_of_ble_eq_true rfl) rfl dX5_ofCustomer_34 (fun H locs hW hS => ?_)
      refine lv_goto (tgt := 45) hx hb dX5_ofCustomer_37 (by decide) ?_
      cases hf
      exact e_i hx hb hr hlk hW hS dX5_ofCustomer_45
  · rw [if_pos c12] at hf
    refine lv_aload_n hx hb dX5_ofCustomer_15 rfl (lv_at hl 0 rfl) ?_
    refine lv_iconst (v := 1) hx hb dX5_ofCustomer_16 (by decide) ?_
    obtain ⟨⟨v17, m17⟩, e17, hf⟩ := ob2 hf
    dsimp only at hf
    refine c_V (As := [.int 1]) (st1 := [.int v17]) (rest := []) (p_X5_fails l E x m2 g o e17) (kc_X5_64 hB ⟨Nat.le_of_ble_eq_true rfl, Nat.le_of_ble_eq_true rfl⟩) (Wd.rec hK hW (by decide) cM_0 (ci := 5) rfl) hx hb hml hown hB hK hW hS ⟨Nat.zero_le _, Nat.zero_le _⟩ rfl hl.1 rfl (Nat.le_of_ble_eq_true rfl) rfl dX5_ofCustomer_17 (fun H locs hW hS => ?_)
    cases hf
    exact e_i hx hb hr hlk hW hS dX5_ofCustomer_20
def f_X5_whyNot (m : XS) (a0 : Int32) (a1 : Int32) (a2 : Int32) : Option (Int32 × XS) :=
    (some (ux m 0 6 0)).bind fun m2 =>
    (f_X5_isComplaint m2 a0).bind fun v7 =>
    if (v7 = 0 : Prop) then
      ((f_X5_fails m2 1).bind fun q15 => (fun v15 m15 =>
      some (v15, m15)) q15.1 q15.2)
    else
      ((f_X5_in a2 (-1) 5).bind fun v22 =>
      if (v22 = 0 : Prop) then
        ((f_X5_fails m2 2).bind fun q40 => (fun v40 m40 =>
        some (v40, m40)) q40.1 q40.2)
      else
        ((f_X5_why m2 a0 a1 a2).bind fun v32 =>
        some (v32, m2)))
set_option maxRecDepth 100000 in
set_option maxHeartbeats 4000000 in
theorem p_X5_whyNot (l : Launch) (E : TE) (x m : XS) (g o : Int64) {a0 : Int32} {a1 : Int32} {a2 : Int32} {r : Int32} {mr : XS} (hf : f_X5_whyNot m a0 a1 a2 = some (r, mr)) : MG l E yX5_whyNot cX5_whyNot 4 (some .int) 6 [rf E 211, .int a0, .int a1, .int a2] (Wd E x m g o) (Wd E x mr g o) (some (.int r)) := by
  unfold f_X5_whyNot at hf
  refine m_in (by decide) (Nat.le_of_ble_eq_true rfl) ?_
  intro p e s mi args below meth c H ls hx hb hr hlk hml hown hB hK hW hS hl
  have hl : lv_has ls 4 [(0, rf E 211), (1, .int a0), (2, .int a1), (3, .int a2)] := hl
  refine lv_aload_n hx hb dX5_whyNot_0 rfl (lv_at hl 0 rfl) ?_
  refine lv_iconst (v := 0) hx hb dX5_whyNot_1 (by decide) ?_
  obtain ⟨m2, e2, hf⟩ := ob hf
  refine pf_X5_29 hx hb hB hK hown hW hS e2 dX5_whyNot_2 (fun H locs hW hS => ?_)
  refine lv_aload_n hx hb dX5_whyNot_5 rfl (lv_at hl 0 rfl) ?_
  refine lv_iload_n hx hb dX5_whyNot_6 rfl (lv_at hl 1 rfl) ?_
  obtain ⟨v7, e7, hf⟩ := ob2 hf
  refine c_V (As := [.int a0]) (st1 := [.int v7]) (rest := []) (p_X5_isComplaint l E x m2 g o e7) (kc_X5_99 hB ⟨Nat.le_of_ble_eq_true rfl, Nat.le_of_ble_eq_true rfl⟩) (Wd.rec hK hW (by decide) cM_0 (ci := 5) rfl) hx hb hml hown hB hK hW hS ⟨Nat.zero_le _, Nat.zero_le _⟩ rfl hl.1 rfl (Nat.le_of_ble_eq_true rfl) rfl dX5_whyNot_7 (fun H locs hW hS => ?_)
  refine lv_if_ne (tgt := 19) hx hb dX5_whyNot_10 (by decide) (fun c10 => ?_) (fun c10 => ?_)
  · rw [if_neg c10] at hf
    refine lv_iload_n hx hb dX5_whyNot_19 rfl (lv_at hl 3 rfl) ?_
    refine lv_iconst (v := (-1)) hx hb dX5_whyNot_20 (by decide) ?_
    refine lv_iconst (v := 5) hx hb dX5_whyNot_21 (by decide) ?_
    obtain ⟨v22, e22, hf⟩ := ob2 hf
    refine c_S (As := [.int a2, .int (-1), .int 5]) (st1 := [.int v22]) (rest := []) (p_X5_in l E x m2 g o e22) (kc_X5_36 hB ⟨Nat.le_of_ble_eq_true rfl, Nat.le_of_ble_eq_true rfl⟩) hx hb hml hown hB hK hW hS ⟨Nat.zero_le _, Nat.zero_le _⟩ rfl hl.1 rfl (Nat.le_of_ble_eq_true rfl) rfl dX5_whyNot_22 (fun H locs hW hS => ?_)
    refine lv_if_eq (tgt := 38) hx hb dX5_whyNot_25 (by decide) (fun c25 => ?_) (fun c25 => ?_)
    · rw [if_pos c25] at hf
      refine lv_aload_n hx hb dX5_whyNot_38 rfl (lv_at hl 0 rfl) ?_
      refine lv_iconst (v := 2) hx hb dX5_whyNot_39 (by decide) ?_
      obtain ⟨⟨v40, m40⟩, e40, hf⟩ := ob2 hf
      dsimp only at hf
      refine c_V (As := [.int 2]) (st1 := [.int v40]) (rest := []) (p_X5_fails l E x m2 g o e40) (kc_X5_64 hB ⟨Nat.le_of_ble_eq_true rfl, Nat.le_of_ble_eq_true rfl⟩) (Wd.rec hK hW (by decide) cM_0 (ci := 5) rfl) hx hb hml hown hB hK hW hS ⟨Nat.zero_le _, Nat.zero_le _⟩ rfl hl.1 rfl (Nat.le_of_ble_eq_true rfl) rfl dX5_whyNot_40 (fun H locs hW hS => ?_)
      cases hf
      exact e_i hx hb hr hlk hW hS dX5_whyNot_43
    · rw [if_neg c25] at hf
      refine lv_aload_n hx hb dX5_whyNot_28 rfl (lv_at hl 0 rfl) ?_
      refine lv_iload_n hx hb dX5_whyNot_29 rfl (lv_at hl 1 rfl) ?_
      refine lv_iload_n hx hb dX5_whyNot_30 rfl (lv_at hl 2 rfl) ?_
      refine lv_iload_n hx hb dX5_whyNot_31 rfl (lv_at hl 3 rfl) ?_
      obtain ⟨v32, e32, hf⟩ := ob2 hf
      refine c_V (As := [.int a0, .int a1, .int a2]) (st1 := [.int v32]) (rest := []) (p_X5_why l E x m2 g o e32) (kc_X5_183 hB ⟨Nat.le_of_ble_eq_true rfl, Nat.le_of_ble_eq_true rfl⟩) (Wd.rec hK hW (by decide) cM_0 (ci := 5) rfl) hx hb hml hown hB hK hW hS ⟨Nat.zero_le _, Nat.zero_le _⟩ rfl hl.1 rfl (Nat.le_of_ble_eq_true rfl) rfl dX5_whyNot_32 (fun H locs hW hS => ?_)
      refine lv_goto (tgt := 43) hx hb dX5_whyNot_35 (by decide) ?_
      cases hf
      exact e_i hx hb hr hlk hW hS dX5_whyNot_43
  · rw [if_pos c10] at hf
    refine lv_aload_n hx hb dX5_whyNot_13 rfl (lv_at hl 0 rfl) ?_
    refine lv_iconst (v := 1) hx hb dX5_whyNot_14 (by decide) ?_
    obtain ⟨⟨v15, m15⟩, e15, hf⟩ := ob2 hf
    dsimp only at hf
    refine c_V (As := [.int 1]) (st1 := [.int v15]) (rest := []) (p_X5_fails l E x m2 g o e15) (kc_X5_64 hB ⟨Nat.le_of_ble_eq_true rfl, Nat.le_of_ble_eq_true rfl⟩) (Wd.rec hK hW (by decide) cM_0 (ci := 5) rfl) hx hb hml hown hB hK hW hS ⟨Nat.zero_le _, Nat.zero_le _⟩ rfl hl.1 rfl (Nat.le_of_ble_eq_true rfl) rfl dX5_whyNot_15 (fun H locs hW hS => ?_)
    cases hf
    exact e_i hx hb hr hlk hW hS dX5_whyNot_18
def f_X5_fairOf_81 (m : XS) (k15 : Int32 → Int32 → Int32 → Int32 → Option (Int32)) (l1_81 : Int32) (l2_81 : Int32) (l4_81 : Int32) (t0_81 : Int32) : Option (Int32) :=
    (some (l4_81 + 1)).bind fun v82 =>
    k15 l1_81 l2_81 t0_81 v82
def f_X5_fairOf_80 (m : XS) (k15 : Int32 → Int32 → Int32 → Int32 → Option (Int32)) (l1_80 : Int32) (l2_80 : Int32) (l3_80 : Int32) (l4_80 : Int32) : Option (Int32) :=
    f_X5_fairOf_81 m k15 l1_80 l2_80 l4_80 l3_80
def f_X5_fairOf_75 (m : XS) (k15 : Int32 → Int32 → Int32 → Int32 → Option (Int32)) (l1_75 : Int32) (l2_75 : Int32) (l4_75 : Int32) : Option (Int32) :=
    f_X5_fairOf_81 m k15 l1_75 l2_75 l4_75 l4_75
def f_X5_fairOf_47 (m : XS) (k15 : Int32 → Int32 → Int32 → Int32 → Option (Int32)) (l1_47 : Int32) (l2_47 : Int32) (l3_47 : Int32) (l4_47 : Int32) (t0_47 : Int32) : Option (Int32) :=
    if (t0_47 = 0 : Prop) then
      f_X5_fairOf_80 m k15 l1_47 l2_47 l3_47 l4_47
    else
      (if (l3_47 = (-1) : Prop) then
        f_X5_fairOf_75 m k15 l1_47 l2_47 l4_47
      else
        ((f_X5_cost m l2_47 l4_47).bind fun v63 =>
        (f_X5_cost m l2_47 l3_47).bind fun v69 =>
        if (v69 ≤ v63 : Prop) then
          f_X5_fairOf_80 m k15 l1_47 l2_47 l3_47 l4_47
        else
          f_X5_fairOf_75 m k15 l1_47 l2_47 l4_47))
def f_X5_fairOf_15 (m : XS) : Nat → Int32 → Int32 → Int32 → Int32 → Option (Int32)
  | 0, _, _, _, _ => none
  | n15 + 1, l1_15, l2_15, l3_15, l4_15 =>
    (f_X5_at l2_15).bind fun v22 =>
    (aget 442 (m 1) (v22 + 3)).bind fun v27 =>
    if (v27 ≤ l4_15 : Prop) then
      some l3_15
    else
      ((f_X5_whyDecided m l1_15 l4_15 0).bind fun v36 =>
      if (v36 = 0 : Prop) then
        f_X5_fairOf_47 m (f_X5_fairOf_15 m n15) l1_15 l2_15 l3_15 l4_15 1
      else
        f_X5_fairOf_47 m (f_X5_fairOf_15 m n15) l1_15 l2_15 l3_15 l4_15 0)
def f_X5_fairOf (m : XS) (a0 : Int32) : Option (Int32) :=
    (f_X5_of a0).bind fun v5 =>
    (aget 442 (m 1) v5).bind fun v8 =>
    f_X5_fairOf_15 m 4096 a0 v8 (-1) 0
set_option maxRecDepth 100000 in
set_option maxHeartbeats 4000000 in
theorem p_X5_fairOf (l : Launch) (E : TE) (x m : XS) (g o : Int64) {a0 : Int32} {r : Int32} (hf : f_X5_fairOf m a0 = some r) : MG l E yX5_fairOf cX5_fairOf 6 (some .int) 5 [rf E 211, .int a0] (Wd E x m g o) (Wd E x m g o) (some (.int r)) := by
  unfold f_X5_fairOf at hf
  refine m_in (by decide) (Nat.le_of_ble_eq_true rfl) ?_
  intro p e s mi args below meth c H ls hx hb hr hlk hml hown hB hK hW hS hl
  have hl : lv_has ls 6 [(0, rf E 211), (1, .int a0)] := hl
  have J15 : ∀ (n15 : Nat), ∀ (l1_15 : Int32) (l2_15 : Int32) (l3_15 : Int32) (l4_15 : Int32) (H : Heap) (locs : List Loc) (ls : Array Slot), f_X5_fairOf_15 m n15 l1_15 l2_15 l3_15 l4_15 = some r → Wd E x m g o H → va_S (Ah E) s.heap H locs → lv_has ls 6 [(0, rf E 211), (1, .int l1_15), (2, .int l2_15), (3, .int l3_15), (4, .int l4_15)] → W p l e (rmH 5) s mi args below meth c H locs 0 0 (EQ E below args s (Wd E x m g o) (some (.int r))) (F0 mi 15 ls []) := by
    intro n15
    induction n15 with
    | zero => intro l1_15 l2_15 l3_15 l4_15 H locs ls hf; exact absurd hf (fun z => nomatch (show (none : Option (Int32)) = some _ from z))
    | succ n15 ih15 =>
      intro l1_15 l2_15 l3_15 l4_15 H locs ls hf hW hS hl
      rw [f_X5_fairOf_15.eq_2] at hf
      have J81 : ∀ (l1_81 : Int32) (l2_81 : Int32) (l4_81 : Int32) (t0_81 : Int32) (H : Heap) (locs : List Loc) (ls : Array Slot), f_X5_fairOf_81 m (f_X5_fairOf_15 m n15) l1_81 l2_81 l4_81 t0_81 = some r → Wd E x m g o H → va_S (Ah E) s.heap H locs → lv_has ls 6 [(0, rf E 211), (1, .int l1_81), (2, .int l2_81), (4, .int l4_81)] → W p l e (rmH 5) s mi args below meth c H locs 0 0 (EQ E below args s (Wd E x m g o) (some (.int r))) (F0 mi 81 ls [.int t0_81]) := by
        intro l1_81 l2_81 l4_81 t0_81 H locs ls hf hW hS hl
        unfold f_X5_fairOf_81 at hf
        refine lv_istore_n (lv' := [(3, .int t0_81), (0, rf E 211), (1, .int l1_81), (2, .int l2_81), (4, .int l4_81)]) hx hb dX5_fairOf_81 rfl hl (by decide) rfl (fun ls hl => ?_)
        obtain ⟨v82, e82, hf⟩ := ob hf
        refine lv_iinc (v := v82) (lv' := [(4, .int v82), (3, .int t0_81), (0, rf E 211), (1, .int l1_81), (2, .int l2_81)]) hx hb dX5_fairOf_82 hl (k := 4) rfl (by rw [e82]; rfl) (by decide) rfl (fun ls hl => ?_)
        refine lv_goto (tgt := 15) hx hb dX5_fairOf_85 (by decide) ?_
        exact ih15 l1_81 l2_81 t0_81 v82 _ _ _ hf hW hS (lv_sub hl [2, 3, 4, 1, 0] rfl)
      have J80 : ∀ (l1_80 : Int32) (l2_80 : Int32) (l3_80 : Int32) (l4_80 : Int32) (H : Heap) (locs : List Loc) (ls : Array Slot), f_X5_fairOf_80 m (f_X5_fairOf_15 m n15) l1_80 l2_80 l3_80 l4_80 = some r → Wd E x m g o H → va_S (Ah E) s.heap H locs → lv_has ls 6 [(0, rf E 211), (1, .int l1_80), (2, .int l2_80), (3, .int l3_80), (4, .int l4_80)] → W p l e (rmH 5) s mi args below meth c H locs 0 0 (EQ E below args s (Wd E x m g o) (some (.int r))) (F0 mi 80 ls []) := by
        intro l1_80 l2_80 l3_80 l4_80 H locs ls hf hW hS hl
        unfold f_X5_fairOf_80 at hf
        refine lv_iload_n hx hb dX5_fairOf_80 rfl (lv_at hl 3 rfl) ?_
        exact J81 l1_80 l2_80 l4_80 l3_80 _ _ _ hf hW hS (lv_sub hl [0, 1, 2, 4] rfl)
      have J75 : ∀ (l1_75 : Int32) (l2_75 : Int32) (l4_75 : Int32) (H : Heap) (locs : List Loc) (ls : Array Slot), f_X5_fairOf_75 m (f_X5_fairOf_15 m n15) l1_75 l2_75 l4_75 = some r → Wd E x m g o H → va_S (Ah E) s.heap H locs → lv_has ls 6 [(0, rf E 211), (1, .int l1_75), (2, .int l2_75), (4, .int l4_75)] → W p l e (rmH 5) s mi args below meth c H locs 0 0 (EQ E below args s (Wd E x m g o) (some (.int r))) (F0 mi 75 ls []) := by
        intro l1_75 l2_75 l4_75 H locs ls hf hW hS hl
        unfold f_X5_fairOf_75 at hf
        refine lv_iload hx hb dX5_fairOf_75 (lv_at hl 3 rfl) ?_
        refine lv_goto (tgt := 81) hx hb dX5_fairOf_77 (by decide) ?_
        exact J81 l1_75 l2_75 l4_75 l4_75 _ _ _ hf hW hS (lv_sub hl [0, 1, 2, 3] rfl)
      have J47 : ∀ (l1_47 : Int32) (l2_47 : Int32) (l3_47 : Int32) (l4_47 : Int32) (t0_47 : Int32) (H : Heap) (locs : List Loc) (ls : Array Slot), f_X5_fairOf_47 m (f_X5_fairOf_15 m n15) l1_47 l2_47 l3_47 l4_47 t0_47 = some r → Wd E x m g o H → va_S (Ah E) s.heap H locs → lv_has ls 6 [(0, rf E 211), (1, .int l1_47), (2, .int l2_47), (3, .int l3_47), (4, .int l4_47)] → W p l e (rmH 5) s mi args below meth c H locs 0 0 (EQ E below args s (Wd E x m g o) (some (.int r))) (F0 mi 47 ls [.int t0_47]) := by
        intro l1_47 l2_47 l3_47 l4_47 t0_47 H locs ls hf hW hS hl
        unfold f_X5_fairOf_47 at hf
        refine lv_istore (lv' := [(5, .int t0_47), (0, rf E 211), (1, .int l1_47), (2, .int l2_47), (3, .int l3_47), (4, .int l4_47)]) hx hb dX5_fairOf_47 hl (by decide) rfl (fun ls hl => ?_)
        refine lv_iload hx hb dX5_fairOf_49 (lv_at hl 0 rfl) ?_
        refine lv_if_eq (tgt := 80) hx hb dX5_fairOf_51 (by decide) (fun c51 => ?_) (fun c51 => ?_)
        · rw [if_pos c51] at hf
          exact J80 l1_47 l2_47 l3_47 l4_47 _ _ _ hf hW hS (lv_sub hl [1, 2, 3, 4, 5] rfl)
        · rw [if_neg c51] at hf
          refine lv_iload_n hx hb dX5_fairOf_54 rfl (lv_at hl 4 rfl) ?_
          refine lv_iconst (v := (-1)) hx hb dX5_fairOf_55 (by decide) ?_
          refine lv_icmp_eq (tgt := 75) hx hb dX5_fairOf_56 (by decide) (fun c56 => ?_) (fun c56 => ?_)
          · rw [if_pos c56] at hf
            exact J75 l1_47 l2_47 l4_47 _ _ _ hf hW hS (lv_sub hl [1, 2, 3, 5] rfl)
          · rw [if_neg c56] at hf
            refine lv_aload_n hx hb dX5_fairOf_59 rfl (lv_at hl 1 rfl) ?_
            refine lv_iload_n hx hb dX5_fairOf_60 rfl (lv_at hl 3 rfl) ?_
            refine lv_iload hx hb dX5_fairOf_61 (lv_at hl 5 rfl) ?_
            obtain ⟨v63, e63, hf⟩ := ob2 hf
            refine c_V (As := [.int l2_47, .int l4_47]) (st1 := [.int v63]) (rest := []) (p_X5_cost l E x m g o e63) (kc_X5_57 hB ⟨Nat.le_of_ble_eq_true rfl, Nat.le_of_ble_eq_true rfl⟩) (Wd.rec hK hW (by decide) cM_0 (ci := 5) rfl) hx hb hml hown hB hK hW hS ⟨Nat.zero_le _, Nat.zero_le _⟩ rfl hl.1 rfl (Nat.le_of_ble_eq_true rfl) rfl dX5_fairOf_63 (fun H locs hW hS => ?_)
            refine lv_aload_n hx hb dX5_fairOf_66 rfl (lv_at hl 1 rfl) ?_
            refine lv_iload_n hx hb dX5_fairOf_67 rfl (lv_at hl 3 rfl) ?_
            refine lv_iload_n hx hb dX5_fairOf_68 rfl (lv_at hl 4 rfl) ?_
            obtain ⟨v69, e69, hf⟩ := ob2 hf
            refine c_V (As := [.int l2_47, .int l3_47]) (st1 := [.int v69, .int v63]) (rest := [.int v63]) (p_X5_cost l E x m g o e69) (kc_X5_57 hB ⟨Nat.le_of_ble_eq_true rfl, Nat.le_of_ble_eq_true rfl⟩) (Wd.rec hK hW (by decide) cM_0 (ci := 5) rfl) hx hb hml hown hB hK hW hS ⟨Nat.zero_le _, Nat.zero_le _⟩ rfl hl.1 rfl (Nat.le_of_ble_eq_true rfl) rfl dX5_fairOf_69 (fun H locs hW hS => ?_)
            refine lv_icmp_ge (tgt := 80) hx hb dX5_fairOf_72 (by decide) (fun c72 => ?_) (fun c72 => ?_)
            · rw [if_pos c72] at hf
              exact J80 l1_47 l2_47 l3_47 l4_47 _ _ _ hf hW hS (lv_sub hl [1, 2, 3, 4, 5] rfl)
            · rw [if_neg c72] at hf
              exact J75 l1_47 l2_47 l4_47 _ _ _ hf hW hS (lv_sub hl [1, 2, 3, 5] rfl)
      refine lv_iload hx hb dX5_fairOf_15 (lv_at hl 4 rfl) ?_
      refine lv_aload_n hx hb dX5_fairOf_17 rfl (lv_at hl 0 rfl) ?_
      refine gf_X5_7 hx hb hB hK hown hW dX5_fairOf_18 ?_
      refine lv_iload_n hx hb dX5_fairOf_21 rfl (lv_at hl 2 rfl) ?_
      obtain ⟨v22, e22, hf⟩ := ob2 hf
      refine c_S (As := [.int l2_15]) (st1 := [.int v22, rf E 212, .int l4_15]) (rest := [rf E 212, .int l4_15]) (p_X5_at l E x m g o e22) (kc_X5_25 hB ⟨Nat.le_of_ble_eq_true rfl, Nat.le_of_ble_eq_true rfl⟩) hx hb hml hown hB hK hW hS ⟨Nat.zero_le _, Nat.zero_le _⟩ rfl hl.1 rfl (Nat.le_of_ble_eq_true rfl) rfl dX5_fairOf_22 (fun H locs hW hS => ?_)
      refine lv_iconst (v := 3) hx hb dX5_fairOf_25 (by decide) ?_
      refine lv_iadd hx hb dX5_fairOf_26 ?_
      obtain ⟨v27, e27, hf⟩ := ob2 hf
      refine r_iald hx hb hK hW (by decide) (cM_1) e27 dX5_fairOf_27 ?_
      refine lv_icmp_ge (tgt := 88) hx hb dX5_fairOf_28 (by decide) (fun c28 => ?_) (fun c28 => ?_)
      · rw [if_pos c28] at hf
        refine lv_iload_n hx hb dX5_fairOf_88 rfl (lv_at hl 3 rfl) ?_
        cases hf
        exact e_i hx hb hr hlk hW hS dX5_fairOf_89
      · rw [if_neg c28] at hf
        refine lv_aload_n hx hb dX5_fairOf_31 rfl (lv_at hl 0 rfl) ?_
        refine lv_iload_n hx hb dX5_fairOf_32 rfl (lv_at hl 1 rfl) ?_
        refine lv_iload hx hb dX5_fairOf_33 (lv_at hl 4 rfl) ?_
        refine lv_iconst (v := 0) hx hb dX5_fairOf_35 (by decide) ?_
        obtain ⟨v36, e36, hf⟩ := ob2 hf
        refine c_V (As := [.int l1_15, .int l4_15, .int 0]) (st1 := [.int v36]) (rest := []) (p_X5_whyDecided l E x m g o e36) (kc_X5_95 hB ⟨Nat.le_of_ble_eq_true rfl, Nat.le_of_ble_eq_true rfl⟩) (Wd.rec hK hW (by decide) cM_0 (ci := 5) rfl) hx hb hml hown hB hK hW hS ⟨Nat.zero_le _, Nat.zero_le _⟩ rfl hl.1 rfl (Nat.le_of_ble_eq_true rfl) rfl dX5_fairOf_36 (fun H locs hW hS => ?_)
        refine lv_if_ne (tgt := 46) hx hb dX5_fairOf_39 (by decide) (fun c39 => ?_) (fun c39 => ?_)
        · rw [if_neg c39] at hf
          refine lv_iconst (v := 0) hx hb dX5_fairOf_46 (by decide) ?_
          exact J47 l1_15 l2_15 l3_15 l4_15 0 _ _ _ hf hW hS (lv_sub hl [0, 1, 2, 3, 4] rfl)
        · rw [if_pos c39] at hf
          refine lv_iconst (v := 1) hx hb dX5_fairOf_42 (by decide) ?_
          refine lv_goto (tgt := 47) hx hb dX5_fairOf_43 (by decide) ?_
          exact J47 l1_15 l2_15 l3_15 l4_15 1 _ _ _ hf hW hS (lv_sub hl [0, 1, 2, 3, 4] rfl)
  refine lv_aload_n hx hb dX5_fairOf_0 rfl (lv_at hl 0 rfl) ?_
  refine gf_X5_7 hx hb hB hK hown hW dX5_fairOf_1 ?_
  refine lv_iload_n hx hb dX5_fairOf_4 rfl (lv_at hl 1 rfl) ?_
  obtain ⟨v5, e5, hf⟩ := ob2 hf
  refine c_S (As := [.int a0]) (st1 := [.int v5, rf E 212]) (rest := [rf E 212]) (p_X5_of l E x m g o e5) (kc_X5_54 hB ⟨Nat.le_of_ble_eq_true rfl, Nat.le_of_ble_eq_true rfl⟩) hx hb hml hown hB hK hW hS ⟨Nat.zero_le _, Nat.zero_le _⟩ rfl hl.1 rfl (Nat.le_of_ble_eq_true rfl) rfl dX5_fairOf_5 (fun H locs hW hS => ?_)
  obtain ⟨v8, e8, hf⟩ := ob2 hf
  refine r_iald hx hb hK hW (by decide) (cM_1) e8 dX5_fairOf_8 ?_
  refine lv_istore_n (lv' := [(2, .int v8), (0, rf E 211), (1, .int a0)]) hx hb dX5_fairOf_9 rfl hl (by decide) rfl (fun ls hl => ?_)
  refine lv_iconst (v := (-1)) hx hb dX5_fairOf_10 (by decide) ?_
  refine lv_istore_n (lv' := [(3, .int (-1)), (2, .int v8), (0, rf E 211), (1, .int a0)]) hx hb dX5_fairOf_11 rfl hl (by decide) rfl (fun ls hl => ?_)
  refine lv_iconst (v := 0) hx hb dX5_fairOf_12 (by decide) ?_
  refine lv_istore (lv' := [(4, .int 0), (3, .int (-1)), (2, .int v8), (0, rf E 211), (1, .int a0)]) hx hb dX5_fairOf_13 hl (by decide) rfl (fun ls hl => ?_)
  exact J15 4096 a0 v8 (-1) 0 _ _ _ hf hW hS (lv_sub hl [3, 4, 2, 1, 0] rfl)
def f_X5_fair (m : XS) (a0 : Int32) : Option (Int32 × XS) :=
    (some (ux m 0 6 0)).bind fun m2 =>
    (f_X5_isComplaint m2 a0).bind fun v7 =>
    if (v7 = 0 : Prop) then
      ((f_X5_fails m2 1).bind fun q23 => (fun v23 m23 =>
      some (v23, m23)) q23.1 q23.2)
    else
      ((f_X5_fairOf m2 a0).bind fun v15 =>
      some (v15, m2))
set_option maxRecDepth 100000 in
set_option maxHeartbeats 4000000 in
theorem p_X5_fair (l : Launch) (E : TE) (x m : XS) (g o : Int64) {a0 : Int32} {r : Int32} {mr : XS} (hf : f_X5_fair m a0 = some (r, mr)) : MG l E yX5_fair cX5_fair 2 (some .int) 6 [rf E 211, .int a0] (Wd E x m g o) (Wd E x mr g o) (some (.int r)) := by
  unfold f_X5_fair at hf
  refine m_in (by decide) (Nat.le_of_ble_eq_true rfl) ?_
  intro p e s mi args below meth c H ls hx hb hr hlk hml hown hB hK hW hS hl
  have hl : lv_has ls 2 [(0, rf E 211), (1, .int a0)] := hl
  refine lv_aload_n hx hb dX5_fair_0 rfl (lv_at hl 0 rfl) ?_
  refine lv_iconst (v := 0) hx hb dX5_fair_1 (by decide) ?_
  obtain ⟨m2, e2, hf⟩ := ob hf
  refine pf_X5_29 hx hb hB hK hown hW hS e2 dX5_fair_2 (fun H locs hW hS => ?_)
  refine lv_aload_n hx hb dX5_fair_5 rfl (lv_at hl 0 rfl) ?_
  refine lv_iload_n hx hb dX5_fair_6 rfl (lv_at hl 1 rfl) ?_
  obtain ⟨v7, e7, hf⟩ := ob2 hf
  refine c_V (As := [.int a0]) (st1 := [.int v7]) (rest := []) (p_X5_isComplaint l E x m2 g o e7) (kc_X5_99 hB ⟨Nat.le_of_ble_eq_true rfl, Nat.le_of_ble_eq_true rfl⟩) (Wd.rec hK hW (by decide) cM_0 (ci := 5) rfl) hx hb hml hown hB hK hW hS ⟨Nat.zero_le _, Nat.zero_le _⟩ rfl hl.1 rfl (Nat.le_of_ble_eq_true rfl) rfl dX5_fair_7 (fun H locs hW hS => ?_)
  refine lv_if_eq (tgt := 21) hx hb dX5_fair_10 (by decide) (fun c10 => ?_) (fun c10 => ?_)
  · rw [if_pos c10] at hf
    refine lv_aload_n hx hb dX5_fair_21 rfl (lv_at hl 0 rfl) ?_
    refine lv_iconst (v := 1) hx hb dX5_fair_22 (by decide) ?_
    obtain ⟨⟨v23, m23⟩, e23, hf⟩ := ob2 hf
    dsimp only at hf
    refine c_V (As := [.int 1]) (st1 := [.int v23]) (rest := []) (p_X5_fails l E x m2 g o e23) (kc_X5_64 hB ⟨Nat.le_of_ble_eq_true rfl, Nat.le_of_ble_eq_true rfl⟩) (Wd.rec hK hW (by decide) cM_0 (ci := 5) rfl) hx hb hml hown hB hK hW hS ⟨Nat.zero_le _, Nat.zero_le _⟩ rfl hl.1 rfl (Nat.le_of_ble_eq_true rfl) rfl dX5_fair_23 (fun H locs hW hS => ?_)
    cases hf
    exact e_i hx hb hr hlk hW hS dX5_fair_26
  · rw [if_neg c10] at hf
    refine lv_aload_n hx hb dX5_fair_13 rfl (lv_at hl 0 rfl) ?_
    refine lv_iload_n hx hb dX5_fair_14 rfl (lv_at hl 1 rfl) ?_
    obtain ⟨v15, e15, hf⟩ := ob2 hf
    refine c_V (As := [.int a0]) (st1 := [.int v15]) (rest := []) (p_X5_fairOf l E x m2 g o e15) (kc_X5_186 hB ⟨Nat.le_of_ble_eq_true rfl, Nat.le_of_ble_eq_true rfl⟩) (Wd.rec hK hW (by decide) cM_0 (ci := 5) rfl) hx hb hml hown hB hK hW hS ⟨Nat.zero_le _, Nat.zero_le _⟩ rfl hl.1 rfl (Nat.le_of_ble_eq_true rfl) rfl dX5_fair_15 (fun H locs hW hS => ?_)
    refine lv_goto (tgt := 26) hx hb dX5_fair_18 (by decide) ?_
    cases hf
    exact e_i hx hb hr hlk hW hS dX5_fair_26
def f_X5_judgedOf_61 (m61 : XS) (t0_61 : Int32) : Option (Int32 × XS) :=
    (f_X5_putBack m61).bind fun m64 =>
    some (t0_61, m64)
def f_X5_judgedOf_58 (m58 : XS) (t0_58 : Int32) (t1_58 : Int32) : Option (Int32 × XS) :=
    (f_X5_ofComplaints m58 t1_58 t0_58).bind fun v58 =>
    f_X5_judgedOf_61 m58 v58
def f_X5_judgedOf (m : XS) (a0 : Int32) (a1 : Int32) (a2 : Int32) : Option (Int32 × XS) :=
    (f_X5_whyJudged m a0 a1).bind fun v3 =>
    if (v3 = 0 : Prop) then
      ((f_X5_putAside m).bind fun m12 =>
      (f_X5_judgeNow m12 a0 a1).bind fun q18 => (fun v18 m18 =>
      if (a2 = 0 : Prop) then
        f_X5_judgedOf_61 m18 v18
      else
        (if (a2 = 1 : Prop) then
          f_X5_judgedOf_61 m18 (m18 0 7)
        else
          (if (a2 = 2 : Prop) then
            f_X5_judgedOf_58 m18 8 (-1)
          else
            f_X5_judgedOf_58 m18 7 (-1)))) q18.1 q18.2)
    else
      some ((-1), m)
set_option maxRecDepth 100000 in
set_option maxHeartbeats 4000000 in
theorem p_X5_judgedOf (l : Launch) (E : TE) (x m : XS) (g o : Int64) {a0 : Int32} {a1 : Int32} {a2 : Int32} {r : Int32} {mr : XS} (hf : f_X5_judgedOf m a0 a1 a2 = some (r, mr)) : MG l E yX5_judgedOf cX5_judgedOf 6 (some .int) 6 [rf E 211, .int a0, .int a1, .int a2] (Wd E x m g o) (Wd E x mr g o) (some (.int r)) := by
  unfold f_X5_judgedOf at hf
  refine m_in (by decide) (Nat.le_of_ble_eq_true rfl) ?_
  intro p e s mi args below meth c H ls hx hb hr hlk hml hown hB hK hW hS hl
  have hl : lv_has ls 6 [(0, rf E 211), (1, .int a0), (2, .int a1), (3, .int a2)] := hl
  have J61 : ∀ (m61 : XS) (t0_61 : Int32) (H : Heap) (locs : List Loc) (ls : Array Slot), f_X5_judgedOf_61 m61 t0_61 = some (r, mr) → Wd E x m61 g o H → va_S (Ah E) s.heap H locs → lv_has ls 6 [(0, rf E 211)] → W p l e (rmH 6) s mi args below meth c H locs 0 0 (EQ E below args s (Wd E x mr g o) (some (.int r))) (F0 mi 61 ls [.int t0_61]) := by
    intro m61 t0_61 H locs ls hf hW hS hl
    unfold f_X5_judgedOf_61 at hf
    refine lv_istore (lv' := [(5, .int t0_61), (0, rf E 211)]) hx hb dX5_judgedOf_61 hl (by decide) rfl (fun ls hl => ?_)
    refine lv_aload_n hx hb dX5_judgedOf_63 rfl (lv_at hl 1 rfl) ?_
    obtain ⟨m64, e64, hf⟩ := ob2 hf
    refine c_V (As := []) (st1 := []) (rest := []) (p_X5_putBack l E x m61 g o e64) (kc_X5_192 hB ⟨Nat.le_of_ble_eq_true rfl, Nat.le_of_ble_eq_true rfl⟩) (Wd.rec hK hW (by decide) cM_0 (ci := 5) rfl) hx hb hml hown hB hK hW hS ⟨Nat.zero_le _, Nat.zero_le _⟩ rfl hl.1 rfl (Nat.le_of_ble_eq_true rfl) rfl dX5_judgedOf_64 (fun H locs hW hS => ?_)
    refine lv_iload hx hb dX5_judgedOf_67 (lv_at hl 0 rfl) ?_
    cases hf
    exact e_i hx hb hr hlk hW hS dX5_judgedOf_69
  have J58 : ∀ (m58 : XS) (t0_58 : Int32) (t1_58 : Int32) (H : Heap) (locs : List Loc) (ls : Array Slot), f_X5_judgedOf_58 m58 t0_58 t1_58 = some (r, mr) → Wd E x m58 g o H → va_S (Ah E) s.heap H locs → lv_has ls 6 [(0, rf E 211)] → W p l e (rmH 6) s mi args below meth c H locs 0 0 (EQ E below args s (Wd E x mr g o) (some (.int r))) (F0 mi 58 ls [.int t0_58, .int t1_58, rf E 211]) := by
    intro m58 t0_58 t1_58 H locs ls hf hW hS hl
    unfold f_X5_judgedOf_58 at hf
    obtain ⟨v58, e58, hf⟩ := ob2 hf
    refine c_V (As := [.int t1_58, .int t0_58]) (st1 := [.int v58]) (rest := []) (p_X5_ofComplaints l E x m58 g o e58) (kc_X5_165 hB ⟨Nat.le_of_ble_eq_true rfl, Nat.le_of_ble_eq_true rfl⟩) (Wd.rec hK hW (by decide) cM_0 (ci := 5) rfl) hx hb hml hown hB hK hW hS ⟨Nat.zero_le _, Nat.zero_le _⟩ rfl hl.1 rfl (Nat.le_of_ble_eq_true rfl) rfl dX5_judgedOf_58 (fun H locs hW hS => ?_)
    exact J61 m58 v58 _ _ _ hf hW hS (lv_sub hl [0] rfl)
  refine lv_aload_n hx hb dX5_judgedOf_0 rfl (lv_at hl 0 rfl) ?_
  refine lv_iload_n hx hb dX5_judgedOf_1 rfl (lv_at hl 1 rfl) ?_
  refine lv_iload_n hx hb dX5_judgedOf_2 rfl (lv_at hl 2 rfl) ?_
  obtain ⟨v3, e3, hf⟩ := ob2 hf
  refine c_V (As := [.int a0, .int a1]) (st1 := [.int v3]) (rest := []) (p_X5_whyJudged l E x m g o e3) (kc_X5_92 hB ⟨Nat.le_of_ble_eq_true rfl, Nat.le_of_ble_eq_true rfl⟩) (Wd.rec hK hW (by decide) cM_0 (ci := 5) rfl) hx hb hml hown hB hK hW hS ⟨Nat.zero_le _, Nat.zero_le _⟩ rfl hl.1 rfl (Nat.le_of_ble_eq_true rfl) rfl dX5_judgedOf_3 (fun H locs hW hS => ?_)
  refine lv_if_eq (tgt := 11) hx hb dX5_judgedOf_6 (by decide) (fun c6 => ?_) (fun c6 => ?_)
  · rw [if_pos c6] at hf
    refine lv_aload_n hx hb dX5_judgedOf_11 rfl (lv_at hl 0 rfl) ?_
    obtain ⟨m12, e12, hf⟩ := ob2 hf
    refine c_V (As := []) (st1 := []) (rest := []) (p_X5_putAside l E x m g o e12) (kc_X5_189 hB ⟨Nat.le_of_ble_eq_true rfl, Nat.le_of_ble_eq_true rfl⟩) (Wd.rec hK hW (by decide) cM_0 (ci := 5) rfl) hx hb hml hown hB hK hW hS ⟨Nat.zero_le _, Nat.zero_le _⟩ rfl hl.1 rfl (Nat.le_of_ble_eq_true rfl) rfl dX5_judgedOf_12 (fun H locs hW hS => ?_)
    refine lv_aload_n hx hb dX5_judgedOf_15 rfl (lv_at hl 0 rfl) ?_
    refine lv_iload_n hx hb dX5_judgedOf_16 rfl (lv_at hl 1 rfl) ?_
    refine lv_iload_n hx hb dX5_judgedOf_17 rfl (lv_at hl 2 rfl) ?_
    obtain ⟨⟨v18, m18⟩, e18, hf⟩ := ob2 hf
    dsimp only at hf
    refine c_V (As := [.int a0, .int a1]) (st1 := [.int v18]) (rest := []) (p_X5_judgeNow l E x m12 g o e18) (kc_X5_121 hB ⟨Nat.le_of_ble_eq_true rfl, Nat.le_of_ble_eq_true rfl⟩) (Wd.rec hK hW (by decide) cM_0 (ci := 5) rfl) hx hb hml hown hB hK hW hS ⟨Nat.zero_le _, Nat.zero_le _⟩ rfl hl.1 rfl (Nat.le_of_ble_eq_true rfl) rfl dX5_judgedOf_18 (fun H locs hW hS => ?_)
    refine lv_istore (lv' := [(4, .int v18), (0, rf E 211), (1, .int a0), (2, .int a1), (3, .int a2)]) hx hb dX5_judgedOf_21 hl (by decide) rfl (fun ls hl => ?_)
    refine lv_iload_n hx hb dX5_judgedOf_23 rfl (lv_at hl 4 rfl) ?_
    refine lv_if_ne (tgt := 32) hx hb dX5_judgedOf_24 (by decide) (fun c24 => ?_) (fun c24 => ?_)
    · rw [if_neg c24] at hf
      refine lv_iload_n hx hb dX5_judgedOf_32 rfl (lv_at hl 4 rfl) ?_
      refine lv_iconst (v := 1) hx hb dX5_judgedOf_33 (by decide) ?_
      refine lv_icmp_ne (tgt := 44) hx hb dX5_judgedOf_34 (by decide) (fun c34 => ?_) (fun c34 => ?_)
      · rw [if_neg c34] at hf
        refine lv_aload_n hx hb dX5_judgedOf_44 rfl (lv_at hl 1 rfl) ?_
        refine lv_iconst (v := (-1)) hx hb dX5_judgedOf_45 (by decide) ?_
        refine lv_iload_n hx hb dX5_judgedOf_46 rfl (lv_at hl 4 rfl) ?_
        refine lv_iconst (v := 2) hx hb dX5_judgedOf_47 (by decide) ?_
        refine lv_icmp_ne (tgt := 56) hx hb dX5_judgedOf_48 (by decide) (fun c48 => ?_) (fun c48 => ?_)
        · rw [if_neg c48] at hf
          refine lv_bipush (v := 7) hx hb dX5_judgedOf_56 (by decide) ?_
          exact J58 m18 7 (-1) _ _ _ hf hW hS (lv_sub hl [1] rfl)
        · rw [if_pos c48] at hf
          refine lv_bipush (v := 8) hx hb dX5_judgedOf_51 (by decide) ?_
          refine lv_goto (tgt := 58) hx hb dX5_judgedOf_53 (by decide) ?_
          exact J58 m18 8 (-1) _ _ _ hf hW hS (lv_sub hl [1] rfl)
      · rw [if_pos c34] at hf
        refine lv_aload_n hx hb dX5_judgedOf_37 rfl (lv_at hl 1 rfl) ?_
        refine gf_X5_112 hx hb hB hK hown hW dX5_judgedOf_38 ?_
        refine lv_goto (tgt := 61) hx hb dX5_judgedOf_41 (by decide) ?_
        exact J61 m18 (m18 0 7) _ _ _ hf hW hS (lv_sub hl [1] rfl)
    · rw [if_pos c24] at hf
      refine lv_iload hx hb dX5_judgedOf_27 (lv_at hl 0 rfl) ?_
      refine lv_goto (tgt := 61) hx hb dX5_judgedOf_29 (by decide) ?_
      exact J61 m18 v18 _ _ _ hf hW hS (lv_sub hl [1] rfl)
  · rw [if_neg c6] at hf
    refine lv_iconst (v := (-1)) hx hb dX5_judgedOf_9 (by decide) ?_
    cases hf
    exact e_i hx hb hr hlk hW hS dX5_judgedOf_10
def f_X5_ifJudged (m : XS) (a0 : Int32) (a1 : Int32) (a2 : Int32) : Option (Int32 × XS) :=
    (some (ux m 0 6 0)).bind fun m2 =>
    (f_X5_isComplaint m2 a0).bind fun v7 =>
    if (v7 = 0 : Prop) then
      ((f_X5_fails m2 1).bind fun q15 => (fun v15 m15 =>
      some (v15, m15)) q15.1 q15.2)
    else
      ((f_X5_in a2 0 3).bind fun v22 =>
      if (v22 = 0 : Prop) then
        ((f_X5_fails m2 2).bind fun q40 => (fun v40 m40 =>
        some (v40, m40)) q40.1 q40.2)
      else
        ((f_X5_judgedOf m2 a0 a1 a2).bind fun q32 => (fun v32 m32 =>
        some (v32, m32)) q32.1 q32.2))
set_option maxRecDepth 100000 in
set_option maxHeartbeats 4000000 in
theorem p_X5_ifJudged (l : Launch) (E : TE) (x m : XS) (g o : Int64) {a0 : Int32} {a1 : Int32} {a2 : Int32} {r : Int32} {mr : XS} (hf : f_X5_ifJudged m a0 a1 a2 = some (r, mr)) : MG l E yX5_ifJudged cX5_ifJudged 4 (some .int) 7 [rf E 211, .int a0, .int a1, .int a2] (Wd E x m g o) (Wd E x mr g o) (some (.int r)) := by
  unfold f_X5_ifJudged at hf
  refine m_in (by decide) (Nat.le_of_ble_eq_true rfl) ?_
  intro p e s mi args below meth c H ls hx hb hr hlk hml hown hB hK hW hS hl
  have hl : lv_has ls 4 [(0, rf E 211), (1, .int a0), (2, .int a1), (3, .int a2)] := hl
  refine lv_aload_n hx hb dX5_ifJudged_0 rfl (lv_at hl 0 rfl) ?_
  refine lv_iconst (v := 0) hx hb dX5_ifJudged_1 (by decide) ?_
  obtain ⟨m2, e2, hf⟩ := ob hf
  refine pf_X5_29 hx hb hB hK hown hW hS e2 dX5_ifJudged_2 (fun H locs hW hS => ?_)
  refine lv_aload_n hx hb dX5_ifJudged_5 rfl (lv_at hl 0 rfl) ?_
  refine lv_iload_n hx hb dX5_ifJudged_6 rfl (lv_at hl 1 rfl) ?_
  obtain ⟨v7, e7, hf⟩ := ob2 hf
  refine c_V (As := [.int a0]) (st1 := [.int v7]) (rest := []) (p_X5_isComplaint l E x m2 g o e7) (kc_X5_99 hB ⟨Nat.le_of_ble_eq_true rfl, Nat.le_of_ble_eq_true rfl⟩) (Wd.rec hK hW (by decide) cM_0 (ci := 5) rfl) hx hb hml hown hB hK hW hS ⟨Nat.zero_le _, Nat.zero_le _⟩ rfl hl.1 rfl (Nat.le_of_ble_eq_true rfl) rfl dX5_ifJudged_7 (fun H locs hW hS => ?_)
  refine lv_if_ne (tgt := 19) hx hb dX5_ifJudged_10 (by decide) (fun c10 => ?_) (fun c10 => ?_)
  · rw [if_neg c10] at hf
    refine lv_iload_n hx hb dX5_ifJudged_19 rfl (lv_at hl 3 rfl) ?_
    refine lv_iconst (v := 0) hx hb dX5_ifJudged_20 (by decide) ?_
    refine lv_iconst (v := 3) hx hb dX5_ifJudged_21 (by decide) ?_
    obtain ⟨v22, e22, hf⟩ := ob2 hf
    refine c_S (As := [.int a2, .int 0, .int 3]) (st1 := [.int v22]) (rest := []) (p_X5_in l E x m2 g o e22) (kc_X5_36 hB ⟨Nat.le_of_ble_eq_true rfl, Nat.le_of_ble_eq_true rfl⟩) hx hb hml hown hB hK hW hS ⟨Nat.zero_le _, Nat.zero_le _⟩ rfl hl.1 rfl (Nat.le_of_ble_eq_true rfl) rfl dX5_ifJudged_22 (fun H locs hW hS => ?_)
    refine lv_if_eq (tgt := 38) hx hb dX5_ifJudged_25 (by decide) (fun c25 => ?_) (fun c25 => ?_)
    · rw [if_pos c25] at hf
      refine lv_aload_n hx hb dX5_ifJudged_38 rfl (lv_at hl 0 rfl) ?_
      refine lv_iconst (v := 2) hx hb dX5_ifJudged_39 (by decide) ?_
      obtain ⟨⟨v40, m40⟩, e40, hf⟩ := ob2 hf
      dsimp only at hf
      refine c_V (As := [.int 2]) (st1 := [.int v40]) (rest := []) (p_X5_fails l E x m2 g o e40) (kc_X5_64 hB ⟨Nat.le_of_ble_eq_true rfl, Nat.le_of_ble_eq_true rfl⟩) (Wd.rec hK hW (by decide) cM_0 (ci := 5) rfl) hx hb hml hown hB hK hW hS ⟨Nat.zero_le _, Nat.zero_le _⟩ rfl hl.1 rfl (Nat.le_of_ble_eq_true rfl) rfl dX5_ifJudged_40 (fun H locs hW hS => ?_)
      cases hf
      exact e_i hx hb hr hlk hW hS dX5_ifJudged_43
    · rw [if_neg c25] at hf
      refine lv_aload_n hx hb dX5_ifJudged_28 rfl (lv_at hl 0 rfl) ?_
      refine lv_iload_n hx hb dX5_ifJudged_29 rfl (lv_at hl 1 rfl) ?_
      refine lv_iload_n hx hb dX5_ifJudged_30 rfl (lv_at hl 2 rfl) ?_
      refine lv_iload_n hx hb dX5_ifJudged_31 rfl (lv_at hl 3 rfl) ?_
      obtain ⟨⟨v32, m32⟩, e32, hf⟩ := ob2 hf
      dsimp only at hf
      refine c_V (As := [.int a0, .int a1, .int a2]) (st1 := [.int v32]) (rest := []) (p_X5_judgedOf l E x m2 g o e32) (kc_X5_195 hB ⟨Nat.le_of_ble_eq_true rfl, Nat.le_of_ble_eq_true rfl⟩) (Wd.rec hK hW (by decide) cM_0 (ci := 5) rfl) hx hb hml hown hB hK hW hS ⟨Nat.zero_le _, Nat.zero_le _⟩ rfl hl.1 rfl (Nat.le_of_ble_eq_true rfl) rfl dX5_ifJudged_32 (fun H locs hW hS => ?_)
      refine lv_goto (tgt := 43) hx hb dX5_ifJudged_35 (by decide) ?_
      cases hf
      exact e_i hx hb hr hlk hW hS dX5_ifJudged_43
  · rw [if_pos c10] at hf
    refine lv_aload_n hx hb dX5_ifJudged_13 rfl (lv_at hl 0 rfl) ?_
    refine lv_iconst (v := 1) hx hb dX5_ifJudged_14 (by decide) ?_
    obtain ⟨⟨v15, m15⟩, e15, hf⟩ := ob2 hf
    dsimp only at hf
    refine c_V (As := [.int 1]) (st1 := [.int v15]) (rest := []) (p_X5_fails l E x m2 g o e15) (kc_X5_64 hB ⟨Nat.le_of_ble_eq_true rfl, Nat.le_of_ble_eq_true rfl⟩) (Wd.rec hK hW (by decide) cM_0 (ci := 5) rfl) hx hb hml hown hB hK hW hS ⟨Nat.zero_le _, Nat.zero_le _⟩ rfl hl.1 rfl (Nat.le_of_ble_eq_true rfl) rfl dX5_ifJudged_15 (fun H locs hW hS => ?_)
    cases hf
    exact e_i hx hb hr hlk hW hS dX5_ifJudged_18
def f_X5_monthsOf_33 (m33 : XS) (l1_33 : Int32) : Option (Int32 × XS) :=
    (f_X5_putBack m33).bind fun m34 =>
    if (l1_33 ≤ 24 : Prop) then
      some (l1_33, m34)
    else
      some ((-1), m34)
def f_X5_monthsOf_6 : Nat → XS → Int32 → Option (Int32 × XS)
  | 0, _, _ => none
  | n6 + 1, m6, l1_6 =>
    if (24 < l1_6 : Prop) then
      f_X5_monthsOf_33 m6 l1_6
    else
      ((f_X5_ofComplaints m6 (-1) 8).bind fun v16 =>
      if (v16 ≤ 0 : Prop) then
        f_X5_monthsOf_33 m6 l1_6
      else
        ((f_X5_closeNow m6).bind fun q23 => (fun v23 m23 =>
        (some (l1_6 + 1)).bind fun v27 =>
        f_X5_monthsOf_6 n6 m23 v27) q23.1 q23.2))
def f_X5_monthsOf (m : XS) : Option (Int32 × XS) :=
    (f_X5_putAside m).bind fun m1 =>
    f_X5_monthsOf_6 4096 m1 0
set_option maxRecDepth 100000 in
set_option maxHeartbeats 4000000 in
theorem p_X5_monthsOf (l : Launch) (E : TE) (x m : XS) (g o : Int64) {r : Int32} {mr : XS} (hf : f_X5_monthsOf m = some (r, mr)) : MG l E yX5_monthsOf cX5_monthsOf 2 (some .int) 6 [rf E 211] (Wd E x m g o) (Wd E x mr g o) (some (.int r)) := by
  unfold f_X5_monthsOf at hf
  refine m_in (by decide) (Nat.le_of_ble_eq_true rfl) ?_
  intro p e s mi args below meth c H ls hx hb hr hlk hml hown hB hK hW hS hl
  have hl : lv_has ls 2 [(0, rf E 211)] := hl
  have J33 : ∀ (m33 : XS) (l1_33 : Int32) (H : Heap) (locs : List Loc) (ls : Array Slot), f_X5_monthsOf_33 m33 l1_33 = some (r, mr) → Wd E x m33 g o H → va_S (Ah E) s.heap H locs → lv_has ls 2 [(0, rf E 211), (1, .int l1_33)] → W p l e (rmH 6) s mi args below meth c H locs 0 0 (EQ E below args s (Wd E x mr g o) (some (.int r))) (F0 mi 33 ls []) := by
    intro m33 l1_33 H locs ls hf hW hS hl
    unfold f_X5_monthsOf_33 at hf
    refine lv_aload_n hx hb dX5_monthsOf_33 rfl (lv_at hl 0 rfl) ?_
    obtain ⟨m34, e34, hf⟩ := ob2 hf
    refine c_V (As := []) (st1 := []) (rest := []) (p_X5_putBack l E x m33 g o e34) (kc_X5_192 hB ⟨Nat.le_of_ble_eq_true rfl, Nat.le_of_ble_eq_true rfl⟩) (Wd.rec hK hW (by decide) cM_0 (ci := 5) rfl) hx hb hml hown hB hK hW hS ⟨Nat.zero_le _, Nat.zero_le _⟩ rfl hl.1 rfl (Nat.le_of_ble_eq_true rfl) rfl dX5_monthsOf_34 (fun H locs hW hS => ?_)
    refine lv_iload_n hx hb dX5_monthsOf_37 rfl (lv_at hl 1 rfl) ?_
    refine lv_bipush (v := 24) hx hb dX5_monthsOf_38 (by decide) ?_
    refine lv_icmp_le (tgt := 47) hx hb dX5_monthsOf_40 (by decide) (fun c40 => ?_) (fun c40 => ?_)
    · rw [if_pos c40] at hf
      refine lv_iload_n hx hb dX5_monthsOf_47 rfl (lv_at hl 1 rfl) ?_
      cases hf
      exact e_i hx hb hr hlk hW hS dX5_monthsOf_48
    · rw [if_neg c40] at hf
      refine lv_iconst (v := (-1)) hx hb dX5_monthsOf_43 (by decide) ?_
      refine lv_goto (tgt := 48) hx hb dX5_monthsOf_44 (by decide) ?_
      cases hf
      exact e_i hx hb hr hlk hW hS dX5_monthsOf_48
  have J6 : ∀ (n6 : Nat), ∀ (m6 : XS) (l1_6 : Int32) (H : Heap) (locs : List Loc) (ls : Array Slot), f_X5_monthsOf_6 n6 m6 l1_6 = some (r, mr) → Wd E x m6 g o H → va_S (Ah E) s.heap H locs → lv_has ls 2 [(0, rf E 211), (1, .int l1_6)] → W p l e (rmH 6) s mi args below meth c H locs 0 0 (EQ E below args s (Wd E x mr g o) (some (.int r))) (F0 mi 6 ls []) := by
    intro n6
    induction n6 with
    | zero => intro m6 l1_6 H locs ls hf; exact absurd hf (fun z => nomatch (show (none : Option (Int32 × XS)) = some _ from z))
    | succ n6 ih6 =>
      intro m6 l1_6 H locs ls hf hW hS hl
      rw [f_X5_monthsOf_6.eq_2] at hf
      refine lv_iload_n hx hb dX5_monthsOf_6 rfl (lv_at hl 1 rfl) ?_
      refine lv_bipush (v := 24) hx hb dX5_monthsOf_7 (by decide) ?_
      refine lv_icmp_gt (tgt := 33) hx hb dX5_monthsOf_9 (by decide) (fun c9 => ?_) (fun c9 => ?_)
      · rw [if_pos c9] at hf
        exact J33 m6 l1_6 _ _ _ hf hW hS (lv_sub hl [0, 1] rfl)
      · rw [if_neg c9] at hf
        refine lv_aload_n hx hb dX5_monthsOf_12 rfl (lv_at hl 0 rfl) ?_
        refine lv_iconst (v := (-1)) hx hb dX5_monthsOf_13 (by decide) ?_
        refine lv_bipush (v := 8) hx hb dX5_monthsOf_14 (by decide) ?_
        obtain ⟨v16, e16, hf⟩ := ob2 hf
        refine c_V (As := [.int (-1), .int 8]) (st1 := [.int v16]) (rest := []) (p_X5_ofComplaints l E x m6 g o e16) (kc_X5_165 hB ⟨Nat.le_of_ble_eq_true rfl, Nat.le_of_ble_eq_true rfl⟩) (Wd.rec hK hW (by decide) cM_0 (ci := 5) rfl) hx hb hml hown hB hK hW hS ⟨Nat.zero_le _, Nat.zero_le _⟩ rfl hl.1 rfl (Nat.le_of_ble_eq_true rfl) rfl dX5_monthsOf_16 (fun H locs hW hS => ?_)
        refine lv_if_le (tgt := 33) hx hb dX5_monthsOf_19 (by decide) (fun c19 => ?_) (fun c19 => ?_)
        · rw [if_pos c19] at hf
          exact J33 m6 l1_6 _ _ _ hf hW hS (lv_sub hl [0, 1] rfl)
        · rw [if_neg c19] at hf
          refine lv_aload_n hx hb dX5_monthsOf_22 rfl (lv_at hl 0 rfl) ?_
          obtain ⟨⟨v23, m23⟩, e23, hf⟩ := ob2 hf
          dsimp only at hf
          refine c_V (As := []) (st1 := [.int v23]) (rest := []) (p_X5_closeNow l E x m6 g o e23) (kc_X5_124 hB ⟨Nat.le_of_ble_eq_true rfl, Nat.le_of_ble_eq_true rfl⟩) (Wd.rec hK hW (by decide) cM_0 (ci := 5) rfl) hx hb hml hown hB hK hW hS ⟨Nat.zero_le _, Nat.zero_le _⟩ rfl hl.1 rfl (Nat.le_of_ble_eq_true rfl) rfl dX5_monthsOf_23 (fun H locs hW hS => ?_)
          refine lv_pop hx hb dX5_monthsOf_26 rfl ?_
          obtain ⟨v27, e27, hf⟩ := ob hf
          refine lv_iinc (v := v27) (lv' := [(1, .int v27), (0, rf E 211)]) hx hb dX5_monthsOf_27 hl (k := 1) rfl (by rw [e27]; rfl) (by decide) rfl (fun ls hl => ?_)
          refine lv_goto (tgt := 6) hx hb dX5_monthsOf_30 (by decide) ?_
          exact ih6 m23 v27 _ _ _ hf hW hS (lv_sub hl [1, 0] rfl)
  refine lv_aload_n hx hb dX5_monthsOf_0 rfl (lv_at hl 0 rfl) ?_
  obtain ⟨m1, e1, hf⟩ := ob2 hf
  refine c_V (As := []) (st1 := []) (rest := []) (p_X5_putAside l E x m g o e1) (kc_X5_189 hB ⟨Nat.le_of_ble_eq_true rfl, Nat.le_of_ble_eq_true rfl⟩) (Wd.rec hK hW (by decide) cM_0 (ci := 5) rfl) hx hb hml hown hB hK hW hS ⟨Nat.zero_le _, Nat.zero_le _⟩ rfl hl.1 rfl (Nat.le_of_ble_eq_true rfl) rfl dX5_monthsOf_1 (fun H locs hW hS => ?_)
  refine lv_iconst (v := 0) hx hb dX5_monthsOf_4 (by decide) ?_
  refine lv_istore_n (lv' := [(1, .int 0), (0, rf E 211)]) hx hb dX5_monthsOf_5 rfl hl (by decide) rfl (fun ls hl => ?_)
  exact J6 4096 m1 0 _ _ _ hf hW hS (lv_sub hl [1, 0] rfl)
def f_X5_monthsToEqual (m : XS) : Option (Int32 × XS) :=
    (some (ux m 0 6 0)).bind fun m2 =>
    (f_X5_monthsOf m2).bind fun q6 => (fun v6 m6 =>
    some (v6, m6)) q6.1 q6.2
set_option maxRecDepth 100000 in
set_option maxHeartbeats 4000000 in
theorem p_X5_monthsToEqual (l : Launch) (E : TE) (x m : XS) (g o : Int64) {r : Int32} {mr : XS} (hf : f_X5_monthsToEqual m = some (r, mr)) : MG l E yX5_monthsToEqual cX5_monthsToEqual 1 (some .int) 7 [rf E 211] (Wd E x m g o) (Wd E x mr g o) (some (.int r)) := by
  unfold f_X5_monthsToEqual at hf
  refine m_in (by decide) (Nat.le_of_ble_eq_true rfl) ?_
  intro p e s mi args below meth c H ls hx hb hr hlk hml hown hB hK hW hS hl
  have hl : lv_has ls 1 [(0, rf E 211)] := hl
  refine lv_aload_n hx hb dX5_monthsToEqual_0 rfl (lv_at hl 0 rfl) ?_
  refine lv_iconst (v := 0) hx hb dX5_monthsToEqual_1 (by decide) ?_
  obtain ⟨m2, e2, hf⟩ := ob hf
  refine pf_X5_29 hx hb hB hK hown hW hS e2 dX5_monthsToEqual_2 (fun H locs hW hS => ?_)
  refine lv_aload_n hx hb dX5_monthsToEqual_5 rfl (lv_at hl 0 rfl) ?_
  obtain ⟨⟨v6, m6⟩, e6, hf⟩ := ob2 hf
  dsimp only at hf
  refine c_V (As := []) (st1 := [.int v6]) (rest := []) (p_X5_monthsOf l E x m2 g o e6) (kc_X5_198 hB ⟨Nat.le_of_ble_eq_true rfl, Nat.le_of_ble_eq_true rfl⟩) (Wd.rec hK hW (by decide) cM_0 (ci := 5) rfl) hx hb hml hown hB hK hW hS ⟨Nat.zero_le _, Nat.zero_le _⟩ rfl hl.1 rfl (Nat.le_of_ble_eq_true rfl) rfl dX5_monthsToEqual_6 (fun H locs hW hS => ?_)
  cases hf
  exact e_i hx hb hr hlk hW hS dX5_monthsToEqual_9
def f_X5_shareOf (m : XS) : Option (UInt64) :=
    (aget 442 (m 1) 0).bind fun v5 =>
    (f_X5_staged m 0).bind fun v8 =>
    (some ((v5 - v8))).bind fun v12 =>
    if (v12 = 0 : Prop) then
      some FP.dconst1
    else
      ((f_X5_departing m).bind fun v23 =>
      (dok (FP.ddiv (FP.i2d (v12 - v23)) (FP.i2d v12))).bind fun v30 =>
      some v30)
set_option maxRecDepth 100000 in
set_option maxHeartbeats 4000000 in
theorem p_X5_shareOf (l : Launch) (E : TE) (x m : XS) (g o : Int64) {r : UInt64} (hf : f_X5_shareOf m = some r) : MG l E yX5_shareOf cX5_shareOf 2 (some .double) 2 [rf E 211] (Wd E x m g o) (Wd E x m g o) (some (.double r)) := by
  unfold f_X5_shareOf at hf
  refine m_in (by decide) (Nat.le_of_ble_eq_true rfl) ?_
  intro p e s mi args below meth c H ls hx hb hr hlk hml hown hB hK hW hS hl
  have hl : lv_has ls 2 [(0, rf E 211)] := hl
  refine lv_aload_n hx hb dX5_shareOf_0 rfl (lv_at hl 0 rfl) ?_
  refine gf_X5_7 hx hb hB hK hown hW dX5_shareOf_1 ?_
  refine lv_iconst (v := 0) hx hb dX5_shareOf_4 (by decide) ?_
  obtain ⟨v5, e5, hf⟩ := ob2 hf
  refine r_iald hx hb hK hW (by decide) (cM_1) e5 dX5_shareOf_5 ?_
  refine lv_aload_n hx hb dX5_shareOf_6 rfl (lv_at hl 0 rfl) ?_
  refine lv_iconst (v := 0) hx hb dX5_shareOf_7 (by decide) ?_
  obtain ⟨v8, e8, hf⟩ := ob2 hf
  refine c_V (As := [.int 0]) (st1 := [.int v8, .int v5]) (rest := [.int v5]) (p_X5_staged l E x m g o e8) (kc_X5_109 hB ⟨Nat.le_of_ble_eq_true rfl, Nat.le_of_ble_eq_true rfl⟩) (Wd.rec hK hW (by decide) cM_0 (ci := 5) rfl) hx hb hml hown hB hK hW hS ⟨Nat.zero_le _, Nat.zero_le _⟩ rfl hl.1 rfl (Nat.le_of_ble_eq_true rfl) rfl dX5_shareOf_8 (fun H locs hW hS => ?_)
  refine lv_isub hx hb dX5_shareOf_11 ?_
  obtain ⟨v12, e12, hf⟩ := ob hf
  refine lv_nm e12 ?_
  refine lv_istore_n (lv' := [(1, .int v12), (0, rf E 211)]) hx hb dX5_shareOf_12 rfl hl (by decide) rfl (fun ls hl => ?_)
  refine lv_iload_n hx hb dX5_shareOf_13 rfl (lv_at hl 0 rfl) ?_
  refine lv_if_ne (tgt := 21) hx hb dX5_shareOf_14 (by decide) (fun c14 => ?_) (fun c14 => ?_)
  · rw [if_neg c14] at hf
    refine lv_iload_n hx hb dX5_shareOf_21 rfl (lv_at hl 0 rfl) ?_
    refine lv_aload_n hx hb dX5_shareOf_22 rfl (lv_at hl 1 rfl) ?_
    obtain ⟨v23, e23, hf⟩ := ob2 hf
    refine c_V (As := []) (st1 := [.int v23, .int v12]) (rest := [.int v12]) (p_X5_departing l E x m g o e23) (kc_X5_171 hB ⟨Nat.le_of_ble_eq_true rfl, Nat.le_of_ble_eq_true rfl⟩) (Wd.rec hK hW (by decide) cM_0 (ci := 5) rfl) hx hb hml hown hB hK hW hS ⟨Nat.zero_le _, Nat.zero_le _⟩ rfl hl.1 rfl (Nat.le_of_ble_eq_true rfl) rfl dX5_shareOf_23 (fun H locs hW hS => ?_)
    refine lv_isub hx hb dX5_shareOf_26 ?_
    refine lv_i2d hx hb dX5_shareOf_27 ?_
    refine lv_iload_n hx hb dX5_shareOf_28 rfl (lv_at hl 0 rfl) ?_
    refine lv_i2d hx hb dX5_shareOf_29 ?_
    obtain ⟨v30, e30, hf⟩ := ob2 hf
    obtain ⟨z30, rfl⟩ := dok_some e30
    refine lv_ddiv hx hb dX5_shareOf_30 z30 ?_
    generalize FP.ddiv (FP.i2d (v12 - v23)) (FP.i2d v12) = v30 at hf ⊢
    cases hf
    exact e_d hx hb hr hlk hW hS dX5_shareOf_31
  · rw [if_pos c14] at hf
    refine lv_dconst1 hx hb dX5_shareOf_17 ?_
    refine lv_goto (tgt := 31) hx hb dX5_shareOf_18 (by decide) ?_
    cases hf
    exact e_d hx hb hr hlk hW hS dX5_shareOf_31
def f_X5_followShare (m : XS) : Option (UInt64 × XS) :=
    (some (ux m 0 6 0)).bind fun m2 =>
    (f_X5_shareOf m2).bind fun v6 =>
    some (v6, m2)
set_option maxRecDepth 100000 in
set_option maxHeartbeats 4000000 in
theorem p_X5_followShare (l : Launch) (E : TE) (x m : XS) (g o : Int64) {r : UInt64} {mr : XS} (hf : f_X5_followShare m = some (r, mr)) : MG l E yX5_followShare cX5_followShare 1 (some .double) 3 [rf E 211] (Wd E x m g o) (Wd E x mr g o) (some (.double r)) := by
  unfold f_X5_followShare at hf
  refine m_in (by decide) (Nat.le_of_ble_eq_true rfl) ?_
  intro p e s mi args below meth c H ls hx hb hr hlk hml hown hB hK hW hS hl
  have hl : lv_has ls 1 [(0, rf E 211)] := hl
  refine lv_aload_n hx hb dX5_followShare_0 rfl (lv_at hl 0 rfl) ?_
  refine lv_iconst (v := 0) hx hb dX5_followShare_1 (by decide) ?_
  obtain ⟨m2, e2, hf⟩ := ob hf
  refine pf_X5_29 hx hb hB hK hown hW hS e2 dX5_followShare_2 (fun H locs hW hS => ?_)
  refine lv_aload_n hx hb dX5_followShare_5 rfl (lv_at hl 0 rfl) ?_
  obtain ⟨v6, e6, hf⟩ := ob2 hf
  refine c_V (As := []) (st1 := [.double v6]) (rest := []) (p_X5_shareOf l E x m2 g o e6) (kc_X5_201 hB ⟨Nat.le_of_ble_eq_true rfl, Nat.le_of_ble_eq_true rfl⟩) (Wd.rec hK hW (by decide) cM_0 (ci := 5) rfl) hx hb hml hown hB hK hW hS ⟨Nat.zero_le _, Nat.zero_le _⟩ rfl hl.1 rfl (Nat.le_of_ble_eq_true rfl) rfl dX5_followShare_6 (fun H locs hW hS => ?_)
  cases hf
  exact e_d hx hb hr hlk hW hS dX5_followShare_9
def f_X5_mix (g : Int64) (a0 : Int64) : Option (Int64) :=
    (some (((31 * g) + a0))).bind fun g11 =>
    some g11
set_option maxRecDepth 100000 in
set_option maxHeartbeats 4000000 in
theorem p_X5_mix (l : Launch) (E : TE) (x m : XS) (g o : Int64) {a0 : Int64} {gr : Int64} (hf : f_X5_mix g a0 = some gr) : MG l E yX5_mix cX5_mix 3 none 0 [rf E 211, .long a0] (Wd E x m g o) (Wd E x m gr o) none := by
  unfold f_X5_mix at hf
  refine m_in (by decide) (Nat.le_of_ble_eq_true rfl) ?_
  intro p e s mi args below meth c H ls hx hb hr hlk hml hown hB hK hW hS hl
  have hl : lv_has ls 3 [(0, rf E 211), (1, .long a0)] := hl
  refine lv_aload_n hx hb dX5_mix_0 rfl (lv_at hl 0 rfl) ?_
  refine lv_ldc2 (v := 31) hx hb hown (hB _ q_1259) dX5_mix_1 ?_
  refine lv_aload_n hx hb dX5_mix_4 rfl (lv_at hl 0 rfl) ?_
  refine gf_X5_207 hx hb hB hK hown hW dX5_mix_5 ?_
  refine lv_lmul hx hb dX5_mix_8 ?_
  refine lv_lload_n hx hb dX5_mix_9 rfl (lv_at hl 1 rfl) ?_
  refine lv_ladd hx hb dX5_mix_10 ?_
  obtain ⟨g11, e11, hf⟩ := ob hf
  refine pf_X5_207 hx hb hB hK hown hW hS e11 dX5_mix_11 (fun H locs hW hS => ?_)
  cases hf
  exact e_v hx hb hr hlk hW hS dX5_mix_14
def f_X5_mixKind_68 (m : XS) : Nat → Int64 → Int32 → Int32 → Option (Int64)
  | 0, _, _, _ => none
  | n68 + 1, g68, l1_68, l2_68 =>
    if (15 ≤ l2_68 : Prop) then
      some g68
    else
      ((f_X5_precedentOf m l1_68 (l2_68 / 5) (l2_68 - l2_68 / 5 * 5)).bind fun v83 =>
      (f_X5_mix g68 ((v83 : Int32).toInt64)).bind fun g87 =>
      (some (l2_68 + 1)).bind fun v90 =>
      f_X5_mixKind_68 m n68 g87 l1_68 v90)
def f_X5_mixKind_27 (m : XS) : Nat → Int64 → Int32 → Int32 → Option (Int64)
  | 0, _, _, _ => none
  | n27 + 1, g27, l1_27, l2_27 =>
    (f_X5_at l1_27).bind fun v34 =>
    (aget 442 (m 1) (v34 + 3)).bind fun v39 =>
    if ((5 * v39) ≤ l2_27 : Prop) then
      f_X5_mixKind_68 m 4096 g27 l1_27 0
    else
      ((f_X5_amendsOf m l1_27 (l2_27 / 5) (l2_27 - l2_27 / 5 * 5)).bind fun v53 =>
      (f_X5_mix g27 ((v53 : Int32).toInt64)).bind fun g57 =>
      (some (l2_27 + 1)).bind fun v60 =>
      f_X5_mixKind_27 m n27 g57 l1_27 v60)
def f_X5_mixKind_2 (m : XS) : Nat → Int64 → Int32 → Int32 → Option (Int64)
  | 0, _, _, _ => none
  | n2 + 1, g2, l1_2, l2_2 =>
    if (8 ≤ l2_2 : Prop) then
      f_X5_mixKind_27 m 4096 g2 l1_2 0
    else
      ((f_X5_kindOf m l1_2 l2_2).bind fun v12 =>
      (f_X5_mix g2 ((v12 : Int32).toInt64)).bind fun g16 =>
      (some (l2_2 + 1)).bind fun v19 =>
      f_X5_mixKind_2 m n2 g16 l1_2 v19)
def f_X5_mixKind (m : XS) (g : Int64) (a0 : Int32) : Option (Int64) :=
    f_X5_mixKind_2 m 4096 g a0 0
set_option maxRecDepth 100000 in
set_option maxHeartbeats 4000000 in
theorem p_X5_mixKind (l : Launch) (E : TE) (x m : XS) (g o : Int64) {a0 : Int32} {gr : Int64} (hf : f_X5_mixKind m g a0 = some gr) : MG l E yX5_mixKind cX5_mixKind 3 none 6 [rf E 211, .int a0] (Wd E x m g o) (Wd E x m gr o) none := by
  unfold f_X5_mixKind at hf
  refine m_in (by decide) (Nat.le_of_ble_eq_true rfl) ?_
  intro p e s mi args below meth c H ls hx hb hr hlk hml hown hB hK hW hS hl
  have hl : lv_has ls 3 [(0, rf E 211), (1, .int a0)] := hl
  have J68 : ∀ (n68 : Nat), ∀ (g68 : Int64) (l1_68 : Int32) (l2_68 : Int32) (H : Heap) (locs : List Loc) (ls : Array Slot), f_X5_mixKind_68 m n68 g68 l1_68 l2_68 = some gr → Wd E x m g68 o H → va_S (Ah E) s.heap H locs → lv_has ls 3 [(0, rf E 211), (1, .int l1_68), (2, .int l2_68)] → W p l e (rmH 6) s mi args below meth c H locs 0 0 (EQ E below args s (Wd E x m gr o) none) (F0 mi 68 ls []) := by
    intro n68
    induction n68 with
    | zero => intro g68 l1_68 l2_68 H locs ls hf; exact absurd hf (fun z => nomatch (show (none : Option (Int64)) = some _ from z))
    | succ n68 ih68 =>
      intro g68 l1_68 l2_68 H locs ls hf hW hS hl
      rw [f_X5_mixKind_68.eq_2] at hf
      refine lv_iload_n hx hb dX5_mixKind_68 rfl (lv_at hl 2 rfl) ?_
      refine lv_bipush (v := 15) hx hb dX5_mixKind_69 (by decide) ?_
      refine lv_icmp_ge (tgt := 96) hx hb dX5_mixKind_71 (by decide) (fun c71 => ?_) (fun c71 => ?_)
      · rw [if_pos c71] at hf
        cases hf
        exact e_v hx hb hr hlk hW hS dX5_mixKind_96
      · rw [if_neg c71] at hf
        refine lv_aload_n hx hb dX5_mixKind_74 rfl (lv_at hl 0 rfl) ?_
        refine lv_aload_n hx hb dX5_mixKind_75 rfl (lv_at hl 0 rfl) ?_
        refine lv_iload_n hx hb dX5_mixKind_76 rfl (lv_at hl 1 rfl) ?_
        refine lv_iload_n hx hb dX5_mixKind_77 rfl (lv_at hl 2 rfl) ?_
        refine lv_iconst (v := 5) hx hb dX5_mixKind_78 (by decide) ?_
        refine lv_idiv hx hb dX5_mixKind_79 (by decide) ?_
        refine lv_iload_n hx hb dX5_mixKind_80 rfl (lv_at hl 2 rfl) ?_
        refine lv_iconst (v := 5) hx hb dX5_mixKind_81 (by decide) ?_
        refine lv_irem hx hb dX5_mixKind_82 (by decide) ?_
        obtain ⟨v83, e83, hf⟩ := ob2 hf
        refine c_V (As := [.int l1_68, .int (l2_68 / 5), .int (l2_68 - l2_68 / 5 * 5)]) (st1 := [.int v83, rf E 211]) (rest := [rf E 211]) (p_X5_precedentOf l E x m g68 o e83) (kc_X5_162 hB ⟨Nat.le_of_ble_eq_true rfl, Nat.le_of_ble_eq_true rfl⟩) (Wd.rec hK hW (by decide) cM_0 (ci := 5) rfl) hx hb hml hown hB hK hW hS ⟨Nat.zero_le _, Nat.zero_le _⟩ rfl hl.1 rfl (Nat.le_of_ble_eq_true rfl) rfl dX5_mixKind_83 (fun H locs hW hS => ?_)
        refine lv_i2l hx hb dX5_mixKind_86 rfl ?_
        obtain ⟨g87, e87, hf⟩ := ob2 hf
        refine c_V (As := [.long (v83 : Int32).toInt64]) (st1 := []) (rest := []) (p_X5_mix l E x m g68 o e87) (kc_X5_211 hB ⟨Nat.le_of_ble_eq_true rfl, Nat.le_of_ble_eq_true rfl⟩) (Wd.rec hK hW (by decide) cM_0 (ci := 5) rfl) hx hb hml hown hB hK hW hS ⟨Nat.zero_le _, Nat.zero_le _⟩ rfl hl.1 rfl (Nat.le_of_ble_eq_true rfl) rfl dX5_mixKind_87 (fun H locs hW hS => ?_)
        obtain ⟨v90, e90, hf⟩ := ob hf
        refine lv_iinc (v := v90) (lv' := [(2, .int v90), (0, rf E 211), (1, .int l1_68)]) hx hb dX5_mixKind_90 hl (k := 2) rfl (by rw [e90]; rfl) (by decide) rfl (fun ls hl => ?_)
        refine lv_goto (tgt := 68) hx hb dX5_mixKind_93 (by decide) ?_
        exact ih68 g87 l1_68 v90 _ _ _ hf hW hS (lv_sub hl [1, 2, 0] rfl)
  have J27 : ∀ (n27 : Nat), ∀ (g27 : Int64) (l1_27 : Int32) (l2_27 : Int32) (H : Heap) (locs : List Loc) (ls : Array Slot), f_X5_mixKind_27 m n27 g27 l1_27 l2_27 = some gr → Wd E x m g27 o H → va_S (Ah E) s.heap H locs → lv_has ls 3 [(0, rf E 211), (1, .int l1_27), (2, .int l2_27)] → W p l e (rmH 6) s mi args below meth c H locs 0 0 (EQ E below args s (Wd E x m gr o) none) (F0 mi 27 ls []) := by
    intro n27
    induction n27 with
    | zero => intro g27 l1_27 l2_27 H locs ls hf; exact absurd hf (fun z => nomatch (show (none : Option (Int64)) = some _ from z))
    | succ n27 ih27 =>
      intro g27 l1_27 l2_27 H locs ls hf hW hS hl
      rw [f_X5_mixKind_27.eq_2] at hf
      refine lv_iload_n hx hb dX5_mixKind_27 rfl (lv_at hl 2 rfl) ?_
      refine lv_iconst (v := 5) hx hb dX5_mixKind_28 (by decide) ?_
      refine lv_aload_n hx hb dX5_mixKind_29 rfl (lv_at hl 0 rfl) ?_
      refine gf_X5_7 hx hb hB hK hown hW dX5_mixKind_30 ?_
      refine lv_iload_n hx hb dX5_mixKind_33 rfl (lv_at hl 1 rfl) ?_
      obtain ⟨v34, e34, hf⟩ := ob2 hf
      refine c_S (As := [.int l1_27]) (st1 := [.int v34, rf E 212, .int 5, .int l2_27]) (rest := [rf E 212, .int 5, .int l2_27]) (p_X5_at l E x m g27 o e34) (kc_X5_25 hB ⟨Nat.le_of_ble_eq_true rfl, Nat.le_of_ble_eq_true rfl⟩) hx hb hml hown hB hK hW hS ⟨Nat.zero_le _, Nat.zero_le _⟩ rfl hl.1 rfl (Nat.le_of_ble_eq_true rfl) rfl dX5_mixKind_34 (fun H locs hW hS => ?_)
      refine lv_iconst (v := 3) hx hb dX5_mixKind_37 (by decide) ?_
      refine lv_iadd hx hb dX5_mixKind_38 ?_
      obtain ⟨v39, e39, hf⟩ := ob2 hf
      refine r_iald hx hb hK hW (by decide) (cM_1) e39 dX5_mixKind_39 ?_
      refine lv_imul hx hb dX5_mixKind_40 ?_
      refine lv_icmp_ge (tgt := 66) hx hb dX5_mixKind_41 (by decide) (fun c41 => ?_) (fun c41 => ?_)
      · rw [if_pos c41] at hf
        refine lv_iconst (v := 0) hx hb dX5_mixKind_66 (by decide) ?_
        refine lv_istore_n (lv' := [(2, .int 0), (0, rf E 211), (1, .int l1_27)]) hx hb dX5_mixKind_67 rfl hl (by decide) rfl (fun ls hl => ?_)
        exact J68 4096 g27 l1_27 0 _ _ _ hf hW hS (lv_sub hl [1, 2, 0] rfl)
      · rw [if_neg c41] at hf
        refine lv_aload_n hx hb dX5_mixKind_44 rfl (lv_at hl 0 rfl) ?_
        refine lv_aload_n hx hb dX5_mixKind_45 rfl (lv_at hl 0 rfl) ?_
        refine lv_iload_n hx hb dX5_mixKind_46 rfl (lv_at hl 1 rfl) ?_
        refine lv_iload_n hx hb dX5_mixKind_47 rfl (lv_at hl 2 rfl) ?_
        refine lv_iconst (v := 5) hx hb dX5_mixKind_48 (by decide) ?_
        refine lv_idiv hx hb dX5_mixKind_49 (by decide) ?_
        refine lv_iload_n hx hb dX5_mixKind_50 rfl (lv_at hl 2 rfl) ?_
        refine lv_iconst (v := 5) hx hb dX5_mixKind_51 (by decide) ?_
        refine lv_irem hx hb dX5_mixKind_52 (by decide) ?_
        obtain ⟨v53, e53, hf⟩ := ob2 hf
        refine c_V (As := [.int l1_27, .int (l2_27 / 5), .int (l2_27 - l2_27 / 5 * 5)]) (st1 := [.int v53, rf E 211]) (rest := [rf E 211]) (p_X5_amendsOf l E x m g27 o e53) (kc_X5_156 hB ⟨Nat.le_of_ble_eq_true rfl, Nat.le_of_ble_eq_true rfl⟩) (Wd.rec hK hW (by decide) cM_0 (ci := 5) rfl) hx hb hml hown hB hK hW hS ⟨Nat.zero_le _, Nat.zero_le _⟩ rfl hl.1 rfl (Nat.le_of_ble_eq_true rfl) rfl dX5_mixKind_53 (fun H locs hW hS => ?_)
        refine lv_i2l hx hb dX5_mixKind_56 rfl ?_
        obtain ⟨g57, e57, hf⟩ := ob2 hf
        refine c_V (As := [.long (v53 : Int32).toInt64]) (st1 := []) (rest := []) (p_X5_mix l E x m g27 o e57) (kc_X5_211 hB ⟨Nat.le_of_ble_eq_true rfl, Nat.le_of_ble_eq_true rfl⟩) (Wd.rec hK hW (by decide) cM_0 (ci := 5) rfl) hx hb hml hown hB hK hW hS ⟨Nat.zero_le _, Nat.zero_le _⟩ rfl hl.1 rfl (Nat.le_of_ble_eq_true rfl) rfl dX5_mixKind_57 (fun H locs hW hS => ?_)
        obtain ⟨v60, e60, hf⟩ := ob hf
        refine lv_iinc (v := v60) (lv' := [(2, .int v60), (0, rf E 211), (1, .int l1_27)]) hx hb dX5_mixKind_60 hl (k := 2) rfl (by rw [e60]; rfl) (by decide) rfl (fun ls hl => ?_)
        refine lv_goto (tgt := 27) hx hb dX5_mixKind_63 (by decide) ?_
        exact ih27 g57 l1_27 v60 _ _ _ hf hW hS (lv_sub hl [1, 2, 0] rfl)
  have J2 : ∀ (n2 : Nat), ∀ (g2 : Int64) (l1_2 : Int32) (l2_2 : Int32) (H : Heap) (locs : List Loc) (ls : Array Slot), f_X5_mixKind_2 m n2 g2 l1_2 l2_2 = some gr → Wd E x m g2 o H → va_S (Ah E) s.heap H locs → lv_has ls 3 [(0, rf E 211), (1, .int l1_2), (2, .int l2_2)] → W p l e (rmH 6) s mi args below meth c H locs 0 0 (EQ E below args s (Wd E x m gr o) none) (F0 mi 2 ls []) := by
    intro n2
    induction n2 with
    | zero => intro g2 l1_2 l2_2 H locs ls hf; exact absurd hf (fun z => nomatch (show (none : Option (Int64)) = some _ from z))
    | succ n2 ih2 =>
      intro g2 l1_2 l2_2 H locs ls hf hW hS hl
      rw [f_X5_mixKind_2.eq_2] at hf
      refine lv_iload_n hx hb dX5_mixKind_2 rfl (lv_at hl 2 rfl) ?_
      refine lv_bipush (v := 8) hx hb dX5_mixKind_3 (by decide) ?_
      refine lv_icmp_ge (tgt := 25) hx hb dX5_mixKind_5 (by decide) (fun c5 => ?_) (fun c5 => ?_)
      · rw [if_pos c5] at hf
        refine lv_iconst (v := 0) hx hb dX5_mixKind_25 (by decide) ?_
        refine lv_istore_n (lv' := [(2, .int 0), (0, rf E 211), (1, .int l1_2)]) hx hb dX5_mixKind_26 rfl hl (by decide) rfl (fun ls hl => ?_)
        exact J27 4096 g2 l1_2 0 _ _ _ hf hW hS (lv_sub hl [1, 2, 0] rfl)
      · rw [if_neg c5] at hf
        refine lv_aload_n hx hb dX5_mixKind_8 rfl (lv_at hl 0 rfl) ?_
        refine lv_aload_n hx hb dX5_mixKind_9 rfl (lv_at hl 0 rfl) ?_
        refine lv_iload_n hx hb dX5_mixKind_10 rfl (lv_at hl 1 rfl) ?_
        refine lv_iload_n hx hb dX5_mixKind_11 rfl (lv_at hl 2 rfl) ?_
        obtain ⟨v12, e12, hf⟩ := ob2 hf
        refine c_V (As := [.int l1_2, .int l2_2]) (st1 := [.int v12, rf E 211]) (rest := [rf E 211]) (p_X5_kindOf l E x m g2 o e12) (kc_X5_168 hB ⟨Nat.le_of_ble_eq_true rfl, Nat.le_of_ble_eq_true rfl⟩) (Wd.rec hK hW (by decide) cM_0 (ci := 5) rfl) hx hb hml hown hB hK hW hS ⟨Nat.zero_le _, Nat.zero_le _⟩ rfl hl.1 rfl (Nat.le_of_ble_eq_true rfl) rfl dX5_mixKind_12 (fun H locs hW hS => ?_)
        refine lv_i2l hx hb dX5_mixKind_15 rfl ?_
        obtain ⟨g16, e16, hf⟩ := ob2 hf
        refine c_V (As := [.long (v12 : Int32).toInt64]) (st1 := []) (rest := []) (p_X5_mix l E x m g2 o e16) (kc_X5_211 hB ⟨Nat.le_of_ble_eq_true rfl, Nat.le_of_ble_eq_true rfl⟩) (Wd.rec hK hW (by decide) cM_0 (ci := 5) rfl) hx hb hml hown hB hK hW hS ⟨Nat.zero_le _, Nat.zero_le _⟩ rfl hl.1 rfl (Nat.le_of_ble_eq_true rfl) rfl dX5_mixKind_16 (fun H locs hW hS => ?_)
        obtain ⟨v19, e19, hf⟩ := ob hf
        refine lv_iinc (v := v19) (lv' := [(2, .int v19), (0, rf E 211), (1, .int l1_2)]) hx hb dX5_mixKind_19 hl (k := 2) rfl (by rw [e19]; rfl) (by decide) rfl (fun ls hl => ?_)
        refine lv_goto (tgt := 2) hx hb dX5_mixKind_22 (by decide) ?_
        exact ih2 g16 l1_2 v19 _ _ _ hf hW hS (lv_sub hl [1, 2, 0] rfl)
  refine lv_iconst (v := 0) hx hb dX5_mixKind_0 (by decide) ?_
  refine lv_istore_n (lv' := [(2, .int 0), (0, rf E 211), (1, .int a0)]) hx hb dX5_mixKind_1 rfl hl (by decide) rfl (fun ls hl => ?_)
  exact J2 4096 g a0 0 _ _ _ hf hW hS (lv_sub hl [1, 2, 0] rfl)
def f_X5_mixComplaint_49 : Nat → XS → Int64 → Int32 → Int32 → Option (XS × Int64)
  | 0, _, _, _, _ => none
  | n49 + 1, m49, g49, l1_49, l2_49 =>
    if (4 ≤ l2_49 : Prop) then
      some (m49, g49)
    else
      ((f_X5_judgedOf m49 l1_49 1 l2_49).bind fun q59 => (fun v59 m59 =>
      (f_X5_mix g49 ((v59 : Int32).toInt64)).bind fun g63 =>
      (some (l2_49 + 1)).bind fun v66 =>
      f_X5_mixComplaint_49 n49 m59 g63 l1_49 v66) q59.1 q59.2)
def f_X5_mixComplaint_2 : Nat → XS → Int64 → Int32 → Int32 → Option (XS × Int64)
  | 0, _, _, _, _ => none
  | n2 + 1, m2, g2, l1_2, l2_2 =>
    if (11 ≤ l2_2 : Prop) then
      ((f_X5_fairOf m2 l1_2).bind fun v28 =>
      (f_X5_mix g2 ((v28 : Int32).toInt64)).bind fun g32 =>
      (f_X5_whyDecided m2 l1_2 0 0).bind fun v40 =>
      (f_X5_mix g32 ((v40 : Int32).toInt64)).bind fun g44 =>
      f_X5_mixComplaint_49 4096 m2 g44 l1_2 0)
    else
      ((f_X5_complaintOf m2 l1_2 l2_2).bind fun v12 =>
      (f_X5_mix g2 ((v12 : Int32).toInt64)).bind fun g16 =>
      (some (l2_2 + 1)).bind fun v19 =>
      f_X5_mixComplaint_2 n2 m2 g16 l1_2 v19)
def f_X5_mixComplaint (m : XS) (g : Int64) (a0 : Int32) : Option (XS × Int64) :=
    f_X5_mixComplaint_2 4096 m g a0 0
set_option maxRecDepth 100000 in
set_option maxHeartbeats 4000000 in
theorem p_X5_mixComplaint (l : Launch) (E : TE) (x m : XS) (g o : Int64) {a0 : Int32} {mr : XS} {gr : Int64} (hf : f_X5_mixComplaint m g a0 = some (mr, gr)) : MG l E yX5_mixComplaint cX5_mixComplaint 3 none 7 [rf E 211, .int a0] (Wd E x m g o) (Wd E x mr gr o) none := by
  unfold f_X5_mixComplaint at hf
  refine m_in (by decide) (Nat.le_of_ble_eq_true rfl) ?_
  intro p e s mi args below meth c H ls hx hb hr hlk hml hown hB hK hW hS hl
  have hl : lv_has ls 3 [(0, rf E 211), (1, .int a0)] := hl
  have J49 : ∀ (n49 : Nat), ∀ (m49 : XS) (g49 : Int64) (l1_49 : Int32) (l2_49 : Int32) (H : Heap) (locs : List Loc) (ls : Array Slot), f_X5_mixComplaint_49 n49 m49 g49 l1_49 l2_49 = some (mr, gr) → Wd E x m49 g49 o H → va_S (Ah E) s.heap H locs → lv_has ls 3 [(0, rf E 211), (1, .int l1_49), (2, .int l2_49)] → W p l e (rmH 7) s mi args below meth c H locs 0 0 (EQ E below args s (Wd E x mr gr o) none) (F0 mi 49 ls []) := by
    intro n49
    induction n49 with
    | zero => intro m49 g49 l1_49 l2_49 H locs ls hf; exact absurd hf (fun z => nomatch (show (none : Option (XS × Int64)) = some _ from z))
    | succ n49 ih49 =>
      intro m49 g49 l1_49 l2_49 H locs ls hf hW hS hl
      rw [f_X5_mixComplaint_49.eq_2] at hf
      refine lv_iload_n hx hb dX5_mixComplaint_49 rfl (lv_at hl 2 rfl) ?_
      refine lv_iconst (v := 4) hx hb dX5_mixComplaint_50 (by decide) ?_
      refine lv_icmp_ge (tgt := 72) hx hb dX5_mixComplaint_51 (by decide) (fun c51 => ?_) (fun c51 => ?_)
      · rw [if_pos c51] at hf
        cases hf
        exact e_v hx hb hr hlk hW hS dX5_mixComplaint_72
      · rw [if_neg c51] at hf
        refine lv_aload_n hx hb dX5_mixComplaint_54 rfl (lv_at hl 0 rfl) ?_
        refine lv_aload_n hx hb dX5_mixComplaint_55 rfl (lv_at hl 0 rfl) ?_
        refine lv_iload_n hx hb dX5_mixComplaint_56 rfl (lv_at hl 1 rfl) ?_
        refine lv_iconst (v := 1) hx hb dX5_mixComplaint_57 (by decide) ?_
        refine lv_iload_n hx hb dX5_mixComplaint_58 rfl (lv_at hl 2 rfl) ?_
        obtain ⟨⟨v59, m59⟩, e59, hf⟩ := ob2 hf
        dsimp only at hf
        refine c_V (As := [.int l1_49, .int 1, .int l2_49]) (st1 := [.int v59, rf E 211]) (rest := [rf E 211]) (p_X5_judgedOf l E x m49 g49 o e59) (kc_X5_195 hB ⟨Nat.le_of_ble_eq_true rfl, Nat.le_of_ble_eq_true rfl⟩) (Wd.rec hK hW (by decide) cM_0 (ci := 5) rfl) hx hb hml hown hB hK hW hS ⟨Nat.zero_le _, Nat.zero_le _⟩ rfl hl.1 rfl (Nat.le_of_ble_eq_true rfl) rfl dX5_mixComplaint_59 (fun H locs hW hS => ?_)
        refine lv_i2l hx hb dX5_mixComplaint_62 rfl ?_
        obtain ⟨g63, e63, hf⟩ := ob2 hf
        refine c_V (As := [.long (v59 : Int32).toInt64]) (st1 := []) (rest := []) (p_X5_mix l E x m59 g49 o e63) (kc_X5_211 hB ⟨Nat.le_of_ble_eq_true rfl, Nat.le_of_ble_eq_true rfl⟩) (Wd.rec hK hW (by decide) cM_0 (ci := 5) rfl) hx hb hml hown hB hK hW hS ⟨Nat.zero_le _, Nat.zero_le _⟩ rfl hl.1 rfl (Nat.le_of_ble_eq_true rfl) rfl dX5_mixComplaint_63 (fun H locs hW hS => ?_)
        obtain ⟨v66, e66, hf⟩ := ob hf
        refine lv_iinc (v := v66) (lv' := [(2, .int v66), (0, rf E 211), (1, .int l1_49)]) hx hb dX5_mixComplaint_66 hl (k := 2) rfl (by rw [e66]; rfl) (by decide) rfl (fun ls hl => ?_)
        refine lv_goto (tgt := 49) hx hb dX5_mixComplaint_69 (by decide) ?_
        exact ih49 m59 g63 l1_49 v66 _ _ _ hf hW hS (lv_sub hl [1, 2, 0] rfl)
  have J2 : ∀ (n2 : Nat), ∀ (m2 : XS) (g2 : Int64) (l1_2 : Int32) (l2_2 : Int32) (H : Heap) (locs : List Loc) (ls : Array Slot), f_X5_mixComplaint_2 n2 m2 g2 l1_2 l2_2 = some (mr, gr) → Wd E x m2 g2 o H → va_S (Ah E) s.heap H locs → lv_has ls 3 [(0, rf E 211), (1, .int l1_2), (2, .int l2_2)] → W p l e (rmH 7) s mi args below meth c H locs 0 0 (EQ E below args s (Wd E x mr gr o) none) (F0 mi 2 ls []) := by
    intro n2
    induction n2 with
    | zero => intro m2 g2 l1_2 l2_2 H locs ls hf; exact absurd hf (fun z => nomatch (show (none : Option (XS × Int64)) = some _ from z))
    | succ n2 ih2 =>
      intro m2 g2 l1_2 l2_2 H locs ls hf hW hS hl
      rw [f_X5_mixComplaint_2.eq_2] at hf
      refine lv_iload_n hx hb dX5_mixComplaint_2 rfl (lv_at hl 2 rfl) ?_
      refine lv_bipush (v := 11) hx hb dX5_mixComplaint_3 (by decide) ?_
      refine lv_icmp_ge (tgt := 25) hx hb dX5_mixComplaint_5 (by decide) (fun c5 => ?_) (fun c5 => ?_)
      · rw [if_pos c5] at hf
        refine lv_aload_n hx hb dX5_mixComplaint_25 rfl (lv_at hl 0 rfl) ?_
        refine lv_aload_n hx hb dX5_mixComplaint_26 rfl (lv_at hl 0 rfl) ?_
        refine lv_iload_n hx hb dX5_mixComplaint_27 rfl (lv_at hl 1 rfl) ?_
        obtain ⟨v28, e28, hf⟩ := ob2 hf
        refine c_V (As := [.int l1_2]) (st1 := [.int v28, rf E 211]) (rest := [rf E 211]) (p_X5_fairOf l E x m2 g2 o e28) (kc_X5_186 hB ⟨Nat.le_of_ble_eq_true rfl, Nat.le_of_ble_eq_true rfl⟩) (Wd.rec hK hW (by decide) cM_0 (ci := 5) rfl) hx hb hml hown hB hK hW hS ⟨Nat.zero_le _, Nat.zero_le _⟩ rfl hl.1 rfl (Nat.le_of_ble_eq_true rfl) rfl dX5_mixComplaint_28 (fun H locs hW hS => ?_)
        refine lv_i2l hx hb dX5_mixComplaint_31 rfl ?_
        obtain ⟨g32, e32, hf⟩ := ob2 hf
        refine c_V (As := [.long (v28 : Int32).toInt64]) (st1 := []) (rest := []) (p_X5_mix l E x m2 g2 o e32) (kc_X5_211 hB ⟨Nat.le_of_ble_eq_true rfl, Nat.le_of_ble_eq_true rfl⟩) (Wd.rec hK hW (by decide) cM_0 (ci := 5) rfl) hx hb hml hown hB hK hW hS ⟨Nat.zero_le _, Nat.zero_le _⟩ rfl hl.1 rfl (Nat.le_of_ble_eq_true rfl) rfl dX5_mixComplaint_32 (fun H locs hW hS => ?_)
        refine lv_aload_n hx hb dX5_mixComplaint_35 rfl (lv_at hl 0 rfl) ?_
        refine lv_aload_n hx hb dX5_mixComplaint_36 rfl (lv_at hl 0 rfl) ?_
        refine lv_iload_n hx hb dX5_mixComplaint_37 rfl (lv_at hl 1 rfl) ?_
        refine lv_iconst (v := 0) hx hb dX5_mixComplaint_38 (by decide) ?_
        refine lv_iconst (v := 0) hx hb dX5_mixComplaint_39 (by decide) ?_
        obtain ⟨v40, e40, hf⟩ := ob2 hf
        refine c_V (As := [.int l1_2, .int 0, .int 0]) (st1 := [.int v40, rf E 211]) (rest := [rf E 211]) (p_X5_whyDecided l E x m2 g32 o e40) (kc_X5_95 hB ⟨Nat.le_of_ble_eq_true rfl, Nat.le_of_ble_eq_true rfl⟩) (Wd.rec hK hW (by decide) cM_0 (ci := 5) rfl) hx hb hml hown hB hK hW hS ⟨Nat.zero_le _, Nat.zero_le _⟩ rfl hl.1 rfl (Nat.le_of_ble_eq_true rfl) rfl dX5_mixComplaint_40 (fun H locs hW hS => ?_)
        refine lv_i2l hx hb dX5_mixComplaint_43 rfl ?_
        obtain ⟨g44, e44, hf⟩ := ob2 hf
        refine c_V (As := [.long (v40 : Int32).toInt64]) (st1 := []) (rest := []) (p_X5_mix l E x m2 g32 o e44) (kc_X5_211 hB ⟨Nat.le_of_ble_eq_true rfl, Nat.le_of_ble_eq_true rfl⟩) (Wd.rec hK hW (by decide) cM_0 (ci := 5) rfl) hx hb hml hown hB hK hW hS ⟨Nat.zero_le _, Nat.zero_le _⟩ rfl hl.1 rfl (Nat.le_of_ble_eq_true rfl) rfl dX5_mixComplaint_44 (fun H locs hW hS => ?_)
        refine lv_iconst (v := 0) hx hb dX5_mixComplaint_47 (by decide) ?_
        refine lv_istore_n (lv' := [(2, .int 0), (0, rf E 211), (1, .int l1_2)]) hx hb dX5_mixComplaint_48 rfl hl (by decide) rfl (fun ls hl => ?_)
        exact J49 4096 m2 g44 l1_2 0 _ _ _ hf hW hS (lv_sub hl [1, 2, 0] rfl)
      · rw [if_neg c5] at hf
        refine lv_aload_n hx hb dX5_mixComplaint_8 rfl (lv_at hl 0 rfl) ?_
        refine lv_aload_n hx hb dX5_mixComplaint_9 rfl (lv_at hl 0 rfl) ?_
        refine lv_iload_n hx hb dX5_mixComplaint_10 rfl (lv_at hl 1 rfl) ?_
        refine lv_iload_n hx hb dX5_mixComplaint_11 rfl (lv_at hl 2 rfl) ?_
        obtain ⟨v12, e12, hf⟩ := ob2 hf
        refine c_V (As := [.int l1_2, .int l2_2]) (st1 := [.int v12, rf E 211]) (rest := [rf E 211]) (p_X5_complaintOf l E x m2 g2 o e12) (kc_X5_150 hB ⟨Nat.le_of_ble_eq_true rfl, Nat.le_of_ble_eq_true rfl⟩) (Wd.rec hK hW (by decide) cM_0 (ci := 5) rfl) hx hb hml hown hB hK hW hS ⟨Nat.zero_le _, Nat.zero_le _⟩ rfl hl.1 rfl (Nat.le_of_ble_eq_true rfl) rfl dX5_mixComplaint_12 (fun H locs hW hS => ?_)
        refine lv_i2l hx hb dX5_mixComplaint_15 rfl ?_
        obtain ⟨g16, e16, hf⟩ := ob2 hf
        refine c_V (As := [.long (v12 : Int32).toInt64]) (st1 := []) (rest := []) (p_X5_mix l E x m2 g2 o e16) (kc_X5_211 hB ⟨Nat.le_of_ble_eq_true rfl, Nat.le_of_ble_eq_true rfl⟩) (Wd.rec hK hW (by decide) cM_0 (ci := 5) rfl) hx hb hml hown hB hK hW hS ⟨Nat.zero_le _, Nat.zero_le _⟩ rfl hl.1 rfl (Nat.le_of_ble_eq_true rfl) rfl dX5_mixComplaint_16 (fun H locs hW hS => ?_)
        obtain ⟨v19, e19, hf⟩ := ob hf
        refine lv_iinc (v := v19) (lv' := [(2, .int v19), (0, rf E 211), (1, .int l1_2)]) hx hb dX5_mixComplaint_19 hl (k := 2) rfl (by rw [e19]; rfl) (by decide) rfl (fun ls hl => ?_)
        refine lv_goto (tgt := 2) hx hb dX5_mixComplaint_22 (by decide) ?_
        exact ih2 m2 g16 l1_2 v19 _ _ _ hf hW hS (lv_sub hl [1, 2, 0] rfl)
  refine lv_iconst (v := 0) hx hb dX5_mixComplaint_0 (by decide) ?_
  refine lv_istore_n (lv' := [(2, .int 0), (0, rf E 211), (1, .int a0)]) hx hb dX5_mixComplaint_1 rfl hl (by decide) rfl (fun ls hl => ?_)
  exact J2 4096 m g a0 0 _ _ _ hf hW hS (lv_sub hl [1, 2, 0] rfl)
def f_X5_digest_159 : Nat → XS → Int64 → Int32 → Option (Int64 × XS × Int64)
  | 0, _, _, _ => none
  | n159 + 1, m159, g159, l1_159 =>
    if ((m159 0 5) ≤ l1_159 : Prop) then
      some (g159, m159, g159)
    else
      ((aget 60 (m159 4) l1_159).bind fun v173 =>
      (f_X5_mix g159 ((v173 : Int32).toInt64)).bind fun g175 =>
      (some (l1_159 + 1)).bind fun v178 =>
      f_X5_digest_159 n159 m159 g175 v178)
def f_X5_digest_105 : Nat → XS → Int64 → Int32 → Option (Int64 × XS × Int64)
  | 0, _, _, _ => none
  | n105 + 1, m105, g105, l1_105 =>
    if (10 ≤ l1_105 : Prop) then
      ((f_X5_monthsOf m105).bind fun q130 => (fun v130 m130 =>
      (f_X5_mix g105 ((v130 : Int32).toInt64)).bind fun g134 =>
      (f_X5_shareOf m130).bind fun v139 =>
      (f_JD_doubleToLongBits v139).bind fun v142 =>
      (f_X5_mix g134 v142).bind fun g145 =>
      (f_X5_mix g145 (((m130 0 5) : Int32).toInt64)).bind fun g154 =>
      f_X5_digest_159 4096 m130 g154 0) q130.1 q130.2)
    else
      ((f_X5_customerAt m105 l1_105 0).bind fun v115 =>
      (f_X5_mix g105 ((v115 : Int32).toInt64)).bind fun g119 =>
      (some (l1_105 + 1)).bind fun v122 =>
      f_X5_digest_105 n105 m105 g119 v122)
def f_X5_digest_82 : Nat → XS → Int64 → Int32 → Option (Int64 × XS × Int64)
  | 0, _, _, _ => none
  | n82 + 1, m82, g82, l1_82 =>
    (aget 442 (m82 1) 0).bind fun v88 =>
    if (v88 ≤ l1_82 : Prop) then
      f_X5_digest_105 4096 m82 g82 0
    else
      ((f_X5_mixComplaint m82 g82 l1_82).bind fun q94 => (fun m94 g94 =>
      (some (l1_82 + 1)).bind fun v97 =>
      f_X5_digest_82 n82 m94 g94 v97) q94.1 q94.2)
def f_X5_digest_64 : Nat → XS → Int64 → Int32 → Option (Int64 × XS × Int64)
  | 0, _, _, _ => none
  | n64 + 1, m64, g64, l1_64 =>
    if (4 ≤ l1_64 : Prop) then
      f_X5_digest_82 4096 m64 g64 0
    else
      ((f_X5_mixKind m64 g64 l1_64).bind fun g71 =>
      (some (l1_64 + 1)).bind fun v74 =>
      f_X5_digest_64 n64 m64 g71 v74)
def f_X5_digest_38 : Nat → XS → Int64 → Int32 → Option (Int64 × XS × Int64)
  | 0, _, _, _ => none
  | n38 + 1, m38, g38, l1_38 =>
    if (3 ≤ l1_38 : Prop) then
      f_X5_digest_64 4096 m38 g38 0
    else
      ((aget 442 (m38 1) (2 + l1_38)).bind fun v51 =>
      (f_X5_mix g38 ((v51 : Int32).toInt64)).bind fun g53 =>
      (some (l1_38 + 1)).bind fun v56 =>
      f_X5_digest_38 n38 m38 g53 v56)
def f_X5_digest_14 : Nat → XS → Int64 → Int32 → Option (Int64 × XS × Int64)
  | 0, _, _, _ => none
  | n14 + 1, m14, g14, l1_14 =>
    if (12 ≤ l1_14 : Prop) then
      f_X5_digest_38 4096 m14 g14 0
    else
      ((f_X5_counted m14 l1_14).bind fun v23 =>
      (f_X5_mix g14 ((v23 : Int32).toInt64)).bind fun g27 =>
      (some (l1_14 + 1)).bind fun v30 =>
      f_X5_digest_14 n14 m14 g27 v30)
def f_X5_digest (m : XS) (g : Int64) : Option (Int64 × XS × Int64) :=
    (some (ux m 0 6 0)).bind fun m2 =>
    (some (2539)).bind fun g9 =>
    f_X5_digest_14 4096 m2 g9 0
set_option maxRecDepth 100000 in
set_option maxHeartbeats 4000000 in
theorem p_X5_digest (l : Launch) (E : TE) (x m : XS) (g o : Int64) {r : Int64} {mr : XS} {gr : Int64} (hf : f_X5_digest m g = some (r, mr, gr)) : MG l E yX5_digest cX5_digest 2 (some .long) 8 [rf E 211] (Wd E x m g o) (Wd E x mr gr o) (some (.long r)) := by
  unfold f_X5_digest at hf
  refine m_in (by decide) (Nat.le_of_ble_eq_true rfl) ?_
  intro p e s mi args below meth c H ls hx hb hr hlk hml hown hB hK hW hS hl
  have hl : lv_has ls 2 [(0, rf E 211)] := hl
  have J159 : ∀ (n159 : Nat), ∀ (m159 : XS) (g159 : Int64) (l1_159 : Int32) (H : Heap) (locs : List Loc) (ls : Array Slot), f_X5_digest_159 n159 m159 g159 l1_159 = some (r, mr, gr) → Wd E x m159 g159 o H → va_S (Ah E) s.heap H locs → lv_has ls 2 [(0, rf E 211), (1, .int l1_159)] → W p l e (rmH 8) s mi args below meth c H locs 0 0 (EQ E below args s (Wd E x mr gr o) (some (.long r))) (F0 mi 159 ls []) := by
    intro n159
    induction n159 with
    | zero => intro m159 g159 l1_159 H locs ls hf; exact absurd hf (fun z => nomatch (show (none : Option (Int64 × XS × Int64)) = some _ from z))
    | succ n159 ih159 =>
      intro m159 g159 l1_159 H locs ls hf hW hS hl
      rw [f_X5_digest_159.eq_2] at hf
      refine lv_iload_n hx hb dX5_digest_159 rfl (lv_at hl 1 rfl) ?_
      refine lv_aload_n hx hb dX5_digest_160 rfl (lv_at hl 0 rfl) ?_
      refine gf_X5_128 hx hb hB hK hown hW dX5_digest_161 ?_
      refine lv_icmp_ge (tgt := 184) hx hb dX5_digest_164 (by decide) (fun c164 => ?_) (fun c164 => ?_)
      · rw [if_pos c164] at hf
        refine lv_aload_n hx hb dX5_digest_184 rfl (lv_at hl 0 rfl) ?_
        refine gf_X5_207 hx hb hB hK hown hW dX5_digest_185 ?_
        cases hf
        exact e_l hx hb hr hlk hW hS dX5_digest_188
      · rw [if_neg c164] at hf
        refine lv_aload_n hx hb dX5_digest_167 rfl (lv_at hl 0 rfl) ?_
        refine lv_aload_n hx hb dX5_digest_168 rfl (lv_at hl 0 rfl) ?_
        refine gf_X5_19 hx hb hB hK hown hW dX5_digest_169 ?_
        refine lv_iload_n hx hb dX5_digest_172 rfl (lv_at hl 1 rfl) ?_
        obtain ⟨v173, e173, hf⟩ := ob2 hf
        refine r_iald hx hb hK hW (by decide) (cM_4) e173 dX5_digest_173 ?_
        refine lv_i2l hx hb dX5_digest_174 rfl ?_
        obtain ⟨g175, e175, hf⟩ := ob2 hf
        refine c_V (As := [.long (v173 : Int32).toInt64]) (st1 := []) (rest := []) (p_X5_mix l E x m159 g159 o e175) (kc_X5_211 hB ⟨Nat.le_of_ble_eq_true rfl, Nat.le_of_ble_eq_true rfl⟩) (Wd.rec hK hW (by decide) cM_0 (ci := 5) rfl) hx hb hml hown hB hK hW hS ⟨Nat.zero_le _, Nat.zero_le _⟩ rfl hl.1 rfl (Nat.le_of_ble_eq_true rfl) rfl dX5_digest_175 (fun H locs hW hS => ?_)
        obtain ⟨v178, e178, hf⟩ := ob hf
        refine lv_iinc (v := v178) (lv' := [(1, .int v178), (0, rf E 211)]) hx hb dX5_digest_178 hl (k := 1) rfl (by rw [e178]; rfl) (by decide) rfl (fun ls hl => ?_)
        refine lv_goto (tgt := 159) hx hb dX5_digest_181 (by decide) ?_
        exact ih159 m159 g175 v178 _ _ _ hf hW hS (lv_sub hl [1, 0] rfl)
  have J105 : ∀ (n105 : Nat), ∀ (m105 : XS) (g105 : Int64) (l1_105 : Int32) (H : Heap) (locs : List Loc) (ls : Array Slot), f_X5_digest_105 n105 m105 g105 l1_105 = some (r, mr, gr) → Wd E x m105 g105 o H → va_S (Ah E) s.heap H locs → lv_has ls 2 [(0, rf E 211), (1, .int l1_105)] → W p l e (rmH 8) s mi args below meth c H locs 0 0 (EQ E below args s (Wd E x mr gr o) (some (.long r))) (F0 mi 105 ls []) := by
    intro n105
    induction n105 with
    | zero => intro m105 g105 l1_105 H locs ls hf; exact absurd hf (fun z => nomatch (show (none : Option (Int64 × XS × Int64)) = some _ from z))
    | succ n105 ih105 =>
      intro m105 g105 l1_105 H locs ls hf hW hS hl
      rw [f_X5_digest_105.eq_2] at hf
      refine lv_iload_n hx hb dX5_digest_105 rfl (lv_at hl 1 rfl) ?_
      refine lv_bipush (v := 10) hx hb dX5_digest_106 (by decide) ?_
      refine lv_icmp_ge (tgt := 128) hx hb dX5_digest_108 (by decide) (fun c108 => ?_) (fun c108 => ?_)
      · rw [if_pos c108] at hf
        refine lv_aload_n hx hb dX5_digest_128 rfl (lv_at hl 0 rfl) ?_
        refine lv_aload_n hx hb dX5_digest_129 rfl (lv_at hl 0 rfl) ?_
        obtain ⟨⟨v130, m130⟩, e130, hf⟩ := ob2 hf
        dsimp only at hf
        refine c_V (As := []) (st1 := [.int v130, rf E 211]) (rest := [rf E 211]) (p_X5_monthsOf l E x m105 g105 o e130) (kc_X5_198 hB ⟨Nat.le_of_ble_eq_true rfl, Nat.le_of_ble_eq_true rfl⟩) (Wd.rec hK hW (by decide) cM_0 (ci := 5) rfl) hx hb hml hown hB hK hW hS ⟨Nat.zero_le _, Nat.zero_le _⟩ rfl hl.1 rfl (Nat.le_of_ble_eq_true rfl) rfl dX5_digest_130 (fun H locs hW hS => ?_)
        refine lv_i2l hx hb dX5_digest_133 rfl ?_
        obtain ⟨g134, e134, hf⟩ := ob2 hf
        refine c_V (As := [.long (v130 : Int32).toInt64]) (st1 := []) (rest := []) (p_X5_mix l E x m130 g105 o e134) (kc_X5_211 hB ⟨Nat.le_of_ble_eq_true rfl, Nat.le_of_ble_eq_true rfl⟩) (Wd.rec hK hW (by decide) cM_0 (ci := 5) rfl) hx hb hml hown hB hK hW hS ⟨Nat.zero_le _, Nat.zero_le _⟩ rfl hl.1 rfl (Nat.le_of_ble_eq_true rfl) rfl dX5_digest_134 (fun H locs hW hS => ?_)
        refine lv_aload_n hx hb dX5_digest_137 rfl (lv_at hl 0 rfl) ?_
        refine lv_aload_n hx hb dX5_digest_138 rfl (lv_at hl 0 rfl) ?_
        obtain ⟨v139, e139, hf⟩ := ob2 hf
        refine c_V (As := []) (st1 := [.double v139, rf E 211]) (rest := [rf E 211]) (p_X5_shareOf l E x m130 g134 o e139) (kc_X5_201 hB ⟨Nat.le_of_ble_eq_true rfl, Nat.le_of_ble_eq_true rfl⟩) (Wd.rec hK hW (by decide) cM_0 (ci := 5) rfl) hx hb hml hown hB hK hW hS ⟨Nat.zero_le _, Nat.zero_le _⟩ rfl hl.1 rfl (Nat.le_of_ble_eq_true rfl) rfl dX5_digest_139 (fun H locs hW hS => ?_)
        obtain ⟨v142, e142, hf⟩ := ob2 hf
        refine c_S (As := [.double v139]) (st1 := [.long v142, rf E 211]) (rest := [rf E 211]) (p_JD_doubleToLongBits l E x m130 g134 o e142) (kc_X5_224 hB ⟨Nat.le_of_ble_eq_true rfl, Nat.le_of_ble_eq_true rfl⟩) hx hb hml hown hB hK hW hS ⟨Nat.zero_le _, Nat.zero_le _⟩ rfl hl.1 rfl (Nat.le_of_ble_eq_true rfl) rfl dX5_digest_142 (fun H locs hW hS => ?_)
        obtain ⟨g145, e145, hf⟩ := ob2 hf
        refine c_V (As := [.long v142]) (st1 := []) (rest := []) (p_X5_mix l E x m130 g134 o e145) (kc_X5_211 hB ⟨Nat.le_of_ble_eq_true rfl, Nat.le_of_ble_eq_true rfl⟩) (Wd.rec hK hW (by decide) cM_0 (ci := 5) rfl) hx hb hml hown hB hK hW hS ⟨Nat.zero_le _, Nat.zero_le _⟩ rfl hl.1 rfl (Nat.le_of_ble_eq_true rfl) rfl dX5_digest_145 (fun H locs hW hS => ?_)
        refine lv_aload_n hx hb dX5_digest_148 rfl (lv_at hl 0 rfl) ?_
        refine lv_aload_n hx hb dX5_digest_149 rfl (lv_at hl 0 rfl) ?_
        refine gf_X5_128 hx hb hB hK hown hW dX5_digest_150 ?_
        refine lv_i2l hx hb dX5_digest_153 rfl ?_
        obtain ⟨g154, e154, hf⟩ := ob2 hf
        refine c_V (As := [.long ((m130 0 5) : Int32).toInt64]) (st1 := []) (rest := []) (p_X5_mix l E x m130 g145 o e154) (kc_X5_211 hB ⟨Nat.le_of_ble_eq_true rfl, Nat.le_of_ble_eq_true rfl⟩) (Wd.rec hK hW (by decide) cM_0 (ci := 5) rfl) hx hb hml hown hB hK hW hS ⟨Nat.zero_le _, Nat.zero_le _⟩ rfl hl.1 rfl (Nat.le_of_ble_eq_true rfl) rfl dX5_digest_154 (fun H locs hW hS => ?_)
        refine lv_iconst (v := 0) hx hb dX5_digest_157 (by decide) ?_
        refine lv_istore_n (lv' := [(1, .int 0), (0, rf E 211)]) hx hb dX5_digest_158 rfl hl (by decide) rfl (fun ls hl => ?_)
        exact J159 4096 m130 g154 0 _ _ _ hf hW hS (lv_sub hl [1, 0] rfl)
      · rw [if_neg c108] at hf
        refine lv_aload_n hx hb dX5_digest_111 rfl (lv_at hl 0 rfl) ?_
        refine lv_aload_n hx hb dX5_digest_112 rfl (lv_at hl 0 rfl) ?_
        refine lv_iload_n hx hb dX5_digest_113 rfl (lv_at hl 1 rfl) ?_
        refine lv_iconst (v := 0) hx hb dX5_digest_114 (by decide) ?_
        obtain ⟨v115, e115, hf⟩ := ob2 hf
        refine c_V (As := [.int l1_105, .int 0]) (st1 := [.int v115, rf E 211]) (rest := [rf E 211]) (p_X5_customerAt l E x m105 g105 o e115) (kc_X5_180 hB ⟨Nat.le_of_ble_eq_true rfl, Nat.le_of_ble_eq_true rfl⟩) (Wd.rec hK hW (by decide) cM_0 (ci := 5) rfl) hx hb hml hown hB hK hW hS ⟨Nat.zero_le _, Nat.zero_le _⟩ rfl hl.1 rfl (Nat.le_of_ble_eq_true rfl) rfl dX5_digest_115 (fun H locs hW hS => ?_)
        refine lv_i2l hx hb dX5_digest_118 rfl ?_
        obtain ⟨g119, e119, hf⟩ := ob2 hf
        refine c_V (As := [.long (v115 : Int32).toInt64]) (st1 := []) (rest := []) (p_X5_mix l E x m105 g105 o e119) (kc_X5_211 hB ⟨Nat.le_of_ble_eq_true rfl, Nat.le_of_ble_eq_true rfl⟩) (Wd.rec hK hW (by decide) cM_0 (ci := 5) rfl) hx hb hml hown hB hK hW hS ⟨Nat.zero_le _, Nat.zero_le _⟩ rfl hl.1 rfl (Nat.le_of_ble_eq_true rfl) rfl dX5_digest_119 (fun H locs hW hS => ?_)
        obtain ⟨v122, e122, hf⟩ := ob hf
        refine lv_iinc (v := v122) (lv' := [(1, .int v122), (0, rf E 211)]) hx hb dX5_digest_122 hl (k := 1) rfl (by rw [e122]; rfl) (by decide) rfl (fun ls hl => ?_)
        refine lv_goto (tgt := 105) hx hb dX5_digest_125 (by decide) ?_
        exact ih105 m105 g119 v122 _ _ _ hf hW hS (lv_sub hl [1, 0] rfl)
  have J82 : ∀ (n82 : Nat), ∀ (m82 : XS) (g82 : Int64) (l1_82 : Int32) (H : Heap) (locs : List Loc) (ls : Array Slot), f_X5_digest_82 n82 m82 g82 l1_82 = some (r, mr, gr) → Wd E x m82 g82 o H → va_S (Ah E) s.heap H locs → lv_has ls 2 [(0, rf E 211), (1, .int l1_82)] → W p l e (rmH 8) s mi args below meth c H locs 0 0 (EQ E below args s (Wd E x mr gr o) (some (.long r))) (F0 mi 82 ls []) := by
    intro n82
    induction n82 with
    | zero => intro m82 g82 l1_82 H locs ls hf; exact absurd hf (fun z => nomatch (show (none : Option (Int64 × XS × Int64)) = some _ from z))
    | succ n82 ih82 =>
      intro m82 g82 l1_82 H locs ls hf hW hS hl
      rw [f_X5_digest_82.eq_2] at hf
      refine lv_iload_n hx hb dX5_digest_82 rfl (lv_at hl 1 rfl) ?_
      refine lv_aload_n hx hb dX5_digest_83 rfl (lv_at hl 0 rfl) ?_
      refine gf_X5_7 hx hb hB hK hown hW dX5_digest_84 ?_
      refine lv_iconst (v := 0) hx hb dX5_digest_87 (by decide) ?_
      obtain ⟨v88, e88, hf⟩ := ob2 hf
      refine r_iald hx hb hK hW (by decide) (cM_1) e88 dX5_digest_88 ?_
      refine lv_icmp_ge (tgt := 103) hx hb dX5_digest_89 (by decide) (fun c89 => ?_) (fun c89 => ?_)
      · rw [if_pos c89] at hf
        refine lv_iconst (v := 0) hx hb dX5_digest_103 (by decide) ?_
        refine lv_istore_n (lv' := [(1, .int 0), (0, rf E 211)]) hx hb dX5_digest_104 rfl hl (by decide) rfl (fun ls hl => ?_)
        exact J105 4096 m82 g82 0 _ _ _ hf hW hS (lv_sub hl [1, 0] rfl)
      · rw [if_neg c89] at hf
        refine lv_aload_n hx hb dX5_digest_92 rfl (lv_at hl 0 rfl) ?_
        refine lv_iload_n hx hb dX5_digest_93 rfl (lv_at hl 1 rfl) ?_
        obtain ⟨⟨m94, g94⟩, e94, hf⟩ := ob2 hf
        dsimp only at hf
        refine c_V (As := [.int l1_82]) (st1 := []) (rest := []) (p_X5_mixComplaint l E x m82 g82 o e94) (kc_X5_221 hB ⟨Nat.le_of_ble_eq_true rfl, Nat.le_of_ble_eq_true rfl⟩) (Wd.rec hK hW (by decide) cM_0 (ci := 5) rfl) hx hb hml hown hB hK hW hS ⟨Nat.zero_le _, Nat.zero_le _⟩ rfl hl.1 rfl (Nat.le_of_ble_eq_true rfl) rfl dX5_digest_94 (fun H locs hW hS => ?_)
        obtain ⟨v97, e97, hf⟩ := ob hf
        refine lv_iinc (v := v97) (lv' := [(1, .int v97), (0, rf E 211)]) hx hb dX5_digest_97 hl (k := 1) rfl (by rw [e97]; rfl) (by decide) rfl (fun ls hl => ?_)
        refine lv_goto (tgt := 82) hx hb dX5_digest_100 (by decide) ?_
        exact ih82 m94 g94 v97 _ _ _ hf hW hS (lv_sub hl [1, 0] rfl)
  have J64 : ∀ (n64 : Nat), ∀ (m64 : XS) (g64 : Int64) (l1_64 : Int32) (H : Heap) (locs : List Loc) (ls : Array Slot), f_X5_digest_64 n64 m64 g64 l1_64 = some (r, mr, gr) → Wd E x m64 g64 o H → va_S (Ah E) s.heap H locs → lv_has ls 2 [(0, rf E 211), (1, .int l1_64)] → W p l e (rmH 8) s mi args below meth c H locs 0 0 (EQ E below args s (Wd E x mr gr o) (some (.long r))) (F0 mi 64 ls []) := by
    intro n64
    induction n64 with
    | zero => intro m64 g64 l1_64 H locs ls hf; exact absurd hf (fun z => nomatch (show (none : Option (Int64 × XS × Int64)) = some _ from z))
    | succ n64 ih64 =>
      intro m64 g64 l1_64 H locs ls hf hW hS hl
      rw [f_X5_digest_64.eq_2] at hf
      refine lv_iload_n hx hb dX5_digest_64 rfl (lv_at hl 1 rfl) ?_
      refine lv_iconst (v := 4) hx hb dX5_digest_65 (by decide) ?_
      refine lv_icmp_ge (tgt := 80) hx hb dX5_digest_66 (by decide) (fun c66 => ?_) (fun c66 => ?_)
      · rw [if_pos c66] at hf
        refine lv_iconst (v := 0) hx hb dX5_digest_80 (by decide) ?_
        refine lv_istore_n (lv' := [(1, .int 0), (0, rf E 211)]) hx hb dX5_digest_81 rfl hl (by decide) rfl (fun ls hl => ?_)
        exact J82 4096 m64 g64 0 _ _ _ hf hW hS (lv_sub hl [1, 0] rfl)
      · rw [if_neg c66] at hf
        refine lv_aload_n hx hb dX5_digest_69 rfl (lv_at hl 0 rfl) ?_
        refine lv_iload_n hx hb dX5_digest_70 rfl (lv_at hl 1 rfl) ?_
        obtain ⟨g71, e71, hf⟩ := ob2 hf
        refine c_V (As := [.int l1_64]) (st1 := []) (rest := []) (p_X5_mixKind l E x m64 g64 o e71) (kc_X5_217 hB ⟨Nat.le_of_ble_eq_true rfl, Nat.le_of_ble_eq_true rfl⟩) (Wd.rec hK hW (by decide) cM_0 (ci := 5) rfl) hx hb hml hown hB hK hW hS ⟨Nat.zero_le _, Nat.zero_le _⟩ rfl hl.1 rfl (Nat.le_of_ble_eq_true rfl) rfl dX5_digest_71 (fun H locs hW hS => ?_)
        obtain ⟨v74, e74, hf⟩ := ob hf
        refine lv_iinc (v := v74) (lv' := [(1, .int v74), (0, rf E 211)]) hx hb dX5_digest_74 hl (k := 1) rfl (by rw [e74]; rfl) (by decide) rfl (fun ls hl => ?_)
        refine lv_goto (tgt := 64) hx hb dX5_digest_77 (by decide) ?_
        exact ih64 m64 g71 v74 _ _ _ hf hW hS (lv_sub hl [1, 0] rfl)
  have J38 : ∀ (n38 : Nat), ∀ (m38 : XS) (g38 : Int64) (l1_38 : Int32) (H : Heap) (locs : List Loc) (ls : Array Slot), f_X5_digest_38 n38 m38 g38 l1_38 = some (r, mr, gr) → Wd E x m38 g38 o H → va_S (Ah E) s.heap H locs → lv_has ls 2 [(0, rf E 211), (1, .int l1_38)] → W p l e (rmH 8) s mi args below meth c H locs 0 0 (EQ E below args s (Wd E x mr gr o) (some (.long r))) (F0 mi 38 ls []) := by
    intro n38
    induction n38 with
    | zero => intro m38 g38 l1_38 H locs ls hf; exact absurd hf (fun z => nomatch (show (none : Option (Int64 × XS × Int64)) = some _ from z))
    | succ n38 ih38 =>
      intro m38 g38 l1_38 H locs ls hf hW hS hl
      rw [f_X5_digest_38.eq_2] at hf
      refine lv_iload_n hx hb dX5_digest_38 rfl (lv_at hl 1 rfl) ?_
      refine lv_iconst (v := 3) hx hb dX5_digest_39 (by decide) ?_
      refine lv_icmp_ge (tgt := 62) hx hb dX5_digest_40 (by decide) (fun c40 => ?_) (fun c40 => ?_)
      · rw [if_pos c40] at hf
        refine lv_iconst (v := 0) hx hb dX5_digest_62 (by decide) ?_
        refine lv_istore_n (lv' := [(1, .int 0), (0, rf E 211)]) hx hb dX5_digest_63 rfl hl (by decide) rfl (fun ls hl => ?_)
        exact J64 4096 m38 g38 0 _ _ _ hf hW hS (lv_sub hl [1, 0] rfl)
      · rw [if_neg c40] at hf
        refine lv_aload_n hx hb dX5_digest_43 rfl (lv_at hl 0 rfl) ?_
        refine lv_aload_n hx hb dX5_digest_44 rfl (lv_at hl 0 rfl) ?_
        refine gf_X5_7 hx hb hB hK hown hW dX5_digest_45 ?_
        refine lv_iconst (v := 2) hx hb dX5_digest_48 (by decide) ?_
        refine lv_iload_n hx hb dX5_digest_49 rfl (lv_at hl 1 rfl) ?_
        refine lv_iadd hx hb dX5_digest_50 ?_
        obtain ⟨v51, e51, hf⟩ := ob2 hf
        refine r_iald hx hb hK hW (by decide) (cM_1) e51 dX5_digest_51 ?_
        refine lv_i2l hx hb dX5_digest_52 rfl ?_
        obtain ⟨g53, e53, hf⟩ := ob2 hf
        refine c_V (As := [.long (v51 : Int32).toInt64]) (st1 := []) (rest := []) (p_X5_mix l E x m38 g38 o e53) (kc_X5_211 hB ⟨Nat.le_of_ble_eq_true rfl, Nat.le_of_ble_eq_true rfl⟩) (Wd.rec hK hW (by decide) cM_0 (ci := 5) rfl) hx hb hml hown hB hK hW hS ⟨Nat.zero_le _, Nat.zero_le _⟩ rfl hl.1 rfl (Nat.le_of_ble_eq_true rfl) rfl dX5_digest_53 (fun H locs hW hS => ?_)
        obtain ⟨v56, e56, hf⟩ := ob hf
        refine lv_iinc (v := v56) (lv' := [(1, .int v56), (0, rf E 211)]) hx hb dX5_digest_56 hl (k := 1) rfl (by rw [e56]; rfl) (by decide) rfl (fun ls hl => ?_)
        refine lv_goto (tgt := 38) hx hb dX5_digest_59 (by decide) ?_
        exact ih38 m38 g53 v56 _ _ _ hf hW hS (lv_sub hl [1, 0] rfl)
  have J14 : ∀ (n14 : Nat), ∀ (m14 : XS) (g14 : Int64) (l1_14 : Int32) (H : Heap) (locs : List Loc) (ls : Array Slot), f_X5_digest_14 n14 m14 g14 l1_14 = some (r, mr, gr) → Wd E x m14 g14 o H → va_S (Ah E) s.heap H locs → lv_has ls 2 [(0, rf E 211), (1, .int l1_14)] → W p l e (rmH 8) s mi args below meth c H locs 0 0 (EQ E below args s (Wd E x mr gr o) (some (.long r))) (F0 mi 14 ls []) := by
    intro n14
    induction n14 with
    | zero => intro m14 g14 l1_14 H locs ls hf; exact absurd hf (fun z => nomatch (show (none : Option (Int64 × XS × Int64)) = some _ from z))
    | succ n14 ih14 =>
      intro m14 g14 l1_14 H locs ls hf hW hS hl
      rw [f_X5_digest_14.eq_2] at hf
      refine lv_iload_n hx hb dX5_digest_14 rfl (lv_at hl 1 rfl) ?_
      refine lv_bipush (v := 12) hx hb dX5_digest_15 (by decide) ?_
      refine lv_icmp_ge (tgt := 36) hx hb dX5_digest_17 (by decide) (fun c17 => ?_) (fun c17 => ?_)
      · rw [if_pos c17] at hf
        refine lv_iconst (v := 0) hx hb dX5_digest_36 (by decide) ?_
        refine lv_istore_n (lv' := [(1, .int 0), (0, rf E 211)]) hx hb dX5_digest_37 rfl hl (by decide) rfl (fun ls hl => ?_)
        exact J38 4096 m14 g14 0 _ _ _ hf hW hS (lv_sub hl [1, 0] rfl)
      · rw [if_neg c17] at hf
        refine lv_aload_n hx hb dX5_digest_20 rfl (lv_at hl 0 rfl) ?_
        refine lv_aload_n hx hb dX5_digest_21 rfl (lv_at hl 0 rfl) ?_
        refine lv_iload_n hx hb dX5_digest_22 rfl (lv_at hl 1 rfl) ?_
        obtain ⟨v23, e23, hf⟩ := ob2 hf
        refine c_V (As := [.int l1_14]) (st1 := [.int v23, rf E 211]) (rest := [rf E 211]) (p_X5_counted l E x m14 g14 o e23) (kc_X5_177 hB ⟨Nat.le_of_ble_eq_true rfl, Nat.le_of_ble_eq_true rfl⟩) (Wd.rec hK hW (by decide) cM_0 (ci := 5) rfl) hx hb hml hown hB hK hW hS ⟨Nat.zero_le _, Nat.zero_le _⟩ rfl hl.1 rfl (Nat.le_of_ble_eq_true rfl) rfl dX5_digest_23 (fun H locs hW hS => ?_)
        refine lv_i2l hx hb dX5_digest_26 rfl ?_
        obtain ⟨g27, e27, hf⟩ := ob2 hf
        refine c_V (As := [.long (v23 : Int32).toInt64]) (st1 := []) (rest := []) (p_X5_mix l E x m14 g14 o e27) (kc_X5_211 hB ⟨Nat.le_of_ble_eq_true rfl, Nat.le_of_ble_eq_true rfl⟩) (Wd.rec hK hW (by decide) cM_0 (ci := 5) rfl) hx hb hml hown hB hK hW hS ⟨Nat.zero_le _, Nat.zero_le _⟩ rfl hl.1 rfl (Nat.le_of_ble_eq_true rfl) rfl dX5_digest_27 (fun H locs hW hS => ?_)
        obtain ⟨v30, e30, hf⟩ := ob hf
        refine lv_iinc (v := v30) (lv' := [(1, .int v30), (0, rf E 211)]) hx hb dX5_digest_30 hl (k := 1) rfl (by rw [e30]; rfl) (by decide) rfl (fun ls hl => ?_)
        refine lv_goto (tgt := 14) hx hb dX5_digest_33 (by decide) ?_
        exact ih14 m14 g27 v30 _ _ _ hf hW hS (lv_sub hl [1, 0] rfl)
  refine lv_aload_n hx hb dX5_digest_0 rfl (lv_at hl 0 rfl) ?_
  refine lv_iconst (v := 0) hx hb dX5_digest_1 (by decide) ?_
  obtain ⟨m2, e2, hf⟩ := ob hf
  refine pf_X5_29 hx hb hB hK hown hW hS e2 dX5_digest_2 (fun H locs hW hS => ?_)
  refine lv_aload_n hx hb dX5_digest_5 rfl (lv_at hl 0 rfl) ?_
  refine lv_ldc2 (v := 2539) hx hb hown (hB _ q_1254) dX5_digest_6 ?_
  obtain ⟨g9, e9, hf⟩ := ob hf
  refine pf_X5_207 hx hb hB hK hown hW hS e9 dX5_digest_9 (fun H locs hW hS => ?_)
  refine lv_iconst (v := 0) hx hb dX5_digest_12 (by decide) ?_
  refine lv_istore_n (lv' := [(1, .int 0), (0, rf E 211)]) hx hb dX5_digest_13 rfl hl (by decide) rfl (fun ls hl => ?_)
  exact J14 4096 m2 g9 0 _ _ _ hf hW hS (lv_sub hl [1, 0] rfl)
