theorem dX5_thrown_0 : decode cX5_thrown 0 = .ok (.aload_n 0, 1) := by decide +kernel
theorem dX5_thrown_1 : decode cX5_thrown 1 = .ok (.getfield 29, 3) := by decide +kernel
theorem dX5_thrown_4 : decode cX5_thrown 4 = .ok (.ireturn, 1) := by decide +kernel
theorem dX5_fails_0 : decode cX5_fails 0 = .ok (.aload_n 0, 1) := by decide +kernel
theorem dX5_fails_1 : decode cX5_fails 1 = .ok (.iload_n 1, 1) := by decide +kernel
theorem dX5_fails_2 : decode cX5_fails 2 = .ok (.putfield 29, 3) := by decide +kernel
theorem dX5_fails_5 : decode cX5_fails 5 = .ok (.iconst 0, 1) := by decide +kernel
theorem dX5_fails_6 : decode cX5_fails 6 = .ok (.ireturn, 1) := by decide +kernel
theorem dX5_in_0 : decode cX5_in 0 = .ok (.iload_n 0, 1) := by decide +kernel
theorem dX5_in_1 : decode cX5_in 1 = .ok (.iload_n 1, 1) := by decide +kernel
theorem dX5_in_2 : decode cX5_in 2 = .ok (.if_icmp .lt 12, 3) := by decide +kernel
theorem dX5_in_5 : decode cX5_in 5 = .ok (.iload_n 0, 1) := by decide +kernel
theorem dX5_in_6 : decode cX5_in 6 = .ok (.iload_n 2, 1) := by decide +kernel
theorem dX5_in_7 : decode cX5_in 7 = .ok (.if_icmp .gt 7, 3) := by decide +kernel
theorem dX5_in_10 : decode cX5_in 10 = .ok (.iconst 1, 1) := by decide +kernel
theorem dX5_in_11 : decode cX5_in 11 = .ok (.goto 4, 3) := by decide +kernel
theorem dX5_in_14 : decode cX5_in 14 = .ok (.iconst 0, 1) := by decide +kernel
theorem dX5_in_15 : decode cX5_in 15 = .ok (.ireturn, 1) := by decide +kernel
theorem dX5_save_0 : decode cX5_save 0 = .ok (.aload_n 0, 1) := by decide +kernel
theorem dX5_save_1 : decode cX5_save 1 = .ok (.getfield 33, 3) := by decide +kernel
theorem dX5_save_4 : decode cX5_save 4 = .ok (.bipush 6, 2) := by decide +kernel
theorem dX5_save_6 : decode cX5_save 6 = .ok (.if_icmp .ne 44, 3) := by decide +kernel
theorem dX5_save_9 : decode cX5_save 9 = .ok (.iconst 0, 1) := by decide +kernel
theorem dX5_save_10 : decode cX5_save 10 = .ok (.istore_n 1, 1) := by decide +kernel
theorem dX5_save_11 : decode cX5_save 11 = .ok (.iload_n 1, 1) := by decide +kernel
theorem dX5_save_12 : decode cX5_save 12 = .ok (.sipush 2210, 3) := by decide +kernel
theorem dX5_save_15 : decode cX5_save 15 = .ok (.if_icmp .ge 25, 3) := by decide +kernel
theorem dX5_save_18 : decode cX5_save 18 = .ok (.aload_n 0, 1) := by decide +kernel
theorem dX5_save_19 : decode cX5_save 19 = .ok (.getfield 13, 3) := by decide +kernel
theorem dX5_save_22 : decode cX5_save 22 = .ok (.iload_n 1, 1) := by decide +kernel
theorem dX5_save_23 : decode cX5_save 23 = .ok (.aload_n 0, 1) := by decide +kernel
theorem dX5_save_24 : decode cX5_save 24 = .ok (.getfield 13, 3) := by decide +kernel
theorem dX5_save_27 : decode cX5_save 27 = .ok (.iload_n 1, 1) := by decide +kernel
theorem dX5_save_28 : decode cX5_save 28 = .ok (.sipush 442, 3) := by decide +kernel
theorem dX5_save_31 : decode cX5_save 31 = .ok (.iadd, 1) := by decide +kernel
theorem dX5_save_32 : decode cX5_save 32 = .ok (.iaload, 1) := by decide +kernel
theorem dX5_save_33 : decode cX5_save 33 = .ok (.iastore, 1) := by decide +kernel
theorem dX5_save_34 : decode cX5_save 34 = .ok (.iinc 1 1, 3) := by decide +kernel
theorem dX5_save_37 : decode cX5_save 37 = .ok (.goto (-26), 3) := by decide +kernel
theorem dX5_save_40 : decode cX5_save 40 = .ok (.aload_n 0, 1) := by decide +kernel
theorem dX5_save_41 : decode cX5_save 41 = .ok (.dup, 1) := by decide +kernel
theorem dX5_save_42 : decode cX5_save 42 = .ok (.getfield 33, 3) := by decide +kernel
theorem dX5_save_45 : decode cX5_save 45 = .ok (.iconst 1, 1) := by decide +kernel
theorem dX5_save_46 : decode cX5_save 46 = .ok (.isub, 1) := by decide +kernel
theorem dX5_save_47 : decode cX5_save 47 = .ok (.putfield 33, 3) := by decide +kernel
theorem dX5_save_50 : decode cX5_save 50 = .ok (.iconst 0, 1) := by decide +kernel
theorem dX5_save_51 : decode cX5_save 51 = .ok (.istore_n 1, 1) := by decide +kernel
theorem dX5_save_52 : decode cX5_save 52 = .ok (.iload_n 1, 1) := by decide +kernel
theorem dX5_save_53 : decode cX5_save 53 = .ok (.sipush 442, 3) := by decide +kernel
theorem dX5_save_56 : decode cX5_save 56 = .ok (.if_icmp .ge 30, 3) := by decide +kernel
theorem dX5_save_59 : decode cX5_save 59 = .ok (.aload_n 0, 1) := by decide +kernel
theorem dX5_save_60 : decode cX5_save 60 = .ok (.getfield 13, 3) := by decide +kernel
theorem dX5_save_63 : decode cX5_save 63 = .ok (.sipush 442, 3) := by decide +kernel
theorem dX5_save_66 : decode cX5_save 66 = .ok (.aload_n 0, 1) := by decide +kernel
theorem dX5_save_67 : decode cX5_save 67 = .ok (.getfield 33, 3) := by decide +kernel
theorem dX5_save_70 : decode cX5_save 70 = .ok (.imul, 1) := by decide +kernel
theorem dX5_save_71 : decode cX5_save 71 = .ok (.iload_n 1, 1) := by decide +kernel
theorem dX5_save_72 : decode cX5_save 72 = .ok (.iadd, 1) := by decide +kernel
theorem dX5_save_73 : decode cX5_save 73 = .ok (.aload_n 0, 1) := by decide +kernel
theorem dX5_save_74 : decode cX5_save 74 = .ok (.getfield 7, 3) := by decide +kernel
theorem dX5_save_77 : decode cX5_save 77 = .ok (.iload_n 1, 1) := by decide +kernel
theorem dX5_save_78 : decode cX5_save 78 = .ok (.iaload, 1) := by decide +kernel
theorem dX5_save_79 : decode cX5_save 79 = .ok (.iastore, 1) := by decide +kernel
theorem dX5_save_80 : decode cX5_save 80 = .ok (.iinc 1 1, 3) := by decide +kernel
theorem dX5_save_83 : decode cX5_save 83 = .ok (.goto (-31), 3) := by decide +kernel
theorem dX5_save_86 : decode cX5_save 86 = .ok (.aload_n 0, 1) := by decide +kernel
theorem dX5_save_87 : decode cX5_save 87 = .ok (.dup, 1) := by decide +kernel
theorem dX5_save_88 : decode cX5_save 88 = .ok (.getfield 33, 3) := by decide +kernel
theorem dX5_save_91 : decode cX5_save 91 = .ok (.iconst 1, 1) := by decide +kernel
theorem dX5_save_92 : decode cX5_save 92 = .ok (.iadd, 1) := by decide +kernel
theorem dX5_save_93 : decode cX5_save 93 = .ok (.putfield 33, 3) := by decide +kernel
theorem dX5_save_96 : decode cX5_save 96 = .ok (.return_, 1) := by decide +kernel
theorem dX5_putAside_0 : decode cX5_putAside 0 = .ok (.iconst 0, 1) := by decide +kernel
theorem dX5_putAside_1 : decode cX5_putAside 1 = .ok (.istore_n 1, 1) := by decide +kernel
theorem dX5_putAside_2 : decode cX5_putAside 2 = .ok (.iload_n 1, 1) := by decide +kernel
theorem dX5_putAside_3 : decode cX5_putAside 3 = .ok (.sipush 442, 3) := by decide +kernel
theorem dX5_putAside_6 : decode cX5_putAside 6 = .ok (.if_icmp .ge 21, 3) := by decide +kernel
theorem dX5_putAside_9 : decode cX5_putAside 9 = .ok (.aload_n 0, 1) := by decide +kernel
theorem dX5_putAside_10 : decode cX5_putAside 10 = .ok (.getfield 16, 3) := by decide +kernel
theorem dX5_putAside_13 : decode cX5_putAside 13 = .ok (.iload_n 1, 1) := by decide +kernel
theorem dX5_putAside_14 : decode cX5_putAside 14 = .ok (.aload_n 0, 1) := by decide +kernel
theorem dX5_putAside_15 : decode cX5_putAside 15 = .ok (.getfield 7, 3) := by decide +kernel
theorem dX5_putAside_18 : decode cX5_putAside 18 = .ok (.iload_n 1, 1) := by decide +kernel
theorem dX5_putAside_19 : decode cX5_putAside 19 = .ok (.iaload, 1) := by decide +kernel
theorem dX5_putAside_20 : decode cX5_putAside 20 = .ok (.iastore, 1) := by decide +kernel
theorem dX5_putAside_21 : decode cX5_putAside 21 = .ok (.iinc 1 1, 3) := by decide +kernel
theorem dX5_putAside_24 : decode cX5_putAside 24 = .ok (.goto (-22), 3) := by decide +kernel
theorem dX5_putAside_27 : decode cX5_putAside 27 = .ok (.return_, 1) := by decide +kernel
theorem dX5_putBack_0 : decode cX5_putBack 0 = .ok (.iconst 0, 1) := by decide +kernel
theorem dX5_putBack_1 : decode cX5_putBack 1 = .ok (.istore_n 1, 1) := by decide +kernel
theorem dX5_putBack_2 : decode cX5_putBack 2 = .ok (.iload_n 1, 1) := by decide +kernel
theorem dX5_putBack_3 : decode cX5_putBack 3 = .ok (.sipush 442, 3) := by decide +kernel
theorem dX5_putBack_6 : decode cX5_putBack 6 = .ok (.if_icmp .ge 21, 3) := by decide +kernel
theorem dX5_putBack_9 : decode cX5_putBack 9 = .ok (.aload_n 0, 1) := by decide +kernel
theorem dX5_putBack_10 : decode cX5_putBack 10 = .ok (.getfield 7, 3) := by decide +kernel
theorem dX5_putBack_13 : decode cX5_putBack 13 = .ok (.iload_n 1, 1) := by decide +kernel
theorem dX5_putBack_14 : decode cX5_putBack 14 = .ok (.aload_n 0, 1) := by decide +kernel
theorem dX5_putBack_15 : decode cX5_putBack 15 = .ok (.getfield 16, 3) := by decide +kernel
theorem dX5_putBack_18 : decode cX5_putBack 18 = .ok (.iload_n 1, 1) := by decide +kernel
theorem dX5_putBack_19 : decode cX5_putBack 19 = .ok (.iaload, 1) := by decide +kernel
theorem dX5_putBack_20 : decode cX5_putBack 20 = .ok (.iastore, 1) := by decide +kernel
theorem dX5_putBack_21 : decode cX5_putBack 21 = .ok (.iinc 1 1, 3) := by decide +kernel
theorem dX5_putBack_24 : decode cX5_putBack 24 = .ok (.goto (-22), 3) := by decide +kernel
theorem dX5_putBack_27 : decode cX5_putBack 27 = .ok (.return_, 1) := by decide +kernel
theorem dX5_at_0 : decode cX5_at 0 = .ok (.bipush 6, 2) := by decide +kernel
theorem dX5_at_2 : decode cX5_at 2 = .ok (.bipush 28, 2) := by decide +kernel
theorem dX5_at_4 : decode cX5_at 4 = .ok (.iload_n 0, 1) := by decide +kernel
theorem dX5_at_5 : decode cX5_at 5 = .ok (.imul, 1) := by decide +kernel
theorem dX5_at_6 : decode cX5_at 6 = .ok (.iadd, 1) := by decide +kernel
theorem dX5_at_7 : decode cX5_at 7 = .ok (.ireturn, 1) := by decide +kernel
theorem dX5_menuAt_0 : decode cX5_menuAt 0 = .ok (.iload_n 0, 1) := by decide +kernel
theorem dX5_menuAt_1 : decode cX5_menuAt 1 = .ok (.invokestatic 25, 3) := by decide +kernel
theorem dX5_menuAt_4 : decode cX5_menuAt 4 = .ok (.iconst 4, 1) := by decide +kernel
theorem dX5_menuAt_5 : decode cX5_menuAt 5 = .ok (.iadd, 1) := by decide +kernel
theorem dX5_menuAt_6 : decode cX5_menuAt 6 = .ok (.iconst 4, 1) := by decide +kernel
theorem dX5_menuAt_7 : decode cX5_menuAt 7 = .ok (.iload_n 1, 1) := by decide +kernel
theorem dX5_menuAt_8 : decode cX5_menuAt 8 = .ok (.imul, 1) := by decide +kernel
theorem dX5_menuAt_9 : decode cX5_menuAt 9 = .ok (.iadd, 1) := by decide +kernel
theorem dX5_menuAt_10 : decode cX5_menuAt 10 = .ok (.ireturn, 1) := by decide +kernel
theorem dX5_of_0 : decode cX5_of 0 = .ok (.sipush 202, 3) := by decide +kernel
theorem dX5_of_3 : decode cX5_of 3 = .ok (.bipush 10, 2) := by decide +kernel
theorem dX5_of_5 : decode cX5_of 5 = .ok (.iload_n 0, 1) := by decide +kernel
theorem dX5_of_6 : decode cX5_of 6 = .ok (.imul, 1) := by decide +kernel
theorem dX5_of_7 : decode cX5_of 7 = .ok (.iadd, 1) := by decide +kernel
theorem dX5_of_8 : decode cX5_of 8 = .ok (.ireturn, 1) := by decide +kernel
theorem dX5_isKind_0 : decode cX5_isKind 0 = .ok (.iload_n 0, 1) := by decide +kernel
theorem dX5_isKind_1 : decode cX5_isKind 1 = .ok (.iconst 0, 1) := by decide +kernel
theorem dX5_isKind_2 : decode cX5_isKind 2 = .ok (.iconst 3, 1) := by decide +kernel
theorem dX5_isKind_3 : decode cX5_isKind 3 = .ok (.invokestatic 36, 3) := by decide +kernel
theorem dX5_isKind_6 : decode cX5_isKind 6 = .ok (.ireturn, 1) := by decide +kernel
theorem dX5_isAmends_0 : decode cX5_isAmends 0 = .ok (.iload_n 2, 1) := by decide +kernel
theorem dX5_isAmends_1 : decode cX5_isAmends 1 = .ok (.iconst 0, 1) := by decide +kernel
theorem dX5_isAmends_2 : decode cX5_isAmends 2 = .ok (.aload_n 0, 1) := by decide +kernel
theorem dX5_isAmends_3 : decode cX5_isAmends 3 = .ok (.getfield 7, 3) := by decide +kernel
theorem dX5_isAmends_6 : decode cX5_isAmends 6 = .ok (.iload_n 1, 1) := by decide +kernel
theorem dX5_isAmends_7 : decode cX5_isAmends 7 = .ok (.invokestatic 25, 3) := by decide +kernel
theorem dX5_isAmends_10 : decode cX5_isAmends 10 = .ok (.iconst 3, 1) := by decide +kernel
theorem dX5_isAmends_11 : decode cX5_isAmends 11 = .ok (.iadd, 1) := by decide +kernel
theorem dX5_isAmends_12 : decode cX5_isAmends 12 = .ok (.iaload, 1) := by decide +kernel
theorem dX5_isAmends_13 : decode cX5_isAmends 13 = .ok (.iconst 1, 1) := by decide +kernel
theorem dX5_isAmends_14 : decode cX5_isAmends 14 = .ok (.isub, 1) := by decide +kernel
theorem dX5_isAmends_15 : decode cX5_isAmends 15 = .ok (.invokestatic 36, 3) := by decide +kernel
theorem dX5_isAmends_18 : decode cX5_isAmends 18 = .ok (.ireturn, 1) := by decide +kernel
theorem dX5_isComplaint_0 : decode cX5_isComplaint 0 = .ok (.iload_n 1, 1) := by decide +kernel
theorem dX5_isComplaint_1 : decode cX5_isComplaint 1 = .ok (.iconst 0, 1) := by decide +kernel
theorem dX5_isComplaint_2 : decode cX5_isComplaint 2 = .ok (.aload_n 0, 1) := by decide +kernel
theorem dX5_isComplaint_3 : decode cX5_isComplaint 3 = .ok (.getfield 7, 3) := by decide +kernel
theorem dX5_isComplaint_6 : decode cX5_isComplaint 6 = .ok (.iconst 0, 1) := by decide +kernel
theorem dX5_isComplaint_7 : decode cX5_isComplaint 7 = .ok (.iaload, 1) := by decide +kernel
theorem dX5_isComplaint_8 : decode cX5_isComplaint 8 = .ok (.iconst 1, 1) := by decide +kernel
theorem dX5_isComplaint_9 : decode cX5_isComplaint 9 = .ok (.isub, 1) := by decide +kernel
theorem dX5_isComplaint_10 : decode cX5_isComplaint 10 = .ok (.invokestatic 36, 3) := by decide +kernel
theorem dX5_isComplaint_13 : decode cX5_isComplaint 13 = .ok (.ireturn, 1) := by decide +kernel
theorem dX5_group_0 : decode cX5_group 0 = .ok (.iload_n 0, 1) := by decide +kernel
theorem dX5_group_1 : decode cX5_group 1 = .ok (.iconst 1, 1) := by decide +kernel
theorem dX5_group_2 : decode cX5_group 2 = .ok (.isub, 1) := by decide +kernel
theorem dX5_group_3 : decode cX5_group 3 = .ok (.iconst 3, 1) := by decide +kernel
theorem dX5_group_4 : decode cX5_group 4 = .ok (.idiv, 1) := by decide +kernel
theorem dX5_group_5 : decode cX5_group 5 = .ok (.ireturn, 1) := by decide +kernel
theorem dX5_left_0 : decode cX5_left 0 = .ok (.aload_n 0, 1) := by decide +kernel
theorem dX5_left_1 : decode cX5_left 1 = .ok (.getfield 7, 3) := by decide +kernel
theorem dX5_left_4 : decode cX5_left 4 = .ok (.iload_n 1, 1) := by decide +kernel
theorem dX5_left_5 : decode cX5_left 5 = .ok (.invokestatic 25, 3) := by decide +kernel
theorem dX5_left_8 : decode cX5_left 8 = .ok (.iconst 1, 1) := by decide +kernel
theorem dX5_left_9 : decode cX5_left 9 = .ok (.iadd, 1) := by decide +kernel
theorem dX5_left_10 : decode cX5_left 10 = .ok (.iaload, 1) := by decide +kernel
theorem dX5_left_11 : decode cX5_left 11 = .ok (.aload_n 0, 1) := by decide +kernel
theorem dX5_left_12 : decode cX5_left 12 = .ok (.getfield 7, 3) := by decide +kernel
theorem dX5_left_15 : decode cX5_left 15 = .ok (.iload_n 1, 1) := by decide +kernel
theorem dX5_left_16 : decode cX5_left 16 = .ok (.invokestatic 25, 3) := by decide +kernel
theorem dX5_left_19 : decode cX5_left 19 = .ok (.iconst 2, 1) := by decide +kernel
theorem dX5_left_20 : decode cX5_left 20 = .ok (.iadd, 1) := by decide +kernel
theorem dX5_left_21 : decode cX5_left 21 = .ok (.iaload, 1) := by decide +kernel
theorem dX5_left_22 : decode cX5_left 22 = .ok (.isub, 1) := by decide +kernel
theorem dX5_left_23 : decode cX5_left 23 = .ok (.ireturn, 1) := by decide +kernel
theorem dX5_isOffered_0 : decode cX5_isOffered 0 = .ok (.aload_n 0, 1) := by decide +kernel
theorem dX5_isOffered_1 : decode cX5_isOffered 1 = .ok (.iload_n 1, 1) := by decide +kernel
theorem dX5_isOffered_2 : decode cX5_isOffered 2 = .ok (.iload_n 2, 1) := by decide +kernel
theorem dX5_isOffered_3 : decode cX5_isOffered 3 = .ok (.invokevirtual 40, 3) := by decide +kernel
theorem dX5_isOffered_6 : decode cX5_isOffered 6 = .ok (.ifCond .eq 23, 3) := by decide +kernel
theorem dX5_isOffered_9 : decode cX5_isOffered 9 = .ok (.aload_n 0, 1) := by decide +kernel
theorem dX5_isOffered_10 : decode cX5_isOffered 10 = .ok (.getfield 7, 3) := by decide +kernel
theorem dX5_isOffered_13 : decode cX5_isOffered 13 = .ok (.iload_n 1, 1) := by decide +kernel
theorem dX5_isOffered_14 : decode cX5_isOffered 14 = .ok (.iload_n 2, 1) := by decide +kernel
theorem dX5_isOffered_15 : decode cX5_isOffered 15 = .ok (.invokestatic 44, 3) := by decide +kernel
theorem dX5_isOffered_18 : decode cX5_isOffered 18 = .ok (.iconst 3, 1) := by decide +kernel
theorem dX5_isOffered_19 : decode cX5_isOffered 19 = .ok (.iadd, 1) := by decide +kernel
theorem dX5_isOffered_20 : decode cX5_isOffered 20 = .ok (.iaload, 1) := by decide +kernel
theorem dX5_isOffered_21 : decode cX5_isOffered 21 = .ok (.iconst 1, 1) := by decide +kernel
theorem dX5_isOffered_22 : decode cX5_isOffered 22 = .ok (.if_icmp .ne 7, 3) := by decide +kernel
theorem dX5_isOffered_25 : decode cX5_isOffered 25 = .ok (.iconst 1, 1) := by decide +kernel
theorem dX5_isOffered_26 : decode cX5_isOffered 26 = .ok (.goto 4, 3) := by decide +kernel
theorem dX5_isOffered_29 : decode cX5_isOffered 29 = .ok (.iconst 0, 1) := by decide +kernel
theorem dX5_isOffered_30 : decode cX5_isOffered 30 = .ok (.ireturn, 1) := by decide +kernel
theorem dX5_cost_0 : decode cX5_cost 0 = .ok (.aload_n 0, 1) := by decide +kernel
theorem dX5_cost_1 : decode cX5_cost 1 = .ok (.getfield 7, 3) := by decide +kernel
theorem dX5_cost_4 : decode cX5_cost 4 = .ok (.iload_n 1, 1) := by decide +kernel
theorem dX5_cost_5 : decode cX5_cost 5 = .ok (.iload_n 2, 1) := by decide +kernel
theorem dX5_cost_6 : decode cX5_cost 6 = .ok (.invokestatic 44, 3) := by decide +kernel
theorem dX5_cost_9 : decode cX5_cost 9 = .ok (.iaload, 1) := by decide +kernel
theorem dX5_cost_10 : decode cX5_cost 10 = .ok (.ireturn, 1) := by decide +kernel
theorem dX5_latest_0 : decode cX5_latest 0 = .ok (.aload_n 0, 1) := by decide +kernel
theorem dX5_latest_1 : decode cX5_latest 1 = .ok (.getfield 7, 3) := by decide +kernel
theorem dX5_latest_4 : decode cX5_latest 4 = .ok (.bipush 118, 2) := by decide +kernel
theorem dX5_latest_6 : decode cX5_latest 6 = .ok (.iconst 3, 1) := by decide +kernel
theorem dX5_latest_7 : decode cX5_latest 7 = .ok (.iload_n 1, 1) := by decide +kernel
theorem dX5_latest_8 : decode cX5_latest 8 = .ok (.imul, 1) := by decide +kernel
theorem dX5_latest_9 : decode cX5_latest 9 = .ok (.iadd, 1) := by decide +kernel
theorem dX5_latest_10 : decode cX5_latest 10 = .ok (.iload_n 2, 1) := by decide +kernel
theorem dX5_latest_11 : decode cX5_latest 11 = .ok (.iadd, 1) := by decide +kernel
theorem dX5_latest_12 : decode cX5_latest 12 = .ok (.iaload, 1) := by decide +kernel
theorem dX5_latest_13 : decode cX5_latest 13 = .ok (.ireturn, 1) := by decide +kernel
theorem dX5_binds_0 : decode cX5_binds 0 = .ok (.aload_n 0, 1) := by decide +kernel
theorem dX5_binds_1 : decode cX5_binds 1 = .ok (.iload_n 1, 1) := by decide +kernel
theorem dX5_binds_2 : decode cX5_binds 2 = .ok (.iload_n 2, 1) := by decide +kernel
theorem dX5_binds_3 : decode cX5_binds 3 = .ok (.invokevirtual 48, 3) := by decide +kernel
theorem dX5_binds_6 : decode cX5_binds 6 = .ok (.istore_n 3, 1) := by decide +kernel
theorem dX5_binds_7 : decode cX5_binds 7 = .ok (.iload_n 3, 1) := by decide +kernel
theorem dX5_binds_8 : decode cX5_binds 8 = .ok (.iconst (-1), 1) := by decide +kernel
theorem dX5_binds_9 : decode cX5_binds 9 = .ok (.if_icmp .eq 57, 3) := by decide +kernel
theorem dX5_binds_12 : decode cX5_binds 12 = .ok (.aload_n 0, 1) := by decide +kernel
theorem dX5_binds_13 : decode cX5_binds 13 = .ok (.getfield 7, 3) := by decide +kernel
theorem dX5_binds_16 : decode cX5_binds 16 = .ok (.iconst 1, 1) := by decide +kernel
theorem dX5_binds_17 : decode cX5_binds 17 = .ok (.iaload, 1) := by decide +kernel
theorem dX5_binds_18 : decode cX5_binds 18 = .ok (.aload_n 0, 1) := by decide +kernel
theorem dX5_binds_19 : decode cX5_binds 19 = .ok (.getfield 7, 3) := by decide +kernel
theorem dX5_binds_22 : decode cX5_binds 22 = .ok (.sipush 130, 3) := by decide +kernel
theorem dX5_binds_25 : decode cX5_binds 25 = .ok (.iconst 3, 1) := by decide +kernel
theorem dX5_binds_26 : decode cX5_binds 26 = .ok (.iload_n 3, 1) := by decide +kernel
theorem dX5_binds_27 : decode cX5_binds 27 = .ok (.imul, 1) := by decide +kernel
theorem dX5_binds_28 : decode cX5_binds 28 = .ok (.iadd, 1) := by decide +kernel
theorem dX5_binds_29 : decode cX5_binds 29 = .ok (.iconst 1, 1) := by decide +kernel
theorem dX5_binds_30 : decode cX5_binds 30 = .ok (.iadd, 1) := by decide +kernel
theorem dX5_binds_31 : decode cX5_binds 31 = .ok (.iaload, 1) := by decide +kernel
theorem dX5_binds_32 : decode cX5_binds 32 = .ok (.isub, 1) := by decide +kernel
theorem dX5_binds_33 : decode cX5_binds 33 = .ok (.aload_n 0, 1) := by decide +kernel
theorem dX5_binds_34 : decode cX5_binds 34 = .ok (.getfield 7, 3) := by decide +kernel
theorem dX5_binds_37 : decode cX5_binds 37 = .ok (.iconst 2, 1) := by decide +kernel
theorem dX5_binds_38 : decode cX5_binds 38 = .ok (.iaload, 1) := by decide +kernel
theorem dX5_binds_39 : decode cX5_binds 39 = .ok (.if_icmp .ge 27, 3) := by decide +kernel
theorem dX5_binds_42 : decode cX5_binds 42 = .ok (.aload_n 0, 1) := by decide +kernel
theorem dX5_binds_43 : decode cX5_binds 43 = .ok (.iload_n 1, 1) := by decide +kernel
theorem dX5_binds_44 : decode cX5_binds 44 = .ok (.aload_n 0, 1) := by decide +kernel
theorem dX5_binds_45 : decode cX5_binds 45 = .ok (.getfield 7, 3) := by decide +kernel
theorem dX5_binds_48 : decode cX5_binds 48 = .ok (.sipush 130, 3) := by decide +kernel
theorem dX5_binds_51 : decode cX5_binds 51 = .ok (.iconst 3, 1) := by decide +kernel
theorem dX5_binds_52 : decode cX5_binds 52 = .ok (.iload_n 3, 1) := by decide +kernel
theorem dX5_binds_53 : decode cX5_binds 53 = .ok (.imul, 1) := by decide +kernel
theorem dX5_binds_54 : decode cX5_binds 54 = .ok (.iadd, 1) := by decide +kernel
theorem dX5_binds_55 : decode cX5_binds 55 = .ok (.iaload, 1) := by decide +kernel
theorem dX5_binds_56 : decode cX5_binds 56 = .ok (.invokevirtual 51, 3) := by decide +kernel
theorem dX5_binds_59 : decode cX5_binds 59 = .ok (.ifCond .eq 7, 3) := by decide +kernel
theorem dX5_binds_62 : decode cX5_binds 62 = .ok (.iconst 1, 1) := by decide +kernel
theorem dX5_binds_63 : decode cX5_binds 63 = .ok (.goto 4, 3) := by decide +kernel
theorem dX5_binds_66 : decode cX5_binds 66 = .ok (.iconst 0, 1) := by decide +kernel
theorem dX5_binds_67 : decode cX5_binds 67 = .ok (.ireturn, 1) := by decide +kernel
theorem dX5_waitsFor_0 : decode cX5_waitsFor 0 = .ok (.aload_n 0, 1) := by decide +kernel
theorem dX5_waitsFor_1 : decode cX5_waitsFor 1 = .ok (.getfield 7, 3) := by decide +kernel
theorem dX5_waitsFor_4 : decode cX5_waitsFor 4 = .ok (.iload_n 1, 1) := by decide +kernel
theorem dX5_waitsFor_5 : decode cX5_waitsFor 5 = .ok (.invokestatic 54, 3) := by decide +kernel
theorem dX5_waitsFor_8 : decode cX5_waitsFor 8 = .ok (.bipush 8, 2) := by decide +kernel
theorem dX5_waitsFor_10 : decode cX5_waitsFor 10 = .ok (.iadd, 1) := by decide +kernel
theorem dX5_waitsFor_11 : decode cX5_waitsFor 11 = .ok (.iaload, 1) := by decide +kernel
theorem dX5_waitsFor_12 : decode cX5_waitsFor 12 = .ok (.istore_n 2, 1) := by decide +kernel
theorem dX5_waitsFor_13 : decode cX5_waitsFor 13 = .ok (.aload_n 0, 1) := by decide +kernel
theorem dX5_waitsFor_14 : decode cX5_waitsFor 14 = .ok (.getfield 7, 3) := by decide +kernel
theorem dX5_waitsFor_17 : decode cX5_waitsFor 17 = .ok (.iload_n 1, 1) := by decide +kernel
theorem dX5_waitsFor_18 : decode cX5_waitsFor 18 = .ok (.invokestatic 54, 3) := by decide +kernel
theorem dX5_waitsFor_21 : decode cX5_waitsFor 21 = .ok (.iconst 3, 1) := by decide +kernel
theorem dX5_waitsFor_22 : decode cX5_waitsFor 22 = .ok (.iadd, 1) := by decide +kernel
theorem dX5_waitsFor_23 : decode cX5_waitsFor 23 = .ok (.iaload, 1) := by decide +kernel
theorem dX5_waitsFor_24 : decode cX5_waitsFor 24 = .ok (.ifCond .eq 8, 3) := by decide +kernel
theorem dX5_waitsFor_27 : decode cX5_waitsFor 27 = .ok (.iload_n 2, 1) := by decide +kernel
theorem dX5_waitsFor_28 : decode cX5_waitsFor 28 = .ok (.iconst (-1), 1) := by decide +kernel
theorem dX5_waitsFor_29 : decode cX5_waitsFor 29 = .ok (.if_icmp .ne 5, 3) := by decide +kernel
theorem dX5_waitsFor_32 : decode cX5_waitsFor 32 = .ok (.iconst 0, 1) := by decide +kernel
theorem dX5_waitsFor_33 : decode cX5_waitsFor 33 = .ok (.ireturn, 1) := by decide +kernel
theorem dX5_waitsFor_34 : decode cX5_waitsFor 34 = .ok (.aload_n 0, 1) := by decide +kernel
theorem dX5_waitsFor_35 : decode cX5_waitsFor 35 = .ok (.aload_n 0, 1) := by decide +kernel
theorem dX5_waitsFor_36 : decode cX5_waitsFor 36 = .ok (.getfield 7, 3) := by decide +kernel
theorem dX5_waitsFor_39 : decode cX5_waitsFor 39 = .ok (.iload_n 1, 1) := by decide +kernel
theorem dX5_waitsFor_40 : decode cX5_waitsFor 40 = .ok (.invokestatic 54, 3) := by decide +kernel
theorem dX5_waitsFor_43 : decode cX5_waitsFor 43 = .ok (.iaload, 1) := by decide +kernel
theorem dX5_waitsFor_44 : decode cX5_waitsFor 44 = .ok (.aload_n 0, 1) := by decide +kernel
theorem dX5_waitsFor_45 : decode cX5_waitsFor 45 = .ok (.getfield 7, 3) := by decide +kernel
theorem dX5_waitsFor_48 : decode cX5_waitsFor 48 = .ok (.sipush 130, 3) := by decide +kernel
theorem dX5_waitsFor_51 : decode cX5_waitsFor 51 = .ok (.iconst 3, 1) := by decide +kernel
theorem dX5_waitsFor_52 : decode cX5_waitsFor 52 = .ok (.iload_n 2, 1) := by decide +kernel
theorem dX5_waitsFor_53 : decode cX5_waitsFor 53 = .ok (.imul, 1) := by decide +kernel
theorem dX5_waitsFor_54 : decode cX5_waitsFor 54 = .ok (.iadd, 1) := by decide +kernel
theorem dX5_waitsFor_55 : decode cX5_waitsFor 55 = .ok (.iaload, 1) := by decide +kernel
theorem dX5_waitsFor_56 : decode cX5_waitsFor 56 = .ok (.invokevirtual 57, 3) := by decide +kernel
theorem dX5_waitsFor_59 : decode cX5_waitsFor 59 = .ok (.aload_n 0, 1) := by decide +kernel
theorem dX5_waitsFor_60 : decode cX5_waitsFor 60 = .ok (.getfield 7, 3) := by decide +kernel
theorem dX5_waitsFor_63 : decode cX5_waitsFor 63 = .ok (.iload_n 1, 1) := by decide +kernel
theorem dX5_waitsFor_64 : decode cX5_waitsFor 64 = .ok (.invokestatic 54, 3) := by decide +kernel
theorem dX5_waitsFor_67 : decode cX5_waitsFor 67 = .ok (.iconst 5, 1) := by decide +kernel
theorem dX5_waitsFor_68 : decode cX5_waitsFor 68 = .ok (.iadd, 1) := by decide +kernel
theorem dX5_waitsFor_69 : decode cX5_waitsFor 69 = .ok (.iaload, 1) := by decide +kernel
theorem dX5_waitsFor_70 : decode cX5_waitsFor 70 = .ok (.isub, 1) := by decide +kernel
theorem dX5_waitsFor_71 : decode cX5_waitsFor 71 = .ok (.istore_n 3, 1) := by decide +kernel
theorem dX5_waitsFor_72 : decode cX5_waitsFor 72 = .ok (.iload_n 3, 1) := by decide +kernel
theorem dX5_waitsFor_73 : decode cX5_waitsFor 73 = .ok (.ifCond .le 7, 3) := by decide +kernel
theorem dX5_waitsFor_76 : decode cX5_waitsFor 76 = .ok (.iload_n 3, 1) := by decide +kernel
theorem dX5_waitsFor_77 : decode cX5_waitsFor 77 = .ok (.goto 4, 3) := by decide +kernel
theorem dX5_waitsFor_80 : decode cX5_waitsFor 80 = .ok (.iconst 0, 1) := by decide +kernel
theorem dX5_waitsFor_81 : decode cX5_waitsFor 81 = .ok (.ireturn, 1) := by decide +kernel
theorem dX5_offer_0 : decode cX5_offer 0 = .ok (.aload_n 0, 1) := by decide +kernel
theorem dX5_offer_1 : decode cX5_offer 1 = .ok (.iconst 0, 1) := by decide +kernel
theorem dX5_offer_2 : decode cX5_offer 2 = .ok (.putfield 29, 3) := by decide +kernel
theorem dX5_offer_5 : decode cX5_offer 5 = .ok (.iload_n 1, 1) := by decide +kernel
theorem dX5_offer_6 : decode cX5_offer 6 = .ok (.invokestatic 60, 3) := by decide +kernel
theorem dX5_offer_9 : decode cX5_offer 9 = .ok (.ifCond .ne 9, 3) := by decide +kernel
theorem dX5_offer_12 : decode cX5_offer 12 = .ok (.aload_n 0, 1) := by decide +kernel
theorem dX5_offer_13 : decode cX5_offer 13 = .ok (.iconst 1, 1) := by decide +kernel
theorem dX5_offer_14 : decode cX5_offer 14 = .ok (.invokevirtual 64, 3) := by decide +kernel
theorem dX5_offer_17 : decode cX5_offer 17 = .ok (.ireturn, 1) := by decide +kernel
theorem dX5_offer_18 : decode cX5_offer 18 = .ok (.iload_n 2, 1) := by decide +kernel
theorem dX5_offer_19 : decode cX5_offer 19 = .ok (.iconst 0, 1) := by decide +kernel
theorem dX5_offer_20 : decode cX5_offer 20 = .ok (.sipush 999, 3) := by decide +kernel
theorem dX5_offer_23 : decode cX5_offer 23 = .ok (.invokestatic 36, 3) := by decide +kernel
theorem dX5_offer_26 : decode cX5_offer 26 = .ok (.ifCond .eq 24, 3) := by decide +kernel
theorem dX5_offer_29 : decode cX5_offer 29 = .ok (.iload_n 3, 1) := by decide +kernel
theorem dX5_offer_30 : decode cX5_offer 30 = .ok (.iconst 1, 1) := by decide +kernel
theorem dX5_offer_31 : decode cX5_offer 31 = .ok (.bipush 9, 2) := by decide +kernel
theorem dX5_offer_33 : decode cX5_offer 33 = .ok (.invokestatic 36, 3) := by decide +kernel
theorem dX5_offer_36 : decode cX5_offer 36 = .ok (.ifCond .eq 14, 3) := by decide +kernel
theorem dX5_offer_39 : decode cX5_offer 39 = .ok (.iload 4, 2) := by decide +kernel
theorem dX5_offer_41 : decode cX5_offer 41 = .ok (.iload_n 3, 1) := by decide +kernel
theorem dX5_offer_42 : decode cX5_offer 42 = .ok (.bipush 9, 2) := by decide +kernel
theorem dX5_offer_44 : decode cX5_offer 44 = .ok (.invokestatic 36, 3) := by decide +kernel
theorem dX5_offer_47 : decode cX5_offer 47 = .ok (.ifCond .ne 9, 3) := by decide +kernel
theorem dX5_offer_50 : decode cX5_offer 50 = .ok (.aload_n 0, 1) := by decide +kernel
theorem dX5_offer_51 : decode cX5_offer 51 = .ok (.iconst 2, 1) := by decide +kernel
theorem dX5_offer_52 : decode cX5_offer 52 = .ok (.invokevirtual 64, 3) := by decide +kernel
theorem dX5_offer_55 : decode cX5_offer 55 = .ok (.ireturn, 1) := by decide +kernel
theorem dX5_offer_56 : decode cX5_offer 56 = .ok (.aload_n 0, 1) := by decide +kernel
theorem dX5_offer_57 : decode cX5_offer 57 = .ok (.getfield 7, 3) := by decide +kernel
theorem dX5_offer_60 : decode cX5_offer 60 = .ok (.iload_n 1, 1) := by decide +kernel
theorem dX5_offer_61 : decode cX5_offer 61 = .ok (.invokestatic 25, 3) := by decide +kernel
theorem dX5_offer_64 : decode cX5_offer 64 = .ok (.iconst 3, 1) := by decide +kernel
theorem dX5_offer_65 : decode cX5_offer 65 = .ok (.iadd, 1) := by decide +kernel
theorem dX5_offer_66 : decode cX5_offer 66 = .ok (.iaload, 1) := by decide +kernel
theorem dX5_offer_67 : decode cX5_offer 67 = .ok (.bipush 6, 2) := by decide +kernel
theorem dX5_offer_69 : decode cX5_offer 69 = .ok (.if_icmp .ne 9, 3) := by decide +kernel
theorem dX5_offer_72 : decode cX5_offer 72 = .ok (.aload_n 0, 1) := by decide +kernel
theorem dX5_offer_73 : decode cX5_offer 73 = .ok (.iconst 3, 1) := by decide +kernel
theorem dX5_offer_74 : decode cX5_offer 74 = .ok (.invokevirtual 64, 3) := by decide +kernel
theorem dX5_offer_77 : decode cX5_offer 77 = .ok (.ireturn, 1) := by decide +kernel
theorem dX5_offer_78 : decode cX5_offer 78 = .ok (.aload_n 0, 1) := by decide +kernel
theorem dX5_offer_79 : decode cX5_offer 79 = .ok (.invokevirtual 67, 3) := by decide +kernel
theorem dX5_offer_82 : decode cX5_offer 82 = .ok (.iload_n 1, 1) := by decide +kernel
theorem dX5_offer_83 : decode cX5_offer 83 = .ok (.aload_n 0, 1) := by decide +kernel
theorem dX5_offer_84 : decode cX5_offer 84 = .ok (.getfield 7, 3) := by decide +kernel
theorem dX5_offer_87 : decode cX5_offer 87 = .ok (.iload_n 1, 1) := by decide +kernel
theorem dX5_offer_88 : decode cX5_offer 88 = .ok (.invokestatic 25, 3) := by decide +kernel
theorem dX5_offer_91 : decode cX5_offer 91 = .ok (.iconst 3, 1) := by decide +kernel
theorem dX5_offer_92 : decode cX5_offer 92 = .ok (.iadd, 1) := by decide +kernel
theorem dX5_offer_93 : decode cX5_offer 93 = .ok (.iaload, 1) := by decide +kernel
theorem dX5_offer_94 : decode cX5_offer 94 = .ok (.invokestatic 44, 3) := by decide +kernel
theorem dX5_offer_97 : decode cX5_offer 97 = .ok (.istore 5, 2) := by decide +kernel
theorem dX5_offer_99 : decode cX5_offer 99 = .ok (.aload_n 0, 1) := by decide +kernel
theorem dX5_offer_100 : decode cX5_offer 100 = .ok (.getfield 7, 3) := by decide +kernel
theorem dX5_offer_103 : decode cX5_offer 103 = .ok (.iload 5, 2) := by decide +kernel
theorem dX5_offer_105 : decode cX5_offer 105 = .ok (.iload_n 2, 1) := by decide +kernel
theorem dX5_offer_106 : decode cX5_offer 106 = .ok (.iastore, 1) := by decide +kernel
theorem dX5_offer_107 : decode cX5_offer 107 = .ok (.aload_n 0, 1) := by decide +kernel
theorem dX5_offer_108 : decode cX5_offer 108 = .ok (.getfield 7, 3) := by decide +kernel
theorem dX5_offer_111 : decode cX5_offer 111 = .ok (.iload 5, 2) := by decide +kernel
theorem dX5_offer_113 : decode cX5_offer 113 = .ok (.iconst 1, 1) := by decide +kernel
theorem dX5_offer_114 : decode cX5_offer 114 = .ok (.iadd, 1) := by decide +kernel
theorem dX5_offer_115 : decode cX5_offer 115 = .ok (.iload_n 3, 1) := by decide +kernel
theorem dX5_offer_116 : decode cX5_offer 116 = .ok (.iastore, 1) := by decide +kernel
theorem dX5_offer_117 : decode cX5_offer 117 = .ok (.aload_n 0, 1) := by decide +kernel
theorem dX5_offer_118 : decode cX5_offer 118 = .ok (.getfield 7, 3) := by decide +kernel
theorem dX5_offer_121 : decode cX5_offer 121 = .ok (.iload 5, 2) := by decide +kernel
theorem dX5_offer_123 : decode cX5_offer 123 = .ok (.iconst 2, 1) := by decide +kernel
theorem dX5_offer_124 : decode cX5_offer 124 = .ok (.iadd, 1) := by decide +kernel
theorem dX5_offer_125 : decode cX5_offer 125 = .ok (.iload 4, 2) := by decide +kernel
theorem dX5_offer_127 : decode cX5_offer 127 = .ok (.iastore, 1) := by decide +kernel
theorem dX5_offer_128 : decode cX5_offer 128 = .ok (.aload_n 0, 1) := by decide +kernel
theorem dX5_offer_129 : decode cX5_offer 129 = .ok (.getfield 7, 3) := by decide +kernel
theorem dX5_offer_132 : decode cX5_offer 132 = .ok (.iload 5, 2) := by decide +kernel
theorem dX5_offer_134 : decode cX5_offer 134 = .ok (.iconst 3, 1) := by decide +kernel
theorem dX5_offer_135 : decode cX5_offer 135 = .ok (.iadd, 1) := by decide +kernel
theorem dX5_offer_136 : decode cX5_offer 136 = .ok (.iconst 1, 1) := by decide +kernel
theorem dX5_offer_137 : decode cX5_offer 137 = .ok (.iastore, 1) := by decide +kernel
theorem dX5_offer_138 : decode cX5_offer 138 = .ok (.aload_n 0, 1) := by decide +kernel
theorem dX5_offer_139 : decode cX5_offer 139 = .ok (.getfield 7, 3) := by decide +kernel
theorem dX5_offer_142 : decode cX5_offer 142 = .ok (.iload_n 1, 1) := by decide +kernel
theorem dX5_offer_143 : decode cX5_offer 143 = .ok (.invokestatic 25, 3) := by decide +kernel
theorem dX5_offer_146 : decode cX5_offer 146 = .ok (.iconst 3, 1) := by decide +kernel
theorem dX5_offer_147 : decode cX5_offer 147 = .ok (.iadd, 1) := by decide +kernel
theorem dX5_offer_148 : decode cX5_offer 148 = .ok (.dup2, 1) := by decide +kernel
theorem dX5_offer_149 : decode cX5_offer 149 = .ok (.iaload, 1) := by decide +kernel
theorem dX5_offer_150 : decode cX5_offer 150 = .ok (.iconst 1, 1) := by decide +kernel
theorem dX5_offer_151 : decode cX5_offer 151 = .ok (.iadd, 1) := by decide +kernel
theorem dX5_offer_152 : decode cX5_offer 152 = .ok (.iastore, 1) := by decide +kernel
theorem dX5_offer_153 : decode cX5_offer 153 = .ok (.aload_n 0, 1) := by decide +kernel
theorem dX5_offer_154 : decode cX5_offer 154 = .ok (.getfield 7, 3) := by decide +kernel
theorem dX5_offer_157 : decode cX5_offer 157 = .ok (.iload_n 1, 1) := by decide +kernel
theorem dX5_offer_158 : decode cX5_offer 158 = .ok (.invokestatic 25, 3) := by decide +kernel
theorem dX5_offer_161 : decode cX5_offer 161 = .ok (.iconst 3, 1) := by decide +kernel
theorem dX5_offer_162 : decode cX5_offer 162 = .ok (.iadd, 1) := by decide +kernel
theorem dX5_offer_163 : decode cX5_offer 163 = .ok (.iaload, 1) := by decide +kernel
theorem dX5_offer_164 : decode cX5_offer 164 = .ok (.iconst 1, 1) := by decide +kernel
theorem dX5_offer_165 : decode cX5_offer 165 = .ok (.isub, 1) := by decide +kernel
theorem dX5_offer_166 : decode cX5_offer 166 = .ok (.ireturn, 1) := by decide +kernel
theorem dX5_offered_0 : decode cX5_offered 0 = .ok (.iconst 0, 1) := by decide +kernel
theorem dX5_offered_1 : decode cX5_offered 1 = .ok (.istore_n 2, 1) := by decide +kernel
theorem dX5_offered_2 : decode cX5_offered 2 = .ok (.iconst 0, 1) := by decide +kernel
theorem dX5_offered_3 : decode cX5_offered 3 = .ok (.istore_n 3, 1) := by decide +kernel
theorem dX5_offered_4 : decode cX5_offered 4 = .ok (.iload_n 3, 1) := by decide +kernel
theorem dX5_offered_5 : decode cX5_offered 5 = .ok (.aload_n 0, 1) := by decide +kernel
theorem dX5_offered_6 : decode cX5_offered 6 = .ok (.getfield 7, 3) := by decide +kernel
theorem dX5_offered_9 : decode cX5_offered 9 = .ok (.iload_n 1, 1) := by decide +kernel
theorem dX5_offered_10 : decode cX5_offered 10 = .ok (.invokestatic 25, 3) := by decide +kernel
theorem dX5_offered_13 : decode cX5_offered 13 = .ok (.iconst 3, 1) := by decide +kernel
theorem dX5_offered_14 : decode cX5_offered 14 = .ok (.iadd, 1) := by decide +kernel
theorem dX5_offered_15 : decode cX5_offered 15 = .ok (.iaload, 1) := by decide +kernel
theorem dX5_offered_16 : decode cX5_offered 16 = .ok (.if_icmp .ge 24, 3) := by decide +kernel
theorem dX5_offered_19 : decode cX5_offered 19 = .ok (.iload_n 2, 1) := by decide +kernel
theorem dX5_offered_20 : decode cX5_offered 20 = .ok (.aload_n 0, 1) := by decide +kernel
theorem dX5_offered_21 : decode cX5_offered 21 = .ok (.getfield 7, 3) := by decide +kernel
theorem dX5_offered_24 : decode cX5_offered 24 = .ok (.iload_n 1, 1) := by decide +kernel
theorem dX5_offered_25 : decode cX5_offered 25 = .ok (.iload_n 3, 1) := by decide +kernel
theorem dX5_offered_26 : decode cX5_offered 26 = .ok (.invokestatic 44, 3) := by decide +kernel
theorem dX5_offered_29 : decode cX5_offered 29 = .ok (.iconst 3, 1) := by decide +kernel
theorem dX5_offered_30 : decode cX5_offered 30 = .ok (.iadd, 1) := by decide +kernel
theorem dX5_offered_31 : decode cX5_offered 31 = .ok (.iaload, 1) := by decide +kernel
theorem dX5_offered_32 : decode cX5_offered 32 = .ok (.iadd, 1) := by decide +kernel
theorem dX5_offered_33 : decode cX5_offered 33 = .ok (.istore_n 2, 1) := by decide +kernel
theorem dX5_offered_34 : decode cX5_offered 34 = .ok (.iinc 3 1, 3) := by decide +kernel
theorem dX5_offered_37 : decode cX5_offered 37 = .ok (.goto (-33), 3) := by decide +kernel
theorem dX5_offered_40 : decode cX5_offered 40 = .ok (.iload_n 2, 1) := by decide +kernel
theorem dX5_offered_41 : decode cX5_offered 41 = .ok (.ireturn, 1) := by decide +kernel
theorem dX5_takeOff_0 : decode cX5_takeOff 0 = .ok (.aload_n 0, 1) := by decide +kernel
theorem dX5_takeOff_1 : decode cX5_takeOff 1 = .ok (.iconst 0, 1) := by decide +kernel
theorem dX5_takeOff_2 : decode cX5_takeOff 2 = .ok (.putfield 29, 3) := by decide +kernel
theorem dX5_takeOff_5 : decode cX5_takeOff 5 = .ok (.iload_n 1, 1) := by decide +kernel
theorem dX5_takeOff_6 : decode cX5_takeOff 6 = .ok (.invokestatic 60, 3) := by decide +kernel
theorem dX5_takeOff_9 : decode cX5_takeOff 9 = .ok (.ifCond .eq 12, 3) := by decide +kernel
theorem dX5_takeOff_12 : decode cX5_takeOff 12 = .ok (.aload_n 0, 1) := by decide +kernel
theorem dX5_takeOff_13 : decode cX5_takeOff 13 = .ok (.iload_n 1, 1) := by decide +kernel
theorem dX5_takeOff_14 : decode cX5_takeOff 14 = .ok (.iload_n 2, 1) := by decide +kernel
theorem dX5_takeOff_15 : decode cX5_takeOff 15 = .ok (.invokevirtual 40, 3) := by decide +kernel
theorem dX5_takeOff_18 : decode cX5_takeOff 18 = .ok (.ifCond .ne 9, 3) := by decide +kernel
theorem dX5_takeOff_21 : decode cX5_takeOff 21 = .ok (.aload_n 0, 1) := by decide +kernel
theorem dX5_takeOff_22 : decode cX5_takeOff 22 = .ok (.iconst 1, 1) := by decide +kernel
theorem dX5_takeOff_23 : decode cX5_takeOff 23 = .ok (.invokevirtual 64, 3) := by decide +kernel
theorem dX5_takeOff_26 : decode cX5_takeOff 26 = .ok (.ireturn, 1) := by decide +kernel
theorem dX5_takeOff_27 : decode cX5_takeOff 27 = .ok (.aload_n 0, 1) := by decide +kernel
theorem dX5_takeOff_28 : decode cX5_takeOff 28 = .ok (.iload_n 1, 1) := by decide +kernel
theorem dX5_takeOff_29 : decode cX5_takeOff 29 = .ok (.iload_n 2, 1) := by decide +kernel
theorem dX5_takeOff_30 : decode cX5_takeOff 30 = .ok (.invokevirtual 51, 3) := by decide +kernel
theorem dX5_takeOff_33 : decode cX5_takeOff 33 = .ok (.ifCond .ne 9, 3) := by decide +kernel
theorem dX5_takeOff_36 : decode cX5_takeOff 36 = .ok (.aload_n 0, 1) := by decide +kernel
theorem dX5_takeOff_37 : decode cX5_takeOff 37 = .ok (.iconst 2, 1) := by decide +kernel
theorem dX5_takeOff_38 : decode cX5_takeOff 38 = .ok (.invokevirtual 64, 3) := by decide +kernel
theorem dX5_takeOff_41 : decode cX5_takeOff 41 = .ok (.ireturn, 1) := by decide +kernel
theorem dX5_takeOff_42 : decode cX5_takeOff 42 = .ok (.aload_n 0, 1) := by decide +kernel
theorem dX5_takeOff_43 : decode cX5_takeOff 43 = .ok (.invokevirtual 67, 3) := by decide +kernel
theorem dX5_takeOff_46 : decode cX5_takeOff 46 = .ok (.aload_n 0, 1) := by decide +kernel
theorem dX5_takeOff_47 : decode cX5_takeOff 47 = .ok (.getfield 7, 3) := by decide +kernel
theorem dX5_takeOff_50 : decode cX5_takeOff 50 = .ok (.iload_n 1, 1) := by decide +kernel
theorem dX5_takeOff_51 : decode cX5_takeOff 51 = .ok (.iload_n 2, 1) := by decide +kernel
theorem dX5_takeOff_52 : decode cX5_takeOff 52 = .ok (.invokestatic 44, 3) := by decide +kernel
theorem dX5_takeOff_55 : decode cX5_takeOff 55 = .ok (.iconst 3, 1) := by decide +kernel
theorem dX5_takeOff_56 : decode cX5_takeOff 56 = .ok (.iadd, 1) := by decide +kernel
theorem dX5_takeOff_57 : decode cX5_takeOff 57 = .ok (.iconst 0, 1) := by decide +kernel
theorem dX5_takeOff_58 : decode cX5_takeOff 58 = .ok (.iastore, 1) := by decide +kernel
theorem dX5_takeOff_59 : decode cX5_takeOff 59 = .ok (.aload_n 0, 1) := by decide +kernel
theorem dX5_takeOff_60 : decode cX5_takeOff 60 = .ok (.iload_n 1, 1) := by decide +kernel
theorem dX5_takeOff_61 : decode cX5_takeOff 61 = .ok (.invokevirtual 70, 3) := by decide +kernel
theorem dX5_takeOff_64 : decode cX5_takeOff 64 = .ok (.ireturn, 1) := by decide +kernel
theorem dX5_base_0 : decode cX5_base 0 = .ok (.aload_n 0, 1) := by decide +kernel
theorem dX5_base_1 : decode cX5_base 1 = .ok (.iconst 0, 1) := by decide +kernel
theorem dX5_base_2 : decode cX5_base 2 = .ok (.putfield 29, 3) := by decide +kernel
theorem dX5_base_5 : decode cX5_base 5 = .ok (.iload_n 1, 1) := by decide +kernel
theorem dX5_base_6 : decode cX5_base 6 = .ok (.invokestatic 60, 3) := by decide +kernel
theorem dX5_base_9 : decode cX5_base 9 = .ok (.ifCond .ne 9, 3) := by decide +kernel
theorem dX5_base_12 : decode cX5_base 12 = .ok (.aload_n 0, 1) := by decide +kernel
theorem dX5_base_13 : decode cX5_base 13 = .ok (.iconst 1, 1) := by decide +kernel
theorem dX5_base_14 : decode cX5_base 14 = .ok (.invokevirtual 64, 3) := by decide +kernel
theorem dX5_base_17 : decode cX5_base 17 = .ok (.ireturn, 1) := by decide +kernel
theorem dX5_base_18 : decode cX5_base 18 = .ok (.iload_n 2, 1) := by decide +kernel
theorem dX5_base_19 : decode cX5_base 19 = .ok (.iconst 0, 1) := by decide +kernel
theorem dX5_base_20 : decode cX5_base 20 = .ok (.sipush 9999, 3) := by decide +kernel
theorem dX5_base_23 : decode cX5_base 23 = .ok (.invokestatic 36, 3) := by decide +kernel
theorem dX5_base_26 : decode cX5_base 26 = .ok (.ifCond .ne 9, 3) := by decide +kernel
theorem dX5_base_29 : decode cX5_base 29 = .ok (.aload_n 0, 1) := by decide +kernel
theorem dX5_base_30 : decode cX5_base 30 = .ok (.iconst 2, 1) := by decide +kernel
theorem dX5_base_31 : decode cX5_base 31 = .ok (.invokevirtual 64, 3) := by decide +kernel
theorem dX5_base_34 : decode cX5_base 34 = .ok (.ireturn, 1) := by decide +kernel
theorem dX5_base_35 : decode cX5_base 35 = .ok (.aload_n 0, 1) := by decide +kernel
theorem dX5_base_36 : decode cX5_base 36 = .ok (.invokevirtual 67, 3) := by decide +kernel
theorem dX5_base_39 : decode cX5_base 39 = .ok (.aload_n 0, 1) := by decide +kernel
theorem dX5_base_40 : decode cX5_base 40 = .ok (.getfield 7, 3) := by decide +kernel
theorem dX5_base_43 : decode cX5_base 43 = .ok (.iload_n 1, 1) := by decide +kernel
theorem dX5_base_44 : decode cX5_base 44 = .ok (.invokestatic 25, 3) := by decide +kernel
theorem dX5_base_47 : decode cX5_base 47 = .ok (.iaload, 1) := by decide +kernel
theorem dX5_base_48 : decode cX5_base 48 = .ok (.istore_n 3, 1) := by decide +kernel
theorem dX5_base_49 : decode cX5_base 49 = .ok (.aload_n 0, 1) := by decide +kernel
theorem dX5_base_50 : decode cX5_base 50 = .ok (.getfield 7, 3) := by decide +kernel
theorem dX5_base_53 : decode cX5_base 53 = .ok (.iload_n 1, 1) := by decide +kernel
theorem dX5_base_54 : decode cX5_base 54 = .ok (.invokestatic 25, 3) := by decide +kernel
theorem dX5_base_57 : decode cX5_base 57 = .ok (.iload_n 2, 1) := by decide +kernel
theorem dX5_base_58 : decode cX5_base 58 = .ok (.iastore, 1) := by decide +kernel
theorem dX5_base_59 : decode cX5_base 59 = .ok (.iload_n 3, 1) := by decide +kernel
theorem dX5_base_60 : decode cX5_base 60 = .ok (.ireturn, 1) := by decide +kernel
theorem dX5_maySet_0 : decode cX5_maySet 0 = .ok (.iload_n 0, 1) := by decide +kernel
theorem dX5_maySet_1 : decode cX5_maySet 1 = .ok (.ifCond .ne 13, 3) := by decide +kernel
theorem dX5_maySet_4 : decode cX5_maySet 4 = .ok (.iload_n 1, 1) := by decide +kernel
theorem dX5_maySet_5 : decode cX5_maySet 5 = .ok (.iconst 1, 1) := by decide +kernel
theorem dX5_maySet_6 : decode cX5_maySet 6 = .ok (.bipush 6, 2) := by decide +kernel
theorem dX5_maySet_8 : decode cX5_maySet 8 = .ok (.invokestatic 36, 3) := by decide +kernel
theorem dX5_maySet_11 : decode cX5_maySet 11 = .ok (.goto 24, 3) := by decide +kernel
theorem dX5_maySet_14 : decode cX5_maySet 14 = .ok (.iload_n 0, 1) := by decide +kernel
theorem dX5_maySet_15 : decode cX5_maySet 15 = .ok (.iconst 1, 1) := by decide +kernel
theorem dX5_maySet_16 : decode cX5_maySet 16 = .ok (.if_icmp .ne 12, 3) := by decide +kernel
theorem dX5_maySet_19 : decode cX5_maySet 19 = .ok (.iload_n 1, 1) := by decide +kernel
theorem dX5_maySet_20 : decode cX5_maySet 20 = .ok (.iconst 0, 1) := by decide +kernel
theorem dX5_maySet_21 : decode cX5_maySet 21 = .ok (.iconst 3, 1) := by decide +kernel
theorem dX5_maySet_22 : decode cX5_maySet 22 = .ok (.invokestatic 36, 3) := by decide +kernel
theorem dX5_maySet_25 : decode cX5_maySet 25 = .ok (.goto 10, 3) := by decide +kernel
theorem dX5_maySet_28 : decode cX5_maySet 28 = .ok (.iload_n 1, 1) := by decide +kernel
theorem dX5_maySet_29 : decode cX5_maySet 29 = .ok (.iconst 0, 1) := by decide +kernel
theorem dX5_maySet_30 : decode cX5_maySet 30 = .ok (.bipush 100, 2) := by decide +kernel
theorem dX5_maySet_32 : decode cX5_maySet 32 = .ok (.invokestatic 36, 3) := by decide +kernel
theorem dX5_maySet_35 : decode cX5_maySet 35 = .ok (.ireturn, 1) := by decide +kernel
theorem dX5_set_0 : decode cX5_set 0 = .ok (.aload_n 0, 1) := by decide +kernel
theorem dX5_set_1 : decode cX5_set 1 = .ok (.iconst 0, 1) := by decide +kernel
theorem dX5_set_2 : decode cX5_set 2 = .ok (.putfield 29, 3) := by decide +kernel
theorem dX5_set_5 : decode cX5_set 5 = .ok (.iload_n 1, 1) := by decide +kernel
theorem dX5_set_6 : decode cX5_set 6 = .ok (.iconst 0, 1) := by decide +kernel
theorem dX5_set_7 : decode cX5_set 7 = .ok (.iconst 2, 1) := by decide +kernel
theorem dX5_set_8 : decode cX5_set 8 = .ok (.invokestatic 36, 3) := by decide +kernel
theorem dX5_set_11 : decode cX5_set 11 = .ok (.ifCond .ne 9, 3) := by decide +kernel
theorem dX5_set_14 : decode cX5_set 14 = .ok (.aload_n 0, 1) := by decide +kernel
theorem dX5_set_15 : decode cX5_set 15 = .ok (.iconst 1, 1) := by decide +kernel
theorem dX5_set_16 : decode cX5_set 16 = .ok (.invokevirtual 64, 3) := by decide +kernel
theorem dX5_set_19 : decode cX5_set 19 = .ok (.ireturn, 1) := by decide +kernel
theorem dX5_set_20 : decode cX5_set 20 = .ok (.iload_n 1, 1) := by decide +kernel
theorem dX5_set_21 : decode cX5_set 21 = .ok (.iload_n 2, 1) := by decide +kernel
theorem dX5_set_22 : decode cX5_set 22 = .ok (.invokestatic 73, 3) := by decide +kernel
theorem dX5_set_25 : decode cX5_set 25 = .ok (.ifCond .ne 9, 3) := by decide +kernel
theorem dX5_set_28 : decode cX5_set 28 = .ok (.aload_n 0, 1) := by decide +kernel
theorem dX5_set_29 : decode cX5_set 29 = .ok (.iconst 2, 1) := by decide +kernel
theorem dX5_set_30 : decode cX5_set 30 = .ok (.invokevirtual 64, 3) := by decide +kernel
theorem dX5_set_33 : decode cX5_set 33 = .ok (.ireturn, 1) := by decide +kernel
theorem dX5_set_34 : decode cX5_set 34 = .ok (.aload_n 0, 1) := by decide +kernel
theorem dX5_set_35 : decode cX5_set 35 = .ok (.invokevirtual 67, 3) := by decide +kernel
theorem dX5_set_38 : decode cX5_set 38 = .ok (.aload_n 0, 1) := by decide +kernel
theorem dX5_set_39 : decode cX5_set 39 = .ok (.getfield 7, 3) := by decide +kernel
theorem dX5_set_42 : decode cX5_set 42 = .ok (.iconst 2, 1) := by decide +kernel
theorem dX5_set_43 : decode cX5_set 43 = .ok (.iload_n 1, 1) := by decide +kernel
theorem dX5_set_44 : decode cX5_set 44 = .ok (.iadd, 1) := by decide +kernel
theorem dX5_set_45 : decode cX5_set 45 = .ok (.iaload, 1) := by decide +kernel
theorem dX5_set_46 : decode cX5_set 46 = .ok (.istore_n 3, 1) := by decide +kernel
theorem dX5_set_47 : decode cX5_set 47 = .ok (.aload_n 0, 1) := by decide +kernel
theorem dX5_set_48 : decode cX5_set 48 = .ok (.getfield 7, 3) := by decide +kernel
theorem dX5_set_51 : decode cX5_set 51 = .ok (.iconst 2, 1) := by decide +kernel
theorem dX5_set_52 : decode cX5_set 52 = .ok (.iload_n 1, 1) := by decide +kernel
theorem dX5_set_53 : decode cX5_set 53 = .ok (.iadd, 1) := by decide +kernel
theorem dX5_set_54 : decode cX5_set 54 = .ok (.iload_n 2, 1) := by decide +kernel
theorem dX5_set_55 : decode cX5_set 55 = .ok (.iastore, 1) := by decide +kernel
theorem dX5_set_56 : decode cX5_set 56 = .ok (.iload_n 3, 1) := by decide +kernel
theorem dX5_set_57 : decode cX5_set 57 = .ok (.ireturn, 1) := by decide +kernel
theorem dX5_complainNow_0 : decode cX5_complainNow 0 = .ok (.aload_n 0, 1) := by decide +kernel
theorem dX5_complainNow_1 : decode cX5_complainNow 1 = .ok (.getfield 7, 3) := by decide +kernel
theorem dX5_complainNow_4 : decode cX5_complainNow 4 = .ok (.iconst 0, 1) := by decide +kernel
theorem dX5_complainNow_5 : decode cX5_complainNow 5 = .ok (.iaload, 1) := by decide +kernel
theorem dX5_complainNow_6 : decode cX5_complainNow 6 = .ok (.invokestatic 54, 3) := by decide +kernel
theorem dX5_complainNow_9 : decode cX5_complainNow 9 = .ok (.istore 4, 2) := by decide +kernel
theorem dX5_complainNow_11 : decode cX5_complainNow 11 = .ok (.aload_n 0, 1) := by decide +kernel
theorem dX5_complainNow_12 : decode cX5_complainNow 12 = .ok (.getfield 7, 3) := by decide +kernel
theorem dX5_complainNow_15 : decode cX5_complainNow 15 = .ok (.iload 4, 2) := by decide +kernel
theorem dX5_complainNow_17 : decode cX5_complainNow 17 = .ok (.iload_n 1, 1) := by decide +kernel
theorem dX5_complainNow_18 : decode cX5_complainNow 18 = .ok (.iastore, 1) := by decide +kernel
theorem dX5_complainNow_19 : decode cX5_complainNow 19 = .ok (.aload_n 0, 1) := by decide +kernel
theorem dX5_complainNow_20 : decode cX5_complainNow 20 = .ok (.getfield 7, 3) := by decide +kernel
theorem dX5_complainNow_23 : decode cX5_complainNow 23 = .ok (.iload 4, 2) := by decide +kernel
theorem dX5_complainNow_25 : decode cX5_complainNow 25 = .ok (.iconst 1, 1) := by decide +kernel
theorem dX5_complainNow_26 : decode cX5_complainNow 26 = .ok (.iadd, 1) := by decide +kernel
theorem dX5_complainNow_27 : decode cX5_complainNow 27 = .ok (.iload_n 2, 1) := by decide +kernel
theorem dX5_complainNow_28 : decode cX5_complainNow 28 = .ok (.iastore, 1) := by decide +kernel
theorem dX5_complainNow_29 : decode cX5_complainNow 29 = .ok (.aload_n 0, 1) := by decide +kernel
theorem dX5_complainNow_30 : decode cX5_complainNow 30 = .ok (.getfield 7, 3) := by decide +kernel
theorem dX5_complainNow_33 : decode cX5_complainNow 33 = .ok (.iload 4, 2) := by decide +kernel
theorem dX5_complainNow_35 : decode cX5_complainNow 35 = .ok (.iconst 2, 1) := by decide +kernel
theorem dX5_complainNow_36 : decode cX5_complainNow 36 = .ok (.iadd, 1) := by decide +kernel
theorem dX5_complainNow_37 : decode cX5_complainNow 37 = .ok (.iload_n 3, 1) := by decide +kernel
theorem dX5_complainNow_38 : decode cX5_complainNow 38 = .ok (.iastore, 1) := by decide +kernel
theorem dX5_complainNow_39 : decode cX5_complainNow 39 = .ok (.aload_n 0, 1) := by decide +kernel
theorem dX5_complainNow_40 : decode cX5_complainNow 40 = .ok (.getfield 7, 3) := by decide +kernel
theorem dX5_complainNow_43 : decode cX5_complainNow 43 = .ok (.iload 4, 2) := by decide +kernel
theorem dX5_complainNow_45 : decode cX5_complainNow 45 = .ok (.iconst 3, 1) := by decide +kernel
theorem dX5_complainNow_46 : decode cX5_complainNow 46 = .ok (.iadd, 1) := by decide +kernel
theorem dX5_complainNow_47 : decode cX5_complainNow 47 = .ok (.iconst 0, 1) := by decide +kernel
theorem dX5_complainNow_48 : decode cX5_complainNow 48 = .ok (.iastore, 1) := by decide +kernel
theorem dX5_complainNow_49 : decode cX5_complainNow 49 = .ok (.aload_n 0, 1) := by decide +kernel
theorem dX5_complainNow_50 : decode cX5_complainNow 50 = .ok (.getfield 7, 3) := by decide +kernel
theorem dX5_complainNow_53 : decode cX5_complainNow 53 = .ok (.iload 4, 2) := by decide +kernel
theorem dX5_complainNow_55 : decode cX5_complainNow 55 = .ok (.iconst 4, 1) := by decide +kernel
theorem dX5_complainNow_56 : decode cX5_complainNow 56 = .ok (.iadd, 1) := by decide +kernel
theorem dX5_complainNow_57 : decode cX5_complainNow 57 = .ok (.iconst (-1), 1) := by decide +kernel
theorem dX5_complainNow_58 : decode cX5_complainNow 58 = .ok (.iastore, 1) := by decide +kernel
theorem dX5_complainNow_59 : decode cX5_complainNow 59 = .ok (.aload_n 0, 1) := by decide +kernel
theorem dX5_complainNow_60 : decode cX5_complainNow 60 = .ok (.getfield 7, 3) := by decide +kernel
theorem dX5_complainNow_63 : decode cX5_complainNow 63 = .ok (.iload 4, 2) := by decide +kernel
theorem dX5_complainNow_65 : decode cX5_complainNow 65 = .ok (.iconst 5, 1) := by decide +kernel
theorem dX5_complainNow_66 : decode cX5_complainNow 66 = .ok (.iadd, 1) := by decide +kernel
theorem dX5_complainNow_67 : decode cX5_complainNow 67 = .ok (.iconst 0, 1) := by decide +kernel
theorem dX5_complainNow_68 : decode cX5_complainNow 68 = .ok (.iastore, 1) := by decide +kernel
theorem dX5_complainNow_69 : decode cX5_complainNow 69 = .ok (.aload_n 0, 1) := by decide +kernel
theorem dX5_complainNow_70 : decode cX5_complainNow 70 = .ok (.getfield 7, 3) := by decide +kernel
theorem dX5_complainNow_73 : decode cX5_complainNow 73 = .ok (.iload 4, 2) := by decide +kernel
theorem dX5_complainNow_75 : decode cX5_complainNow 75 = .ok (.bipush 6, 2) := by decide +kernel
theorem dX5_complainNow_77 : decode cX5_complainNow 77 = .ok (.iadd, 1) := by decide +kernel
theorem dX5_complainNow_78 : decode cX5_complainNow 78 = .ok (.iconst (-1), 1) := by decide +kernel
theorem dX5_complainNow_79 : decode cX5_complainNow 79 = .ok (.iastore, 1) := by decide +kernel
theorem dX5_complainNow_80 : decode cX5_complainNow 80 = .ok (.aload_n 0, 1) := by decide +kernel
theorem dX5_complainNow_81 : decode cX5_complainNow 81 = .ok (.getfield 7, 3) := by decide +kernel
theorem dX5_complainNow_84 : decode cX5_complainNow 84 = .ok (.iload 4, 2) := by decide +kernel
theorem dX5_complainNow_86 : decode cX5_complainNow 86 = .ok (.bipush 7, 2) := by decide +kernel
theorem dX5_complainNow_88 : decode cX5_complainNow 88 = .ok (.iadd, 1) := by decide +kernel
theorem dX5_complainNow_89 : decode cX5_complainNow 89 = .ok (.iconst (-1), 1) := by decide +kernel
theorem dX5_complainNow_90 : decode cX5_complainNow 90 = .ok (.iastore, 1) := by decide +kernel
theorem dX5_complainNow_91 : decode cX5_complainNow 91 = .ok (.aload_n 0, 1) := by decide +kernel
theorem dX5_complainNow_92 : decode cX5_complainNow 92 = .ok (.getfield 7, 3) := by decide +kernel
theorem dX5_complainNow_95 : decode cX5_complainNow 95 = .ok (.iload 4, 2) := by decide +kernel
theorem dX5_complainNow_97 : decode cX5_complainNow 97 = .ok (.bipush 8, 2) := by decide +kernel
theorem dX5_complainNow_99 : decode cX5_complainNow 99 = .ok (.iadd, 1) := by decide +kernel
theorem dX5_complainNow_100 : decode cX5_complainNow 100 = .ok (.iconst (-1), 1) := by decide +kernel
theorem dX5_complainNow_101 : decode cX5_complainNow 101 = .ok (.iastore, 1) := by decide +kernel
theorem dX5_complainNow_102 : decode cX5_complainNow 102 = .ok (.aload_n 0, 1) := by decide +kernel
theorem dX5_complainNow_103 : decode cX5_complainNow 103 = .ok (.getfield 7, 3) := by decide +kernel
theorem dX5_complainNow_106 : decode cX5_complainNow 106 = .ok (.iload 4, 2) := by decide +kernel
theorem dX5_complainNow_108 : decode cX5_complainNow 108 = .ok (.bipush 9, 2) := by decide +kernel
theorem dX5_complainNow_110 : decode cX5_complainNow 110 = .ok (.iadd, 1) := by decide +kernel
theorem dX5_complainNow_111 : decode cX5_complainNow 111 = .ok (.iconst 0, 1) := by decide +kernel
theorem dX5_complainNow_112 : decode cX5_complainNow 112 = .ok (.iastore, 1) := by decide +kernel
theorem dX5_complainNow_113 : decode cX5_complainNow 113 = .ok (.aload_n 0, 1) := by decide +kernel
theorem dX5_complainNow_114 : decode cX5_complainNow 114 = .ok (.getfield 7, 3) := by decide +kernel
theorem dX5_complainNow_117 : decode cX5_complainNow 117 = .ok (.iconst 0, 1) := by decide +kernel
theorem dX5_complainNow_118 : decode cX5_complainNow 118 = .ok (.dup2, 1) := by decide +kernel
theorem dX5_complainNow_119 : decode cX5_complainNow 119 = .ok (.iaload, 1) := by decide +kernel
theorem dX5_complainNow_120 : decode cX5_complainNow 120 = .ok (.iconst 1, 1) := by decide +kernel
theorem dX5_complainNow_121 : decode cX5_complainNow 121 = .ok (.iadd, 1) := by decide +kernel
theorem dX5_complainNow_122 : decode cX5_complainNow 122 = .ok (.iastore, 1) := by decide +kernel
theorem dX5_complainNow_123 : decode cX5_complainNow 123 = .ok (.return_, 1) := by decide +kernel
theorem dX5_complain_0 : decode cX5_complain 0 = .ok (.aload_n 0, 1) := by decide +kernel
theorem dX5_complain_1 : decode cX5_complain 1 = .ok (.iconst 0, 1) := by decide +kernel
theorem dX5_complain_2 : decode cX5_complain 2 = .ok (.putfield 29, 3) := by decide +kernel
theorem dX5_complain_5 : decode cX5_complain 5 = .ok (.iload_n 1, 1) := by decide +kernel
theorem dX5_complain_6 : decode cX5_complain 6 = .ok (.invokestatic 60, 3) := by decide +kernel
theorem dX5_complain_9 : decode cX5_complain 9 = .ok (.ifCond .ne 9, 3) := by decide +kernel
theorem dX5_complain_12 : decode cX5_complain 12 = .ok (.aload_n 0, 1) := by decide +kernel
theorem dX5_complain_13 : decode cX5_complain 13 = .ok (.iconst 1, 1) := by decide +kernel
theorem dX5_complain_14 : decode cX5_complain 14 = .ok (.invokevirtual 64, 3) := by decide +kernel
theorem dX5_complain_17 : decode cX5_complain 17 = .ok (.ireturn, 1) := by decide +kernel
theorem dX5_complain_18 : decode cX5_complain 18 = .ok (.iload_n 2, 1) := by decide +kernel
theorem dX5_complain_19 : decode cX5_complain 19 = .ok (.iconst 1, 1) := by decide +kernel
theorem dX5_complain_20 : decode cX5_complain 20 = .ok (.bipush 9, 2) := by decide +kernel
theorem dX5_complain_22 : decode cX5_complain 22 = .ok (.invokestatic 36, 3) := by decide +kernel
theorem dX5_complain_25 : decode cX5_complain 25 = .ok (.ifCond .eq 13, 3) := by decide +kernel
theorem dX5_complain_28 : decode cX5_complain 28 = .ok (.iload_n 3, 1) := by decide +kernel
theorem dX5_complain_29 : decode cX5_complain 29 = .ok (.iconst 0, 1) := by decide +kernel
theorem dX5_complain_30 : decode cX5_complain 30 = .ok (.bipush 9, 2) := by decide +kernel
theorem dX5_complain_32 : decode cX5_complain 32 = .ok (.invokestatic 36, 3) := by decide +kernel
theorem dX5_complain_35 : decode cX5_complain 35 = .ok (.ifCond .ne 9, 3) := by decide +kernel
theorem dX5_complain_38 : decode cX5_complain 38 = .ok (.aload_n 0, 1) := by decide +kernel
theorem dX5_complain_39 : decode cX5_complain 39 = .ok (.iconst 2, 1) := by decide +kernel
theorem dX5_complain_40 : decode cX5_complain 40 = .ok (.invokevirtual 64, 3) := by decide +kernel
theorem dX5_complain_43 : decode cX5_complain 43 = .ok (.ireturn, 1) := by decide +kernel
theorem dX5_complain_44 : decode cX5_complain 44 = .ok (.aload_n 0, 1) := by decide +kernel
theorem dX5_complain_45 : decode cX5_complain 45 = .ok (.getfield 7, 3) := by decide +kernel
theorem dX5_complain_48 : decode cX5_complain 48 = .ok (.iconst 0, 1) := by decide +kernel
theorem dX5_complain_49 : decode cX5_complain 49 = .ok (.iaload, 1) := by decide +kernel
theorem dX5_complain_50 : decode cX5_complain 50 = .ok (.bipush 24, 2) := by decide +kernel
theorem dX5_complain_52 : decode cX5_complain 52 = .ok (.if_icmp .ne 9, 3) := by decide +kernel
theorem dX5_complain_55 : decode cX5_complain 55 = .ok (.aload_n 0, 1) := by decide +kernel
theorem dX5_complain_56 : decode cX5_complain 56 = .ok (.iconst 3, 1) := by decide +kernel
theorem dX5_complain_57 : decode cX5_complain 57 = .ok (.invokevirtual 64, 3) := by decide +kernel
theorem dX5_complain_60 : decode cX5_complain 60 = .ok (.ireturn, 1) := by decide +kernel
theorem dX5_complain_61 : decode cX5_complain 61 = .ok (.aload_n 0, 1) := by decide +kernel
theorem dX5_complain_62 : decode cX5_complain 62 = .ok (.invokevirtual 67, 3) := by decide +kernel
theorem dX5_complain_65 : decode cX5_complain 65 = .ok (.aload_n 0, 1) := by decide +kernel
theorem dX5_complain_66 : decode cX5_complain 66 = .ok (.iload_n 1, 1) := by decide +kernel
theorem dX5_complain_67 : decode cX5_complain 67 = .ok (.iload_n 2, 1) := by decide +kernel
theorem dX5_complain_68 : decode cX5_complain 68 = .ok (.iload_n 3, 1) := by decide +kernel
theorem dX5_complain_69 : decode cX5_complain 69 = .ok (.invokevirtual 76, 3) := by decide +kernel
theorem dX5_complain_72 : decode cX5_complain 72 = .ok (.aload_n 0, 1) := by decide +kernel
theorem dX5_complain_73 : decode cX5_complain 73 = .ok (.getfield 7, 3) := by decide +kernel
theorem dX5_complain_76 : decode cX5_complain 76 = .ok (.iconst 0, 1) := by decide +kernel
theorem dX5_complain_77 : decode cX5_complain 77 = .ok (.iaload, 1) := by decide +kernel
theorem dX5_complain_78 : decode cX5_complain 78 = .ok (.iconst 1, 1) := by decide +kernel
theorem dX5_complain_79 : decode cX5_complain 79 = .ok (.isub, 1) := by decide +kernel
theorem dX5_complain_80 : decode cX5_complain 80 = .ok (.ireturn, 1) := by decide +kernel
theorem dX5_fits_0 : decode cX5_fits 0 = .ok (.aload_n 0, 1) := by decide +kernel
theorem dX5_fits_1 : decode cX5_fits 1 = .ok (.getfield 7, 3) := by decide +kernel
theorem dX5_fits_4 : decode cX5_fits 4 = .ok (.iload_n 1, 1) := by decide +kernel
theorem dX5_fits_5 : decode cX5_fits 5 = .ok (.invokestatic 54, 3) := by decide +kernel
theorem dX5_fits_8 : decode cX5_fits 8 = .ok (.iaload, 1) := by decide +kernel
theorem dX5_fits_9 : decode cX5_fits 9 = .ok (.iload_n 2, 1) := by decide +kernel
theorem dX5_fits_10 : decode cX5_fits 10 = .ok (.invokestatic 44, 3) := by decide +kernel
theorem dX5_fits_13 : decode cX5_fits 13 = .ok (.istore_n 3, 1) := by decide +kernel
theorem dX5_fits_14 : decode cX5_fits 14 = .ok (.aload_n 0, 1) := by decide +kernel
theorem dX5_fits_15 : decode cX5_fits 15 = .ok (.getfield 7, 3) := by decide +kernel
theorem dX5_fits_18 : decode cX5_fits 18 = .ok (.iload_n 1, 1) := by decide +kernel
theorem dX5_fits_19 : decode cX5_fits 19 = .ok (.invokestatic 54, 3) := by decide +kernel
theorem dX5_fits_22 : decode cX5_fits 22 = .ok (.iconst 1, 1) := by decide +kernel
theorem dX5_fits_23 : decode cX5_fits 23 = .ok (.iadd, 1) := by decide +kernel
theorem dX5_fits_24 : decode cX5_fits 24 = .ok (.iaload, 1) := by decide +kernel
theorem dX5_fits_25 : decode cX5_fits 25 = .ok (.aload_n 0, 1) := by decide +kernel
theorem dX5_fits_26 : decode cX5_fits 26 = .ok (.getfield 7, 3) := by decide +kernel
theorem dX5_fits_29 : decode cX5_fits 29 = .ok (.iload_n 3, 1) := by decide +kernel
theorem dX5_fits_30 : decode cX5_fits 30 = .ok (.iconst 1, 1) := by decide +kernel
theorem dX5_fits_31 : decode cX5_fits 31 = .ok (.iadd, 1) := by decide +kernel
theorem dX5_fits_32 : decode cX5_fits 32 = .ok (.iaload, 1) := by decide +kernel
theorem dX5_fits_33 : decode cX5_fits 33 = .ok (.aload_n 0, 1) := by decide +kernel
theorem dX5_fits_34 : decode cX5_fits 34 = .ok (.getfield 7, 3) := by decide +kernel
theorem dX5_fits_37 : decode cX5_fits 37 = .ok (.iload_n 3, 1) := by decide +kernel
theorem dX5_fits_38 : decode cX5_fits 38 = .ok (.iconst 2, 1) := by decide +kernel
theorem dX5_fits_39 : decode cX5_fits 39 = .ok (.iadd, 1) := by decide +kernel
theorem dX5_fits_40 : decode cX5_fits 40 = .ok (.iaload, 1) := by decide +kernel
theorem dX5_fits_41 : decode cX5_fits 41 = .ok (.invokestatic 36, 3) := by decide +kernel
theorem dX5_fits_44 : decode cX5_fits 44 = .ok (.ireturn, 1) := by decide +kernel
theorem dX5_whyDecided_0 : decode cX5_whyDecided 0 = .ok (.aload_n 0, 1) := by decide +kernel
theorem dX5_whyDecided_1 : decode cX5_whyDecided 1 = .ok (.getfield 7, 3) := by decide +kernel
theorem dX5_whyDecided_4 : decode cX5_whyDecided 4 = .ok (.iload_n 1, 1) := by decide +kernel
theorem dX5_whyDecided_5 : decode cX5_whyDecided 5 = .ok (.invokestatic 54, 3) := by decide +kernel
theorem dX5_whyDecided_8 : decode cX5_whyDecided 8 = .ok (.iaload, 1) := by decide +kernel
theorem dX5_whyDecided_9 : decode cX5_whyDecided 9 = .ok (.istore 4, 2) := by decide +kernel
theorem dX5_whyDecided_11 : decode cX5_whyDecided 11 = .ok (.aload_n 0, 1) := by decide +kernel
theorem dX5_whyDecided_12 : decode cX5_whyDecided 12 = .ok (.getfield 7, 3) := by decide +kernel
theorem dX5_whyDecided_15 : decode cX5_whyDecided 15 = .ok (.iload_n 1, 1) := by decide +kernel
theorem dX5_whyDecided_16 : decode cX5_whyDecided 16 = .ok (.invokestatic 54, 3) := by decide +kernel
theorem dX5_whyDecided_19 : decode cX5_whyDecided 19 = .ok (.iconst 1, 1) := by decide +kernel
theorem dX5_whyDecided_20 : decode cX5_whyDecided 20 = .ok (.iadd, 1) := by decide +kernel
theorem dX5_whyDecided_21 : decode cX5_whyDecided 21 = .ok (.iaload, 1) := by decide +kernel
theorem dX5_whyDecided_22 : decode cX5_whyDecided 22 = .ok (.invokestatic 80, 3) := by decide +kernel
theorem dX5_whyDecided_25 : decode cX5_whyDecided 25 = .ok (.istore 5, 2) := by decide +kernel
theorem dX5_whyDecided_27 : decode cX5_whyDecided 27 = .ok (.aload_n 0, 1) := by decide +kernel
theorem dX5_whyDecided_28 : decode cX5_whyDecided 28 = .ok (.getfield 7, 3) := by decide +kernel
theorem dX5_whyDecided_31 : decode cX5_whyDecided 31 = .ok (.iload_n 1, 1) := by decide +kernel
theorem dX5_whyDecided_32 : decode cX5_whyDecided 32 = .ok (.invokestatic 54, 3) := by decide +kernel
theorem dX5_whyDecided_35 : decode cX5_whyDecided 35 = .ok (.iconst 3, 1) := by decide +kernel
theorem dX5_whyDecided_36 : decode cX5_whyDecided 36 = .ok (.iadd, 1) := by decide +kernel
theorem dX5_whyDecided_37 : decode cX5_whyDecided 37 = .ok (.iaload, 1) := by decide +kernel
theorem dX5_whyDecided_38 : decode cX5_whyDecided 38 = .ok (.ifCond .eq 5, 3) := by decide +kernel
theorem dX5_whyDecided_41 : decode cX5_whyDecided 41 = .ok (.iconst 1, 1) := by decide +kernel
theorem dX5_whyDecided_42 : decode cX5_whyDecided 42 = .ok (.ireturn, 1) := by decide +kernel
theorem dX5_whyDecided_43 : decode cX5_whyDecided 43 = .ok (.aload_n 0, 1) := by decide +kernel
theorem dX5_whyDecided_44 : decode cX5_whyDecided 44 = .ok (.iload 4, 2) := by decide +kernel
theorem dX5_whyDecided_46 : decode cX5_whyDecided 46 = .ok (.iload_n 2, 1) := by decide +kernel
theorem dX5_whyDecided_47 : decode cX5_whyDecided 47 = .ok (.invokevirtual 51, 3) := by decide +kernel
theorem dX5_whyDecided_50 : decode cX5_whyDecided 50 = .ok (.ifCond .ne 5, 3) := by decide +kernel
theorem dX5_whyDecided_53 : decode cX5_whyDecided 53 = .ok (.iconst 2, 1) := by decide +kernel
theorem dX5_whyDecided_54 : decode cX5_whyDecided 54 = .ok (.ireturn, 1) := by decide +kernel
theorem dX5_whyDecided_55 : decode cX5_whyDecided 55 = .ok (.aload_n 0, 1) := by decide +kernel
theorem dX5_whyDecided_56 : decode cX5_whyDecided 56 = .ok (.iload_n 1, 1) := by decide +kernel
theorem dX5_whyDecided_57 : decode cX5_whyDecided 57 = .ok (.iload_n 2, 1) := by decide +kernel
theorem dX5_whyDecided_58 : decode cX5_whyDecided 58 = .ok (.invokevirtual 83, 3) := by decide +kernel
theorem dX5_whyDecided_61 : decode cX5_whyDecided 61 = .ok (.ifCond .ne 5, 3) := by decide +kernel
theorem dX5_whyDecided_64 : decode cX5_whyDecided 64 = .ok (.iconst 3, 1) := by decide +kernel
theorem dX5_whyDecided_65 : decode cX5_whyDecided 65 = .ok (.ireturn, 1) := by decide +kernel
theorem dX5_whyDecided_66 : decode cX5_whyDecided 66 = .ok (.aload_n 0, 1) := by decide +kernel
theorem dX5_whyDecided_67 : decode cX5_whyDecided 67 = .ok (.iload 4, 2) := by decide +kernel
theorem dX5_whyDecided_69 : decode cX5_whyDecided 69 = .ok (.iload 5, 2) := by decide +kernel
theorem dX5_whyDecided_71 : decode cX5_whyDecided 71 = .ok (.invokevirtual 86, 3) := by decide +kernel
theorem dX5_whyDecided_74 : decode cX5_whyDecided 74 = .ok (.ifCond .eq 32, 3) := by decide +kernel
theorem dX5_whyDecided_77 : decode cX5_whyDecided 77 = .ok (.aload_n 0, 1) := by decide +kernel
theorem dX5_whyDecided_78 : decode cX5_whyDecided 78 = .ok (.getfield 7, 3) := by decide +kernel
theorem dX5_whyDecided_81 : decode cX5_whyDecided 81 = .ok (.sipush 130, 3) := by decide +kernel
theorem dX5_whyDecided_84 : decode cX5_whyDecided 84 = .ok (.iconst 3, 1) := by decide +kernel
theorem dX5_whyDecided_85 : decode cX5_whyDecided 85 = .ok (.aload_n 0, 1) := by decide +kernel
theorem dX5_whyDecided_86 : decode cX5_whyDecided 86 = .ok (.iload 4, 2) := by decide +kernel
theorem dX5_whyDecided_88 : decode cX5_whyDecided 88 = .ok (.iload 5, 2) := by decide +kernel
theorem dX5_whyDecided_90 : decode cX5_whyDecided 90 = .ok (.invokevirtual 48, 3) := by decide +kernel
theorem dX5_whyDecided_93 : decode cX5_whyDecided 93 = .ok (.imul, 1) := by decide +kernel
theorem dX5_whyDecided_94 : decode cX5_whyDecided 94 = .ok (.iadd, 1) := by decide +kernel
theorem dX5_whyDecided_95 : decode cX5_whyDecided 95 = .ok (.iaload, 1) := by decide +kernel
theorem dX5_whyDecided_96 : decode cX5_whyDecided 96 = .ok (.iload_n 2, 1) := by decide +kernel
theorem dX5_whyDecided_97 : decode cX5_whyDecided 97 = .ok (.if_icmp .eq 9, 3) := by decide +kernel
theorem dX5_whyDecided_100 : decode cX5_whyDecided 100 = .ok (.iload_n 3, 1) := by decide +kernel
theorem dX5_whyDecided_101 : decode cX5_whyDecided 101 = .ok (.ifCond .ne 5, 3) := by decide +kernel
theorem dX5_whyDecided_104 : decode cX5_whyDecided 104 = .ok (.iconst 4, 1) := by decide +kernel
theorem dX5_whyDecided_105 : decode cX5_whyDecided 105 = .ok (.ireturn, 1) := by decide +kernel
theorem dX5_whyDecided_106 : decode cX5_whyDecided 106 = .ok (.aload_n 0, 1) := by decide +kernel
theorem dX5_whyDecided_107 : decode cX5_whyDecided 107 = .ok (.iload 4, 2) := by decide +kernel
theorem dX5_whyDecided_109 : decode cX5_whyDecided 109 = .ok (.iload_n 2, 1) := by decide +kernel
theorem dX5_whyDecided_110 : decode cX5_whyDecided 110 = .ok (.invokevirtual 57, 3) := by decide +kernel
theorem dX5_whyDecided_113 : decode cX5_whyDecided 113 = .ok (.aload_n 0, 1) := by decide +kernel
theorem dX5_whyDecided_114 : decode cX5_whyDecided 114 = .ok (.iload 4, 2) := by decide +kernel
theorem dX5_whyDecided_116 : decode cX5_whyDecided 116 = .ok (.invokevirtual 89, 3) := by decide +kernel
theorem dX5_whyDecided_119 : decode cX5_whyDecided 119 = .ok (.if_icmp .le 7, 3) := by decide +kernel
theorem dX5_whyDecided_122 : decode cX5_whyDecided 122 = .ok (.iconst 5, 1) := by decide +kernel
theorem dX5_whyDecided_123 : decode cX5_whyDecided 123 = .ok (.goto 4, 3) := by decide +kernel
theorem dX5_whyDecided_126 : decode cX5_whyDecided 126 = .ok (.iconst 0, 1) := by decide +kernel
theorem dX5_whyDecided_127 : decode cX5_whyDecided 127 = .ok (.ireturn, 1) := by decide +kernel
theorem dX5_whyJudged_0 : decode cX5_whyJudged 0 = .ok (.aload_n 0, 1) := by decide +kernel
theorem dX5_whyJudged_1 : decode cX5_whyJudged 1 = .ok (.getfield 7, 3) := by decide +kernel
theorem dX5_whyJudged_4 : decode cX5_whyJudged 4 = .ok (.iload_n 1, 1) := by decide +kernel
theorem dX5_whyJudged_5 : decode cX5_whyJudged 5 = .ok (.invokestatic 54, 3) := by decide +kernel
theorem dX5_whyJudged_8 : decode cX5_whyJudged 8 = .ok (.iaload, 1) := by decide +kernel
theorem dX5_whyJudged_9 : decode cX5_whyJudged 9 = .ok (.istore_n 3, 1) := by decide +kernel
theorem dX5_whyJudged_10 : decode cX5_whyJudged 10 = .ok (.aload_n 0, 1) := by decide +kernel
theorem dX5_whyJudged_11 : decode cX5_whyJudged 11 = .ok (.getfield 7, 3) := by decide +kernel
theorem dX5_whyJudged_14 : decode cX5_whyJudged 14 = .ok (.iload_n 1, 1) := by decide +kernel
theorem dX5_whyJudged_15 : decode cX5_whyJudged 15 = .ok (.invokestatic 54, 3) := by decide +kernel
theorem dX5_whyJudged_18 : decode cX5_whyJudged 18 = .ok (.iconst 3, 1) := by decide +kernel
theorem dX5_whyJudged_19 : decode cX5_whyJudged 19 = .ok (.iadd, 1) := by decide +kernel
theorem dX5_whyJudged_20 : decode cX5_whyJudged 20 = .ok (.iaload, 1) := by decide +kernel
theorem dX5_whyJudged_21 : decode cX5_whyJudged 21 = .ok (.iconst 2, 1) := by decide +kernel
theorem dX5_whyJudged_22 : decode cX5_whyJudged 22 = .ok (.if_icmp .eq 5, 3) := by decide +kernel
theorem dX5_whyJudged_25 : decode cX5_whyJudged 25 = .ok (.iconst 1, 1) := by decide +kernel
theorem dX5_whyJudged_26 : decode cX5_whyJudged 26 = .ok (.ireturn, 1) := by decide +kernel
theorem dX5_whyJudged_27 : decode cX5_whyJudged 27 = .ok (.aload_n 0, 1) := by decide +kernel
theorem dX5_whyJudged_28 : decode cX5_whyJudged 28 = .ok (.iload_n 3, 1) := by decide +kernel
theorem dX5_whyJudged_29 : decode cX5_whyJudged 29 = .ok (.iload_n 2, 1) := by decide +kernel
theorem dX5_whyJudged_30 : decode cX5_whyJudged 30 = .ok (.invokevirtual 51, 3) := by decide +kernel
theorem dX5_whyJudged_33 : decode cX5_whyJudged 33 = .ok (.ifCond .ne 5, 3) := by decide +kernel
theorem dX5_whyJudged_36 : decode cX5_whyJudged 36 = .ok (.iconst 2, 1) := by decide +kernel
theorem dX5_whyJudged_37 : decode cX5_whyJudged 37 = .ok (.ireturn, 1) := by decide +kernel
theorem dX5_whyJudged_38 : decode cX5_whyJudged 38 = .ok (.aload_n 0, 1) := by decide +kernel
theorem dX5_whyJudged_39 : decode cX5_whyJudged 39 = .ok (.iload_n 1, 1) := by decide +kernel
theorem dX5_whyJudged_40 : decode cX5_whyJudged 40 = .ok (.iload_n 2, 1) := by decide +kernel
theorem dX5_whyJudged_41 : decode cX5_whyJudged 41 = .ok (.invokevirtual 83, 3) := by decide +kernel
theorem dX5_whyJudged_44 : decode cX5_whyJudged 44 = .ok (.ifCond .ne 5, 3) := by decide +kernel
theorem dX5_whyJudged_47 : decode cX5_whyJudged 47 = .ok (.iconst 3, 1) := by decide +kernel
theorem dX5_whyJudged_48 : decode cX5_whyJudged 48 = .ok (.ireturn, 1) := by decide +kernel
theorem dX5_whyJudged_49 : decode cX5_whyJudged 49 = .ok (.aload_n 0, 1) := by decide +kernel
theorem dX5_whyJudged_50 : decode cX5_whyJudged 50 = .ok (.iload_n 3, 1) := by decide +kernel
theorem dX5_whyJudged_51 : decode cX5_whyJudged 51 = .ok (.iload_n 2, 1) := by decide +kernel
theorem dX5_whyJudged_52 : decode cX5_whyJudged 52 = .ok (.invokevirtual 57, 3) := by decide +kernel
theorem dX5_whyJudged_55 : decode cX5_whyJudged 55 = .ok (.aload_n 0, 1) := by decide +kernel
theorem dX5_whyJudged_56 : decode cX5_whyJudged 56 = .ok (.iload_n 3, 1) := by decide +kernel
theorem dX5_whyJudged_57 : decode cX5_whyJudged 57 = .ok (.aload_n 0, 1) := by decide +kernel
theorem dX5_whyJudged_58 : decode cX5_whyJudged 58 = .ok (.getfield 7, 3) := by decide +kernel
theorem dX5_whyJudged_61 : decode cX5_whyJudged 61 = .ok (.iload_n 1, 1) := by decide +kernel
theorem dX5_whyJudged_62 : decode cX5_whyJudged 62 = .ok (.invokestatic 54, 3) := by decide +kernel
theorem dX5_whyJudged_65 : decode cX5_whyJudged 65 = .ok (.iconst 4, 1) := by decide +kernel
theorem dX5_whyJudged_66 : decode cX5_whyJudged 66 = .ok (.iadd, 1) := by decide +kernel
theorem dX5_whyJudged_67 : decode cX5_whyJudged 67 = .ok (.iaload, 1) := by decide +kernel
theorem dX5_whyJudged_68 : decode cX5_whyJudged 68 = .ok (.invokevirtual 57, 3) := by decide +kernel
theorem dX5_whyJudged_71 : decode cX5_whyJudged 71 = .ok (.isub, 1) := by decide +kernel
theorem dX5_whyJudged_72 : decode cX5_whyJudged 72 = .ok (.istore 4, 2) := by decide +kernel
theorem dX5_whyJudged_74 : decode cX5_whyJudged 74 = .ok (.iload 4, 2) := by decide +kernel
theorem dX5_whyJudged_76 : decode cX5_whyJudged 76 = .ok (.ifCond .ge 5, 3) := by decide +kernel
theorem dX5_whyJudged_79 : decode cX5_whyJudged 79 = .ok (.iconst 4, 1) := by decide +kernel
theorem dX5_whyJudged_80 : decode cX5_whyJudged 80 = .ok (.ireturn, 1) := by decide +kernel
theorem dX5_whyJudged_81 : decode cX5_whyJudged 81 = .ok (.iload 4, 2) := by decide +kernel
theorem dX5_whyJudged_83 : decode cX5_whyJudged 83 = .ok (.aload_n 0, 1) := by decide +kernel
theorem dX5_whyJudged_84 : decode cX5_whyJudged 84 = .ok (.iload_n 3, 1) := by decide +kernel
theorem dX5_whyJudged_85 : decode cX5_whyJudged 85 = .ok (.invokevirtual 89, 3) := by decide +kernel
theorem dX5_whyJudged_88 : decode cX5_whyJudged 88 = .ok (.if_icmp .le 7, 3) := by decide +kernel
theorem dX5_whyJudged_91 : decode cX5_whyJudged 91 = .ok (.iconst 5, 1) := by decide +kernel
theorem dX5_whyJudged_92 : decode cX5_whyJudged 92 = .ok (.goto 4, 3) := by decide +kernel
theorem dX5_whyJudged_95 : decode cX5_whyJudged 95 = .ok (.iconst 0, 1) := by decide +kernel
theorem dX5_whyJudged_96 : decode cX5_whyJudged 96 = .ok (.ireturn, 1) := by decide +kernel
theorem dX5_why_0 : decode cX5_why 0 = .ok (.iload_n 3, 1) := by decide +kernel
theorem dX5_why_1 : decode cX5_why 1 = .ok (.iconst (-1), 1) := by decide +kernel
theorem dX5_why_2 : decode cX5_why 2 = .ok (.if_icmp .ne 12, 3) := by decide +kernel
theorem dX5_why_5 : decode cX5_why 5 = .ok (.aload_n 0, 1) := by decide +kernel
theorem dX5_why_6 : decode cX5_why 6 = .ok (.iload_n 1, 1) := by decide +kernel
theorem dX5_why_7 : decode cX5_why 7 = .ok (.iload_n 2, 1) := by decide +kernel
theorem dX5_why_8 : decode cX5_why 8 = .ok (.invokevirtual 92, 3) := by decide +kernel
theorem dX5_why_11 : decode cX5_why 11 = .ok (.goto 10, 3) := by decide +kernel
theorem dX5_why_14 : decode cX5_why 14 = .ok (.aload_n 0, 1) := by decide +kernel
theorem dX5_why_15 : decode cX5_why 15 = .ok (.iload_n 1, 1) := by decide +kernel
theorem dX5_why_16 : decode cX5_why 16 = .ok (.iload_n 2, 1) := by decide +kernel
theorem dX5_why_17 : decode cX5_why 17 = .ok (.iload_n 3, 1) := by decide +kernel
theorem dX5_why_18 : decode cX5_why 18 = .ok (.invokevirtual 95, 3) := by decide +kernel
theorem dX5_why_21 : decode cX5_why 21 = .ok (.ireturn, 1) := by decide +kernel
theorem dX5_give_0 : decode cX5_give 0 = .ok (.aload_n 0, 1) := by decide +kernel
theorem dX5_give_1 : decode cX5_give 1 = .ok (.getfield 7, 3) := by decide +kernel
theorem dX5_give_4 : decode cX5_give 4 = .ok (.iload_n 1, 1) := by decide +kernel
theorem dX5_give_5 : decode cX5_give 5 = .ok (.invokestatic 54, 3) := by decide +kernel
theorem dX5_give_8 : decode cX5_give 8 = .ok (.iaload, 1) := by decide +kernel
theorem dX5_give_9 : decode cX5_give 9 = .ok (.istore_n 3, 1) := by decide +kernel
theorem dX5_give_10 : decode cX5_give 10 = .ok (.aload_n 0, 1) := by decide +kernel
theorem dX5_give_11 : decode cX5_give 11 = .ok (.iload_n 3, 1) := by decide +kernel
theorem dX5_give_12 : decode cX5_give 12 = .ok (.iload_n 2, 1) := by decide +kernel
theorem dX5_give_13 : decode cX5_give 13 = .ok (.invokevirtual 57, 3) := by decide +kernel
theorem dX5_give_16 : decode cX5_give 16 = .ok (.aload_n 0, 1) := by decide +kernel
theorem dX5_give_17 : decode cX5_give 17 = .ok (.getfield 7, 3) := by decide +kernel
theorem dX5_give_20 : decode cX5_give 20 = .ok (.iload_n 1, 1) := by decide +kernel
theorem dX5_give_21 : decode cX5_give 21 = .ok (.invokestatic 54, 3) := by decide +kernel
theorem dX5_give_24 : decode cX5_give 24 = .ok (.iconst 5, 1) := by decide +kernel
theorem dX5_give_25 : decode cX5_give 25 = .ok (.iadd, 1) := by decide +kernel
theorem dX5_give_26 : decode cX5_give 26 = .ok (.iaload, 1) := by decide +kernel
theorem dX5_give_27 : decode cX5_give 27 = .ok (.isub, 1) := by decide +kernel
theorem dX5_give_28 : decode cX5_give 28 = .ok (.istore 4, 2) := by decide +kernel
theorem dX5_give_30 : decode cX5_give 30 = .ok (.aload_n 0, 1) := by decide +kernel
theorem dX5_give_31 : decode cX5_give 31 = .ok (.getfield 7, 3) := by decide +kernel
theorem dX5_give_34 : decode cX5_give 34 = .ok (.iload_n 1, 1) := by decide +kernel
theorem dX5_give_35 : decode cX5_give 35 = .ok (.invokestatic 54, 3) := by decide +kernel
theorem dX5_give_38 : decode cX5_give 38 = .ok (.iconst 4, 1) := by decide +kernel
theorem dX5_give_39 : decode cX5_give 39 = .ok (.iadd, 1) := by decide +kernel
theorem dX5_give_40 : decode cX5_give 40 = .ok (.iload_n 2, 1) := by decide +kernel
theorem dX5_give_41 : decode cX5_give 41 = .ok (.iastore, 1) := by decide +kernel
theorem dX5_give_42 : decode cX5_give 42 = .ok (.aload_n 0, 1) := by decide +kernel
theorem dX5_give_43 : decode cX5_give 43 = .ok (.getfield 7, 3) := by decide +kernel
theorem dX5_give_46 : decode cX5_give 46 = .ok (.iload_n 1, 1) := by decide +kernel
theorem dX5_give_47 : decode cX5_give 47 = .ok (.invokestatic 54, 3) := by decide +kernel
theorem dX5_give_50 : decode cX5_give 50 = .ok (.iconst 5, 1) := by decide +kernel
theorem dX5_give_51 : decode cX5_give 51 = .ok (.iadd, 1) := by decide +kernel
theorem dX5_give_52 : decode cX5_give 52 = .ok (.dup2, 1) := by decide +kernel
theorem dX5_give_53 : decode cX5_give 53 = .ok (.iaload, 1) := by decide +kernel
theorem dX5_give_54 : decode cX5_give 54 = .ok (.iload 4, 2) := by decide +kernel
theorem dX5_give_56 : decode cX5_give 56 = .ok (.iadd, 1) := by decide +kernel
theorem dX5_give_57 : decode cX5_give 57 = .ok (.iastore, 1) := by decide +kernel
theorem dX5_give_58 : decode cX5_give 58 = .ok (.aload_n 0, 1) := by decide +kernel
theorem dX5_give_59 : decode cX5_give 59 = .ok (.getfield 7, 3) := by decide +kernel
theorem dX5_give_62 : decode cX5_give 62 = .ok (.iload_n 3, 1) := by decide +kernel
theorem dX5_give_63 : decode cX5_give 63 = .ok (.invokestatic 25, 3) := by decide +kernel
theorem dX5_give_66 : decode cX5_give 66 = .ok (.iconst 2, 1) := by decide +kernel
theorem dX5_give_67 : decode cX5_give 67 = .ok (.iadd, 1) := by decide +kernel
theorem dX5_give_68 : decode cX5_give 68 = .ok (.dup2, 1) := by decide +kernel
theorem dX5_give_69 : decode cX5_give 69 = .ok (.iaload, 1) := by decide +kernel
theorem dX5_give_70 : decode cX5_give 70 = .ok (.iload 4, 2) := by decide +kernel
theorem dX5_give_72 : decode cX5_give 72 = .ok (.iadd, 1) := by decide +kernel
theorem dX5_give_73 : decode cX5_give 73 = .ok (.iastore, 1) := by decide +kernel
theorem dX5_give_74 : decode cX5_give 74 = .ok (.return_, 1) := by decide +kernel
theorem dX5_setPrecedent_0 : decode cX5_setPrecedent 0 = .ok (.aload_n 0, 1) := by decide +kernel
theorem dX5_setPrecedent_1 : decode cX5_setPrecedent 1 = .ok (.getfield 7, 3) := by decide +kernel
theorem dX5_setPrecedent_4 : decode cX5_setPrecedent 4 = .ok (.iconst 5, 1) := by decide +kernel
theorem dX5_setPrecedent_5 : decode cX5_setPrecedent 5 = .ok (.iaload, 1) := by decide +kernel
theorem dX5_setPrecedent_6 : decode cX5_setPrecedent 6 = .ok (.istore_n 3, 1) := by decide +kernel
theorem dX5_setPrecedent_7 : decode cX5_setPrecedent 7 = .ok (.aload_n 0, 1) := by decide +kernel
theorem dX5_setPrecedent_8 : decode cX5_setPrecedent 8 = .ok (.getfield 7, 3) := by decide +kernel
theorem dX5_setPrecedent_11 : decode cX5_setPrecedent 11 = .ok (.sipush 130, 3) := by decide +kernel
theorem dX5_setPrecedent_14 : decode cX5_setPrecedent 14 = .ok (.iconst 3, 1) := by decide +kernel
theorem dX5_setPrecedent_15 : decode cX5_setPrecedent 15 = .ok (.iload_n 3, 1) := by decide +kernel
theorem dX5_setPrecedent_16 : decode cX5_setPrecedent 16 = .ok (.imul, 1) := by decide +kernel
theorem dX5_setPrecedent_17 : decode cX5_setPrecedent 17 = .ok (.iadd, 1) := by decide +kernel
theorem dX5_setPrecedent_18 : decode cX5_setPrecedent 18 = .ok (.iload_n 2, 1) := by decide +kernel
theorem dX5_setPrecedent_19 : decode cX5_setPrecedent 19 = .ok (.iastore, 1) := by decide +kernel
theorem dX5_setPrecedent_20 : decode cX5_setPrecedent 20 = .ok (.aload_n 0, 1) := by decide +kernel
theorem dX5_setPrecedent_21 : decode cX5_setPrecedent 21 = .ok (.getfield 7, 3) := by decide +kernel
theorem dX5_setPrecedent_24 : decode cX5_setPrecedent 24 = .ok (.sipush 130, 3) := by decide +kernel
theorem dX5_setPrecedent_27 : decode cX5_setPrecedent 27 = .ok (.iconst 3, 1) := by decide +kernel
theorem dX5_setPrecedent_28 : decode cX5_setPrecedent 28 = .ok (.iload_n 3, 1) := by decide +kernel
theorem dX5_setPrecedent_29 : decode cX5_setPrecedent 29 = .ok (.imul, 1) := by decide +kernel
theorem dX5_setPrecedent_30 : decode cX5_setPrecedent 30 = .ok (.iadd, 1) := by decide +kernel
theorem dX5_setPrecedent_31 : decode cX5_setPrecedent 31 = .ok (.iconst 1, 1) := by decide +kernel
theorem dX5_setPrecedent_32 : decode cX5_setPrecedent 32 = .ok (.iadd, 1) := by decide +kernel
theorem dX5_setPrecedent_33 : decode cX5_setPrecedent 33 = .ok (.aload_n 0, 1) := by decide +kernel
theorem dX5_setPrecedent_34 : decode cX5_setPrecedent 34 = .ok (.getfield 7, 3) := by decide +kernel
theorem dX5_setPrecedent_37 : decode cX5_setPrecedent 37 = .ok (.iconst 1, 1) := by decide +kernel
theorem dX5_setPrecedent_38 : decode cX5_setPrecedent 38 = .ok (.iaload, 1) := by decide +kernel
theorem dX5_setPrecedent_39 : decode cX5_setPrecedent 39 = .ok (.iastore, 1) := by decide +kernel
theorem dX5_setPrecedent_40 : decode cX5_setPrecedent 40 = .ok (.aload_n 0, 1) := by decide +kernel
theorem dX5_setPrecedent_41 : decode cX5_setPrecedent 41 = .ok (.getfield 7, 3) := by decide +kernel
theorem dX5_setPrecedent_44 : decode cX5_setPrecedent 44 = .ok (.sipush 130, 3) := by decide +kernel
theorem dX5_setPrecedent_47 : decode cX5_setPrecedent 47 = .ok (.iconst 3, 1) := by decide +kernel
theorem dX5_setPrecedent_48 : decode cX5_setPrecedent 48 = .ok (.iload_n 3, 1) := by decide +kernel
theorem dX5_setPrecedent_49 : decode cX5_setPrecedent 49 = .ok (.imul, 1) := by decide +kernel
theorem dX5_setPrecedent_50 : decode cX5_setPrecedent 50 = .ok (.iadd, 1) := by decide +kernel
theorem dX5_setPrecedent_51 : decode cX5_setPrecedent 51 = .ok (.iconst 2, 1) := by decide +kernel
theorem dX5_setPrecedent_52 : decode cX5_setPrecedent 52 = .ok (.iadd, 1) := by decide +kernel
theorem dX5_setPrecedent_53 : decode cX5_setPrecedent 53 = .ok (.iload_n 1, 1) := by decide +kernel
theorem dX5_setPrecedent_54 : decode cX5_setPrecedent 54 = .ok (.iastore, 1) := by decide +kernel
theorem dX5_setPrecedent_55 : decode cX5_setPrecedent 55 = .ok (.aload_n 0, 1) := by decide +kernel
theorem dX5_setPrecedent_56 : decode cX5_setPrecedent 56 = .ok (.getfield 7, 3) := by decide +kernel
theorem dX5_setPrecedent_59 : decode cX5_setPrecedent 59 = .ok (.bipush 118, 2) := by decide +kernel
theorem dX5_setPrecedent_61 : decode cX5_setPrecedent 61 = .ok (.iconst 3, 1) := by decide +kernel
theorem dX5_setPrecedent_62 : decode cX5_setPrecedent 62 = .ok (.aload_n 0, 1) := by decide +kernel
theorem dX5_setPrecedent_63 : decode cX5_setPrecedent 63 = .ok (.getfield 7, 3) := by decide +kernel
theorem dX5_setPrecedent_66 : decode cX5_setPrecedent 66 = .ok (.iload_n 1, 1) := by decide +kernel
theorem dX5_setPrecedent_67 : decode cX5_setPrecedent 67 = .ok (.invokestatic 54, 3) := by decide +kernel
theorem dX5_setPrecedent_70 : decode cX5_setPrecedent 70 = .ok (.iaload, 1) := by decide +kernel
theorem dX5_setPrecedent_71 : decode cX5_setPrecedent 71 = .ok (.imul, 1) := by decide +kernel
theorem dX5_setPrecedent_72 : decode cX5_setPrecedent 72 = .ok (.iadd, 1) := by decide +kernel
theorem dX5_setPrecedent_73 : decode cX5_setPrecedent 73 = .ok (.aload_n 0, 1) := by decide +kernel
theorem dX5_setPrecedent_74 : decode cX5_setPrecedent 74 = .ok (.getfield 7, 3) := by decide +kernel
theorem dX5_setPrecedent_77 : decode cX5_setPrecedent 77 = .ok (.iload_n 1, 1) := by decide +kernel
theorem dX5_setPrecedent_78 : decode cX5_setPrecedent 78 = .ok (.invokestatic 54, 3) := by decide +kernel
theorem dX5_setPrecedent_81 : decode cX5_setPrecedent 81 = .ok (.iconst 1, 1) := by decide +kernel
theorem dX5_setPrecedent_82 : decode cX5_setPrecedent 82 = .ok (.iadd, 1) := by decide +kernel
theorem dX5_setPrecedent_83 : decode cX5_setPrecedent 83 = .ok (.iaload, 1) := by decide +kernel
theorem dX5_setPrecedent_84 : decode cX5_setPrecedent 84 = .ok (.invokestatic 80, 3) := by decide +kernel
theorem dX5_setPrecedent_87 : decode cX5_setPrecedent 87 = .ok (.iadd, 1) := by decide +kernel
theorem dX5_setPrecedent_88 : decode cX5_setPrecedent 88 = .ok (.iload_n 3, 1) := by decide +kernel
theorem dX5_setPrecedent_89 : decode cX5_setPrecedent 89 = .ok (.iastore, 1) := by decide +kernel
theorem dX5_setPrecedent_90 : decode cX5_setPrecedent 90 = .ok (.aload_n 0, 1) := by decide +kernel
theorem dX5_setPrecedent_91 : decode cX5_setPrecedent 91 = .ok (.getfield 7, 3) := by decide +kernel
theorem dX5_setPrecedent_94 : decode cX5_setPrecedent 94 = .ok (.iconst 5, 1) := by decide +kernel
theorem dX5_setPrecedent_95 : decode cX5_setPrecedent 95 = .ok (.dup2, 1) := by decide +kernel
theorem dX5_setPrecedent_96 : decode cX5_setPrecedent 96 = .ok (.iaload, 1) := by decide +kernel
theorem dX5_setPrecedent_97 : decode cX5_setPrecedent 97 = .ok (.iconst 1, 1) := by decide +kernel
theorem dX5_setPrecedent_98 : decode cX5_setPrecedent 98 = .ok (.iadd, 1) := by decide +kernel
theorem dX5_setPrecedent_99 : decode cX5_setPrecedent 99 = .ok (.iastore, 1) := by decide +kernel
theorem dX5_setPrecedent_100 : decode cX5_setPrecedent 100 = .ok (.iload_n 3, 1) := by decide +kernel
theorem dX5_setPrecedent_101 : decode cX5_setPrecedent 101 = .ok (.ireturn, 1) := by decide +kernel
def f_X5_thrown (m : XS) : Option (Int32) :=
    some (m 0 6)
set_option maxRecDepth 100000 in
set_option maxHeartbeats 4000000 in
theorem p_X5_thrown (l : Launch) (E : TE) (x m : XS) (g o : Int64) {r : Int32} (hf : f_X5_thrown m = some r) : MG l E yX5_thrown cX5_thrown 1 (some .int) 0 [rf E 211] (Wd E x m g o) (Wd E x m g o) (some (.int r)) := by
  unfold f_X5_thrown at hf
  refine m_in (by decide) (Nat.le_of_ble_eq_true rfl) ?_
  intro p e s mi args below meth c H ls hx hb hr hlk hml hown hB hK hW hS hl
  have hl : lv_has ls 1 [(0, rf E 211)] := hl
  refine lv_aload_n hx hb dX5_thrown_0 rfl (lv_at hl 0 rfl) ?_
  refine gf_X5_29 hx hb hB hK hown hW dX5_thrown_1 ?_
  cases hf
  exact e_i hx hb hr hlk hW hS dX5_thrown_4
def f_X5_fails (m : XS) (a0 : Int32) : Option (Int32 × XS) :=
    (some (ux m 0 6 a0)).bind fun m2 =>
    some (0, m2)
set_option maxRecDepth 100000 in
set_option maxHeartbeats 4000000 in
theorem p_X5_fails (l : Launch) (E : TE) (x m : XS) (g o : Int64) {a0 : Int32} {r : Int32} {mr : XS} (hf : f_X5_fails m a0 = some (r, mr)) : MG l E yX5_fails cX5_fails 2 (some .int) 0 [rf E 211, .int a0] (Wd E x m g o) (Wd E x mr g o) (some (.int r)) := by
  unfold f_X5_fails at hf
  refine m_in (by decide) (Nat.le_of_ble_eq_true rfl) ?_
  intro p e s mi args below meth c H ls hx hb hr hlk hml hown hB hK hW hS hl
  have hl : lv_has ls 2 [(0, rf E 211), (1, .int a0)] := hl
  refine lv_aload_n hx hb dX5_fails_0 rfl (lv_at hl 0 rfl) ?_
  refine lv_iload_n hx hb dX5_fails_1 rfl (lv_at hl 1 rfl) ?_
  obtain ⟨m2, e2, hf⟩ := ob hf
  refine pf_X5_29 hx hb hB hK hown hW hS e2 dX5_fails_2 (fun H locs hW hS => ?_)
  refine lv_iconst (v := 0) hx hb dX5_fails_5 (by decide) ?_
  cases hf
  exact e_i hx hb hr hlk hW hS dX5_fails_6
def f_X5_in (a0 : Int32) (a1 : Int32) (a2 : Int32) : Option (Int32) :=
    if (a0 < a1 : Prop) then
      some 0
    else
      (if (a2 < a0 : Prop) then
        some 0
      else
        some 1)
set_option maxRecDepth 100000 in
set_option maxHeartbeats 4000000 in
theorem p_X5_in (l : Launch) (E : TE) (x m : XS) (g o : Int64) {a0 : Int32} {a1 : Int32} {a2 : Int32} {r : Int32} (hf : f_X5_in a0 a1 a2 = some r) : MG l E yX5_in cX5_in 3 (some .boolean) 0 [.int a0, .int a1, .int a2] (Wd E x m g o) (Wd E x m g o) (some (.int r)) := by
  unfold f_X5_in at hf
  refine m_in (by decide) (Nat.le_of_ble_eq_true rfl) ?_
  intro p e s mi args below meth c H ls hx hb hr hlk hml hown hB hK hW hS hl
  have hl : lv_has ls 3 [(0, .int a0), (1, .int a1), (2, .int a2)] := hl
  refine lv_iload_n hx hb dX5_in_0 rfl (lv_at hl 0 rfl) ?_
  refine lv_iload_n hx hb dX5_in_1 rfl (lv_at hl 1 rfl) ?_
  refine lv_icmp_lt (tgt := 14) hx hb dX5_in_2 (by decide) (fun c2 => ?_) (fun c2 => ?_)
  · rw [if_pos c2] at hf
    refine lv_iconst (v := 0) hx hb dX5_in_14 (by decide) ?_
    cases hf
    exact e_z hx hb hr hlk (Or.inl rfl) hW hS dX5_in_15
  · rw [if_neg c2] at hf
    refine lv_iload_n hx hb dX5_in_5 rfl (lv_at hl 0 rfl) ?_
    refine lv_iload_n hx hb dX5_in_6 rfl (lv_at hl 2 rfl) ?_
    refine lv_icmp_gt (tgt := 14) hx hb dX5_in_7 (by decide) (fun c7 => ?_) (fun c7 => ?_)
    · rw [if_pos c7] at hf
      refine lv_iconst (v := 0) hx hb dX5_in_14 (by decide) ?_
      cases hf
      exact e_z hx hb hr hlk (Or.inl rfl) hW hS dX5_in_15
    · rw [if_neg c7] at hf
      refine lv_iconst (v := 1) hx hb dX5_in_10 (by decide) ?_
      refine lv_goto (tgt := 15) hx hb dX5_in_11 (by decide) ?_
      cases hf
      exact e_z hx hb hr hlk (Or.inr rfl) hW hS dX5_in_15
def f_X5_save_52 : Nat → XS → Int32 → Option (XS)
  | 0, _, _ => none
  | n52 + 1, m52, l1_52 =>
    if (442 ≤ l1_52 : Prop) then
      ((some (ux m52 0 3 ((m52 0 3) + 1))).bind fun m93 =>
      some m93)
    else
      ((aget 442 (m52 1) l1_52).bind fun v78 =>
      (aset m52 2 2652 ((442 * (m52 0 3)) + l1_52) v78).bind fun m79 =>
      (some (l1_52 + 1)).bind fun v80 =>
      f_X5_save_52 n52 m79 v80)
def f_X5_save_50 (m50 : XS) : Option (XS) :=
    f_X5_save_52 4096 m50 0
def f_X5_save_11 : Nat → XS → Int32 → Option (XS)
  | 0, _, _ => none
  | n11 + 1, m11, l1_11 =>
    if (2210 ≤ l1_11 : Prop) then
      ((some (ux m11 0 3 ((m11 0 3) - 1))).bind fun m47 =>
      f_X5_save_50 m47)
    else
      ((aget 2652 (m11 2) (l1_11 + 442)).bind fun v32 =>
      (aset m11 2 2652 l1_11 v32).bind fun m33 =>
      (some (l1_11 + 1)).bind fun v34 =>
      f_X5_save_11 n11 m33 v34)
def f_X5_save (m : XS) : Option (XS) :=
    if ((m 0 3) = 6 : Prop) then
      f_X5_save_11 4096 m 0
    else
      f_X5_save_50 m
set_option maxRecDepth 100000 in
set_option maxHeartbeats 4000000 in
theorem p_X5_save (l : Launch) (E : TE) (x m : XS) (g o : Int64) {mr : XS} (hf : f_X5_save m = some mr) : MG l E yX5_save cX5_save 2 none 0 [rf E 211] (Wd E x m g o) (Wd E x mr g o) none := by
  unfold f_X5_save at hf
  refine m_in (by decide) (Nat.le_of_ble_eq_true rfl) ?_
  intro p e s mi args below meth c H ls hx hb hr hlk hml hown hB hK hW hS hl
  have hl : lv_has ls 2 [(0, rf E 211)] := hl
  have J52 : ∀ (n52 : Nat), ∀ (m52 : XS) (l1_52 : Int32) (H : Heap) (locs : List Loc) (ls : Array Slot), f_X5_save_52 n52 m52 l1_52 = some mr → Wd E x m52 g o H → va_S (Ah E) s.heap H locs → lv_has ls 2 [(0, rf E 211), (1, .int l1_52)] → W p l e (rmH 0) s mi args below meth c H locs 0 0 (EQ E below args s (Wd E x mr g o) none) (F0 mi 52 ls []) := by
    intro n52
    induction n52 with
    | zero => intro m52 l1_52 H locs ls hf; exact absurd hf (fun z => nomatch (show (none : Option (XS)) = some _ from z))
    | succ n52 ih52 =>
      intro m52 l1_52 H locs ls hf hW hS hl
      rw [f_X5_save_52.eq_2] at hf
      refine lv_iload_n hx hb dX5_save_52 rfl (lv_at hl 1 rfl) ?_
      refine lv_sipush (v := 442) hx hb dX5_save_53 (by decide) ?_
      refine lv_icmp_ge (tgt := 86) hx hb dX5_save_56 (by decide) (fun c56 => ?_) (fun c56 => ?_)
      · rw [if_pos c56] at hf
        refine lv_aload_n hx hb dX5_save_86 rfl (lv_at hl 0 rfl) ?_
        refine lv_dup hx hb dX5_save_87 rfl ?_
        refine gf_X5_33 hx hb hB hK hown hW dX5_save_88 ?_
        refine lv_iconst (v := 1) hx hb dX5_save_91 (by decide) ?_
        refine lv_iadd hx hb dX5_save_92 ?_
        obtain ⟨m93, e93, hf⟩ := ob hf
        refine pf_X5_33 hx hb hB hK hown hW hS e93 dX5_save_93 (fun H locs hW hS => ?_)
        cases hf
        exact e_v hx hb hr hlk hW hS dX5_save_96
      · rw [if_neg c56] at hf
        refine lv_aload_n hx hb dX5_save_59 rfl (lv_at hl 0 rfl) ?_
        refine gf_X5_13 hx hb hB hK hown hW dX5_save_60 ?_
        refine lv_sipush (v := 442) hx hb dX5_save_63 (by decide) ?_
        refine lv_aload_n hx hb dX5_save_66 rfl (lv_at hl 0 rfl) ?_
        refine gf_X5_33 hx hb hB hK hown hW dX5_save_67 ?_
        refine lv_imul hx hb dX5_save_70 ?_
        refine lv_iload_n hx hb dX5_save_71 rfl (lv_at hl 1 rfl) ?_
        refine lv_iadd hx hb dX5_save_72 ?_
        refine lv_aload_n hx hb dX5_save_73 rfl (lv_at hl 0 rfl) ?_
        refine gf_X5_7 hx hb hB hK hown hW dX5_save_74 ?_
        refine lv_iload_n hx hb dX5_save_77 rfl (lv_at hl 1 rfl) ?_
        obtain ⟨v78, e78, hf⟩ := ob2 hf
        refine r_iald hx hb hK hW (by decide) (cM_1) e78 dX5_save_78 ?_
        obtain ⟨m79, e79, hf⟩ := ob2 hf
        refine r_iastM (k := 2) hx hb hK hW hS (by decide) (fun _ => cM_2) e79 dX5_save_79 (fun H locs hW hS => ?_)
        obtain ⟨v80, e80, hf⟩ := ob hf
        refine lv_iinc (v := v80) (lv' := [(1, .int v80), (0, rf E 211)]) hx hb dX5_save_80 hl (k := 1) rfl (by rw [e80]; rfl) (by decide) rfl (fun ls hl => ?_)
        refine lv_goto (tgt := 52) hx hb dX5_save_83 (by decide) ?_
        exact ih52 m79 v80 _ _ _ hf hW hS (lv_sub hl [1, 0] rfl)
  have J50 : ∀ (m50 : XS) (H : Heap) (locs : List Loc) (ls : Array Slot), f_X5_save_50 m50 = some mr → Wd E x m50 g o H → va_S (Ah E) s.heap H locs → lv_has ls 2 [(0, rf E 211)] → W p l e (rmH 0) s mi args below meth c H locs 0 0 (EQ E below args s (Wd E x mr g o) none) (F0 mi 50 ls []) := by
    intro m50 H locs ls hf hW hS hl
    unfold f_X5_save_50 at hf
    refine lv_iconst (v := 0) hx hb dX5_save_50 (by decide) ?_
    refine lv_istore_n (lv' := [(1, .int 0), (0, rf E 211)]) hx hb dX5_save_51 rfl hl (by decide) rfl (fun ls hl => ?_)
    exact J52 4096 m50 0 _ _ _ hf hW hS (lv_sub hl [1, 0] rfl)
  have J11 : ∀ (n11 : Nat), ∀ (m11 : XS) (l1_11 : Int32) (H : Heap) (locs : List Loc) (ls : Array Slot), f_X5_save_11 n11 m11 l1_11 = some mr → Wd E x m11 g o H → va_S (Ah E) s.heap H locs → lv_has ls 2 [(0, rf E 211), (1, .int l1_11)] → W p l e (rmH 0) s mi args below meth c H locs 0 0 (EQ E below args s (Wd E x mr g o) none) (F0 mi 11 ls []) := by
    intro n11
    induction n11 with
    | zero => intro m11 l1_11 H locs ls hf; exact absurd hf (fun z => nomatch (show (none : Option (XS)) = some _ from z))
    | succ n11 ih11 =>
      intro m11 l1_11 H locs ls hf hW hS hl
      rw [f_X5_save_11.eq_2] at hf
      refine lv_iload_n hx hb dX5_save_11 rfl (lv_at hl 1 rfl) ?_
      refine lv_sipush (v := 2210) hx hb dX5_save_12 (by decide) ?_
      refine lv_icmp_ge (tgt := 40) hx hb dX5_save_15 (by decide) (fun c15 => ?_) (fun c15 => ?_)
      · rw [if_pos c15] at hf
        refine lv_aload_n hx hb dX5_save_40 rfl (lv_at hl 0 rfl) ?_
        refine lv_dup hx hb dX5_save_41 rfl ?_
        refine gf_X5_33 hx hb hB hK hown hW dX5_save_42 ?_
        refine lv_iconst (v := 1) hx hb dX5_save_45 (by decide) ?_
        refine lv_isub hx hb dX5_save_46 ?_
        obtain ⟨m47, e47, hf⟩ := ob hf
        refine pf_X5_33 hx hb hB hK hown hW hS e47 dX5_save_47 (fun H locs hW hS => ?_)
        exact J50 m47 _ _ _ hf hW hS (lv_sub hl [0] rfl)
      · rw [if_neg c15] at hf
        refine lv_aload_n hx hb dX5_save_18 rfl (lv_at hl 0 rfl) ?_
        refine gf_X5_13 hx hb hB hK hown hW dX5_save_19 ?_
        refine lv_iload_n hx hb dX5_save_22 rfl (lv_at hl 1 rfl) ?_
        refine lv_aload_n hx hb dX5_save_23 rfl (lv_at hl 0 rfl) ?_
        refine gf_X5_13 hx hb hB hK hown hW dX5_save_24 ?_
        refine lv_iload_n hx hb dX5_save_27 rfl (lv_at hl 1 rfl) ?_
        refine lv_sipush (v := 442) hx hb dX5_save_28 (by decide) ?_
        refine lv_iadd hx hb dX5_save_31 ?_
        obtain ⟨v32, e32, hf⟩ := ob2 hf
        refine r_iald hx hb hK hW (by decide) (cM_2) e32 dX5_save_32 ?_
        obtain ⟨m33, e33, hf⟩ := ob2 hf
        refine r_iastM (k := 2) hx hb hK hW hS (by decide) (fun _ => cM_2) e33 dX5_save_33 (fun H locs hW hS => ?_)
        obtain ⟨v34, e34, hf⟩ := ob hf
        refine lv_iinc (v := v34) (lv' := [(1, .int v34), (0, rf E 211)]) hx hb dX5_save_34 hl (k := 1) rfl (by rw [e34]; rfl) (by decide) rfl (fun ls hl => ?_)
        refine lv_goto (tgt := 11) hx hb dX5_save_37 (by decide) ?_
        exact ih11 m33 v34 _ _ _ hf hW hS (lv_sub hl [1, 0] rfl)
  refine lv_aload_n hx hb dX5_save_0 rfl (lv_at hl 0 rfl) ?_
  refine gf_X5_33 hx hb hB hK hown hW dX5_save_1 ?_
  refine lv_bipush (v := 6) hx hb dX5_save_4 (by decide) ?_
  refine lv_icmp_ne (tgt := 50) hx hb dX5_save_6 (by decide) (fun c6 => ?_) (fun c6 => ?_)
  · rw [if_neg c6] at hf
    exact J50 m _ _ _ hf hW hS (lv_sub hl [0] rfl)
  · rw [if_pos c6] at hf
    refine lv_iconst (v := 0) hx hb dX5_save_9 (by decide) ?_
    refine lv_istore_n (lv' := [(1, .int 0), (0, rf E 211)]) hx hb dX5_save_10 rfl hl (by decide) rfl (fun ls hl => ?_)
    exact J11 4096 m 0 _ _ _ hf hW hS (lv_sub hl [1, 0] rfl)
def f_X5_putAside_2 : Nat → XS → Int32 → Option (XS)
  | 0, _, _ => none
  | n2 + 1, m2, l1_2 =>
    if (442 ≤ l1_2 : Prop) then
      some m2
    else
      ((aget 442 (m2 1) l1_2).bind fun v19 =>
      (aset m2 3 442 l1_2 v19).bind fun m20 =>
      (some (l1_2 + 1)).bind fun v21 =>
      f_X5_putAside_2 n2 m20 v21)
def f_X5_putAside (m : XS) : Option (XS) :=
    f_X5_putAside_2 4096 m 0
set_option maxRecDepth 100000 in
set_option maxHeartbeats 4000000 in
theorem p_X5_putAside (l : Launch) (E : TE) (x m : XS) (g o : Int64) {mr : XS} (hf : f_X5_putAside m = some mr) : MG l E yX5_putAside cX5_putAside 2 none 0 [rf E 211] (Wd E x m g o) (Wd E x mr g o) none := by
  unfold f_X5_putAside at hf
  refine m_in (by decide) (Nat.le_of_ble_eq_true rfl) ?_
  intro p e s mi args below meth c H ls hx hb hr hlk hml hown hB hK hW hS hl
  have hl : lv_has ls 2 [(0, rf E 211)] := hl
  have J2 : ∀ (n2 : Nat), ∀ (m2 : XS) (l1_2 : Int32) (H : Heap) (locs : List Loc) (ls : Array Slot), f_X5_putAside_2 n2 m2 l1_2 = some mr → Wd E x m2 g o H → va_S (Ah E) s.heap H locs → lv_has ls 2 [(0, rf E 211), (1, .int l1_2)] → W p l e (rmH 0) s mi args below meth c H locs 0 0 (EQ E below args s (Wd E x mr g o) none) (F0 mi 2 ls []) := by
    intro n2
    induction n2 with
    | zero => intro m2 l1_2 H locs ls hf; exact absurd hf (fun z => nomatch (show (none : Option (XS)) = some _ from z))
    | succ n2 ih2 =>
      intro m2 l1_2 H locs ls hf hW hS hl
      rw [f_X5_putAside_2.eq_2] at hf
      refine lv_iload_n hx hb dX5_putAside_2 rfl (lv_at hl 1 rfl) ?_
      refine lv_sipush (v := 442) hx hb dX5_putAside_3 (by decide) ?_
      refine lv_icmp_ge (tgt := 27) hx hb dX5_putAside_6 (by decide) (fun c6 => ?_) (fun c6 => ?_)
      · rw [if_pos c6] at hf
        cases hf
        exact e_v hx hb hr hlk hW hS dX5_putAside_27
      · rw [if_neg c6] at hf
        refine lv_aload_n hx hb dX5_putAside_9 rfl (lv_at hl 0 rfl) ?_
        refine gf_X5_16 hx hb hB hK hown hW dX5_putAside_10 ?_
        refine lv_iload_n hx hb dX5_putAside_13 rfl (lv_at hl 1 rfl) ?_
        refine lv_aload_n hx hb dX5_putAside_14 rfl (lv_at hl 0 rfl) ?_
        refine gf_X5_7 hx hb hB hK hown hW dX5_putAside_15 ?_
        refine lv_iload_n hx hb dX5_putAside_18 rfl (lv_at hl 1 rfl) ?_
        obtain ⟨v19, e19, hf⟩ := ob2 hf
        refine r_iald hx hb hK hW (by decide) (cM_1) e19 dX5_putAside_19 ?_
        obtain ⟨m20, e20, hf⟩ := ob2 hf
        refine r_iastM (k := 3) hx hb hK hW hS (by decide) (fun _ => cM_3) e20 dX5_putAside_20 (fun H locs hW hS => ?_)
        obtain ⟨v21, e21, hf⟩ := ob hf
        refine lv_iinc (v := v21) (lv' := [(1, .int v21), (0, rf E 211)]) hx hb dX5_putAside_21 hl (k := 1) rfl (by rw [e21]; rfl) (by decide) rfl (fun ls hl => ?_)
        refine lv_goto (tgt := 2) hx hb dX5_putAside_24 (by decide) ?_
        exact ih2 m20 v21 _ _ _ hf hW hS (lv_sub hl [1, 0] rfl)
  refine lv_iconst (v := 0) hx hb dX5_putAside_0 (by decide) ?_
  refine lv_istore_n (lv' := [(1, .int 0), (0, rf E 211)]) hx hb dX5_putAside_1 rfl hl (by decide) rfl (fun ls hl => ?_)
  exact J2 4096 m 0 _ _ _ hf hW hS (lv_sub hl [1, 0] rfl)
def f_X5_putBack_2 : Nat → XS → Int32 → Option (XS)
  | 0, _, _ => none
  | n2 + 1, m2, l1_2 =>
    if (442 ≤ l1_2 : Prop) then
      some m2
    else
      ((aget 442 (m2 3) l1_2).bind fun v19 =>
      (aset m2 1 442 l1_2 v19).bind fun m20 =>
      (some (l1_2 + 1)).bind fun v21 =>
      f_X5_putBack_2 n2 m20 v21)
def f_X5_putBack (m : XS) : Option (XS) :=
    f_X5_putBack_2 4096 m 0
set_option maxRecDepth 100000 in
set_option maxHeartbeats 4000000 in
theorem p_X5_putBack (l : Launch) (E : TE) (x m : XS) (g o : Int64) {mr : XS} (hf : f_X5_putBack m = some mr) : MG l E yX5_putBack cX5_putBack 2 none 0 [rf E 211] (Wd E x m g o) (Wd E x mr g o) none := by
  unfold f_X5_putBack at hf
  refine m_in (by decide) (Nat.le_of_ble_eq_true rfl) ?_
  intro p e s mi args below meth c H ls hx hb hr hlk hml hown hB hK hW hS hl
  have hl : lv_has ls 2 [(0, rf E 211)] := hl
  have J2 : ∀ (n2 : Nat), ∀ (m2 : XS) (l1_2 : Int32) (H : Heap) (locs : List Loc) (ls : Array Slot), f_X5_putBack_2 n2 m2 l1_2 = some mr → Wd E x m2 g o H → va_S (Ah E) s.heap H locs → lv_has ls 2 [(0, rf E 211), (1, .int l1_2)] → W p l e (rmH 0) s mi args below meth c H locs 0 0 (EQ E below args s (Wd E x mr g o) none) (F0 mi 2 ls []) := by
    intro n2
    induction n2 with
    | zero => intro m2 l1_2 H locs ls hf; exact absurd hf (fun z => nomatch (show (none : Option (XS)) = some _ from z))
    | succ n2 ih2 =>
      intro m2 l1_2 H locs ls hf hW hS hl
      rw [f_X5_putBack_2.eq_2] at hf
      refine lv_iload_n hx hb dX5_putBack_2 rfl (lv_at hl 1 rfl) ?_
      refine lv_sipush (v := 442) hx hb dX5_putBack_3 (by decide) ?_
      refine lv_icmp_ge (tgt := 27) hx hb dX5_putBack_6 (by decide) (fun c6 => ?_) (fun c6 => ?_)
      · rw [if_pos c6] at hf
        cases hf
        exact e_v hx hb hr hlk hW hS dX5_putBack_27
      · rw [if_neg c6] at hf
        refine lv_aload_n hx hb dX5_putBack_9 rfl (lv_at hl 0 rfl) ?_
        refine gf_X5_7 hx hb hB hK hown hW dX5_putBack_10 ?_
        refine lv_iload_n hx hb dX5_putBack_13 rfl (lv_at hl 1 rfl) ?_
        refine lv_aload_n hx hb dX5_putBack_14 rfl (lv_at hl 0 rfl) ?_
        refine gf_X5_16 hx hb hB hK hown hW dX5_putBack_15 ?_
        refine lv_iload_n hx hb dX5_putBack_18 rfl (lv_at hl 1 rfl) ?_
        obtain ⟨v19, e19, hf⟩ := ob2 hf
        refine r_iald hx hb hK hW (by decide) (cM_3) e19 dX5_putBack_19 ?_
        obtain ⟨m20, e20, hf⟩ := ob2 hf
        refine r_iastM (k := 1) hx hb hK hW hS (by decide) (fun _ => cM_1) e20 dX5_putBack_20 (fun H locs hW hS => ?_)
        obtain ⟨v21, e21, hf⟩ := ob hf
        refine lv_iinc (v := v21) (lv' := [(1, .int v21), (0, rf E 211)]) hx hb dX5_putBack_21 hl (k := 1) rfl (by rw [e21]; rfl) (by decide) rfl (fun ls hl => ?_)
        refine lv_goto (tgt := 2) hx hb dX5_putBack_24 (by decide) ?_
        exact ih2 m20 v21 _ _ _ hf hW hS (lv_sub hl [1, 0] rfl)
  refine lv_iconst (v := 0) hx hb dX5_putBack_0 (by decide) ?_
  refine lv_istore_n (lv' := [(1, .int 0), (0, rf E 211)]) hx hb dX5_putBack_1 rfl hl (by decide) rfl (fun ls hl => ?_)
  exact J2 4096 m 0 _ _ _ hf hW hS (lv_sub hl [1, 0] rfl)
def f_X5_at (a0 : Int32) : Option (Int32) :=
    some (6 + (28 * a0))
set_option maxRecDepth 100000 in
set_option maxHeartbeats 4000000 in
theorem p_X5_at (l : Launch) (E : TE) (x m : XS) (g o : Int64) {a0 : Int32} {r : Int32} (hf : f_X5_at a0 = some r) : MG l E yX5_at cX5_at 1 (some .int) 0 [.int a0] (Wd E x m g o) (Wd E x m g o) (some (.int r)) := by
  unfold f_X5_at at hf
  refine m_in (by decide) (Nat.le_of_ble_eq_true rfl) ?_
  intro p e s mi args below meth c H ls hx hb hr hlk hml hown hB hK hW hS hl
  have hl : lv_has ls 1 [(0, .int a0)] := hl
  refine lv_bipush (v := 6) hx hb dX5_at_0 (by decide) ?_
  refine lv_bipush (v := 28) hx hb dX5_at_2 (by decide) ?_
  refine lv_iload_n hx hb dX5_at_4 rfl (lv_at hl 0 rfl) ?_
  refine lv_imul hx hb dX5_at_5 ?_
  refine lv_iadd hx hb dX5_at_6 ?_
  cases hf
  exact e_i hx hb hr hlk hW hS dX5_at_7
def f_X5_menuAt (a0 : Int32) (a1 : Int32) : Option (Int32) :=
    (f_X5_at a0).bind fun v1 =>
    some ((v1 + 4) + (4 * a1))
set_option maxRecDepth 100000 in
set_option maxHeartbeats 4000000 in
theorem p_X5_menuAt (l : Launch) (E : TE) (x m : XS) (g o : Int64) {a0 : Int32} {a1 : Int32} {r : Int32} (hf : f_X5_menuAt a0 a1 = some r) : MG l E yX5_menuAt cX5_menuAt 2 (some .int) 1 [.int a0, .int a1] (Wd E x m g o) (Wd E x m g o) (some (.int r)) := by
  unfold f_X5_menuAt at hf
  refine m_in (by decide) (Nat.le_of_ble_eq_true rfl) ?_
  intro p e s mi args below meth c H ls hx hb hr hlk hml hown hB hK hW hS hl
  have hl : lv_has ls 2 [(0, .int a0), (1, .int a1)] := hl
  refine lv_iload_n hx hb dX5_menuAt_0 rfl (lv_at hl 0 rfl) ?_
  obtain ⟨v1, e1, hf⟩ := ob2 hf
  refine c_S (As := [.int a0]) (st1 := [.int v1]) (rest := []) (p_X5_at l E x m g o e1) (kc_X5_25 hB ⟨Nat.le_of_ble_eq_true rfl, Nat.le_of_ble_eq_true rfl⟩) hx hb hml hown hB hK hW hS ⟨Nat.zero_le _, Nat.zero_le _⟩ rfl hl.1 rfl (Nat.le_of_ble_eq_true rfl) rfl dX5_menuAt_1 (fun H locs hW hS => ?_)
  refine lv_iconst (v := 4) hx hb dX5_menuAt_4 (by decide) ?_
  refine lv_iadd hx hb dX5_menuAt_5 ?_
  refine lv_iconst (v := 4) hx hb dX5_menuAt_6 (by decide) ?_
  refine lv_iload_n hx hb dX5_menuAt_7 rfl (lv_at hl 1 rfl) ?_
  refine lv_imul hx hb dX5_menuAt_8 ?_
  refine lv_iadd hx hb dX5_menuAt_9 ?_
  cases hf
  exact e_i hx hb hr hlk hW hS dX5_menuAt_10
def f_X5_of (a0 : Int32) : Option (Int32) :=
    some (202 + (10 * a0))
set_option maxRecDepth 100000 in
set_option maxHeartbeats 4000000 in
theorem p_X5_of (l : Launch) (E : TE) (x m : XS) (g o : Int64) {a0 : Int32} {r : Int32} (hf : f_X5_of a0 = some r) : MG l E yX5_of cX5_of 1 (some .int) 0 [.int a0] (Wd E x m g o) (Wd E x m g o) (some (.int r)) := by
  unfold f_X5_of at hf
  refine m_in (by decide) (Nat.le_of_ble_eq_true rfl) ?_
  intro p e s mi args below meth c H ls hx hb hr hlk hml hown hB hK hW hS hl
  have hl : lv_has ls 1 [(0, .int a0)] := hl
  refine lv_sipush (v := 202) hx hb dX5_of_0 (by decide) ?_
  refine lv_bipush (v := 10) hx hb dX5_of_3 (by decide) ?_
  refine lv_iload_n hx hb dX5_of_5 rfl (lv_at hl 0 rfl) ?_
  refine lv_imul hx hb dX5_of_6 ?_
  refine lv_iadd hx hb dX5_of_7 ?_
  cases hf
  exact e_i hx hb hr hlk hW hS dX5_of_8
def f_X5_isKind (a0 : Int32) : Option (Int32) :=
    (f_X5_in a0 0 3).bind fun v3 =>
    if (v3 = 0 ∨ v3 = 1 : Prop) then some v3 else none
set_option maxRecDepth 100000 in
set_option maxHeartbeats 4000000 in
theorem p_X5_isKind (l : Launch) (E : TE) (x m : XS) (g o : Int64) {a0 : Int32} {r : Int32} (hf : f_X5_isKind a0 = some r) : MG l E yX5_isKind cX5_isKind 1 (some .boolean) 1 [.int a0] (Wd E x m g o) (Wd E x m g o) (some (.int r)) := by
  unfold f_X5_isKind at hf
  refine m_in (by decide) (Nat.le_of_ble_eq_true rfl) ?_
  intro p e s mi args below meth c H ls hx hb hr hlk hml hown hB hK hW hS hl
  have hl : lv_has ls 1 [(0, .int a0)] := hl
  refine lv_iload_n hx hb dX5_isKind_0 rfl (lv_at hl 0 rfl) ?_
  refine lv_iconst (v := 0) hx hb dX5_isKind_1 (by decide) ?_
  refine lv_iconst (v := 3) hx hb dX5_isKind_2 (by decide) ?_
  obtain ⟨v3, e3, hf⟩ := ob2 hf
  refine c_S (As := [.int a0, .int 0, .int 3]) (st1 := [.int v3]) (rest := []) (p_X5_in l E x m g o e3) (kc_X5_36 hB ⟨Nat.le_of_ble_eq_true rfl, Nat.le_of_ble_eq_true rfl⟩) hx hb hml hown hB hK hW hS ⟨Nat.zero_le _, Nat.zero_le _⟩ rfl hl.1 rfl (Nat.le_of_ble_eq_true rfl) rfl dX5_isKind_3 (fun H locs hW hS => ?_)
  obtain ⟨zb, hf⟩ := oif hf
  cases hf
  exact e_z hx hb hr hlk zb hW hS dX5_isKind_6
def f_X5_isAmends (m : XS) (a0 : Int32) (a1 : Int32) : Option (Int32) :=
    (f_X5_at a0).bind fun v7 =>
    (aget 442 (m 1) (v7 + 3)).bind fun v12 =>
    (f_X5_in a1 0 (v12 - 1)).bind fun v15 =>
    if (v15 = 0 ∨ v15 = 1 : Prop) then some v15 else none
set_option maxRecDepth 100000 in
set_option maxHeartbeats 4000000 in
theorem p_X5_isAmends (l : Launch) (E : TE) (x m : XS) (g o : Int64) {a0 : Int32} {a1 : Int32} {r : Int32} (hf : f_X5_isAmends m a0 a1 = some r) : MG l E yX5_isAmends cX5_isAmends 3 (some .boolean) 1 [rf E 211, .int a0, .int a1] (Wd E x m g o) (Wd E x m g o) (some (.int r)) := by
  unfold f_X5_isAmends at hf
  refine m_in (by decide) (Nat.le_of_ble_eq_true rfl) ?_
  intro p e s mi args below meth c H ls hx hb hr hlk hml hown hB hK hW hS hl
  have hl : lv_has ls 3 [(0, rf E 211), (1, .int a0), (2, .int a1)] := hl
  refine lv_iload_n hx hb dX5_isAmends_0 rfl (lv_at hl 2 rfl) ?_
  refine lv_iconst (v := 0) hx hb dX5_isAmends_1 (by decide) ?_
  refine lv_aload_n hx hb dX5_isAmends_2 rfl (lv_at hl 0 rfl) ?_
  refine gf_X5_7 hx hb hB hK hown hW dX5_isAmends_3 ?_
  refine lv_iload_n hx hb dX5_isAmends_6 rfl (lv_at hl 1 rfl) ?_
  obtain ⟨v7, e7, hf⟩ := ob2 hf
  refine c_S (As := [.int a0]) (st1 := [.int v7, rf E 212, .int 0, .int a1]) (rest := [rf E 212, .int 0, .int a1]) (p_X5_at l E x m g o e7) (kc_X5_25 hB ⟨Nat.le_of_ble_eq_true rfl, Nat.le_of_ble_eq_true rfl⟩) hx hb hml hown hB hK hW hS ⟨Nat.zero_le _, Nat.zero_le _⟩ rfl hl.1 rfl (Nat.le_of_ble_eq_true rfl) rfl dX5_isAmends_7 (fun H locs hW hS => ?_)
  refine lv_iconst (v := 3) hx hb dX5_isAmends_10 (by decide) ?_
  refine lv_iadd hx hb dX5_isAmends_11 ?_
  obtain ⟨v12, e12, hf⟩ := ob2 hf
  refine r_iald hx hb hK hW (by decide) (cM_1) e12 dX5_isAmends_12 ?_
  refine lv_iconst (v := 1) hx hb dX5_isAmends_13 (by decide) ?_
  refine lv_isub hx hb dX5_isAmends_14 ?_
  obtain ⟨v15, e15, hf⟩ := ob2 hf
  refine c_S (As := [.int a1, .int 0, .int (v12 - 1)]) (st1 := [.int v15]) (rest := []) (p_X5_in l E x m g o e15) (kc_X5_36 hB ⟨Nat.le_of_ble_eq_true rfl, Nat.le_of_ble_eq_true rfl⟩) hx hb hml hown hB hK hW hS ⟨Nat.zero_le _, Nat.zero_le _⟩ rfl hl.1 rfl (Nat.le_of_ble_eq_true rfl) rfl dX5_isAmends_15 (fun H locs hW hS => ?_)
  obtain ⟨zb, hf⟩ := oif hf
  cases hf
  exact e_z hx hb hr hlk zb hW hS dX5_isAmends_18
def f_X5_isComplaint (m : XS) (a0 : Int32) : Option (Int32) :=
    (aget 442 (m 1) 0).bind fun v7 =>
    (f_X5_in a0 0 (v7 - 1)).bind fun v10 =>
    if (v10 = 0 ∨ v10 = 1 : Prop) then some v10 else none
set_option maxRecDepth 100000 in
set_option maxHeartbeats 4000000 in
theorem p_X5_isComplaint (l : Launch) (E : TE) (x m : XS) (g o : Int64) {a0 : Int32} {r : Int32} (hf : f_X5_isComplaint m a0 = some r) : MG l E yX5_isComplaint cX5_isComplaint 2 (some .boolean) 1 [rf E 211, .int a0] (Wd E x m g o) (Wd E x m g o) (some (.int r)) := by
  unfold f_X5_isComplaint at hf
  refine m_in (by decide) (Nat.le_of_ble_eq_true rfl) ?_
  intro p e s mi args below meth c H ls hx hb hr hlk hml hown hB hK hW hS hl
  have hl : lv_has ls 2 [(0, rf E 211), (1, .int a0)] := hl
  refine lv_iload_n hx hb dX5_isComplaint_0 rfl (lv_at hl 1 rfl) ?_
  refine lv_iconst (v := 0) hx hb dX5_isComplaint_1 (by decide) ?_
  refine lv_aload_n hx hb dX5_isComplaint_2 rfl (lv_at hl 0 rfl) ?_
  refine gf_X5_7 hx hb hB hK hown hW dX5_isComplaint_3 ?_
  refine lv_iconst (v := 0) hx hb dX5_isComplaint_6 (by decide) ?_
  obtain ⟨v7, e7, hf⟩ := ob2 hf
  refine r_iald hx hb hK hW (by decide) (cM_1) e7 dX5_isComplaint_7 ?_
  refine lv_iconst (v := 1) hx hb dX5_isComplaint_8 (by decide) ?_
  refine lv_isub hx hb dX5_isComplaint_9 ?_
  obtain ⟨v10, e10, hf⟩ := ob2 hf
  refine c_S (As := [.int a0, .int 0, .int (v7 - 1)]) (st1 := [.int v10]) (rest := []) (p_X5_in l E x m g o e10) (kc_X5_36 hB ⟨Nat.le_of_ble_eq_true rfl, Nat.le_of_ble_eq_true rfl⟩) hx hb hml hown hB hK hW hS ⟨Nat.zero_le _, Nat.zero_le _⟩ rfl hl.1 rfl (Nat.le_of_ble_eq_true rfl) rfl dX5_isComplaint_10 (fun H locs hW hS => ?_)
  obtain ⟨zb, hf⟩ := oif hf
  cases hf
  exact e_z hx hb hr hlk zb hW hS dX5_isComplaint_13
def f_X5_group (a0 : Int32) : Option (Int32) :=
    some ((a0 - 1) / 3)
set_option maxRecDepth 100000 in
set_option maxHeartbeats 4000000 in
theorem p_X5_group (l : Launch) (E : TE) (x m : XS) (g o : Int64) {a0 : Int32} {r : Int32} (hf : f_X5_group a0 = some r) : MG l E yX5_group cX5_group 1 (some .int) 0 [.int a0] (Wd E x m g o) (Wd E x m g o) (some (.int r)) := by
  unfold f_X5_group at hf
  refine m_in (by decide) (Nat.le_of_ble_eq_true rfl) ?_
  intro p e s mi args below meth c H ls hx hb hr hlk hml hown hB hK hW hS hl
  have hl : lv_has ls 1 [(0, .int a0)] := hl
  refine lv_iload_n hx hb dX5_group_0 rfl (lv_at hl 0 rfl) ?_
  refine lv_iconst (v := 1) hx hb dX5_group_1 (by decide) ?_
  refine lv_isub hx hb dX5_group_2 ?_
  refine lv_iconst (v := 3) hx hb dX5_group_3 (by decide) ?_
  refine lv_idiv hx hb dX5_group_4 (by decide) ?_
  cases hf
  exact e_i hx hb hr hlk hW hS dX5_group_5
def f_X5_left (m : XS) (a0 : Int32) : Option (Int32) :=
    (f_X5_at a0).bind fun v5 =>
    (aget 442 (m 1) (v5 + 1)).bind fun v10 =>
    (f_X5_at a0).bind fun v16 =>
    (aget 442 (m 1) (v16 + 2)).bind fun v21 =>
    some (v10 - v21)
set_option maxRecDepth 100000 in
set_option maxHeartbeats 4000000 in
theorem p_X5_left (l : Launch) (E : TE) (x m : XS) (g o : Int64) {a0 : Int32} {r : Int32} (hf : f_X5_left m a0 = some r) : MG l E yX5_left cX5_left 2 (some .int) 1 [rf E 211, .int a0] (Wd E x m g o) (Wd E x m g o) (some (.int r)) := by
  unfold f_X5_left at hf
  refine m_in (by decide) (Nat.le_of_ble_eq_true rfl) ?_
  intro p e s mi args below meth c H ls hx hb hr hlk hml hown hB hK hW hS hl
  have hl : lv_has ls 2 [(0, rf E 211), (1, .int a0)] := hl
  refine lv_aload_n hx hb dX5_left_0 rfl (lv_at hl 0 rfl) ?_
  refine gf_X5_7 hx hb hB hK hown hW dX5_left_1 ?_
  refine lv_iload_n hx hb dX5_left_4 rfl (lv_at hl 1 rfl) ?_
  obtain ⟨v5, e5, hf⟩ := ob2 hf
  refine c_S (As := [.int a0]) (st1 := [.int v5, rf E 212]) (rest := [rf E 212]) (p_X5_at l E x m g o e5) (kc_X5_25 hB ⟨Nat.le_of_ble_eq_true rfl, Nat.le_of_ble_eq_true rfl⟩) hx hb hml hown hB hK hW hS ⟨Nat.zero_le _, Nat.zero_le _⟩ rfl hl.1 rfl (Nat.le_of_ble_eq_true rfl) rfl dX5_left_5 (fun H locs hW hS => ?_)
  refine lv_iconst (v := 1) hx hb dX5_left_8 (by decide) ?_
  refine lv_iadd hx hb dX5_left_9 ?_
  obtain ⟨v10, e10, hf⟩ := ob2 hf
  refine r_iald hx hb hK hW (by decide) (cM_1) e10 dX5_left_10 ?_
  refine lv_aload_n hx hb dX5_left_11 rfl (lv_at hl 0 rfl) ?_
  refine gf_X5_7 hx hb hB hK hown hW dX5_left_12 ?_
  refine lv_iload_n hx hb dX5_left_15 rfl (lv_at hl 1 rfl) ?_
  obtain ⟨v16, e16, hf⟩ := ob2 hf
  refine c_S (As := [.int a0]) (st1 := [.int v16, rf E 212, .int v10]) (rest := [rf E 212, .int v10]) (p_X5_at l E x m g o e16) (kc_X5_25 hB ⟨Nat.le_of_ble_eq_true rfl, Nat.le_of_ble_eq_true rfl⟩) hx hb hml hown hB hK hW hS ⟨Nat.zero_le _, Nat.zero_le _⟩ rfl hl.1 rfl (Nat.le_of_ble_eq_true rfl) rfl dX5_left_16 (fun H locs hW hS => ?_)
  refine lv_iconst (v := 2) hx hb dX5_left_19 (by decide) ?_
  refine lv_iadd hx hb dX5_left_20 ?_
  obtain ⟨v21, e21, hf⟩ := ob2 hf
  refine r_iald hx hb hK hW (by decide) (cM_1) e21 dX5_left_21 ?_
  refine lv_isub hx hb dX5_left_22 ?_
  cases hf
  exact e_i hx hb hr hlk hW hS dX5_left_23
def f_X5_isOffered (m : XS) (a0 : Int32) (a1 : Int32) : Option (Int32) :=
    (f_X5_isAmends m a0 a1).bind fun v3 =>
    if (v3 = 0 : Prop) then
      some 0
    else
      ((f_X5_menuAt a0 a1).bind fun v15 =>
      (aget 442 (m 1) (v15 + 3)).bind fun v20 =>
      if (v20 = 1 : Prop) then
        some 1
      else
        some 0)
set_option maxRecDepth 100000 in
set_option maxHeartbeats 4000000 in
theorem p_X5_isOffered (l : Launch) (E : TE) (x m : XS) (g o : Int64) {a0 : Int32} {a1 : Int32} {r : Int32} (hf : f_X5_isOffered m a0 a1 = some r) : MG l E yX5_isOffered cX5_isOffered 3 (some .boolean) 2 [rf E 211, .int a0, .int a1] (Wd E x m g o) (Wd E x m g o) (some (.int r)) := by
  unfold f_X5_isOffered at hf
  refine m_in (by decide) (Nat.le_of_ble_eq_true rfl) ?_
  intro p e s mi args below meth c H ls hx hb hr hlk hml hown hB hK hW hS hl
  have hl : lv_has ls 3 [(0, rf E 211), (1, .int a0), (2, .int a1)] := hl
  refine lv_aload_n hx hb dX5_isOffered_0 rfl (lv_at hl 0 rfl) ?_
  refine lv_iload_n hx hb dX5_isOffered_1 rfl (lv_at hl 1 rfl) ?_
  refine lv_iload_n hx hb dX5_isOffered_2 rfl (lv_at hl 2 rfl) ?_
  obtain ⟨v3, e3, hf⟩ := ob2 hf
  refine c_V (As := [.int a0, .int a1]) (st1 := [.int v3]) (rest := []) (p_X5_isAmends l E x m g o e3) (kc_X5_40 hB ⟨Nat.le_of_ble_eq_true rfl, Nat.le_of_ble_eq_true rfl⟩) (Wd.rec hK hW (by decide) cM_0 (ci := 5) rfl) hx hb hml hown hB hK hW hS ⟨Nat.zero_le _, Nat.zero_le _⟩ rfl hl.1 rfl (Nat.le_of_ble_eq_true rfl) rfl dX5_isOffered_3 (fun H locs hW hS => ?_)
  refine lv_if_eq (tgt := 29) hx hb dX5_isOffered_6 (by decide) (fun c6 => ?_) (fun c6 => ?_)
  · rw [if_pos c6] at hf
    refine lv_iconst (v := 0) hx hb dX5_isOffered_29 (by decide) ?_
    cases hf
    exact e_z hx hb hr hlk (Or.inl rfl) hW hS dX5_isOffered_30
  · rw [if_neg c6] at hf
    refine lv_aload_n hx hb dX5_isOffered_9 rfl (lv_at hl 0 rfl) ?_
    refine gf_X5_7 hx hb hB hK hown hW dX5_isOffered_10 ?_
    refine lv_iload_n hx hb dX5_isOffered_13 rfl (lv_at hl 1 rfl) ?_
    refine lv_iload_n hx hb dX5_isOffered_14 rfl (lv_at hl 2 rfl) ?_
    obtain ⟨v15, e15, hf⟩ := ob2 hf
    refine c_S (As := [.int a0, .int a1]) (st1 := [.int v15, rf E 212]) (rest := [rf E 212]) (p_X5_menuAt l E x m g o e15) (kc_X5_44 hB ⟨Nat.le_of_ble_eq_true rfl, Nat.le_of_ble_eq_true rfl⟩) hx hb hml hown hB hK hW hS ⟨Nat.zero_le _, Nat.zero_le _⟩ rfl hl.1 rfl (Nat.le_of_ble_eq_true rfl) rfl dX5_isOffered_15 (fun H locs hW hS => ?_)
    refine lv_iconst (v := 3) hx hb dX5_isOffered_18 (by decide) ?_
    refine lv_iadd hx hb dX5_isOffered_19 ?_
    obtain ⟨v20, e20, hf⟩ := ob2 hf
    refine r_iald hx hb hK hW (by decide) (cM_1) e20 dX5_isOffered_20 ?_
    refine lv_iconst (v := 1) hx hb dX5_isOffered_21 (by decide) ?_
    refine lv_icmp_ne (tgt := 29) hx hb dX5_isOffered_22 (by decide) (fun c22 => ?_) (fun c22 => ?_)
    · rw [if_neg c22] at hf
      refine lv_iconst (v := 0) hx hb dX5_isOffered_29 (by decide) ?_
      cases hf
      exact e_z hx hb hr hlk (Or.inl rfl) hW hS dX5_isOffered_30
    · rw [if_pos c22] at hf
      refine lv_iconst (v := 1) hx hb dX5_isOffered_25 (by decide) ?_
      refine lv_goto (tgt := 30) hx hb dX5_isOffered_26 (by decide) ?_
      cases hf
      exact e_z hx hb hr hlk (Or.inr rfl) hW hS dX5_isOffered_30
def f_X5_cost (m : XS) (a0 : Int32) (a1 : Int32) : Option (Int32) :=
    (f_X5_menuAt a0 a1).bind fun v6 =>
    (aget 442 (m 1) v6).bind fun v9 =>
    some v9
set_option maxRecDepth 100000 in
set_option maxHeartbeats 4000000 in
theorem p_X5_cost (l : Launch) (E : TE) (x m : XS) (g o : Int64) {a0 : Int32} {a1 : Int32} {r : Int32} (hf : f_X5_cost m a0 a1 = some r) : MG l E yX5_cost cX5_cost 3 (some .int) 2 [rf E 211, .int a0, .int a1] (Wd E x m g o) (Wd E x m g o) (some (.int r)) := by
  unfold f_X5_cost at hf
  refine m_in (by decide) (Nat.le_of_ble_eq_true rfl) ?_
  intro p e s mi args below meth c H ls hx hb hr hlk hml hown hB hK hW hS hl
  have hl : lv_has ls 3 [(0, rf E 211), (1, .int a0), (2, .int a1)] := hl
  refine lv_aload_n hx hb dX5_cost_0 rfl (lv_at hl 0 rfl) ?_
  refine gf_X5_7 hx hb hB hK hown hW dX5_cost_1 ?_
  refine lv_iload_n hx hb dX5_cost_4 rfl (lv_at hl 1 rfl) ?_
  refine lv_iload_n hx hb dX5_cost_5 rfl (lv_at hl 2 rfl) ?_
  obtain ⟨v6, e6, hf⟩ := ob2 hf
  refine c_S (As := [.int a0, .int a1]) (st1 := [.int v6, rf E 212]) (rest := [rf E 212]) (p_X5_menuAt l E x m g o e6) (kc_X5_44 hB ⟨Nat.le_of_ble_eq_true rfl, Nat.le_of_ble_eq_true rfl⟩) hx hb hml hown hB hK hW hS ⟨Nat.zero_le _, Nat.zero_le _⟩ rfl hl.1 rfl (Nat.le_of_ble_eq_true rfl) rfl dX5_cost_6 (fun H locs hW hS => ?_)
  obtain ⟨v9, e9, hf⟩ := ob2 hf
  refine r_iald hx hb hK hW (by decide) (cM_1) e9 dX5_cost_9 ?_
  cases hf
  exact e_i hx hb hr hlk hW hS dX5_cost_10
def f_X5_latest (m : XS) (a0 : Int32) (a1 : Int32) : Option (Int32) :=
    (aget 442 (m 1) ((118 + (3 * a0)) + a1)).bind fun v12 =>
    some v12
set_option maxRecDepth 100000 in
set_option maxHeartbeats 4000000 in
theorem p_X5_latest (l : Launch) (E : TE) (x m : XS) (g o : Int64) {a0 : Int32} {a1 : Int32} {r : Int32} (hf : f_X5_latest m a0 a1 = some r) : MG l E yX5_latest cX5_latest 3 (some .int) 0 [rf E 211, .int a0, .int a1] (Wd E x m g o) (Wd E x m g o) (some (.int r)) := by
  unfold f_X5_latest at hf
  refine m_in (by decide) (Nat.le_of_ble_eq_true rfl) ?_
  intro p e s mi args below meth c H ls hx hb hr hlk hml hown hB hK hW hS hl
  have hl : lv_has ls 3 [(0, rf E 211), (1, .int a0), (2, .int a1)] := hl
  refine lv_aload_n hx hb dX5_latest_0 rfl (lv_at hl 0 rfl) ?_
  refine gf_X5_7 hx hb hB hK hown hW dX5_latest_1 ?_
  refine lv_bipush (v := 118) hx hb dX5_latest_4 (by decide) ?_
  refine lv_iconst (v := 3) hx hb dX5_latest_6 (by decide) ?_
  refine lv_iload_n hx hb dX5_latest_7 rfl (lv_at hl 1 rfl) ?_
  refine lv_imul hx hb dX5_latest_8 ?_
  refine lv_iadd hx hb dX5_latest_9 ?_
  refine lv_iload_n hx hb dX5_latest_10 rfl (lv_at hl 2 rfl) ?_
  refine lv_iadd hx hb dX5_latest_11 ?_
  obtain ⟨v12, e12, hf⟩ := ob2 hf
  refine r_iald hx hb hK hW (by decide) (cM_1) e12 dX5_latest_12 ?_
  cases hf
  exact e_i hx hb hr hlk hW hS dX5_latest_13
def f_X5_binds (m : XS) (a0 : Int32) (a1 : Int32) : Option (Int32) :=
    (f_X5_latest m a0 a1).bind fun v3 =>
    if (v3 = (-1) : Prop) then
      some 0
    else
      ((aget 442 (m 1) 1).bind fun v17 =>
      (aget 442 (m 1) ((130 + (3 * v3)) + 1)).bind fun v31 =>
      (aget 442 (m 1) 2).bind fun v38 =>
      if (v38 ≤ (v17 - v31) : Prop) then
        some 0
      else
        ((aget 442 (m 1) (130 + (3 * v3))).bind fun v55 =>
        (f_X5_isOffered m a0 v55).bind fun v56 =>
        if (v56 = 0 : Prop) then
          some 0
        else
          some 1))
set_option maxRecDepth 100000 in
set_option maxHeartbeats 4000000 in
theorem p_X5_binds (l : Launch) (E : TE) (x m : XS) (g o : Int64) {a0 : Int32} {a1 : Int32} {r : Int32} (hf : f_X5_binds m a0 a1 = some r) : MG l E yX5_binds cX5_binds 4 (some .boolean) 3 [rf E 211, .int a0, .int a1] (Wd E x m g o) (Wd E x m g o) (some (.int r)) := by
  unfold f_X5_binds at hf
  refine m_in (by decide) (Nat.le_of_ble_eq_true rfl) ?_
  intro p e s mi args below meth c H ls hx hb hr hlk hml hown hB hK hW hS hl
  have hl : lv_has ls 4 [(0, rf E 211), (1, .int a0), (2, .int a1)] := hl
  refine lv_aload_n hx hb dX5_binds_0 rfl (lv_at hl 0 rfl) ?_
  refine lv_iload_n hx hb dX5_binds_1 rfl (lv_at hl 1 rfl) ?_
  refine lv_iload_n hx hb dX5_binds_2 rfl (lv_at hl 2 rfl) ?_
  obtain ⟨v3, e3, hf⟩ := ob2 hf
  refine c_V (As := [.int a0, .int a1]) (st1 := [.int v3]) (rest := []) (p_X5_latest l E x m g o e3) (kc_X5_48 hB ⟨Nat.le_of_ble_eq_true rfl, Nat.le_of_ble_eq_true rfl⟩) (Wd.rec hK hW (by decide) cM_0 (ci := 5) rfl) hx hb hml hown hB hK hW hS ⟨Nat.zero_le _, Nat.zero_le _⟩ rfl hl.1 rfl (Nat.le_of_ble_eq_true rfl) rfl dX5_binds_3 (fun H locs hW hS => ?_)
  refine lv_istore_n (lv' := [(3, .int v3), (0, rf E 211), (1, .int a0), (2, .int a1)]) hx hb dX5_binds_6 rfl hl (by decide) rfl (fun ls hl => ?_)
  refine lv_iload_n hx hb dX5_binds_7 rfl (lv_at hl 0 rfl) ?_
  refine lv_iconst (v := (-1)) hx hb dX5_binds_8 (by decide) ?_
  refine lv_icmp_eq (tgt := 66) hx hb dX5_binds_9 (by decide) (fun c9 => ?_) (fun c9 => ?_)
  · rw [if_pos c9] at hf
    refine lv_iconst (v := 0) hx hb dX5_binds_66 (by decide) ?_
    cases hf
    exact e_z hx hb hr hlk (Or.inl rfl) hW hS dX5_binds_67
  · rw [if_neg c9] at hf
    refine lv_aload_n hx hb dX5_binds_12 rfl (lv_at hl 1 rfl) ?_
    refine gf_X5_7 hx hb hB hK hown hW dX5_binds_13 ?_
    refine lv_iconst (v := 1) hx hb dX5_binds_16 (by decide) ?_
    obtain ⟨v17, e17, hf⟩ := ob2 hf
    refine r_iald hx hb hK hW (by decide) (cM_1) e17 dX5_binds_17 ?_
    refine lv_aload_n hx hb dX5_binds_18 rfl (lv_at hl 1 rfl) ?_
    refine gf_X5_7 hx hb hB hK hown hW dX5_binds_19 ?_
    refine lv_sipush (v := 130) hx hb dX5_binds_22 (by decide) ?_
    refine lv_iconst (v := 3) hx hb dX5_binds_25 (by decide) ?_
    refine lv_iload_n hx hb dX5_binds_26 rfl (lv_at hl 0 rfl) ?_
    refine lv_imul hx hb dX5_binds_27 ?_
    refine lv_iadd hx hb dX5_binds_28 ?_
    refine lv_iconst (v := 1) hx hb dX5_binds_29 (by decide) ?_
    refine lv_iadd hx hb dX5_binds_30 ?_
    obtain ⟨v31, e31, hf⟩ := ob2 hf
    refine r_iald hx hb hK hW (by decide) (cM_1) e31 dX5_binds_31 ?_
    refine lv_isub hx hb dX5_binds_32 ?_
    refine lv_aload_n hx hb dX5_binds_33 rfl (lv_at hl 1 rfl) ?_
    refine gf_X5_7 hx hb hB hK hown hW dX5_binds_34 ?_
    refine lv_iconst (v := 2) hx hb dX5_binds_37 (by decide) ?_
    obtain ⟨v38, e38, hf⟩ := ob2 hf
    refine r_iald hx hb hK hW (by decide) (cM_1) e38 dX5_binds_38 ?_
    refine lv_icmp_ge (tgt := 66) hx hb dX5_binds_39 (by decide) (fun c39 => ?_) (fun c39 => ?_)
    · rw [if_pos c39] at hf
      refine lv_iconst (v := 0) hx hb dX5_binds_66 (by decide) ?_
      cases hf
      exact e_z hx hb hr hlk (Or.inl rfl) hW hS dX5_binds_67
    · rw [if_neg c39] at hf
      refine lv_aload_n hx hb dX5_binds_42 rfl (lv_at hl 1 rfl) ?_
      refine lv_iload_n hx hb dX5_binds_43 rfl (lv_at hl 2 rfl) ?_
      refine lv_aload_n hx hb dX5_binds_44 rfl (lv_at hl 1 rfl) ?_
      refine gf_X5_7 hx hb hB hK hown hW dX5_binds_45 ?_
      refine lv_sipush (v := 130) hx hb dX5_binds_48 (by decide) ?_
      refine lv_iconst (v := 3) hx hb dX5_binds_51 (by decide) ?_
      refine lv_iload_n hx hb dX5_binds_52 rfl (lv_at hl 0 rfl) ?_
      refine lv_imul hx hb dX5_binds_53 ?_
      refine lv_iadd hx hb dX5_binds_54 ?_
      obtain ⟨v55, e55, hf⟩ := ob2 hf
      refine r_iald hx hb hK hW (by decide) (cM_1) e55 dX5_binds_55 ?_
      obtain ⟨v56, e56, hf⟩ := ob2 hf
      refine c_V (As := [.int a0, .int v55]) (st1 := [.int v56]) (rest := []) (p_X5_isOffered l E x m g o e56) (kc_X5_51 hB ⟨Nat.le_of_ble_eq_true rfl, Nat.le_of_ble_eq_true rfl⟩) (Wd.rec hK hW (by decide) cM_0 (ci := 5) rfl) hx hb hml hown hB hK hW hS ⟨Nat.zero_le _, Nat.zero_le _⟩ rfl hl.1 rfl (Nat.le_of_ble_eq_true rfl) rfl dX5_binds_56 (fun H locs hW hS => ?_)
      refine lv_if_eq (tgt := 66) hx hb dX5_binds_59 (by decide) (fun c59 => ?_) (fun c59 => ?_)
      · rw [if_pos c59] at hf
        refine lv_iconst (v := 0) hx hb dX5_binds_66 (by decide) ?_
        cases hf
        exact e_z hx hb hr hlk (Or.inl rfl) hW hS dX5_binds_67
      · rw [if_neg c59] at hf
        refine lv_iconst (v := 1) hx hb dX5_binds_62 (by decide) ?_
        refine lv_goto (tgt := 67) hx hb dX5_binds_63 (by decide) ?_
        cases hf
        exact e_z hx hb hr hlk (Or.inr rfl) hW hS dX5_binds_67
def f_X5_waitsFor (m : XS) (a0 : Int32) : Option (Int32) :=
    (f_X5_of a0).bind fun v5 =>
    (aget 442 (m 1) (v5 + 8)).bind fun v11 =>
    (f_X5_of a0).bind fun v18 =>
    (aget 442 (m 1) (v18 + 3)).bind fun v23 =>
    if (v23 = 0 : Prop) then
      some 0
    else
      (if (v11 = (-1) : Prop) then
        some 0
      else
        ((f_X5_of a0).bind fun v40 =>
        (aget 442 (m 1) v40).bind fun v43 =>
        (aget 442 (m 1) (130 + (3 * v11))).bind fun v55 =>
        (f_X5_cost m v43 v55).bind fun v56 =>
        (f_X5_of a0).bind fun v64 =>
        (aget 442 (m 1) (v64 + 5)).bind fun v69 =>
        (some ((v56 - v69))).bind fun v71 =>
        if (v71 ≤ 0 : Prop) then
          some 0
        else
          some v71))
set_option maxRecDepth 100000 in
set_option maxHeartbeats 4000000 in
theorem p_X5_waitsFor (l : Launch) (E : TE) (x m : XS) (g o : Int64) {a0 : Int32} {r : Int32} (hf : f_X5_waitsFor m a0 = some r) : MG l E yX5_waitsFor cX5_waitsFor 4 (some .int) 3 [rf E 211, .int a0] (Wd E x m g o) (Wd E x m g o) (some (.int r)) := by
  unfold f_X5_waitsFor at hf
  refine m_in (by decide) (Nat.le_of_ble_eq_true rfl) ?_
  intro p e s mi args below meth c H ls hx hb hr hlk hml hown hB hK hW hS hl
  have hl : lv_has ls 4 [(0, rf E 211), (1, .int a0)] := hl
  refine lv_aload_n hx hb dX5_waitsFor_0 rfl (lv_at hl 0 rfl) ?_
  refine gf_X5_7 hx hb hB hK hown hW dX5_waitsFor_1 ?_
  refine lv_iload_n hx hb dX5_waitsFor_4 rfl (lv_at hl 1 rfl) ?_
  obtain ⟨v5, e5, hf⟩ := ob2 hf
  refine c_S (As := [.int a0]) (st1 := [.int v5, rf E 212]) (rest := [rf E 212]) (p_X5_of l E x m g o e5) (kc_X5_54 hB ⟨Nat.le_of_ble_eq_true rfl, Nat.le_of_ble_eq_true rfl⟩) hx hb hml hown hB hK hW hS ⟨Nat.zero_le _, Nat.zero_le _⟩ rfl hl.1 rfl (Nat.le_of_ble_eq_true rfl) rfl dX5_waitsFor_5 (fun H locs hW hS => ?_)
  refine lv_bipush (v := 8) hx hb dX5_waitsFor_8 (by decide) ?_
  refine lv_iadd hx hb dX5_waitsFor_10 ?_
  obtain ⟨v11, e11, hf⟩ := ob2 hf
  refine r_iald hx hb hK hW (by decide) (cM_1) e11 dX5_waitsFor_11 ?_
  refine lv_istore_n (lv' := [(2, .int v11), (0, rf E 211), (1, .int a0)]) hx hb dX5_waitsFor_12 rfl hl (by decide) rfl (fun ls hl => ?_)
  refine lv_aload_n hx hb dX5_waitsFor_13 rfl (lv_at hl 1 rfl) ?_
  refine gf_X5_7 hx hb hB hK hown hW dX5_waitsFor_14 ?_
  refine lv_iload_n hx hb dX5_waitsFor_17 rfl (lv_at hl 2 rfl) ?_
  obtain ⟨v18, e18, hf⟩ := ob2 hf
  refine c_S (As := [.int a0]) (st1 := [.int v18, rf E 212]) (rest := [rf E 212]) (p_X5_of l E x m g o e18) (kc_X5_54 hB ⟨Nat.le_of_ble_eq_true rfl, Nat.le_of_ble_eq_true rfl⟩) hx hb hml hown hB hK hW hS ⟨Nat.zero_le _, Nat.zero_le _⟩ rfl hl.1 rfl (Nat.le_of_ble_eq_true rfl) rfl dX5_waitsFor_18 (fun H locs hW hS => ?_)
  refine lv_iconst (v := 3) hx hb dX5_waitsFor_21 (by decide) ?_
  refine lv_iadd hx hb dX5_waitsFor_22 ?_
  obtain ⟨v23, e23, hf⟩ := ob2 hf
  refine r_iald hx hb hK hW (by decide) (cM_1) e23 dX5_waitsFor_23 ?_
  refine lv_if_eq (tgt := 32) hx hb dX5_waitsFor_24 (by decide) (fun c24 => ?_) (fun c24 => ?_)
  · rw [if_pos c24] at hf
    refine lv_iconst (v := 0) hx hb dX5_waitsFor_32 (by decide) ?_
    cases hf
    exact e_i hx hb hr hlk hW hS dX5_waitsFor_33
  · rw [if_neg c24] at hf
    refine lv_iload_n hx hb dX5_waitsFor_27 rfl (lv_at hl 0 rfl) ?_
    refine lv_iconst (v := (-1)) hx hb dX5_waitsFor_28 (by decide) ?_
    refine lv_icmp_ne (tgt := 34) hx hb dX5_waitsFor_29 (by decide) (fun c29 => ?_) (fun c29 => ?_)
    · rw [if_neg c29] at hf
      refine lv_aload_n hx hb dX5_waitsFor_34 rfl (lv_at hl 1 rfl) ?_
      refine lv_aload_n hx hb dX5_waitsFor_35 rfl (lv_at hl 1 rfl) ?_
      refine gf_X5_7 hx hb hB hK hown hW dX5_waitsFor_36 ?_
      refine lv_iload_n hx hb dX5_waitsFor_39 rfl (lv_at hl 2 rfl) ?_
      obtain ⟨v40, e40, hf⟩ := ob2 hf
      refine c_S (As := [.int a0]) (st1 := [.int v40, rf E 212, rf E 211]) (rest := [rf E 212, rf E 211]) (p_X5_of l E x m g o e40) (kc_X5_54 hB ⟨Nat.le_of_ble_eq_true rfl, Nat.le_of_ble_eq_true rfl⟩) hx hb hml hown hB hK hW hS ⟨Nat.zero_le _, Nat.zero_le _⟩ rfl hl.1 rfl (Nat.le_of_ble_eq_true rfl) rfl dX5_waitsFor_40 (fun H locs hW hS => ?_)
      obtain ⟨v43, e43, hf⟩ := ob2 hf
      refine r_iald hx hb hK hW (by decide) (cM_1) e43 dX5_waitsFor_43 ?_
      refine lv_aload_n hx hb dX5_waitsFor_44 rfl (lv_at hl 1 rfl) ?_
      refine gf_X5_7 hx hb hB hK hown hW dX5_waitsFor_45 ?_
      refine lv_sipush (v := 130) hx hb dX5_waitsFor_48 (by decide) ?_
      refine lv_iconst (v := 3) hx hb dX5_waitsFor_51 (by decide) ?_
      refine lv_iload_n hx hb dX5_waitsFor_52 rfl (lv_at hl 0 rfl) ?_
      refine lv_imul hx hb dX5_waitsFor_53 ?_
      refine lv_iadd hx hb dX5_waitsFor_54 ?_
      obtain ⟨v55, e55, hf⟩ := ob2 hf
      refine r_iald hx hb hK hW (by decide) (cM_1) e55 dX5_waitsFor_55 ?_
      obtain ⟨v56, e56, hf⟩ := ob2 hf
      refine c_V (As := [.int v43, .int v55]) (st1 := [.int v56]) (rest := []) (p_X5_cost l E x m g o e56) (kc_X5_57 hB ⟨Nat.le_of_ble_eq_true rfl, Nat.le_of_ble_eq_true rfl⟩) (Wd.rec hK hW (by decide) cM_0 (ci := 5) rfl) hx hb hml hown hB hK hW hS ⟨Nat.zero_le _, Nat.zero_le _⟩ rfl hl.1 rfl (Nat.le_of_ble_eq_true rfl) rfl dX5_waitsFor_56 (fun H locs hW hS => ?_)
      refine lv_aload_n hx hb dX5_waitsFor_59 rfl (lv_at hl 1 rfl) ?_
      refine gf_X5_7 hx hb hB hK hown hW dX5_waitsFor_60 ?_
      refine lv_iload_n hx hb dX5_waitsFor_63 rfl (lv_at hl 2 rfl) ?_
      obtain ⟨v64, e64, hf⟩ := ob2 hf
      refine c_S (As := [.int a0]) (st1 := [.int v64, rf E 212, .int v56]) (rest := [rf E 212, .int v56]) (p_X5_of l E x m g o e64) (kc_X5_54 hB ⟨Nat.le_of_ble_eq_true rfl, Nat.le_of_ble_eq_true rfl⟩) hx hb hml hown hB hK hW hS ⟨Nat.zero_le _, Nat.zero_le _⟩ rfl hl.1 rfl (Nat.le_of_ble_eq_true rfl) rfl dX5_waitsFor_64 (fun H locs hW hS => ?_)
      refine lv_iconst (v := 5) hx hb dX5_waitsFor_67 (by decide) ?_
      refine lv_iadd hx hb dX5_waitsFor_68 ?_
      obtain ⟨v69, e69, hf⟩ := ob2 hf
      refine r_iald hx hb hK hW (by decide) (cM_1) e69 dX5_waitsFor_69 ?_
      refine lv_isub hx hb dX5_waitsFor_70 ?_
      obtain ⟨v71, e71, hf⟩ := ob hf
      refine lv_nm e71 ?_
      refine lv_istore_n (lv' := [(3, .int v71), (2, .int v11), (0, rf E 211), (1, .int a0)]) hx hb dX5_waitsFor_71 rfl hl (by decide) rfl (fun ls hl => ?_)
      refine lv_iload_n hx hb dX5_waitsFor_72 rfl (lv_at hl 0 rfl) ?_
      refine lv_if_le (tgt := 80) hx hb dX5_waitsFor_73 (by decide) (fun c73 => ?_) (fun c73 => ?_)
      · rw [if_pos c73] at hf
        refine lv_iconst (v := 0) hx hb dX5_waitsFor_80 (by decide) ?_
        cases hf
        exact e_i hx hb hr hlk hW hS dX5_waitsFor_81
      · rw [if_neg c73] at hf
        refine lv_iload_n hx hb dX5_waitsFor_76 rfl (lv_at hl 0 rfl) ?_
        refine lv_goto (tgt := 81) hx hb dX5_waitsFor_77 (by decide) ?_
        cases hf
        exact e_i hx hb hr hlk hW hS dX5_waitsFor_81
    · rw [if_pos c29] at hf
      refine lv_iconst (v := 0) hx hb dX5_waitsFor_32 (by decide) ?_
      cases hf
      exact e_i hx hb hr hlk hW hS dX5_waitsFor_33
def f_X5_offer_50 (m50 : XS) : Option (Int32 × XS) :=
    (f_X5_fails m50 2).bind fun q52 => (fun v52 m52 =>
    some (v52, m52)) q52.1 q52.2
def f_X5_offer (m : XS) (a0 : Int32) (a1 : Int32) (a2 : Int32) (a3 : Int32) : Option (Int32 × XS) :=
    (some (ux m 0 6 0)).bind fun m2 =>
    (f_X5_isKind a0).bind fun v6 =>
    if (v6 = 0 : Prop) then
      ((f_X5_fails m2 1).bind fun q14 => (fun v14 m14 =>
      some (v14, m14)) q14.1 q14.2)
    else
      ((f_X5_in a1 0 999).bind fun v23 =>
      if (v23 = 0 : Prop) then
        f_X5_offer_50 m2
      else
        ((f_X5_in a2 1 9).bind fun v33 =>
        if (v33 = 0 : Prop) then
          f_X5_offer_50 m2
        else
          ((f_X5_in a3 a2 9).bind fun v44 =>
          if (v44 = 0 : Prop) then
            f_X5_offer_50 m2
          else
            ((f_X5_at a0).bind fun v61 =>
            (aget 442 (m2 1) (v61 + 3)).bind fun v66 =>
            if (v66 = 6 : Prop) then
              ((f_X5_fails m2 3).bind fun q74 => (fun v74 m74 =>
              some (v74, m74)) q74.1 q74.2)
            else
              ((f_X5_save m2).bind fun m79 =>
              (f_X5_at a0).bind fun v88 =>
              (aget 442 (m79 1) (v88 + 3)).bind fun v93 =>
              (f_X5_menuAt a0 v93).bind fun v94 =>
              (aset m79 1 442 v94 a1).bind fun m106 =>
              (aset m106 1 442 (v94 + 1) a2).bind fun m116 =>
              (aset m116 1 442 (v94 + 2) a3).bind fun m127 =>
              (aset m127 1 442 (v94 + 3) 1).bind fun m137 =>
              (f_X5_at a0).bind fun v143 =>
              (aget 442 (m137 1) (v143 + 3)).bind fun v149 =>
              (aset m137 1 442 (v143 + 3) (v149 + 1)).bind fun m152 =>
              (f_X5_at a0).bind fun v158 =>
              (aget 442 (m152 1) (v158 + 3)).bind fun v163 =>
              some ((v163 - 1), m152))))))
set_option maxRecDepth 100000 in
set_option maxHeartbeats 4000000 in
theorem p_X5_offer (l : Launch) (E : TE) (x m : XS) (g o : Int64) {a0 : Int32} {a1 : Int32} {a2 : Int32} {a3 : Int32} {r : Int32} {mr : XS} (hf : f_X5_offer m a0 a1 a2 a3 = some (r, mr)) : MG l E yX5_offer cX5_offer 6 (some .int) 2 [rf E 211, .int a0, .int a1, .int a2, .int a3] (Wd E x m g o) (Wd E x mr g o) (some (.int r)) := by
  unfold f_X5_offer at hf
  refine m_in (by decide) (Nat.le_of_ble_eq_true rfl) ?_
  intro p e s mi args below meth c H ls hx hb hr hlk hml hown hB hK hW hS hl
  have hl : lv_has ls 6 [(0, rf E 211), (1, .int a0), (2, .int a1), (3, .int a2), (4, .int a3)] := hl
  have J50 : ∀ (m50 : XS) (H : Heap) (locs : List Loc) (ls : Array Slot), f_X5_offer_50 m50 = some (r, mr) → Wd E x m50 g o H → va_S (Ah E) s.heap H locs → lv_has ls 6 [(0, rf E 211)] → W p l e (rmH 2) s mi args below meth c H locs 0 0 (EQ E below args s (Wd E x mr g o) (some (.int r))) (F0 mi 50 ls []) := by
    intro m50 H locs ls hf hW hS hl
    unfold f_X5_offer_50 at hf
    refine lv_aload_n hx hb dX5_offer_50 rfl (lv_at hl 0 rfl) ?_
    refine lv_iconst (v := 2) hx hb dX5_offer_51 (by decide) ?_
    obtain ⟨⟨v52, m52⟩, e52, hf⟩ := ob2 hf
    dsimp only at hf
    refine c_V (As := [.int 2]) (st1 := [.int v52]) (rest := []) (p_X5_fails l E x m50 g o e52) (kc_X5_64 hB ⟨Nat.le_of_ble_eq_true rfl, Nat.le_of_ble_eq_true rfl⟩) (Wd.rec hK hW (by decide) cM_0 (ci := 5) rfl) hx hb hml hown hB hK hW hS ⟨Nat.zero_le _, Nat.zero_le _⟩ rfl hl.1 rfl (Nat.le_of_ble_eq_true rfl) rfl dX5_offer_52 (fun H locs hW hS => ?_)
    cases hf
    exact e_i hx hb hr hlk hW hS dX5_offer_55
  refine lv_aload_n hx hb dX5_offer_0 rfl (lv_at hl 0 rfl) ?_
  refine lv_iconst (v := 0) hx hb dX5_offer_1 (by decide) ?_
  obtain ⟨m2, e2, hf⟩ := ob hf
  refine pf_X5_29 hx hb hB hK hown hW hS e2 dX5_offer_2 (fun H locs hW hS => ?_)
  refine lv_iload_n hx hb dX5_offer_5 rfl (lv_at hl 1 rfl) ?_
  obtain ⟨v6, e6, hf⟩ := ob2 hf
  refine c_S (As := [.int a0]) (st1 := [.int v6]) (rest := []) (p_X5_isKind l E x m2 g o e6) (kc_X5_60 hB ⟨Nat.le_of_ble_eq_true rfl, Nat.le_of_ble_eq_true rfl⟩) hx hb hml hown hB hK hW hS ⟨Nat.zero_le _, Nat.zero_le _⟩ rfl hl.1 rfl (Nat.le_of_ble_eq_true rfl) rfl dX5_offer_6 (fun H locs hW hS => ?_)
  refine lv_if_ne (tgt := 18) hx hb dX5_offer_9 (by decide) (fun c9 => ?_) (fun c9 => ?_)
  · rw [if_neg c9] at hf
    refine lv_iload_n hx hb dX5_offer_18 rfl (lv_at hl 2 rfl) ?_
    refine lv_iconst (v := 0) hx hb dX5_offer_19 (by decide) ?_
    refine lv_sipush (v := 999) hx hb dX5_offer_20 (by decide) ?_
    obtain ⟨v23, e23, hf⟩ := ob2 hf
    refine c_S (As := [.int a1, .int 0, .int 999]) (st1 := [.int v23]) (rest := []) (p_X5_in l E x m2 g o e23) (kc_X5_36 hB ⟨Nat.le_of_ble_eq_true rfl, Nat.le_of_ble_eq_true rfl⟩) hx hb hml hown hB hK hW hS ⟨Nat.zero_le _, Nat.zero_le _⟩ rfl hl.1 rfl (Nat.le_of_ble_eq_true rfl) rfl dX5_offer_23 (fun H locs hW hS => ?_)
    refine lv_if_eq (tgt := 50) hx hb dX5_offer_26 (by decide) (fun c26 => ?_) (fun c26 => ?_)
    · rw [if_pos c26] at hf
      exact J50 m2 _ _ _ hf hW hS (lv_sub hl [0] rfl)
    · rw [if_neg c26] at hf
      refine lv_iload_n hx hb dX5_offer_29 rfl (lv_at hl 3 rfl) ?_
      refine lv_iconst (v := 1) hx hb dX5_offer_30 (by decide) ?_
      refine lv_bipush (v := 9) hx hb dX5_offer_31 (by decide) ?_
      obtain ⟨v33, e33, hf⟩ := ob2 hf
      refine c_S (As := [.int a2, .int 1, .int 9]) (st1 := [.int v33]) (rest := []) (p_X5_in l E x m2 g o e33) (kc_X5_36 hB ⟨Nat.le_of_ble_eq_true rfl, Nat.le_of_ble_eq_true rfl⟩) hx hb hml hown hB hK hW hS ⟨Nat.zero_le _, Nat.zero_le _⟩ rfl hl.1 rfl (Nat.le_of_ble_eq_true rfl) rfl dX5_offer_33 (fun H locs hW hS => ?_)
      refine lv_if_eq (tgt := 50) hx hb dX5_offer_36 (by decide) (fun c36 => ?_) (fun c36 => ?_)
      · rw [if_pos c36] at hf
        exact J50 m2 _ _ _ hf hW hS (lv_sub hl [0] rfl)
      · rw [if_neg c36] at hf
        refine lv_iload hx hb dX5_offer_39 (lv_at hl 4 rfl) ?_
        refine lv_iload_n hx hb dX5_offer_41 rfl (lv_at hl 3 rfl) ?_
        refine lv_bipush (v := 9) hx hb dX5_offer_42 (by decide) ?_
        obtain ⟨v44, e44, hf⟩ := ob2 hf
        refine c_S (As := [.int a3, .int a2, .int 9]) (st1 := [.int v44]) (rest := []) (p_X5_in l E x m2 g o e44) (kc_X5_36 hB ⟨Nat.le_of_ble_eq_true rfl, Nat.le_of_ble_eq_true rfl⟩) hx hb hml hown hB hK hW hS ⟨Nat.zero_le _, Nat.zero_le _⟩ rfl hl.1 rfl (Nat.le_of_ble_eq_true rfl) rfl dX5_offer_44 (fun H locs hW hS => ?_)
        refine lv_if_ne (tgt := 56) hx hb dX5_offer_47 (by decide) (fun c47 => ?_) (fun c47 => ?_)
        · rw [if_neg c47] at hf
          refine lv_aload_n hx hb dX5_offer_56 rfl (lv_at hl 0 rfl) ?_
          refine gf_X5_7 hx hb hB hK hown hW dX5_offer_57 ?_
          refine lv_iload_n hx hb dX5_offer_60 rfl (lv_at hl 1 rfl) ?_
          obtain ⟨v61, e61, hf⟩ := ob2 hf
          refine c_S (As := [.int a0]) (st1 := [.int v61, rf E 212]) (rest := [rf E 212]) (p_X5_at l E x m2 g o e61) (kc_X5_25 hB ⟨Nat.le_of_ble_eq_true rfl, Nat.le_of_ble_eq_true rfl⟩) hx hb hml hown hB hK hW hS ⟨Nat.zero_le _, Nat.zero_le _⟩ rfl hl.1 rfl (Nat.le_of_ble_eq_true rfl) rfl dX5_offer_61 (fun H locs hW hS => ?_)
          refine lv_iconst (v := 3) hx hb dX5_offer_64 (by decide) ?_
          refine lv_iadd hx hb dX5_offer_65 ?_
          obtain ⟨v66, e66, hf⟩ := ob2 hf
          refine r_iald hx hb hK hW (by decide) (cM_1) e66 dX5_offer_66 ?_
          refine lv_bipush (v := 6) hx hb dX5_offer_67 (by decide) ?_
          refine lv_icmp_ne (tgt := 78) hx hb dX5_offer_69 (by decide) (fun c69 => ?_) (fun c69 => ?_)
          · rw [if_neg c69] at hf
            refine lv_aload_n hx hb dX5_offer_78 rfl (lv_at hl 0 rfl) ?_
            obtain ⟨m79, e79, hf⟩ := ob2 hf
            refine c_V (As := []) (st1 := []) (rest := []) (p_X5_save l E x m2 g o e79) (kc_X5_67 hB ⟨Nat.le_of_ble_eq_true rfl, Nat.le_of_ble_eq_true rfl⟩) (Wd.rec hK hW (by decide) cM_0 (ci := 5) rfl) hx hb hml hown hB hK hW hS ⟨Nat.zero_le _, Nat.zero_le _⟩ rfl hl.1 rfl (Nat.le_of_ble_eq_true rfl) rfl dX5_offer_79 (fun H locs hW hS => ?_)
            refine lv_iload_n hx hb dX5_offer_82 rfl (lv_at hl 1 rfl) ?_
            refine lv_aload_n hx hb dX5_offer_83 rfl (lv_at hl 0 rfl) ?_
            refine gf_X5_7 hx hb hB hK hown hW dX5_offer_84 ?_
            refine lv_iload_n hx hb dX5_offer_87 rfl (lv_at hl 1 rfl) ?_
            obtain ⟨v88, e88, hf⟩ := ob2 hf
            refine c_S (As := [.int a0]) (st1 := [.int v88, rf E 212, .int a0]) (rest := [rf E 212, .int a0]) (p_X5_at l E x m79 g o e88) (kc_X5_25 hB ⟨Nat.le_of_ble_eq_true rfl, Nat.le_of_ble_eq_true rfl⟩) hx hb hml hown hB hK hW hS ⟨Nat.zero_le _, Nat.zero_le _⟩ rfl hl.1 rfl (Nat.le_of_ble_eq_true rfl) rfl dX5_offer_88 (fun H locs hW hS => ?_)
            refine lv_iconst (v := 3) hx hb dX5_offer_91 (by decide) ?_
            refine lv_iadd hx hb dX5_offer_92 ?_
            obtain ⟨v93, e93, hf⟩ := ob2 hf
            refine r_iald hx hb hK hW (by decide) (cM_1) e93 dX5_offer_93 ?_
            obtain ⟨v94, e94, hf⟩ := ob2 hf
            refine c_S (As := [.int a0, .int v93]) (st1 := [.int v94]) (rest := []) (p_X5_menuAt l E x m79 g o e94) (kc_X5_44 hB ⟨Nat.le_of_ble_eq_true rfl, Nat.le_of_ble_eq_true rfl⟩) hx hb hml hown hB hK hW hS ⟨Nat.zero_le _, Nat.zero_le _⟩ rfl hl.1 rfl (Nat.le_of_ble_eq_true rfl) rfl dX5_offer_94 (fun H locs hW hS => ?_)
            refine lv_istore (lv' := [(5, .int v94), (0, rf E 211), (1, .int a0), (2, .int a1), (3, .int a2), (4, .int a3)]) hx hb dX5_offer_97 hl (by decide) rfl (fun ls hl => ?_)
            refine lv_aload_n hx hb dX5_offer_99 rfl (lv_at hl 1 rfl) ?_
            refine gf_X5_7 hx hb hB hK hown hW dX5_offer_100 ?_
            refine lv_iload hx hb dX5_offer_103 (lv_at hl 0 rfl) ?_
            refine lv_iload_n hx hb dX5_offer_105 rfl (lv_at hl 3 rfl) ?_
            obtain ⟨m106, e106, hf⟩ := ob2 hf
            refine r_iastM (k := 1) hx hb hK hW hS (by decide) (fun _ => cM_1) e106 dX5_offer_106 (fun H locs hW hS => ?_)
            refine lv_aload_n hx hb dX5_offer_107 rfl (lv_at hl 1 rfl) ?_
            refine gf_X5_7 hx hb hB hK hown hW dX5_offer_108 ?_
            refine lv_iload hx hb dX5_offer_111 (lv_at hl 0 rfl) ?_
            refine lv_iconst (v := 1) hx hb dX5_offer_113 (by decide) ?_
            refine lv_iadd hx hb dX5_offer_114 ?_
            refine lv_iload_n hx hb dX5_offer_115 rfl (lv_at hl 4 rfl) ?_
            obtain ⟨m116, e116, hf⟩ := ob2 hf
            refine r_iastM (k := 1) hx hb hK hW hS (by decide) (fun _ => cM_1) e116 dX5_offer_116 (fun H locs hW hS => ?_)
            refine lv_aload_n hx hb dX5_offer_117 rfl (lv_at hl 1 rfl) ?_
            refine gf_X5_7 hx hb hB hK hown hW dX5_offer_118 ?_
            refine lv_iload hx hb dX5_offer_121 (lv_at hl 0 rfl) ?_
            refine lv_iconst (v := 2) hx hb dX5_offer_123 (by decide) ?_
            refine lv_iadd hx hb dX5_offer_124 ?_
            refine lv_iload hx hb dX5_offer_125 (lv_at hl 5 rfl) ?_
            obtain ⟨m127, e127, hf⟩ := ob2 hf
            refine r_iastM (k := 1) hx hb hK hW hS (by decide) (fun _ => cM_1) e127 dX5_offer_127 (fun H locs hW hS => ?_)
            refine lv_aload_n hx hb dX5_offer_128 rfl (lv_at hl 1 rfl) ?_
            refine gf_X5_7 hx hb hB hK hown hW dX5_offer_129 ?_
            refine lv_iload hx hb dX5_offer_132 (lv_at hl 0 rfl) ?_
            refine lv_iconst (v := 3) hx hb dX5_offer_134 (by decide) ?_
            refine lv_iadd hx hb dX5_offer_135 ?_
            refine lv_iconst (v := 1) hx hb dX5_offer_136 (by decide) ?_
            obtain ⟨m137, e137, hf⟩ := ob2 hf
            refine r_iastM (k := 1) hx hb hK hW hS (by decide) (fun _ => cM_1) e137 dX5_offer_137 (fun H locs hW hS => ?_)
            refine lv_aload_n hx hb dX5_offer_138 rfl (lv_at hl 1 rfl) ?_
            refine gf_X5_7 hx hb hB hK hown hW dX5_offer_139 ?_
            refine lv_iload_n hx hb dX5_offer_142 rfl (lv_at hl 2 rfl) ?_
            obtain ⟨v143, e143, hf⟩ := ob2 hf
            refine c_S (As := [.int a0]) (st1 := [.int v143, rf E 212]) (rest := [rf E 212]) (p_X5_at l E x m137 g o e143) (kc_X5_25 hB ⟨Nat.le_of_ble_eq_true rfl, Nat.le_of_ble_eq_true rfl⟩) hx hb hml hown hB hK hW hS ⟨Nat.zero_le _, Nat.zero_le _⟩ rfl hl.1 rfl (Nat.le_of_ble_eq_true rfl) rfl dX5_offer_143 (fun H locs hW hS => ?_)
            refine lv_iconst (v := 3) hx hb dX5_offer_146 (by decide) ?_
            refine lv_iadd hx hb dX5_offer_147 ?_
            refine lv_dup2_11 hx hb dX5_offer_148 rfl rfl ?_
            obtain ⟨v149, e149, hf⟩ := ob2 hf
            refine r_iald hx hb hK hW (by decide) (cM_1) e149 dX5_offer_149 ?_
            refine lv_iconst (v := 1) hx hb dX5_offer_150 (by decide) ?_
            refine lv_iadd hx hb dX5_offer_151 ?_
            obtain ⟨m152, e152, hf⟩ := ob2 hf
            refine r_iastM (k := 1) hx hb hK hW hS (by decide) (fun _ => cM_1) e152 dX5_offer_152 (fun H locs hW hS => ?_)
            refine lv_aload_n hx hb dX5_offer_153 rfl (lv_at hl 1 rfl) ?_
            refine gf_X5_7 hx hb hB hK hown hW dX5_offer_154 ?_
            refine lv_iload_n hx hb dX5_offer_157 rfl (lv_at hl 2 rfl) ?_
            obtain ⟨v158, e158, hf⟩ := ob2 hf
            refine c_S (As := [.int a0]) (st1 := [.int v158, rf E 212]) (rest := [rf E 212]) (p_X5_at l E x m152 g o e158) (kc_X5_25 hB ⟨Nat.le_of_ble_eq_true rfl, Nat.le_of_ble_eq_true rfl⟩) hx hb hml hown hB hK hW hS ⟨Nat.zero_le _, Nat.zero_le _⟩ rfl hl.1 rfl (Nat.le_of_ble_eq_true rfl) rfl dX5_offer_158 (fun H locs hW hS => ?_)
            refine lv_iconst (v := 3) hx hb dX5_offer_161 (by decide) ?_
            refine lv_iadd hx hb dX5_offer_162 ?_
            obtain ⟨v163, e163, hf⟩ := ob2 hf
            refine r_iald hx hb hK hW (by decide) (cM_1) e163 dX5_offer_163 ?_
            refine lv_iconst (v := 1) hx hb dX5_offer_164 (by decide) ?_
            refine lv_isub hx hb dX5_offer_165 ?_
            cases hf
            exact e_i hx hb hr hlk hW hS dX5_offer_166
          · rw [if_pos c69] at hf
            refine lv_aload_n hx hb dX5_offer_72 rfl (lv_at hl 0 rfl) ?_
            refine lv_iconst (v := 3) hx hb dX5_offer_73 (by decide) ?_
            obtain ⟨⟨v74, m74⟩, e74, hf⟩ := ob2 hf
            dsimp only at hf
            refine c_V (As := [.int 3]) (st1 := [.int v74]) (rest := []) (p_X5_fails l E x m2 g o e74) (kc_X5_64 hB ⟨Nat.le_of_ble_eq_true rfl, Nat.le_of_ble_eq_true rfl⟩) (Wd.rec hK hW (by decide) cM_0 (ci := 5) rfl) hx hb hml hown hB hK hW hS ⟨Nat.zero_le _, Nat.zero_le _⟩ rfl hl.1 rfl (Nat.le_of_ble_eq_true rfl) rfl dX5_offer_74 (fun H locs hW hS => ?_)
            cases hf
            exact e_i hx hb hr hlk hW hS dX5_offer_77
        · rw [if_pos c47] at hf
          exact J50 m2 _ _ _ hf hW hS (lv_sub hl [0] rfl)
  · rw [if_pos c9] at hf
    refine lv_aload_n hx hb dX5_offer_12 rfl (lv_at hl 0 rfl) ?_
    refine lv_iconst (v := 1) hx hb dX5_offer_13 (by decide) ?_
    obtain ⟨⟨v14, m14⟩, e14, hf⟩ := ob2 hf
    dsimp only at hf
    refine c_V (As := [.int 1]) (st1 := [.int v14]) (rest := []) (p_X5_fails l E x m2 g o e14) (kc_X5_64 hB ⟨Nat.le_of_ble_eq_true rfl, Nat.le_of_ble_eq_true rfl⟩) (Wd.rec hK hW (by decide) cM_0 (ci := 5) rfl) hx hb hml hown hB hK hW hS ⟨Nat.zero_le _, Nat.zero_le _⟩ rfl hl.1 rfl (Nat.le_of_ble_eq_true rfl) rfl dX5_offer_14 (fun H locs hW hS => ?_)
    cases hf
    exact e_i hx hb hr hlk hW hS dX5_offer_17
def f_X5_offered_4 (m : XS) : Nat → Int32 → Int32 → Int32 → Option (Int32)
  | 0, _, _, _ => none
  | n4 + 1, l1_4, l2_4, l3_4 =>
    (f_X5_at l1_4).bind fun v10 =>
    (aget 442 (m 1) (v10 + 3)).bind fun v15 =>
    if (v15 ≤ l3_4 : Prop) then
      some l2_4
    else
      ((f_X5_menuAt l1_4 l3_4).bind fun v26 =>
      (aget 442 (m 1) (v26 + 3)).bind fun v31 =>
      (some ((l2_4 + v31))).bind fun v33 =>
      (some (l3_4 + 1)).bind fun v34 =>
      f_X5_offered_4 m n4 l1_4 v33 v34)
def f_X5_offered (m : XS) (a0 : Int32) : Option (Int32) :=
    f_X5_offered_4 m 4096 a0 0 0
set_option maxRecDepth 100000 in
set_option maxHeartbeats 4000000 in
theorem p_X5_offered (l : Launch) (E : TE) (x m : XS) (g o : Int64) {a0 : Int32} {r : Int32} (hf : f_X5_offered m a0 = some r) : MG l E yX5_offered cX5_offered 4 (some .int) 2 [rf E 211, .int a0] (Wd E x m g o) (Wd E x m g o) (some (.int r)) := by
  unfold f_X5_offered at hf
  refine m_in (by decide) (Nat.le_of_ble_eq_true rfl) ?_
  intro p e s mi args below meth c H ls hx hb hr hlk hml hown hB hK hW hS hl
  have hl : lv_has ls 4 [(0, rf E 211), (1, .int a0)] := hl
  have J4 : ∀ (n4 : Nat), ∀ (l1_4 : Int32) (l2_4 : Int32) (l3_4 : Int32) (H : Heap) (locs : List Loc) (ls : Array Slot), f_X5_offered_4 m n4 l1_4 l2_4 l3_4 = some r → Wd E x m g o H → va_S (Ah E) s.heap H locs → lv_has ls 4 [(0, rf E 211), (1, .int l1_4), (2, .int l2_4), (3, .int l3_4)] → W p l e (rmH 2) s mi args below meth c H locs 0 0 (EQ E below args s (Wd E x m g o) (some (.int r))) (F0 mi 4 ls []) := by
    intro n4
    induction n4 with
    | zero => intro l1_4 l2_4 l3_4 H locs ls hf; exact absurd hf (fun z => nomatch (show (none : Option (Int32)) = some _ from z))
    | succ n4 ih4 =>
      intro l1_4 l2_4 l3_4 H locs ls hf hW hS hl
      rw [f_X5_offered_4.eq_2] at hf
      refine lv_iload_n hx hb dX5_offered_4 rfl (lv_at hl 3 rfl) ?_
      refine lv_aload_n hx hb dX5_offered_5 rfl (lv_at hl 0 rfl) ?_
      refine gf_X5_7 hx hb hB hK hown hW dX5_offered_6 ?_
      refine lv_iload_n hx hb dX5_offered_9 rfl (lv_at hl 1 rfl) ?_
      obtain ⟨v10, e10, hf⟩ := ob2 hf
      refine c_S (As := [.int l1_4]) (st1 := [.int v10, rf E 212, .int l3_4]) (rest := [rf E 212, .int l3_4]) (p_X5_at l E x m g o e10) (kc_X5_25 hB ⟨Nat.le_of_ble_eq_true rfl, Nat.le_of_ble_eq_true rfl⟩) hx hb hml hown hB hK hW hS ⟨Nat.zero_le _, Nat.zero_le _⟩ rfl hl.1 rfl (Nat.le_of_ble_eq_true rfl) rfl dX5_offered_10 (fun H locs hW hS => ?_)
      refine lv_iconst (v := 3) hx hb dX5_offered_13 (by decide) ?_
      refine lv_iadd hx hb dX5_offered_14 ?_
      obtain ⟨v15, e15, hf⟩ := ob2 hf
      refine r_iald hx hb hK hW (by decide) (cM_1) e15 dX5_offered_15 ?_
      refine lv_icmp_ge (tgt := 40) hx hb dX5_offered_16 (by decide) (fun c16 => ?_) (fun c16 => ?_)
      · rw [if_pos c16] at hf
        refine lv_iload_n hx hb dX5_offered_40 rfl (lv_at hl 2 rfl) ?_
        cases hf
        exact e_i hx hb hr hlk hW hS dX5_offered_41
      · rw [if_neg c16] at hf
        refine lv_iload_n hx hb dX5_offered_19 rfl (lv_at hl 2 rfl) ?_
        refine lv_aload_n hx hb dX5_offered_20 rfl (lv_at hl 0 rfl) ?_
        refine gf_X5_7 hx hb hB hK hown hW dX5_offered_21 ?_
        refine lv_iload_n hx hb dX5_offered_24 rfl (lv_at hl 1 rfl) ?_
        refine lv_iload_n hx hb dX5_offered_25 rfl (lv_at hl 3 rfl) ?_
        obtain ⟨v26, e26, hf⟩ := ob2 hf
        refine c_S (As := [.int l1_4, .int l3_4]) (st1 := [.int v26, rf E 212, .int l2_4]) (rest := [rf E 212, .int l2_4]) (p_X5_menuAt l E x m g o e26) (kc_X5_44 hB ⟨Nat.le_of_ble_eq_true rfl, Nat.le_of_ble_eq_true rfl⟩) hx hb hml hown hB hK hW hS ⟨Nat.zero_le _, Nat.zero_le _⟩ rfl hl.1 rfl (Nat.le_of_ble_eq_true rfl) rfl dX5_offered_26 (fun H locs hW hS => ?_)
        refine lv_iconst (v := 3) hx hb dX5_offered_29 (by decide) ?_
        refine lv_iadd hx hb dX5_offered_30 ?_
        obtain ⟨v31, e31, hf⟩ := ob2 hf
        refine r_iald hx hb hK hW (by decide) (cM_1) e31 dX5_offered_31 ?_
        refine lv_iadd hx hb dX5_offered_32 ?_
        obtain ⟨v33, e33, hf⟩ := ob hf
        refine lv_nm e33 ?_
        refine lv_istore_n (lv' := [(2, .int v33), (0, rf E 211), (1, .int l1_4), (3, .int l3_4)]) hx hb dX5_offered_33 rfl hl (by decide) rfl (fun ls hl => ?_)
        obtain ⟨v34, e34, hf⟩ := ob hf
        refine lv_iinc (v := v34) (lv' := [(3, .int v34), (2, .int v33), (0, rf E 211), (1, .int l1_4)]) hx hb dX5_offered_34 hl (k := 3) rfl (by rw [e34]; rfl) (by decide) rfl (fun ls hl => ?_)
        refine lv_goto (tgt := 4) hx hb dX5_offered_37 (by decide) ?_
        exact ih4 l1_4 v33 v34 _ _ _ hf hW hS (lv_sub hl [2, 3, 1, 0] rfl)
  refine lv_iconst (v := 0) hx hb dX5_offered_0 (by decide) ?_
  refine lv_istore_n (lv' := [(2, .int 0), (0, rf E 211), (1, .int a0)]) hx hb dX5_offered_1 rfl hl (by decide) rfl (fun ls hl => ?_)
  refine lv_iconst (v := 0) hx hb dX5_offered_2 (by decide) ?_
  refine lv_istore_n (lv' := [(3, .int 0), (2, .int 0), (0, rf E 211), (1, .int a0)]) hx hb dX5_offered_3 rfl hl (by decide) rfl (fun ls hl => ?_)
  exact J4 4096 a0 0 0 _ _ _ hf hW hS (lv_sub hl [2, 3, 1, 0] rfl)
def f_X5_takeOff_21 (m21 : XS) : Option (Int32 × XS) :=
    (f_X5_fails m21 1).bind fun q23 => (fun v23 m23 =>
    some (v23, m23)) q23.1 q23.2
def f_X5_takeOff (m : XS) (a0 : Int32) (a1 : Int32) : Option (Int32 × XS) :=
    (some (ux m 0 6 0)).bind fun m2 =>
    (f_X5_isKind a0).bind fun v6 =>
    if (v6 = 0 : Prop) then
      f_X5_takeOff_21 m2
    else
      ((f_X5_isAmends m2 a0 a1).bind fun v15 =>
      if (v15 = 0 : Prop) then
        f_X5_takeOff_21 m2
      else
        ((f_X5_isOffered m2 a0 a1).bind fun v30 =>
        if (v30 = 0 : Prop) then
          ((f_X5_fails m2 2).bind fun q38 => (fun v38 m38 =>
          some (v38, m38)) q38.1 q38.2)
        else
          ((f_X5_save m2).bind fun m43 =>
          (f_X5_menuAt a0 a1).bind fun v52 =>
          (aset m43 1 442 (v52 + 3) 0).bind fun m58 =>
          (f_X5_offered m58 a0).bind fun v61 =>
          some (v61, m58))))
set_option maxRecDepth 100000 in
set_option maxHeartbeats 4000000 in
theorem p_X5_takeOff (l : Launch) (E : TE) (x m : XS) (g o : Int64) {a0 : Int32} {a1 : Int32} {r : Int32} {mr : XS} (hf : f_X5_takeOff m a0 a1 = some (r, mr)) : MG l E yX5_takeOff cX5_takeOff 3 (some .int) 3 [rf E 211, .int a0, .int a1] (Wd E x m g o) (Wd E x mr g o) (some (.int r)) := by
  unfold f_X5_takeOff at hf
  refine m_in (by decide) (Nat.le_of_ble_eq_true rfl) ?_
  intro p e s mi args below meth c H ls hx hb hr hlk hml hown hB hK hW hS hl
  have hl : lv_has ls 3 [(0, rf E 211), (1, .int a0), (2, .int a1)] := hl
  have J21 : ∀ (m21 : XS) (H : Heap) (locs : List Loc) (ls : Array Slot), f_X5_takeOff_21 m21 = some (r, mr) → Wd E x m21 g o H → va_S (Ah E) s.heap H locs → lv_has ls 3 [(0, rf E 211)] → W p l e (rmH 3) s mi args below meth c H locs 0 0 (EQ E below args s (Wd E x mr g o) (some (.int r))) (F0 mi 21 ls []) := by
    intro m21 H locs ls hf hW hS hl
    unfold f_X5_takeOff_21 at hf
    refine lv_aload_n hx hb dX5_takeOff_21 rfl (lv_at hl 0 rfl) ?_
    refine lv_iconst (v := 1) hx hb dX5_takeOff_22 (by decide) ?_
    obtain ⟨⟨v23, m23⟩, e23, hf⟩ := ob2 hf
    dsimp only at hf
    refine c_V (As := [.int 1]) (st1 := [.int v23]) (rest := []) (p_X5_fails l E x m21 g o e23) (kc_X5_64 hB ⟨Nat.le_of_ble_eq_true rfl, Nat.le_of_ble_eq_true rfl⟩) (Wd.rec hK hW (by decide) cM_0 (ci := 5) rfl) hx hb hml hown hB hK hW hS ⟨Nat.zero_le _, Nat.zero_le _⟩ rfl hl.1 rfl (Nat.le_of_ble_eq_true rfl) rfl dX5_takeOff_23 (fun H locs hW hS => ?_)
    cases hf
    exact e_i hx hb hr hlk hW hS dX5_takeOff_26
  refine lv_aload_n hx hb dX5_takeOff_0 rfl (lv_at hl 0 rfl) ?_
  refine lv_iconst (v := 0) hx hb dX5_takeOff_1 (by decide) ?_
  obtain ⟨m2, e2, hf⟩ := ob hf
  refine pf_X5_29 hx hb hB hK hown hW hS e2 dX5_takeOff_2 (fun H locs hW hS => ?_)
  refine lv_iload_n hx hb dX5_takeOff_5 rfl (lv_at hl 1 rfl) ?_
  obtain ⟨v6, e6, hf⟩ := ob2 hf
  refine c_S (As := [.int a0]) (st1 := [.int v6]) (rest := []) (p_X5_isKind l E x m2 g o e6) (kc_X5_60 hB ⟨Nat.le_of_ble_eq_true rfl, Nat.le_of_ble_eq_true rfl⟩) hx hb hml hown hB hK hW hS ⟨Nat.zero_le _, Nat.zero_le _⟩ rfl hl.1 rfl (Nat.le_of_ble_eq_true rfl) rfl dX5_takeOff_6 (fun H locs hW hS => ?_)
  refine lv_if_eq (tgt := 21) hx hb dX5_takeOff_9 (by decide) (fun c9 => ?_) (fun c9 => ?_)
  · rw [if_pos c9] at hf
    exact J21 m2 _ _ _ hf hW hS (lv_sub hl [0] rfl)
  · rw [if_neg c9] at hf
    refine lv_aload_n hx hb dX5_takeOff_12 rfl (lv_at hl 0 rfl) ?_
    refine lv_iload_n hx hb dX5_takeOff_13 rfl (lv_at hl 1 rfl) ?_
    refine lv_iload_n hx hb dX5_takeOff_14 rfl (lv_at hl 2 rfl) ?_
    obtain ⟨v15, e15, hf⟩ := ob2 hf
    refine c_V (As := [.int a0, .int a1]) (st1 := [.int v15]) (rest := []) (p_X5_isAmends l E x m2 g o e15) (kc_X5_40 hB ⟨Nat.le_of_ble_eq_true rfl, Nat.le_of_ble_eq_true rfl⟩) (Wd.rec hK hW (by decide) cM_0 (ci := 5) rfl) hx hb hml hown hB hK hW hS ⟨Nat.zero_le _, Nat.zero_le _⟩ rfl hl.1 rfl (Nat.le_of_ble_eq_true rfl) rfl dX5_takeOff_15 (fun H locs hW hS => ?_)
    refine lv_if_ne (tgt := 27) hx hb dX5_takeOff_18 (by decide) (fun c18 => ?_) (fun c18 => ?_)
    · rw [if_neg c18] at hf
      refine lv_aload_n hx hb dX5_takeOff_27 rfl (lv_at hl 0 rfl) ?_
      refine lv_iload_n hx hb dX5_takeOff_28 rfl (lv_at hl 1 rfl) ?_
      refine lv_iload_n hx hb dX5_takeOff_29 rfl (lv_at hl 2 rfl) ?_
      obtain ⟨v30, e30, hf⟩ := ob2 hf
      refine c_V (As := [.int a0, .int a1]) (st1 := [.int v30]) (rest := []) (p_X5_isOffered l E x m2 g o e30) (kc_X5_51 hB ⟨Nat.le_of_ble_eq_true rfl, Nat.le_of_ble_eq_true rfl⟩) (Wd.rec hK hW (by decide) cM_0 (ci := 5) rfl) hx hb hml hown hB hK hW hS ⟨Nat.zero_le _, Nat.zero_le _⟩ rfl hl.1 rfl (Nat.le_of_ble_eq_true rfl) rfl dX5_takeOff_30 (fun H locs hW hS => ?_)
      refine lv_if_ne (tgt := 42) hx hb dX5_takeOff_33 (by decide) (fun c33 => ?_) (fun c33 => ?_)
      · rw [if_neg c33] at hf
        refine lv_aload_n hx hb dX5_takeOff_42 rfl (lv_at hl 0 rfl) ?_
        obtain ⟨m43, e43, hf⟩ := ob2 hf
        refine c_V (As := []) (st1 := []) (rest := []) (p_X5_save l E x m2 g o e43) (kc_X5_67 hB ⟨Nat.le_of_ble_eq_true rfl, Nat.le_of_ble_eq_true rfl⟩) (Wd.rec hK hW (by decide) cM_0 (ci := 5) rfl) hx hb hml hown hB hK hW hS ⟨Nat.zero_le _, Nat.zero_le _⟩ rfl hl.1 rfl (Nat.le_of_ble_eq_true rfl) rfl dX5_takeOff_43 (fun H locs hW hS => ?_)
        refine lv_aload_n hx hb dX5_takeOff_46 rfl (lv_at hl 0 rfl) ?_
        refine gf_X5_7 hx hb hB hK hown hW dX5_takeOff_47 ?_
        refine lv_iload_n hx hb dX5_takeOff_50 rfl (lv_at hl 1 rfl) ?_
        refine lv_iload_n hx hb dX5_takeOff_51 rfl (lv_at hl 2 rfl) ?_
        obtain ⟨v52, e52, hf⟩ := ob2 hf
        refine c_S (As := [.int a0, .int a1]) (st1 := [.int v52, rf E 212]) (rest := [rf E 212]) (p_X5_menuAt l E x m43 g o e52) (kc_X5_44 hB ⟨Nat.le_of_ble_eq_true rfl, Nat.le_of_ble_eq_true rfl⟩) hx hb hml hown hB hK hW hS ⟨Nat.zero_le _, Nat.zero_le _⟩ rfl hl.1 rfl (Nat.le_of_ble_eq_true rfl) rfl dX5_takeOff_52 (fun H locs hW hS => ?_)
        refine lv_iconst (v := 3) hx hb dX5_takeOff_55 (by decide) ?_
        refine lv_iadd hx hb dX5_takeOff_56 ?_
        refine lv_iconst (v := 0) hx hb dX5_takeOff_57 (by decide) ?_
        obtain ⟨m58, e58, hf⟩ := ob2 hf
        refine r_iastM (k := 1) hx hb hK hW hS (by decide) (fun _ => cM_1) e58 dX5_takeOff_58 (fun H locs hW hS => ?_)
        refine lv_aload_n hx hb dX5_takeOff_59 rfl (lv_at hl 0 rfl) ?_
        refine lv_iload_n hx hb dX5_takeOff_60 rfl (lv_at hl 1 rfl) ?_
        obtain ⟨v61, e61, hf⟩ := ob2 hf
        refine c_V (As := [.int a0]) (st1 := [.int v61]) (rest := []) (p_X5_offered l E x m58 g o e61) (kc_X5_70 hB ⟨Nat.le_of_ble_eq_true rfl, Nat.le_of_ble_eq_true rfl⟩) (Wd.rec hK hW (by decide) cM_0 (ci := 5) rfl) hx hb hml hown hB hK hW hS ⟨Nat.zero_le _, Nat.zero_le _⟩ rfl hl.1 rfl (Nat.le_of_ble_eq_true rfl) rfl dX5_takeOff_61 (fun H locs hW hS => ?_)
        cases hf
        exact e_i hx hb hr hlk hW hS dX5_takeOff_64
      · rw [if_pos c33] at hf
        refine lv_aload_n hx hb dX5_takeOff_36 rfl (lv_at hl 0 rfl) ?_
        refine lv_iconst (v := 2) hx hb dX5_takeOff_37 (by decide) ?_
        obtain ⟨⟨v38, m38⟩, e38, hf⟩ := ob2 hf
        dsimp only at hf
        refine c_V (As := [.int 2]) (st1 := [.int v38]) (rest := []) (p_X5_fails l E x m2 g o e38) (kc_X5_64 hB ⟨Nat.le_of_ble_eq_true rfl, Nat.le_of_ble_eq_true rfl⟩) (Wd.rec hK hW (by decide) cM_0 (ci := 5) rfl) hx hb hml hown hB hK hW hS ⟨Nat.zero_le _, Nat.zero_le _⟩ rfl hl.1 rfl (Nat.le_of_ble_eq_true rfl) rfl dX5_takeOff_38 (fun H locs hW hS => ?_)
        cases hf
        exact e_i hx hb hr hlk hW hS dX5_takeOff_41
    · rw [if_pos c18] at hf
      exact J21 m2 _ _ _ hf hW hS (lv_sub hl [0] rfl)
def f_X5_base (m : XS) (a0 : Int32) (a1 : Int32) : Option (Int32 × XS) :=
    (some (ux m 0 6 0)).bind fun m2 =>
    (f_X5_isKind a0).bind fun v6 =>
    if (v6 = 0 : Prop) then
      ((f_X5_fails m2 1).bind fun q14 => (fun v14 m14 =>
      some (v14, m14)) q14.1 q14.2)
    else
      ((f_X5_in a1 0 9999).bind fun v23 =>
      if (v23 = 0 : Prop) then
        ((f_X5_fails m2 2).bind fun q31 => (fun v31 m31 =>
        some (v31, m31)) q31.1 q31.2)
      else
        ((f_X5_save m2).bind fun m36 =>
        (f_X5_at a0).bind fun v44 =>
        (aget 442 (m36 1) v44).bind fun v47 =>
        (f_X5_at a0).bind fun v54 =>
        (aset m36 1 442 v54 a1).bind fun m58 =>
        some (v47, m58)))
set_option maxRecDepth 100000 in
set_option maxHeartbeats 4000000 in
theorem p_X5_base (l : Launch) (E : TE) (x m : XS) (g o : Int64) {a0 : Int32} {a1 : Int32} {r : Int32} {mr : XS} (hf : f_X5_base m a0 a1 = some (r, mr)) : MG l E yX5_base cX5_base 4 (some .int) 2 [rf E 211, .int a0, .int a1] (Wd E x m g o) (Wd E x mr g o) (some (.int r)) := by
  unfold f_X5_base at hf
  refine m_in (by decide) (Nat.le_of_ble_eq_true rfl) ?_
  intro p e s mi args below meth c H ls hx hb hr hlk hml hown hB hK hW hS hl
  have hl : lv_has ls 4 [(0, rf E 211), (1, .int a0), (2, .int a1)] := hl
  refine lv_aload_n hx hb dX5_base_0 rfl (lv_at hl 0 rfl) ?_
  refine lv_iconst (v := 0) hx hb dX5_base_1 (by decide) ?_
  obtain ⟨m2, e2, hf⟩ := ob hf
  refine pf_X5_29 hx hb hB hK hown hW hS e2 dX5_base_2 (fun H locs hW hS => ?_)
  refine lv_iload_n hx hb dX5_base_5 rfl (lv_at hl 1 rfl) ?_
  obtain ⟨v6, e6, hf⟩ := ob2 hf
  refine c_S (As := [.int a0]) (st1 := [.int v6]) (rest := []) (p_X5_isKind l E x m2 g o e6) (kc_X5_60 hB ⟨Nat.le_of_ble_eq_true rfl, Nat.le_of_ble_eq_true rfl⟩) hx hb hml hown hB hK hW hS ⟨Nat.zero_le _, Nat.zero_le _⟩ rfl hl.1 rfl (Nat.le_of_ble_eq_true rfl) rfl dX5_base_6 (fun H locs hW hS => ?_)
  refine lv_if_ne (tgt := 18) hx hb dX5_base_9 (by decide) (fun c9 => ?_) (fun c9 => ?_)
  · rw [if_neg c9] at hf
    refine lv_iload_n hx hb dX5_base_18 rfl (lv_at hl 2 rfl) ?_
    refine lv_iconst (v := 0) hx hb dX5_base_19 (by decide) ?_
    refine lv_sipush (v := 9999) hx hb dX5_base_20 (by decide) ?_
    obtain ⟨v23, e23, hf⟩ := ob2 hf
    refine c_S (As := [.int a1, .int 0, .int 9999]) (st1 := [.int v23]) (rest := []) (p_X5_in l E x m2 g o e23) (kc_X5_36 hB ⟨Nat.le_of_ble_eq_true rfl, Nat.le_of_ble_eq_true rfl⟩) hx hb hml hown hB hK hW hS ⟨Nat.zero_le _, Nat.zero_le _⟩ rfl hl.1 rfl (Nat.le_of_ble_eq_true rfl) rfl dX5_base_23 (fun H locs hW hS => ?_)
    refine lv_if_ne (tgt := 35) hx hb dX5_base_26 (by decide) (fun c26 => ?_) (fun c26 => ?_)
    · rw [if_neg c26] at hf
      refine lv_aload_n hx hb dX5_base_35 rfl (lv_at hl 0 rfl) ?_
      obtain ⟨m36, e36, hf⟩ := ob2 hf
      refine c_V (As := []) (st1 := []) (rest := []) (p_X5_save l E x m2 g o e36) (kc_X5_67 hB ⟨Nat.le_of_ble_eq_true rfl, Nat.le_of_ble_eq_true rfl⟩) (Wd.rec hK hW (by decide) cM_0 (ci := 5) rfl) hx hb hml hown hB hK hW hS ⟨Nat.zero_le _, Nat.zero_le _⟩ rfl hl.1 rfl (Nat.le_of_ble_eq_true rfl) rfl dX5_base_36 (fun H locs hW hS => ?_)
      refine lv_aload_n hx hb dX5_base_39 rfl (lv_at hl 0 rfl) ?_
      refine gf_X5_7 hx hb hB hK hown hW dX5_base_40 ?_
      refine lv_iload_n hx hb dX5_base_43 rfl (lv_at hl 1 rfl) ?_
      obtain ⟨v44, e44, hf⟩ := ob2 hf
      refine c_S (As := [.int a0]) (st1 := [.int v44, rf E 212]) (rest := [rf E 212]) (p_X5_at l E x m36 g o e44) (kc_X5_25 hB ⟨Nat.le_of_ble_eq_true rfl, Nat.le_of_ble_eq_true rfl⟩) hx hb hml hown hB hK hW hS ⟨Nat.zero_le _, Nat.zero_le _⟩ rfl hl.1 rfl (Nat.le_of_ble_eq_true rfl) rfl dX5_base_44 (fun H locs hW hS => ?_)
      obtain ⟨v47, e47, hf⟩ := ob2 hf
      refine r_iald hx hb hK hW (by decide) (cM_1) e47 dX5_base_47 ?_
      refine lv_istore_n (lv' := [(3, .int v47), (0, rf E 211), (1, .int a0), (2, .int a1)]) hx hb dX5_base_48 rfl hl (by decide) rfl (fun ls hl => ?_)
      refine lv_aload_n hx hb dX5_base_49 rfl (lv_at hl 1 rfl) ?_
      refine gf_X5_7 hx hb hB hK hown hW dX5_base_50 ?_
      refine lv_iload_n hx hb dX5_base_53 rfl (lv_at hl 2 rfl) ?_
      obtain ⟨v54, e54, hf⟩ := ob2 hf
      refine c_S (As := [.int a0]) (st1 := [.int v54, rf E 212]) (rest := [rf E 212]) (p_X5_at l E x m36 g o e54) (kc_X5_25 hB ⟨Nat.le_of_ble_eq_true rfl, Nat.le_of_ble_eq_true rfl⟩) hx hb hml hown hB hK hW hS ⟨Nat.zero_le _, Nat.zero_le _⟩ rfl hl.1 rfl (Nat.le_of_ble_eq_true rfl) rfl dX5_base_54 (fun H locs hW hS => ?_)
      refine lv_iload_n hx hb dX5_base_57 rfl (lv_at hl 3 rfl) ?_
      obtain ⟨m58, e58, hf⟩ := ob2 hf
      refine r_iastM (k := 1) hx hb hK hW hS (by decide) (fun _ => cM_1) e58 dX5_base_58 (fun H locs hW hS => ?_)
      refine lv_iload_n hx hb dX5_base_59 rfl (lv_at hl 0 rfl) ?_
      cases hf
      exact e_i hx hb hr hlk hW hS dX5_base_60
    · rw [if_pos c26] at hf
      refine lv_aload_n hx hb dX5_base_29 rfl (lv_at hl 0 rfl) ?_
      refine lv_iconst (v := 2) hx hb dX5_base_30 (by decide) ?_
      obtain ⟨⟨v31, m31⟩, e31, hf⟩ := ob2 hf
      dsimp only at hf
      refine c_V (As := [.int 2]) (st1 := [.int v31]) (rest := []) (p_X5_fails l E x m2 g o e31) (kc_X5_64 hB ⟨Nat.le_of_ble_eq_true rfl, Nat.le_of_ble_eq_true rfl⟩) (Wd.rec hK hW (by decide) cM_0 (ci := 5) rfl) hx hb hml hown hB hK hW hS ⟨Nat.zero_le _, Nat.zero_le _⟩ rfl hl.1 rfl (Nat.le_of_ble_eq_true rfl) rfl dX5_base_31 (fun H locs hW hS => ?_)
      cases hf
      exact e_i hx hb hr hlk hW hS dX5_base_34
  · rw [if_pos c9] at hf
    refine lv_aload_n hx hb dX5_base_12 rfl (lv_at hl 0 rfl) ?_
    refine lv_iconst (v := 1) hx hb dX5_base_13 (by decide) ?_
    obtain ⟨⟨v14, m14⟩, e14, hf⟩ := ob2 hf
    dsimp only at hf
    refine c_V (As := [.int 1]) (st1 := [.int v14]) (rest := []) (p_X5_fails l E x m2 g o e14) (kc_X5_64 hB ⟨Nat.le_of_ble_eq_true rfl, Nat.le_of_ble_eq_true rfl⟩) (Wd.rec hK hW (by decide) cM_0 (ci := 5) rfl) hx hb hml hown hB hK hW hS ⟨Nat.zero_le _, Nat.zero_le _⟩ rfl hl.1 rfl (Nat.le_of_ble_eq_true rfl) rfl dX5_base_14 (fun H locs hW hS => ?_)
    cases hf
    exact e_i hx hb hr hlk hW hS dX5_base_17
def f_X5_maySet (a0 : Int32) (a1 : Int32) : Option (Int32) :=
    if (a0 = 0 : Prop) then
      ((f_X5_in a1 1 6).bind fun v8 =>
      if (v8 = 0 ∨ v8 = 1 : Prop) then some v8 else none)
    else
      (if (a0 = 1 : Prop) then
        ((f_X5_in a1 0 3).bind fun v22 =>
        if (v22 = 0 ∨ v22 = 1 : Prop) then some v22 else none)
      else
        ((f_X5_in a1 0 100).bind fun v32 =>
        if (v32 = 0 ∨ v32 = 1 : Prop) then some v32 else none))
set_option maxRecDepth 100000 in
set_option maxHeartbeats 4000000 in
theorem p_X5_maySet (l : Launch) (E : TE) (x m : XS) (g o : Int64) {a0 : Int32} {a1 : Int32} {r : Int32} (hf : f_X5_maySet a0 a1 = some r) : MG l E yX5_maySet cX5_maySet 2 (some .boolean) 1 [.int a0, .int a1] (Wd E x m g o) (Wd E x m g o) (some (.int r)) := by
  unfold f_X5_maySet at hf
  refine m_in (by decide) (Nat.le_of_ble_eq_true rfl) ?_
  intro p e s mi args below meth c H ls hx hb hr hlk hml hown hB hK hW hS hl
  have hl : lv_has ls 2 [(0, .int a0), (1, .int a1)] := hl
  refine lv_iload_n hx hb dX5_maySet_0 rfl (lv_at hl 0 rfl) ?_
  refine lv_if_ne (tgt := 14) hx hb dX5_maySet_1 (by decide) (fun c1 => ?_) (fun c1 => ?_)
  · rw [if_neg c1] at hf
    refine lv_iload_n hx hb dX5_maySet_14 rfl (lv_at hl 0 rfl) ?_
    refine lv_iconst (v := 1) hx hb dX5_maySet_15 (by decide) ?_
    refine lv_icmp_ne (tgt := 28) hx hb dX5_maySet_16 (by decide) (fun c16 => ?_) (fun c16 => ?_)
    · rw [if_neg c16] at hf
      refine lv_iload_n hx hb dX5_maySet_28 rfl (lv_at hl 1 rfl) ?_
      refine lv_iconst (v := 0) hx hb dX5_maySet_29 (by decide) ?_
      refine lv_bipush (v := 100) hx hb dX5_maySet_30 (by decide) ?_
      obtain ⟨v32, e32, hf⟩ := ob2 hf
      refine c_S (As := [.int a1, .int 0, .int 100]) (st1 := [.int v32]) (rest := []) (p_X5_in l E x m g o e32) (kc_X5_36 hB ⟨Nat.le_of_ble_eq_true rfl, Nat.le_of_ble_eq_true rfl⟩) hx hb hml hown hB hK hW hS ⟨Nat.zero_le _, Nat.zero_le _⟩ rfl hl.1 rfl (Nat.le_of_ble_eq_true rfl) rfl dX5_maySet_32 (fun H locs hW hS => ?_)
      obtain ⟨zb, hf⟩ := oif hf
      cases hf
      exact e_z hx hb hr hlk zb hW hS dX5_maySet_35
    · rw [if_pos c16] at hf
      refine lv_iload_n hx hb dX5_maySet_19 rfl (lv_at hl 1 rfl) ?_
      refine lv_iconst (v := 0) hx hb dX5_maySet_20 (by decide) ?_
      refine lv_iconst (v := 3) hx hb dX5_maySet_21 (by decide) ?_
      obtain ⟨v22, e22, hf⟩ := ob2 hf
      refine c_S (As := [.int a1, .int 0, .int 3]) (st1 := [.int v22]) (rest := []) (p_X5_in l E x m g o e22) (kc_X5_36 hB ⟨Nat.le_of_ble_eq_true rfl, Nat.le_of_ble_eq_true rfl⟩) hx hb hml hown hB hK hW hS ⟨Nat.zero_le _, Nat.zero_le _⟩ rfl hl.1 rfl (Nat.le_of_ble_eq_true rfl) rfl dX5_maySet_22 (fun H locs hW hS => ?_)
      refine lv_goto (tgt := 35) hx hb dX5_maySet_25 (by decide) ?_
      obtain ⟨zb, hf⟩ := oif hf
      cases hf
      exact e_z hx hb hr hlk zb hW hS dX5_maySet_35
  · rw [if_pos c1] at hf
    refine lv_iload_n hx hb dX5_maySet_4 rfl (lv_at hl 1 rfl) ?_
    refine lv_iconst (v := 1) hx hb dX5_maySet_5 (by decide) ?_
    refine lv_bipush (v := 6) hx hb dX5_maySet_6 (by decide) ?_
    obtain ⟨v8, e8, hf⟩ := ob2 hf
    refine c_S (As := [.int a1, .int 1, .int 6]) (st1 := [.int v8]) (rest := []) (p_X5_in l E x m g o e8) (kc_X5_36 hB ⟨Nat.le_of_ble_eq_true rfl, Nat.le_of_ble_eq_true rfl⟩) hx hb hml hown hB hK hW hS ⟨Nat.zero_le _, Nat.zero_le _⟩ rfl hl.1 rfl (Nat.le_of_ble_eq_true rfl) rfl dX5_maySet_8 (fun H locs hW hS => ?_)
    refine lv_goto (tgt := 35) hx hb dX5_maySet_11 (by decide) ?_
    obtain ⟨zb, hf⟩ := oif hf
    cases hf
    exact e_z hx hb hr hlk zb hW hS dX5_maySet_35
def f_X5_set (m : XS) (a0 : Int32) (a1 : Int32) : Option (Int32 × XS) :=
    (some (ux m 0 6 0)).bind fun m2 =>
    (f_X5_in a0 0 2).bind fun v8 =>
    if (v8 = 0 : Prop) then
      ((f_X5_fails m2 1).bind fun q16 => (fun v16 m16 =>
      some (v16, m16)) q16.1 q16.2)
    else
      ((f_X5_maySet a0 a1).bind fun v22 =>
      if (v22 = 0 : Prop) then
        ((f_X5_fails m2 2).bind fun q30 => (fun v30 m30 =>
        some (v30, m30)) q30.1 q30.2)
      else
        ((f_X5_save m2).bind fun m35 =>
        (aget 442 (m35 1) (2 + a0)).bind fun v45 =>
        (aset m35 1 442 (2 + a0) a1).bind fun m55 =>
        some (v45, m55)))
set_option maxRecDepth 100000 in
set_option maxHeartbeats 4000000 in
theorem p_X5_set (l : Launch) (E : TE) (x m : XS) (g o : Int64) {a0 : Int32} {a1 : Int32} {r : Int32} {mr : XS} (hf : f_X5_set m a0 a1 = some (r, mr)) : MG l E yX5_set cX5_set 4 (some .int) 2 [rf E 211, .int a0, .int a1] (Wd E x m g o) (Wd E x mr g o) (some (.int r)) := by
  unfold f_X5_set at hf
  refine m_in (by decide) (Nat.le_of_ble_eq_true rfl) ?_
  intro p e s mi args below meth c H ls hx hb hr hlk hml hown hB hK hW hS hl
  have hl : lv_has ls 4 [(0, rf E 211), (1, .int a0), (2, .int a1)] := hl
  refine lv_aload_n hx hb dX5_set_0 rfl (lv_at hl 0 rfl) ?_
  refine lv_iconst (v := 0) hx hb dX5_set_1 (by decide) ?_
  obtain ⟨m2, e2, hf⟩ := ob hf
  refine pf_X5_29 hx hb hB hK hown hW hS e2 dX5_set_2 (fun H locs hW hS => ?_)
  refine lv_iload_n hx hb dX5_set_5 rfl (lv_at hl 1 rfl) ?_
  refine lv_iconst (v := 0) hx hb dX5_set_6 (by decide) ?_
  refine lv_iconst (v := 2) hx hb dX5_set_7 (by decide) ?_
  obtain ⟨v8, e8, hf⟩ := ob2 hf
  refine c_S (As := [.int a0, .int 0, .int 2]) (st1 := [.int v8]) (rest := []) (p_X5_in l E x m2 g o e8) (kc_X5_36 hB ⟨Nat.le_of_ble_eq_true rfl, Nat.le_of_ble_eq_true rfl⟩) hx hb hml hown hB hK hW hS ⟨Nat.zero_le _, Nat.zero_le _⟩ rfl hl.1 rfl (Nat.le_of_ble_eq_true rfl) rfl dX5_set_8 (fun H locs hW hS => ?_)
  refine lv_if_ne (tgt := 20) hx hb dX5_set_11 (by decide) (fun c11 => ?_) (fun c11 => ?_)
  · rw [if_neg c11] at hf
    refine lv_iload_n hx hb dX5_set_20 rfl (lv_at hl 1 rfl) ?_
    refine lv_iload_n hx hb dX5_set_21 rfl (lv_at hl 2 rfl) ?_
    obtain ⟨v22, e22, hf⟩ := ob2 hf
    refine c_S (As := [.int a0, .int a1]) (st1 := [.int v22]) (rest := []) (p_X5_maySet l E x m2 g o e22) (kc_X5_73 hB ⟨Nat.le_of_ble_eq_true rfl, Nat.le_of_ble_eq_true rfl⟩) hx hb hml hown hB hK hW hS ⟨Nat.zero_le _, Nat.zero_le _⟩ rfl hl.1 rfl (Nat.le_of_ble_eq_true rfl) rfl dX5_set_22 (fun H locs hW hS => ?_)
    refine lv_if_ne (tgt := 34) hx hb dX5_set_25 (by decide) (fun c25 => ?_) (fun c25 => ?_)
    · rw [if_neg c25] at hf
      refine lv_aload_n hx hb dX5_set_34 rfl (lv_at hl 0 rfl) ?_
      obtain ⟨m35, e35, hf⟩ := ob2 hf
      refine c_V (As := []) (st1 := []) (rest := []) (p_X5_save l E x m2 g o e35) (kc_X5_67 hB ⟨Nat.le_of_ble_eq_true rfl, Nat.le_of_ble_eq_true rfl⟩) (Wd.rec hK hW (by decide) cM_0 (ci := 5) rfl) hx hb hml hown hB hK hW hS ⟨Nat.zero_le _, Nat.zero_le _⟩ rfl hl.1 rfl (Nat.le_of_ble_eq_true rfl) rfl dX5_set_35 (fun H locs hW hS => ?_)
      refine lv_aload_n hx hb dX5_set_38 rfl (lv_at hl 0 rfl) ?_
      refine gf_X5_7 hx hb hB hK hown hW dX5_set_39 ?_
      refine lv_iconst (v := 2) hx hb dX5_set_42 (by decide) ?_
      refine lv_iload_n hx hb dX5_set_43 rfl (lv_at hl 1 rfl) ?_
      refine lv_iadd hx hb dX5_set_44 ?_
      obtain ⟨v45, e45, hf⟩ := ob2 hf
      refine r_iald hx hb hK hW (by decide) (cM_1) e45 dX5_set_45 ?_
      refine lv_istore_n (lv' := [(3, .int v45), (0, rf E 211), (1, .int a0), (2, .int a1)]) hx hb dX5_set_46 rfl hl (by decide) rfl (fun ls hl => ?_)
      refine lv_aload_n hx hb dX5_set_47 rfl (lv_at hl 1 rfl) ?_
      refine gf_X5_7 hx hb hB hK hown hW dX5_set_48 ?_
      refine lv_iconst (v := 2) hx hb dX5_set_51 (by decide) ?_
      refine lv_iload_n hx hb dX5_set_52 rfl (lv_at hl 2 rfl) ?_
      refine lv_iadd hx hb dX5_set_53 ?_
      refine lv_iload_n hx hb dX5_set_54 rfl (lv_at hl 3 rfl) ?_
      obtain ⟨m55, e55, hf⟩ := ob2 hf
      refine r_iastM (k := 1) hx hb hK hW hS (by decide) (fun _ => cM_1) e55 dX5_set_55 (fun H locs hW hS => ?_)
      refine lv_iload_n hx hb dX5_set_56 rfl (lv_at hl 0 rfl) ?_
      cases hf
      exact e_i hx hb hr hlk hW hS dX5_set_57
    · rw [if_pos c25] at hf
      refine lv_aload_n hx hb dX5_set_28 rfl (lv_at hl 0 rfl) ?_
      refine lv_iconst (v := 2) hx hb dX5_set_29 (by decide) ?_
      obtain ⟨⟨v30, m30⟩, e30, hf⟩ := ob2 hf
      dsimp only at hf
      refine c_V (As := [.int 2]) (st1 := [.int v30]) (rest := []) (p_X5_fails l E x m2 g o e30) (kc_X5_64 hB ⟨Nat.le_of_ble_eq_true rfl, Nat.le_of_ble_eq_true rfl⟩) (Wd.rec hK hW (by decide) cM_0 (ci := 5) rfl) hx hb hml hown hB hK hW hS ⟨Nat.zero_le _, Nat.zero_le _⟩ rfl hl.1 rfl (Nat.le_of_ble_eq_true rfl) rfl dX5_set_30 (fun H locs hW hS => ?_)
      cases hf
      exact e_i hx hb hr hlk hW hS dX5_set_33
  · rw [if_pos c11] at hf
    refine lv_aload_n hx hb dX5_set_14 rfl (lv_at hl 0 rfl) ?_
    refine lv_iconst (v := 1) hx hb dX5_set_15 (by decide) ?_
    obtain ⟨⟨v16, m16⟩, e16, hf⟩ := ob2 hf
    dsimp only at hf
    refine c_V (As := [.int 1]) (st1 := [.int v16]) (rest := []) (p_X5_fails l E x m2 g o e16) (kc_X5_64 hB ⟨Nat.le_of_ble_eq_true rfl, Nat.le_of_ble_eq_true rfl⟩) (Wd.rec hK hW (by decide) cM_0 (ci := 5) rfl) hx hb hml hown hB hK hW hS ⟨Nat.zero_le _, Nat.zero_le _⟩ rfl hl.1 rfl (Nat.le_of_ble_eq_true rfl) rfl dX5_set_16 (fun H locs hW hS => ?_)
    cases hf
    exact e_i hx hb hr hlk hW hS dX5_set_19
def f_X5_complainNow (m : XS) (a0 : Int32) (a1 : Int32) (a2 : Int32) : Option (XS) :=
    (aget 442 (m 1) 0).bind fun v5 =>
    (f_X5_of v5).bind fun v6 =>
    (aset m 1 442 v6 a0).bind fun m18 =>
    (aset m18 1 442 (v6 + 1) a1).bind fun m28 =>
    (aset m28 1 442 (v6 + 2) a2).bind fun m38 =>
    (aset m38 1 442 (v6 + 3) 0).bind fun m48 =>
    (aset m48 1 442 (v6 + 4) (-1)).bind fun m58 =>
    (aset m58 1 442 (v6 + 5) 0).bind fun m68 =>
    (aset m68 1 442 (v6 + 6) (-1)).bind fun m79 =>
    (aset m79 1 442 (v6 + 7) (-1)).bind fun m90 =>
    (aset m90 1 442 (v6 + 8) (-1)).bind fun m101 =>
    (aset m101 1 442 (v6 + 9) 0).bind fun m112 =>
    (aget 442 (m112 1) 0).bind fun v119 =>
    (aset m112 1 442 0 (v119 + 1)).bind fun m122 =>
    some m122
set_option maxRecDepth 100000 in
set_option maxHeartbeats 4000000 in
theorem p_X5_complainNow (l : Launch) (E : TE) (x m : XS) (g o : Int64) {a0 : Int32} {a1 : Int32} {a2 : Int32} {mr : XS} (hf : f_X5_complainNow m a0 a1 a2 = some mr) : MG l E yX5_complainNow cX5_complainNow 5 none 1 [rf E 211, .int a0, .int a1, .int a2] (Wd E x m g o) (Wd E x mr g o) none := by
  unfold f_X5_complainNow at hf
  refine m_in (by decide) (Nat.le_of_ble_eq_true rfl) ?_
  intro p e s mi args below meth c H ls hx hb hr hlk hml hown hB hK hW hS hl
  have hl : lv_has ls 5 [(0, rf E 211), (1, .int a0), (2, .int a1), (3, .int a2)] := hl
  refine lv_aload_n hx hb dX5_complainNow_0 rfl (lv_at hl 0 rfl) ?_
  refine gf_X5_7 hx hb hB hK hown hW dX5_complainNow_1 ?_
  refine lv_iconst (v := 0) hx hb dX5_complainNow_4 (by decide) ?_
  obtain ⟨v5, e5, hf⟩ := ob2 hf
  refine r_iald hx hb hK hW (by decide) (cM_1) e5 dX5_complainNow_5 ?_
  obtain ⟨v6, e6, hf⟩ := ob2 hf
  refine c_S (As := [.int v5]) (st1 := [.int v6]) (rest := []) (p_X5_of l E x m g o e6) (kc_X5_54 hB ⟨Nat.le_of_ble_eq_true rfl, Nat.le_of_ble_eq_true rfl⟩) hx hb hml hown hB hK hW hS ⟨Nat.zero_le _, Nat.zero_le _⟩ rfl hl.1 rfl (Nat.le_of_ble_eq_true rfl) rfl dX5_complainNow_6 (fun H locs hW hS => ?_)
  refine lv_istore (lv' := [(4, .int v6), (0, rf E 211), (1, .int a0), (2, .int a1), (3, .int a2)]) hx hb dX5_complainNow_9 hl (by decide) rfl (fun ls hl => ?_)
  refine lv_aload_n hx hb dX5_complainNow_11 rfl (lv_at hl 1 rfl) ?_
  refine gf_X5_7 hx hb hB hK hown hW dX5_complainNow_12 ?_
  refine lv_iload hx hb dX5_complainNow_15 (lv_at hl 0 rfl) ?_
  refine lv_iload_n hx hb dX5_complainNow_17 rfl (lv_at hl 2 rfl) ?_
  obtain ⟨m18, e18, hf⟩ := ob2 hf
  refine r_iastM (k := 1) hx hb hK hW hS (by decide) (fun _ => cM_1) e18 dX5_complainNow_18 (fun H locs hW hS => ?_)
  refine lv_aload_n hx hb dX5_complainNow_19 rfl (lv_at hl 1 rfl) ?_
  refine gf_X5_7 hx hb hB hK hown hW dX5_complainNow_20 ?_
  refine lv_iload hx hb dX5_complainNow_23 (lv_at hl 0 rfl) ?_
  refine lv_iconst (v := 1) hx hb dX5_complainNow_25 (by decide) ?_
  refine lv_iadd hx hb dX5_complainNow_26 ?_
  refine lv_iload_n hx hb dX5_complainNow_27 rfl (lv_at hl 3 rfl) ?_
  obtain ⟨m28, e28, hf⟩ := ob2 hf
  refine r_iastM (k := 1) hx hb hK hW hS (by decide) (fun _ => cM_1) e28 dX5_complainNow_28 (fun H locs hW hS => ?_)
  refine lv_aload_n hx hb dX5_complainNow_29 rfl (lv_at hl 1 rfl) ?_
  refine gf_X5_7 hx hb hB hK hown hW dX5_complainNow_30 ?_
  refine lv_iload hx hb dX5_complainNow_33 (lv_at hl 0 rfl) ?_
  refine lv_iconst (v := 2) hx hb dX5_complainNow_35 (by decide) ?_
  refine lv_iadd hx hb dX5_complainNow_36 ?_
  refine lv_iload_n hx hb dX5_complainNow_37 rfl (lv_at hl 4 rfl) ?_
  obtain ⟨m38, e38, hf⟩ := ob2 hf
  refine r_iastM (k := 1) hx hb hK hW hS (by decide) (fun _ => cM_1) e38 dX5_complainNow_38 (fun H locs hW hS => ?_)
  refine lv_aload_n hx hb dX5_complainNow_39 rfl (lv_at hl 1 rfl) ?_
  refine gf_X5_7 hx hb hB hK hown hW dX5_complainNow_40 ?_
  refine lv_iload hx hb dX5_complainNow_43 (lv_at hl 0 rfl) ?_
  refine lv_iconst (v := 3) hx hb dX5_complainNow_45 (by decide) ?_
  refine lv_iadd hx hb dX5_complainNow_46 ?_
  refine lv_iconst (v := 0) hx hb dX5_complainNow_47 (by decide) ?_
  obtain ⟨m48, e48, hf⟩ := ob2 hf
  refine r_iastM (k := 1) hx hb hK hW hS (by decide) (fun _ => cM_1) e48 dX5_complainNow_48 (fun H locs hW hS => ?_)
  refine lv_aload_n hx hb dX5_complainNow_49 rfl (lv_at hl 1 rfl) ?_
  refine gf_X5_7 hx hb hB hK hown hW dX5_complainNow_50 ?_
  refine lv_iload hx hb dX5_complainNow_53 (lv_at hl 0 rfl) ?_
  refine lv_iconst (v := 4) hx hb dX5_complainNow_55 (by decide) ?_
  refine lv_iadd hx hb dX5_complainNow_56 ?_
  refine lv_iconst (v := (-1)) hx hb dX5_complainNow_57 (by decide) ?_
  obtain ⟨m58, e58, hf⟩ := ob2 hf
  refine r_iastM (k := 1) hx hb hK hW hS (by decide) (fun _ => cM_1) e58 dX5_complainNow_58 (fun H locs hW hS => ?_)
  refine lv_aload_n hx hb dX5_complainNow_59 rfl (lv_at hl 1 rfl) ?_
  refine gf_X5_7 hx hb hB hK hown hW dX5_complainNow_60 ?_
  refine lv_iload hx hb dX5_complainNow_63 (lv_at hl 0 rfl) ?_
  refine lv_iconst (v := 5) hx hb dX5_complainNow_65 (by decide) ?_
  refine lv_iadd hx hb dX5_complainNow_66 ?_
  refine lv_iconst (v := 0) hx hb dX5_complainNow_67 (by decide) ?_
  obtain ⟨m68, e68, hf⟩ := ob2 hf
  refine r_iastM (k := 1) hx hb hK hW hS (by decide) (fun _ => cM_1) e68 dX5_complainNow_68 (fun H locs hW hS => ?_)
  refine lv_aload_n hx hb dX5_complainNow_69 rfl (lv_at hl 1 rfl) ?_
  refine gf_X5_7 hx hb hB hK hown hW dX5_complainNow_70 ?_
  refine lv_iload hx hb dX5_complainNow_73 (lv_at hl 0 rfl) ?_
  refine lv_bipush (v := 6) hx hb dX5_complainNow_75 (by decide) ?_
  refine lv_iadd hx hb dX5_complainNow_77 ?_
  refine lv_iconst (v := (-1)) hx hb dX5_complainNow_78 (by decide) ?_
  obtain ⟨m79, e79, hf⟩ := ob2 hf
  refine r_iastM (k := 1) hx hb hK hW hS (by decide) (fun _ => cM_1) e79 dX5_complainNow_79 (fun H locs hW hS => ?_)
  refine lv_aload_n hx hb dX5_complainNow_80 rfl (lv_at hl 1 rfl) ?_
  refine gf_X5_7 hx hb hB hK hown hW dX5_complainNow_81 ?_
  refine lv_iload hx hb dX5_complainNow_84 (lv_at hl 0 rfl) ?_
  refine lv_bipush (v := 7) hx hb dX5_complainNow_86 (by decide) ?_
  refine lv_iadd hx hb dX5_complainNow_88 ?_
  refine lv_iconst (v := (-1)) hx hb dX5_complainNow_89 (by decide) ?_
  obtain ⟨m90, e90, hf⟩ := ob2 hf
  refine r_iastM (k := 1) hx hb hK hW hS (by decide) (fun _ => cM_1) e90 dX5_complainNow_90 (fun H locs hW hS => ?_)
  refine lv_aload_n hx hb dX5_complainNow_91 rfl (lv_at hl 1 rfl) ?_
  refine gf_X5_7 hx hb hB hK hown hW dX5_complainNow_92 ?_
  refine lv_iload hx hb dX5_complainNow_95 (lv_at hl 0 rfl) ?_
  refine lv_bipush (v := 8) hx hb dX5_complainNow_97 (by decide) ?_
  refine lv_iadd hx hb dX5_complainNow_99 ?_
  refine lv_iconst (v := (-1)) hx hb dX5_complainNow_100 (by decide) ?_
  obtain ⟨m101, e101, hf⟩ := ob2 hf
  refine r_iastM (k := 1) hx hb hK hW hS (by decide) (fun _ => cM_1) e101 dX5_complainNow_101 (fun H locs hW hS => ?_)
  refine lv_aload_n hx hb dX5_complainNow_102 rfl (lv_at hl 1 rfl) ?_
  refine gf_X5_7 hx hb hB hK hown hW dX5_complainNow_103 ?_
  refine lv_iload hx hb dX5_complainNow_106 (lv_at hl 0 rfl) ?_
  refine lv_bipush (v := 9) hx hb dX5_complainNow_108 (by decide) ?_
  refine lv_iadd hx hb dX5_complainNow_110 ?_
  refine lv_iconst (v := 0) hx hb dX5_complainNow_111 (by decide) ?_
  obtain ⟨m112, e112, hf⟩ := ob2 hf
  refine r_iastM (k := 1) hx hb hK hW hS (by decide) (fun _ => cM_1) e112 dX5_complainNow_112 (fun H locs hW hS => ?_)
  refine lv_aload_n hx hb dX5_complainNow_113 rfl (lv_at hl 1 rfl) ?_
  refine gf_X5_7 hx hb hB hK hown hW dX5_complainNow_114 ?_
  refine lv_iconst (v := 0) hx hb dX5_complainNow_117 (by decide) ?_
  refine lv_dup2_11 hx hb dX5_complainNow_118 rfl rfl ?_
  obtain ⟨v119, e119, hf⟩ := ob2 hf
  refine r_iald hx hb hK hW (by decide) (cM_1) e119 dX5_complainNow_119 ?_
  refine lv_iconst (v := 1) hx hb dX5_complainNow_120 (by decide) ?_
  refine lv_iadd hx hb dX5_complainNow_121 ?_
  obtain ⟨m122, e122, hf⟩ := ob2 hf
  refine r_iastM (k := 1) hx hb hK hW hS (by decide) (fun _ => cM_1) e122 dX5_complainNow_122 (fun H locs hW hS => ?_)
  cases hf
  exact e_v hx hb hr hlk hW hS dX5_complainNow_123
def f_X5_complain_38 (m38 : XS) : Option (Int32 × XS) :=
    (f_X5_fails m38 2).bind fun q40 => (fun v40 m40 =>
    some (v40, m40)) q40.1 q40.2
def f_X5_complain (m : XS) (a0 : Int32) (a1 : Int32) (a2 : Int32) : Option (Int32 × XS) :=
    (some (ux m 0 6 0)).bind fun m2 =>
    (f_X5_isKind a0).bind fun v6 =>
    if (v6 = 0 : Prop) then
      ((f_X5_fails m2 1).bind fun q14 => (fun v14 m14 =>
      some (v14, m14)) q14.1 q14.2)
    else
      ((f_X5_in a1 1 9).bind fun v22 =>
      if (v22 = 0 : Prop) then
        f_X5_complain_38 m2
      else
        ((f_X5_in a2 0 9).bind fun v32 =>
        if (v32 = 0 : Prop) then
          f_X5_complain_38 m2
        else
          ((aget 442 (m2 1) 0).bind fun v49 =>
          if (v49 = 24 : Prop) then
            ((f_X5_fails m2 3).bind fun q57 => (fun v57 m57 =>
            some (v57, m57)) q57.1 q57.2)
          else
            ((f_X5_save m2).bind fun m62 =>
            (f_X5_complainNow m62 a0 a1 a2).bind fun m69 =>
            (aget 442 (m69 1) 0).bind fun v77 =>
            some ((v77 - 1), m69)))))
set_option maxRecDepth 100000 in
set_option maxHeartbeats 4000000 in
theorem p_X5_complain (l : Launch) (E : TE) (x m : XS) (g o : Int64) {a0 : Int32} {a1 : Int32} {a2 : Int32} {r : Int32} {mr : XS} (hf : f_X5_complain m a0 a1 a2 = some (r, mr)) : MG l E yX5_complain cX5_complain 4 (some .int) 2 [rf E 211, .int a0, .int a1, .int a2] (Wd E x m g o) (Wd E x mr g o) (some (.int r)) := by
  unfold f_X5_complain at hf
  refine m_in (by decide) (Nat.le_of_ble_eq_true rfl) ?_
  intro p e s mi args below meth c H ls hx hb hr hlk hml hown hB hK hW hS hl
  have hl : lv_has ls 4 [(0, rf E 211), (1, .int a0), (2, .int a1), (3, .int a2)] := hl
  have J38 : ∀ (m38 : XS) (H : Heap) (locs : List Loc) (ls : Array Slot), f_X5_complain_38 m38 = some (r, mr) → Wd E x m38 g o H → va_S (Ah E) s.heap H locs → lv_has ls 4 [(0, rf E 211)] → W p l e (rmH 2) s mi args below meth c H locs 0 0 (EQ E below args s (Wd E x mr g o) (some (.int r))) (F0 mi 38 ls []) := by
    intro m38 H locs ls hf hW hS hl
    unfold f_X5_complain_38 at hf
    refine lv_aload_n hx hb dX5_complain_38 rfl (lv_at hl 0 rfl) ?_
    refine lv_iconst (v := 2) hx hb dX5_complain_39 (by decide) ?_
    obtain ⟨⟨v40, m40⟩, e40, hf⟩ := ob2 hf
    dsimp only at hf
    refine c_V (As := [.int 2]) (st1 := [.int v40]) (rest := []) (p_X5_fails l E x m38 g o e40) (kc_X5_64 hB ⟨Nat.le_of_ble_eq_true rfl, Nat.le_of_ble_eq_true rfl⟩) (Wd.rec hK hW (by decide) cM_0 (ci := 5) rfl) hx hb hml hown hB hK hW hS ⟨Nat.zero_le _, Nat.zero_le _⟩ rfl hl.1 rfl (Nat.le_of_ble_eq_true rfl) rfl dX5_complain_40 (fun H locs hW hS => ?_)
    cases hf
    exact e_i hx hb hr hlk hW hS dX5_complain_43
  refine lv_aload_n hx hb dX5_complain_0 rfl (lv_at hl 0 rfl) ?_
  refine lv_iconst (v := 0) hx hb dX5_complain_1 (by decide) ?_
  obtain ⟨m2, e2, hf⟩ := ob hf
  refine pf_X5_29 hx hb hB hK hown hW hS e2 dX5_complain_2 (fun H locs hW hS => ?_)
  refine lv_iload_n hx hb dX5_complain_5 rfl (lv_at hl 1 rfl) ?_
  obtain ⟨v6, e6, hf⟩ := ob2 hf
  refine c_S (As := [.int a0]) (st1 := [.int v6]) (rest := []) (p_X5_isKind l E x m2 g o e6) (kc_X5_60 hB ⟨Nat.le_of_ble_eq_true rfl, Nat.le_of_ble_eq_true rfl⟩) hx hb hml hown hB hK hW hS ⟨Nat.zero_le _, Nat.zero_le _⟩ rfl hl.1 rfl (Nat.le_of_ble_eq_true rfl) rfl dX5_complain_6 (fun H locs hW hS => ?_)
  refine lv_if_ne (tgt := 18) hx hb dX5_complain_9 (by decide) (fun c9 => ?_) (fun c9 => ?_)
  · rw [if_neg c9] at hf
    refine lv_iload_n hx hb dX5_complain_18 rfl (lv_at hl 2 rfl) ?_
    refine lv_iconst (v := 1) hx hb dX5_complain_19 (by decide) ?_
    refine lv_bipush (v := 9) hx hb dX5_complain_20 (by decide) ?_
    obtain ⟨v22, e22, hf⟩ := ob2 hf
    refine c_S (As := [.int a1, .int 1, .int 9]) (st1 := [.int v22]) (rest := []) (p_X5_in l E x m2 g o e22) (kc_X5_36 hB ⟨Nat.le_of_ble_eq_true rfl, Nat.le_of_ble_eq_true rfl⟩) hx hb hml hown hB hK hW hS ⟨Nat.zero_le _, Nat.zero_le _⟩ rfl hl.1 rfl (Nat.le_of_ble_eq_true rfl) rfl dX5_complain_22 (fun H locs hW hS => ?_)
    refine lv_if_eq (tgt := 38) hx hb dX5_complain_25 (by decide) (fun c25 => ?_) (fun c25 => ?_)
    · rw [if_pos c25] at hf
      exact J38 m2 _ _ _ hf hW hS (lv_sub hl [0] rfl)
    · rw [if_neg c25] at hf
      refine lv_iload_n hx hb dX5_complain_28 rfl (lv_at hl 3 rfl) ?_
      refine lv_iconst (v := 0) hx hb dX5_complain_29 (by decide) ?_
      refine lv_bipush (v := 9) hx hb dX5_complain_30 (by decide) ?_
      obtain ⟨v32, e32, hf⟩ := ob2 hf
      refine c_S (As := [.int a2, .int 0, .int 9]) (st1 := [.int v32]) (rest := []) (p_X5_in l E x m2 g o e32) (kc_X5_36 hB ⟨Nat.le_of_ble_eq_true rfl, Nat.le_of_ble_eq_true rfl⟩) hx hb hml hown hB hK hW hS ⟨Nat.zero_le _, Nat.zero_le _⟩ rfl hl.1 rfl (Nat.le_of_ble_eq_true rfl) rfl dX5_complain_32 (fun H locs hW hS => ?_)
      refine lv_if_ne (tgt := 44) hx hb dX5_complain_35 (by decide) (fun c35 => ?_) (fun c35 => ?_)
      · rw [if_neg c35] at hf
        refine lv_aload_n hx hb dX5_complain_44 rfl (lv_at hl 0 rfl) ?_
        refine gf_X5_7 hx hb hB hK hown hW dX5_complain_45 ?_
        refine lv_iconst (v := 0) hx hb dX5_complain_48 (by decide) ?_
        obtain ⟨v49, e49, hf⟩ := ob2 hf
        refine r_iald hx hb hK hW (by decide) (cM_1) e49 dX5_complain_49 ?_
        refine lv_bipush (v := 24) hx hb dX5_complain_50 (by decide) ?_
        refine lv_icmp_ne (tgt := 61) hx hb dX5_complain_52 (by decide) (fun c52 => ?_) (fun c52 => ?_)
        · rw [if_neg c52] at hf
          refine lv_aload_n hx hb dX5_complain_61 rfl (lv_at hl 0 rfl) ?_
          obtain ⟨m62, e62, hf⟩ := ob2 hf
          refine c_V (As := []) (st1 := []) (rest := []) (p_X5_save l E x m2 g o e62) (kc_X5_67 hB ⟨Nat.le_of_ble_eq_true rfl, Nat.le_of_ble_eq_true rfl⟩) (Wd.rec hK hW (by decide) cM_0 (ci := 5) rfl) hx hb hml hown hB hK hW hS ⟨Nat.zero_le _, Nat.zero_le _⟩ rfl hl.1 rfl (Nat.le_of_ble_eq_true rfl) rfl dX5_complain_62 (fun H locs hW hS => ?_)
          refine lv_aload_n hx hb dX5_complain_65 rfl (lv_at hl 0 rfl) ?_
          refine lv_iload_n hx hb dX5_complain_66 rfl (lv_at hl 1 rfl) ?_
          refine lv_iload_n hx hb dX5_complain_67 rfl (lv_at hl 2 rfl) ?_
          refine lv_iload_n hx hb dX5_complain_68 rfl (lv_at hl 3 rfl) ?_
          obtain ⟨m69, e69, hf⟩ := ob2 hf
          refine c_V (As := [.int a0, .int a1, .int a2]) (st1 := []) (rest := []) (p_X5_complainNow l E x m62 g o e69) (kc_X5_76 hB ⟨Nat.le_of_ble_eq_true rfl, Nat.le_of_ble_eq_true rfl⟩) (Wd.rec hK hW (by decide) cM_0 (ci := 5) rfl) hx hb hml hown hB hK hW hS ⟨Nat.zero_le _, Nat.zero_le _⟩ rfl hl.1 rfl (Nat.le_of_ble_eq_true rfl) rfl dX5_complain_69 (fun H locs hW hS => ?_)
          refine lv_aload_n hx hb dX5_complain_72 rfl (lv_at hl 0 rfl) ?_
          refine gf_X5_7 hx hb hB hK hown hW dX5_complain_73 ?_
          refine lv_iconst (v := 0) hx hb dX5_complain_76 (by decide) ?_
          obtain ⟨v77, e77, hf⟩ := ob2 hf
          refine r_iald hx hb hK hW (by decide) (cM_1) e77 dX5_complain_77 ?_
          refine lv_iconst (v := 1) hx hb dX5_complain_78 (by decide) ?_
          refine lv_isub hx hb dX5_complain_79 ?_
          cases hf
          exact e_i hx hb hr hlk hW hS dX5_complain_80
        · rw [if_pos c52] at hf
          refine lv_aload_n hx hb dX5_complain_55 rfl (lv_at hl 0 rfl) ?_
          refine lv_iconst (v := 3) hx hb dX5_complain_56 (by decide) ?_
          obtain ⟨⟨v57, m57⟩, e57, hf⟩ := ob2 hf
          dsimp only at hf
          refine c_V (As := [.int 3]) (st1 := [.int v57]) (rest := []) (p_X5_fails l E x m2 g o e57) (kc_X5_64 hB ⟨Nat.le_of_ble_eq_true rfl, Nat.le_of_ble_eq_true rfl⟩) (Wd.rec hK hW (by decide) cM_0 (ci := 5) rfl) hx hb hml hown hB hK hW hS ⟨Nat.zero_le _, Nat.zero_le _⟩ rfl hl.1 rfl (Nat.le_of_ble_eq_true rfl) rfl dX5_complain_57 (fun H locs hW hS => ?_)
          cases hf
          exact e_i hx hb hr hlk hW hS dX5_complain_60
      · rw [if_pos c35] at hf
        exact J38 m2 _ _ _ hf hW hS (lv_sub hl [0] rfl)
  · rw [if_pos c9] at hf
    refine lv_aload_n hx hb dX5_complain_12 rfl (lv_at hl 0 rfl) ?_
    refine lv_iconst (v := 1) hx hb dX5_complain_13 (by decide) ?_
    obtain ⟨⟨v14, m14⟩, e14, hf⟩ := ob2 hf
    dsimp only at hf
    refine c_V (As := [.int 1]) (st1 := [.int v14]) (rest := []) (p_X5_fails l E x m2 g o e14) (kc_X5_64 hB ⟨Nat.le_of_ble_eq_true rfl, Nat.le_of_ble_eq_true rfl⟩) (Wd.rec hK hW (by decide) cM_0 (ci := 5) rfl) hx hb hml hown hB hK hW hS ⟨Nat.zero_le _, Nat.zero_le _⟩ rfl hl.1 rfl (Nat.le_of_ble_eq_true rfl) rfl dX5_complain_14 (fun H locs hW hS => ?_)
    cases hf
    exact e_i hx hb hr hlk hW hS dX5_complain_17
def f_X5_fits (m : XS) (a0 : Int32) (a1 : Int32) : Option (Int32) :=
    (f_X5_of a0).bind fun v5 =>
    (aget 442 (m 1) v5).bind fun v8 =>
    (f_X5_menuAt v8 a1).bind fun v10 =>
    (f_X5_of a0).bind fun v19 =>
    (aget 442 (m 1) (v19 + 1)).bind fun v24 =>
    (aget 442 (m 1) (v10 + 1)).bind fun v32 =>
    (aget 442 (m 1) (v10 + 2)).bind fun v40 =>
    (f_X5_in v24 v32 v40).bind fun v41 =>
    if (v41 = 0 ∨ v41 = 1 : Prop) then some v41 else none
set_option maxRecDepth 100000 in
set_option maxHeartbeats 4000000 in
theorem p_X5_fits (l : Launch) (E : TE) (x m : XS) (g o : Int64) {a0 : Int32} {a1 : Int32} {r : Int32} (hf : f_X5_fits m a0 a1 = some r) : MG l E yX5_fits cX5_fits 4 (some .boolean) 2 [rf E 211, .int a0, .int a1] (Wd E x m g o) (Wd E x m g o) (some (.int r)) := by
  unfold f_X5_fits at hf
  refine m_in (by decide) (Nat.le_of_ble_eq_true rfl) ?_
  intro p e s mi args below meth c H ls hx hb hr hlk hml hown hB hK hW hS hl
  have hl : lv_has ls 4 [(0, rf E 211), (1, .int a0), (2, .int a1)] := hl
  refine lv_aload_n hx hb dX5_fits_0 rfl (lv_at hl 0 rfl) ?_
  refine gf_X5_7 hx hb hB hK hown hW dX5_fits_1 ?_
  refine lv_iload_n hx hb dX5_fits_4 rfl (lv_at hl 1 rfl) ?_
  obtain ⟨v5, e5, hf⟩ := ob2 hf
  refine c_S (As := [.int a0]) (st1 := [.int v5, rf E 212]) (rest := [rf E 212]) (p_X5_of l E x m g o e5) (kc_X5_54 hB ⟨Nat.le_of_ble_eq_true rfl, Nat.le_of_ble_eq_true rfl⟩) hx hb hml hown hB hK hW hS ⟨Nat.zero_le _, Nat.zero_le _⟩ rfl hl.1 rfl (Nat.le_of_ble_eq_true rfl) rfl dX5_fits_5 (fun H locs hW hS => ?_)
  obtain ⟨v8, e8, hf⟩ := ob2 hf
  refine r_iald hx hb hK hW (by decide) (cM_1) e8 dX5_fits_8 ?_
  refine lv_iload_n hx hb dX5_fits_9 rfl (lv_at hl 2 rfl) ?_
  obtain ⟨v10, e10, hf⟩ := ob2 hf
  refine c_S (As := [.int v8, .int a1]) (st1 := [.int v10]) (rest := []) (p_X5_menuAt l E x m g o e10) (kc_X5_44 hB ⟨Nat.le_of_ble_eq_true rfl, Nat.le_of_ble_eq_true rfl⟩) hx hb hml hown hB hK hW hS ⟨Nat.zero_le _, Nat.zero_le _⟩ rfl hl.1 rfl (Nat.le_of_ble_eq_true rfl) rfl dX5_fits_10 (fun H locs hW hS => ?_)
  refine lv_istore_n (lv' := [(3, .int v10), (0, rf E 211), (1, .int a0), (2, .int a1)]) hx hb dX5_fits_13 rfl hl (by decide) rfl (fun ls hl => ?_)
  refine lv_aload_n hx hb dX5_fits_14 rfl (lv_at hl 1 rfl) ?_
  refine gf_X5_7 hx hb hB hK hown hW dX5_fits_15 ?_
  refine lv_iload_n hx hb dX5_fits_18 rfl (lv_at hl 2 rfl) ?_
  obtain ⟨v19, e19, hf⟩ := ob2 hf
  refine c_S (As := [.int a0]) (st1 := [.int v19, rf E 212]) (rest := [rf E 212]) (p_X5_of l E x m g o e19) (kc_X5_54 hB ⟨Nat.le_of_ble_eq_true rfl, Nat.le_of_ble_eq_true rfl⟩) hx hb hml hown hB hK hW hS ⟨Nat.zero_le _, Nat.zero_le _⟩ rfl hl.1 rfl (Nat.le_of_ble_eq_true rfl) rfl dX5_fits_19 (fun H locs hW hS => ?_)
  refine lv_iconst (v := 1) hx hb dX5_fits_22 (by decide) ?_
  refine lv_iadd hx hb dX5_fits_23 ?_
  obtain ⟨v24, e24, hf⟩ := ob2 hf
  refine r_iald hx hb hK hW (by decide) (cM_1) e24 dX5_fits_24 ?_
  refine lv_aload_n hx hb dX5_fits_25 rfl (lv_at hl 1 rfl) ?_
  refine gf_X5_7 hx hb hB hK hown hW dX5_fits_26 ?_
  refine lv_iload_n hx hb dX5_fits_29 rfl (lv_at hl 0 rfl) ?_
  refine lv_iconst (v := 1) hx hb dX5_fits_30 (by decide) ?_
  refine lv_iadd hx hb dX5_fits_31 ?_
  obtain ⟨v32, e32, hf⟩ := ob2 hf
  refine r_iald hx hb hK hW (by decide) (cM_1) e32 dX5_fits_32 ?_
  refine lv_aload_n hx hb dX5_fits_33 rfl (lv_at hl 1 rfl) ?_
  refine gf_X5_7 hx hb hB hK hown hW dX5_fits_34 ?_
  refine lv_iload_n hx hb dX5_fits_37 rfl (lv_at hl 0 rfl) ?_
  refine lv_iconst (v := 2) hx hb dX5_fits_38 (by decide) ?_
  refine lv_iadd hx hb dX5_fits_39 ?_
  obtain ⟨v40, e40, hf⟩ := ob2 hf
  refine r_iald hx hb hK hW (by decide) (cM_1) e40 dX5_fits_40 ?_
  obtain ⟨v41, e41, hf⟩ := ob2 hf
  refine c_S (As := [.int v24, .int v32, .int v40]) (st1 := [.int v41]) (rest := []) (p_X5_in l E x m g o e41) (kc_X5_36 hB ⟨Nat.le_of_ble_eq_true rfl, Nat.le_of_ble_eq_true rfl⟩) hx hb hml hown hB hK hW hS ⟨Nat.zero_le _, Nat.zero_le _⟩ rfl hl.1 rfl (Nat.le_of_ble_eq_true rfl) rfl dX5_fits_41 (fun H locs hW hS => ?_)
  obtain ⟨zb, hf⟩ := oif hf
  cases hf
  exact e_z hx hb hr hlk zb hW hS dX5_fits_44
def f_X5_whyDecided_106 (m : XS) (l2_106 : Int32) (l4_106 : Int32) : Option (Int32) :=
    (f_X5_cost m l4_106 l2_106).bind fun v110 =>
    (f_X5_left m l4_106).bind fun v116 =>
    if (v110 ≤ v116 : Prop) then
      some 0
    else
      some 5
def f_X5_whyDecided (m : XS) (a0 : Int32) (a1 : Int32) (a2 : Int32) : Option (Int32) :=
    (f_X5_of a0).bind fun v5 =>
    (aget 442 (m 1) v5).bind fun v8 =>
    (f_X5_of a0).bind fun v16 =>
    (aget 442 (m 1) (v16 + 1)).bind fun v21 =>
    (f_X5_group v21).bind fun v22 =>
    (f_X5_of a0).bind fun v32 =>
    (aget 442 (m 1) (v32 + 3)).bind fun v37 =>
    if (v37 = 0 : Prop) then
      ((f_X5_isOffered m v8 a1).bind fun v47 =>
      if (v47 = 0 : Prop) then
        some 2
      else
        ((f_X5_fits m a0 a1).bind fun v58 =>
        if (v58 = 0 : Prop) then
          some 3
        else
          ((f_X5_binds m v8 v22).bind fun v71 =>
          if (v71 = 0 : Prop) then
            f_X5_whyDecided_106 m a1 v8
          else
            ((f_X5_latest m v8 v22).bind fun v90 =>
            (aget 442 (m 1) (130 + (3 * v90))).bind fun v95 =>
            if (v95 = a1 : Prop) then
              f_X5_whyDecided_106 m a1 v8
            else
              (if (a2 = 0 : Prop) then
                some 4
              else
                f_X5_whyDecided_106 m a1 v8)))))
    else
      some 1
set_option maxRecDepth 100000 in
set_option maxHeartbeats 4000000 in
theorem p_X5_whyDecided (l : Launch) (E : TE) (x m : XS) (g o : Int64) {a0 : Int32} {a1 : Int32} {a2 : Int32} {r : Int32} (hf : f_X5_whyDecided m a0 a1 a2 = some r) : MG l E yX5_whyDecided cX5_whyDecided 6 (some .int) 4 [rf E 211, .int a0, .int a1, .int a2] (Wd E x m g o) (Wd E x m g o) (some (.int r)) := by
  unfold f_X5_whyDecided at hf
  refine m_in (by decide) (Nat.le_of_ble_eq_true rfl) ?_
  intro p e s mi args below meth c H ls hx hb hr hlk hml hown hB hK hW hS hl
  have hl : lv_has ls 6 [(0, rf E 211), (1, .int a0), (2, .int a1), (3, .int a2)] := hl
  have J106 : ∀ (l2_106 : Int32) (l4_106 : Int32) (H : Heap) (locs : List Loc) (ls : Array Slot), f_X5_whyDecided_106 m l2_106 l4_106 = some r → Wd E x m g o H → va_S (Ah E) s.heap H locs → lv_has ls 6 [(0, rf E 211), (2, .int l2_106), (4, .int l4_106)] → W p l e (rmH 4) s mi args below meth c H locs 0 0 (EQ E below args s (Wd E x m g o) (some (.int r))) (F0 mi 106 ls []) := by
    intro l2_106 l4_106 H locs ls hf hW hS hl
    unfold f_X5_whyDecided_106 at hf
    refine lv_aload_n hx hb dX5_whyDecided_106 rfl (lv_at hl 0 rfl) ?_
    refine lv_iload hx hb dX5_whyDecided_107 (lv_at hl 2 rfl) ?_
    refine lv_iload_n hx hb dX5_whyDecided_109 rfl (lv_at hl 1 rfl) ?_
    obtain ⟨v110, e110, hf⟩ := ob2 hf
    refine c_V (As := [.int l4_106, .int l2_106]) (st1 := [.int v110]) (rest := []) (p_X5_cost l E x m g o e110) (kc_X5_57 hB ⟨Nat.le_of_ble_eq_true rfl, Nat.le_of_ble_eq_true rfl⟩) (Wd.rec hK hW (by decide) cM_0 (ci := 5) rfl) hx hb hml hown hB hK hW hS ⟨Nat.zero_le _, Nat.zero_le _⟩ rfl hl.1 rfl (Nat.le_of_ble_eq_true rfl) rfl dX5_whyDecided_110 (fun H locs hW hS => ?_)
    refine lv_aload_n hx hb dX5_whyDecided_113 rfl (lv_at hl 0 rfl) ?_
    refine lv_iload hx hb dX5_whyDecided_114 (lv_at hl 2 rfl) ?_
    obtain ⟨v116, e116, hf⟩ := ob2 hf
    refine c_V (As := [.int l4_106]) (st1 := [.int v116, .int v110]) (rest := [.int v110]) (p_X5_left l E x m g o e116) (kc_X5_89 hB ⟨Nat.le_of_ble_eq_true rfl, Nat.le_of_ble_eq_true rfl⟩) (Wd.rec hK hW (by decide) cM_0 (ci := 5) rfl) hx hb hml hown hB hK hW hS ⟨Nat.zero_le _, Nat.zero_le _⟩ rfl hl.1 rfl (Nat.le_of_ble_eq_true rfl) rfl dX5_whyDecided_116 (fun H locs hW hS => ?_)
    refine lv_icmp_le (tgt := 126) hx hb dX5_whyDecided_119 (by decide) (fun c119 => ?_) (fun c119 => ?_)
    · rw [if_pos c119] at hf
      refine lv_iconst (v := 0) hx hb dX5_whyDecided_126 (by decide) ?_
      cases hf
      exact e_i hx hb hr hlk hW hS dX5_whyDecided_127
    · rw [if_neg c119] at hf
      refine lv_iconst (v := 5) hx hb dX5_whyDecided_122 (by decide) ?_
      refine lv_goto (tgt := 127) hx hb dX5_whyDecided_123 (by decide) ?_
      cases hf
      exact e_i hx hb hr hlk hW hS dX5_whyDecided_127
  refine lv_aload_n hx hb dX5_whyDecided_0 rfl (lv_at hl 0 rfl) ?_
  refine gf_X5_7 hx hb hB hK hown hW dX5_whyDecided_1 ?_
  refine lv_iload_n hx hb dX5_whyDecided_4 rfl (lv_at hl 1 rfl) ?_
  obtain ⟨v5, e5, hf⟩ := ob2 hf
  refine c_S (As := [.int a0]) (st1 := [.int v5, rf E 212]) (rest := [rf E 212]) (p_X5_of l E x m g o e5) (kc_X5_54 hB ⟨Nat.le_of_ble_eq_true rfl, Nat.le_of_ble_eq_true rfl⟩) hx hb hml hown hB hK hW hS ⟨Nat.zero_le _, Nat.zero_le _⟩ rfl hl.1 rfl (Nat.le_of_ble_eq_true rfl) rfl dX5_whyDecided_5 (fun H locs hW hS => ?_)
  obtain ⟨v8, e8, hf⟩ := ob2 hf
  refine r_iald hx hb hK hW (by decide) (cM_1) e8 dX5_whyDecided_8 ?_
  refine lv_istore (lv' := [(4, .int v8), (0, rf E 211), (1, .int a0), (2, .int a1), (3, .int a2)]) hx hb dX5_whyDecided_9 hl (by decide) rfl (fun ls hl => ?_)
  refine lv_aload_n hx hb dX5_whyDecided_11 rfl (lv_at hl 1 rfl) ?_
  refine gf_X5_7 hx hb hB hK hown hW dX5_whyDecided_12 ?_
  refine lv_iload_n hx hb dX5_whyDecided_15 rfl (lv_at hl 2 rfl) ?_
  obtain ⟨v16, e16, hf⟩ := ob2 hf
  refine c_S (As := [.int a0]) (st1 := [.int v16, rf E 212]) (rest := [rf E 212]) (p_X5_of l E x m g o e16) (kc_X5_54 hB ⟨Nat.le_of_ble_eq_true rfl, Nat.le_of_ble_eq_true rfl⟩) hx hb hml hown hB hK hW hS ⟨Nat.zero_le _, Nat.zero_le _⟩ rfl hl.1 rfl (Nat.le_of_ble_eq_true rfl) rfl dX5_whyDecided_16 (fun H locs hW hS => ?_)
  refine lv_iconst (v := 1) hx hb dX5_whyDecided_19 (by decide) ?_
  refine lv_iadd hx hb dX5_whyDecided_20 ?_
  obtain ⟨v21, e21, hf⟩ := ob2 hf
  refine r_iald hx hb hK hW (by decide) (cM_1) e21 dX5_whyDecided_21 ?_
  obtain ⟨v22, e22, hf⟩ := ob2 hf
  refine c_S (As := [.int v21]) (st1 := [.int v22]) (rest := []) (p_X5_group l E x m g o e22) (kc_X5_80 hB ⟨Nat.le_of_ble_eq_true rfl, Nat.le_of_ble_eq_true rfl⟩) hx hb hml hown hB hK hW hS ⟨Nat.zero_le _, Nat.zero_le _⟩ rfl hl.1 rfl (Nat.le_of_ble_eq_true rfl) rfl dX5_whyDecided_22 (fun H locs hW hS => ?_)
  refine lv_istore (lv' := [(5, .int v22), (4, .int v8), (0, rf E 211), (1, .int a0), (2, .int a1), (3, .int a2)]) hx hb dX5_whyDecided_25 hl (by decide) rfl (fun ls hl => ?_)
  refine lv_aload_n hx hb dX5_whyDecided_27 rfl (lv_at hl 2 rfl) ?_
  refine gf_X5_7 hx hb hB hK hown hW dX5_whyDecided_28 ?_
  refine lv_iload_n hx hb dX5_whyDecided_31 rfl (lv_at hl 3 rfl) ?_
  obtain ⟨v32, e32, hf⟩ := ob2 hf
  refine c_S (As := [.int a0]) (st1 := [.int v32, rf E 212]) (rest := [rf E 212]) (p_X5_of l E x m g o e32) (kc_X5_54 hB ⟨Nat.le_of_ble_eq_true rfl, Nat.le_of_ble_eq_true rfl⟩) hx hb hml hown hB hK hW hS ⟨Nat.zero_le _, Nat.zero_le _⟩ rfl hl.1 rfl (Nat.le_of_ble_eq_true rfl) rfl dX5_whyDecided_32 (fun H locs hW hS => ?_)
  refine lv_iconst (v := 3) hx hb dX5_whyDecided_35 (by decide) ?_
  refine lv_iadd hx hb dX5_whyDecided_36 ?_
  obtain ⟨v37, e37, hf⟩ := ob2 hf
  refine r_iald hx hb hK hW (by decide) (cM_1) e37 dX5_whyDecided_37 ?_
  refine lv_if_eq (tgt := 43) hx hb dX5_whyDecided_38 (by decide) (fun c38 => ?_) (fun c38 => ?_)
  · rw [if_pos c38] at hf
    refine lv_aload_n hx hb dX5_whyDecided_43 rfl (lv_at hl 2 rfl) ?_
    refine lv_iload hx hb dX5_whyDecided_44 (lv_at hl 1 rfl) ?_
    refine lv_iload_n hx hb dX5_whyDecided_46 rfl (lv_at hl 4 rfl) ?_
    obtain ⟨v47, e47, hf⟩ := ob2 hf
    refine c_V (As := [.int v8, .int a1]) (st1 := [.int v47]) (rest := []) (p_X5_isOffered l E x m g o e47) (kc_X5_51 hB ⟨Nat.le_of_ble_eq_true rfl, Nat.le_of_ble_eq_true rfl⟩) (Wd.rec hK hW (by decide) cM_0 (ci := 5) rfl) hx hb hml hown hB hK hW hS ⟨Nat.zero_le _, Nat.zero_le _⟩ rfl hl.1 rfl (Nat.le_of_ble_eq_true rfl) rfl dX5_whyDecided_47 (fun H locs hW hS => ?_)
    refine lv_if_ne (tgt := 55) hx hb dX5_whyDecided_50 (by decide) (fun c50 => ?_) (fun c50 => ?_)
    · rw [if_neg c50] at hf
      refine lv_aload_n hx hb dX5_whyDecided_55 rfl (lv_at hl 2 rfl) ?_
      refine lv_iload_n hx hb dX5_whyDecided_56 rfl (lv_at hl 3 rfl) ?_
      refine lv_iload_n hx hb dX5_whyDecided_57 rfl (lv_at hl 4 rfl) ?_
      obtain ⟨v58, e58, hf⟩ := ob2 hf
      refine c_V (As := [.int a0, .int a1]) (st1 := [.int v58]) (rest := []) (p_X5_fits l E x m g o e58) (kc_X5_83 hB ⟨Nat.le_of_ble_eq_true rfl, Nat.le_of_ble_eq_true rfl⟩) (Wd.rec hK hW (by decide) cM_0 (ci := 5) rfl) hx hb hml hown hB hK hW hS ⟨Nat.zero_le _, Nat.zero_le _⟩ rfl hl.1 rfl (Nat.le_of_ble_eq_true rfl) rfl dX5_whyDecided_58 (fun H locs hW hS => ?_)
      refine lv_if_ne (tgt := 66) hx hb dX5_whyDecided_61 (by decide) (fun c61 => ?_) (fun c61 => ?_)
      · rw [if_neg c61] at hf
        refine lv_aload_n hx hb dX5_whyDecided_66 rfl (lv_at hl 2 rfl) ?_
        refine lv_iload hx hb dX5_whyDecided_67 (lv_at hl 1 rfl) ?_
        refine lv_iload hx hb dX5_whyDecided_69 (lv_at hl 0 rfl) ?_
        obtain ⟨v71, e71, hf⟩ := ob2 hf
        refine c_V (As := [.int v8, .int v22]) (st1 := [.int v71]) (rest := []) (p_X5_binds l E x m g o e71) (kc_X5_86 hB ⟨Nat.le_of_ble_eq_true rfl, Nat.le_of_ble_eq_true rfl⟩) (Wd.rec hK hW (by decide) cM_0 (ci := 5) rfl) hx hb hml hown hB hK hW hS ⟨Nat.zero_le _, Nat.zero_le _⟩ rfl hl.1 rfl (Nat.le_of_ble_eq_true rfl) rfl dX5_whyDecided_71 (fun H locs hW hS => ?_)
        refine lv_if_eq (tgt := 106) hx hb dX5_whyDecided_74 (by decide) (fun c74 => ?_) (fun c74 => ?_)
        · rw [if_pos c74] at hf
          exact J106 a1 v8 _ _ _ hf hW hS (lv_sub hl [2, 4, 1] rfl)
        · rw [if_neg c74] at hf
          refine lv_aload_n hx hb dX5_whyDecided_77 rfl (lv_at hl 2 rfl) ?_
          refine gf_X5_7 hx hb hB hK hown hW dX5_whyDecided_78 ?_
          refine lv_sipush (v := 130) hx hb dX5_whyDecided_81 (by decide) ?_
          refine lv_iconst (v := 3) hx hb dX5_whyDecided_84 (by decide) ?_
          refine lv_aload_n hx hb dX5_whyDecided_85 rfl (lv_at hl 2 rfl) ?_
          refine lv_iload hx hb dX5_whyDecided_86 (lv_at hl 1 rfl) ?_
          refine lv_iload hx hb dX5_whyDecided_88 (lv_at hl 0 rfl) ?_
          obtain ⟨v90, e90, hf⟩ := ob2 hf
          refine c_V (As := [.int v8, .int v22]) (st1 := [.int v90, .int 3, .int 130, rf E 212]) (rest := [.int 3, .int 130, rf E 212]) (p_X5_latest l E x m g o e90) (kc_X5_48 hB ⟨Nat.le_of_ble_eq_true rfl, Nat.le_of_ble_eq_true rfl⟩) (Wd.rec hK hW (by decide) cM_0 (ci := 5) rfl) hx hb hml hown hB hK hW hS ⟨Nat.zero_le _, Nat.zero_le _⟩ rfl hl.1 rfl (Nat.le_of_ble_eq_true rfl) rfl dX5_whyDecided_90 (fun H locs hW hS => ?_)
          refine lv_imul hx hb dX5_whyDecided_93 ?_
          refine lv_iadd hx hb dX5_whyDecided_94 ?_
          obtain ⟨v95, e95, hf⟩ := ob2 hf
          refine r_iald hx hb hK hW (by decide) (cM_1) e95 dX5_whyDecided_95 ?_
          refine lv_iload_n hx hb dX5_whyDecided_96 rfl (lv_at hl 4 rfl) ?_
          refine lv_icmp_eq (tgt := 106) hx hb dX5_whyDecided_97 (by decide) (fun c97 => ?_) (fun c97 => ?_)
          · rw [if_pos c97] at hf
            exact J106 a1 v8 _ _ _ hf hW hS (lv_sub hl [2, 4, 1] rfl)
          · rw [if_neg c97] at hf
            refine lv_iload_n hx hb dX5_whyDecided_100 rfl (lv_at hl 5 rfl) ?_
            refine lv_if_ne (tgt := 106) hx hb dX5_whyDecided_101 (by decide) (fun c101 => ?_) (fun c101 => ?_)
            · rw [if_neg c101] at hf
              exact J106 a1 v8 _ _ _ hf hW hS (lv_sub hl [2, 4, 1] rfl)
            · rw [if_pos c101] at hf
              refine lv_iconst (v := 4) hx hb dX5_whyDecided_104 (by decide) ?_
              cases hf
              exact e_i hx hb hr hlk hW hS dX5_whyDecided_105
      · rw [if_pos c61] at hf
        refine lv_iconst (v := 3) hx hb dX5_whyDecided_64 (by decide) ?_
        cases hf
        exact e_i hx hb hr hlk hW hS dX5_whyDecided_65
    · rw [if_pos c50] at hf
      refine lv_iconst (v := 2) hx hb dX5_whyDecided_53 (by decide) ?_
      cases hf
      exact e_i hx hb hr hlk hW hS dX5_whyDecided_54
  · rw [if_neg c38] at hf
    refine lv_iconst (v := 1) hx hb dX5_whyDecided_41 (by decide) ?_
    cases hf
    exact e_i hx hb hr hlk hW hS dX5_whyDecided_42
def f_X5_whyJudged (m : XS) (a0 : Int32) (a1 : Int32) : Option (Int32) :=
    (f_X5_of a0).bind fun v5 =>
    (aget 442 (m 1) v5).bind fun v8 =>
    (f_X5_of a0).bind fun v15 =>
    (aget 442 (m 1) (v15 + 3)).bind fun v20 =>
    if (v20 = 2 : Prop) then
      ((f_X5_isOffered m v8 a1).bind fun v30 =>
      if (v30 = 0 : Prop) then
        some 2
      else
        ((f_X5_fits m a0 a1).bind fun v41 =>
        if (v41 = 0 : Prop) then
          some 3
        else
          ((f_X5_cost m v8 a1).bind fun v52 =>
          (f_X5_of a0).bind fun v62 =>
          (aget 442 (m 1) (v62 + 4)).bind fun v67 =>
          (f_X5_cost m v8 v67).bind fun v68 =>
          (some ((v52 - v68))).bind fun v72 =>
          if (0 ≤ v72 : Prop) then
            ((f_X5_left m v8).bind fun v85 =>
            if (v72 ≤ v85 : Prop) then
              some 0
            else
              some 5)
          else
            some 4)))
    else
      some 1
set_option maxRecDepth 100000 in
set_option maxHeartbeats 4000000 in
theorem p_X5_whyJudged (l : Launch) (E : TE) (x m : XS) (g o : Int64) {a0 : Int32} {a1 : Int32} {r : Int32} (hf : f_X5_whyJudged m a0 a1 = some r) : MG l E yX5_whyJudged cX5_whyJudged 5 (some .int) 3 [rf E 211, .int a0, .int a1] (Wd E x m g o) (Wd E x m g o) (some (.int r)) := by
  unfold f_X5_whyJudged at hf
  refine m_in (by decide) (Nat.le_of_ble_eq_true rfl) ?_
  intro p e s mi args below meth c H ls hx hb hr hlk hml hown hB hK hW hS hl
  have hl : lv_has ls 5 [(0, rf E 211), (1, .int a0), (2, .int a1)] := hl
  refine lv_aload_n hx hb dX5_whyJudged_0 rfl (lv_at hl 0 rfl) ?_
  refine gf_X5_7 hx hb hB hK hown hW dX5_whyJudged_1 ?_
  refine lv_iload_n hx hb dX5_whyJudged_4 rfl (lv_at hl 1 rfl) ?_
  obtain ⟨v5, e5, hf⟩ := ob2 hf
  refine c_S (As := [.int a0]) (st1 := [.int v5, rf E 212]) (rest := [rf E 212]) (p_X5_of l E x m g o e5) (kc_X5_54 hB ⟨Nat.le_of_ble_eq_true rfl, Nat.le_of_ble_eq_true rfl⟩) hx hb hml hown hB hK hW hS ⟨Nat.zero_le _, Nat.zero_le _⟩ rfl hl.1 rfl (Nat.le_of_ble_eq_true rfl) rfl dX5_whyJudged_5 (fun H locs hW hS => ?_)
  obtain ⟨v8, e8, hf⟩ := ob2 hf
  refine r_iald hx hb hK hW (by decide) (cM_1) e8 dX5_whyJudged_8 ?_
  refine lv_istore_n (lv' := [(3, .int v8), (0, rf E 211), (1, .int a0), (2, .int a1)]) hx hb dX5_whyJudged_9 rfl hl (by decide) rfl (fun ls hl => ?_)
  refine lv_aload_n hx hb dX5_whyJudged_10 rfl (lv_at hl 1 rfl) ?_
  refine gf_X5_7 hx hb hB hK hown hW dX5_whyJudged_11 ?_
  refine lv_iload_n hx hb dX5_whyJudged_14 rfl (lv_at hl 2 rfl) ?_
  obtain ⟨v15, e15, hf⟩ := ob2 hf
  refine c_S (As := [.int a0]) (st1 := [.int v15, rf E 212]) (rest := [rf E 212]) (p_X5_of l E x m g o e15) (kc_X5_54 hB ⟨Nat.le_of_ble_eq_true rfl, Nat.le_of_ble_eq_true rfl⟩) hx hb hml hown hB hK hW hS ⟨Nat.zero_le _, Nat.zero_le _⟩ rfl hl.1 rfl (Nat.le_of_ble_eq_true rfl) rfl dX5_whyJudged_15 (fun H locs hW hS => ?_)
  refine lv_iconst (v := 3) hx hb dX5_whyJudged_18 (by decide) ?_
  refine lv_iadd hx hb dX5_whyJudged_19 ?_
  obtain ⟨v20, e20, hf⟩ := ob2 hf
  refine r_iald hx hb hK hW (by decide) (cM_1) e20 dX5_whyJudged_20 ?_
  refine lv_iconst (v := 2) hx hb dX5_whyJudged_21 (by decide) ?_
  refine lv_icmp_eq (tgt := 27) hx hb dX5_whyJudged_22 (by decide) (fun c22 => ?_) (fun c22 => ?_)
  · rw [if_pos c22] at hf
    refine lv_aload_n hx hb dX5_whyJudged_27 rfl (lv_at hl 1 rfl) ?_
    refine lv_iload_n hx hb dX5_whyJudged_28 rfl (lv_at hl 0 rfl) ?_
    refine lv_iload_n hx hb dX5_whyJudged_29 rfl (lv_at hl 3 rfl) ?_
    obtain ⟨v30, e30, hf⟩ := ob2 hf
    refine c_V (As := [.int v8, .int a1]) (st1 := [.int v30]) (rest := []) (p_X5_isOffered l E x m g o e30) (kc_X5_51 hB ⟨Nat.le_of_ble_eq_true rfl, Nat.le_of_ble_eq_true rfl⟩) (Wd.rec hK hW (by decide) cM_0 (ci := 5) rfl) hx hb hml hown hB hK hW hS ⟨Nat.zero_le _, Nat.zero_le _⟩ rfl hl.1 rfl (Nat.le_of_ble_eq_true rfl) rfl dX5_whyJudged_30 (fun H locs hW hS => ?_)
    refine lv_if_ne (tgt := 38) hx hb dX5_whyJudged_33 (by decide) (fun c33 => ?_) (fun c33 => ?_)
    · rw [if_neg c33] at hf
      refine lv_aload_n hx hb dX5_whyJudged_38 rfl (lv_at hl 1 rfl) ?_
      refine lv_iload_n hx hb dX5_whyJudged_39 rfl (lv_at hl 2 rfl) ?_
      refine lv_iload_n hx hb dX5_whyJudged_40 rfl (lv_at hl 3 rfl) ?_
      obtain ⟨v41, e41, hf⟩ := ob2 hf
      refine c_V (As := [.int a0, .int a1]) (st1 := [.int v41]) (rest := []) (p_X5_fits l E x m g o e41) (kc_X5_83 hB ⟨Nat.le_of_ble_eq_true rfl, Nat.le_of_ble_eq_true rfl⟩) (Wd.rec hK hW (by decide) cM_0 (ci := 5) rfl) hx hb hml hown hB hK hW hS ⟨Nat.zero_le _, Nat.zero_le _⟩ rfl hl.1 rfl (Nat.le_of_ble_eq_true rfl) rfl dX5_whyJudged_41 (fun H locs hW hS => ?_)
      refine lv_if_ne (tgt := 49) hx hb dX5_whyJudged_44 (by decide) (fun c44 => ?_) (fun c44 => ?_)
      · rw [if_neg c44] at hf
        refine lv_aload_n hx hb dX5_whyJudged_49 rfl (lv_at hl 1 rfl) ?_
        refine lv_iload_n hx hb dX5_whyJudged_50 rfl (lv_at hl 0 rfl) ?_
        refine lv_iload_n hx hb dX5_whyJudged_51 rfl (lv_at hl 3 rfl) ?_
        obtain ⟨v52, e52, hf⟩ := ob2 hf
        refine c_V (As := [.int v8, .int a1]) (st1 := [.int v52]) (rest := []) (p_X5_cost l E x m g o e52) (kc_X5_57 hB ⟨Nat.le_of_ble_eq_true rfl, Nat.le_of_ble_eq_true rfl⟩) (Wd.rec hK hW (by decide) cM_0 (ci := 5) rfl) hx hb hml hown hB hK hW hS ⟨Nat.zero_le _, Nat.zero_le _⟩ rfl hl.1 rfl (Nat.le_of_ble_eq_true rfl) rfl dX5_whyJudged_52 (fun H locs hW hS => ?_)
        refine lv_aload_n hx hb dX5_whyJudged_55 rfl (lv_at hl 1 rfl) ?_
        refine lv_iload_n hx hb dX5_whyJudged_56 rfl (lv_at hl 0 rfl) ?_
        refine lv_aload_n hx hb dX5_whyJudged_57 rfl (lv_at hl 1 rfl) ?_
        refine gf_X5_7 hx hb hB hK hown hW dX5_whyJudged_58 ?_
        refine lv_iload_n hx hb dX5_whyJudged_61 rfl (lv_at hl 2 rfl) ?_
        obtain ⟨v62, e62, hf⟩ := ob2 hf
        refine c_S (As := [.int a0]) (st1 := [.int v62, rf E 212, .int v8, rf E 211, .int v52]) (rest := [rf E 212, .int v8, rf E 211, .int v52]) (p_X5_of l E x m g o e62) (kc_X5_54 hB ⟨Nat.le_of_ble_eq_true rfl, Nat.le_of_ble_eq_true rfl⟩) hx hb hml hown hB hK hW hS ⟨Nat.zero_le _, Nat.zero_le _⟩ rfl hl.1 rfl (Nat.le_of_ble_eq_true rfl) rfl dX5_whyJudged_62 (fun H locs hW hS => ?_)
        refine lv_iconst (v := 4) hx hb dX5_whyJudged_65 (by decide) ?_
        refine lv_iadd hx hb dX5_whyJudged_66 ?_
        obtain ⟨v67, e67, hf⟩ := ob2 hf
        refine r_iald hx hb hK hW (by decide) (cM_1) e67 dX5_whyJudged_67 ?_
        obtain ⟨v68, e68, hf⟩ := ob2 hf
        refine c_V (As := [.int v8, .int v67]) (st1 := [.int v68, .int v52]) (rest := [.int v52]) (p_X5_cost l E x m g o e68) (kc_X5_57 hB ⟨Nat.le_of_ble_eq_true rfl, Nat.le_of_ble_eq_true rfl⟩) (Wd.rec hK hW (by decide) cM_0 (ci := 5) rfl) hx hb hml hown hB hK hW hS ⟨Nat.zero_le _, Nat.zero_le _⟩ rfl hl.1 rfl (Nat.le_of_ble_eq_true rfl) rfl dX5_whyJudged_68 (fun H locs hW hS => ?_)
        refine lv_isub hx hb dX5_whyJudged_71 ?_
        obtain ⟨v72, e72, hf⟩ := ob hf
        refine lv_nm e72 ?_
        refine lv_istore (lv' := [(4, .int v72), (3, .int v8), (0, rf E 211), (1, .int a0), (2, .int a1)]) hx hb dX5_whyJudged_72 hl (by decide) rfl (fun ls hl => ?_)
        refine lv_iload hx hb dX5_whyJudged_74 (lv_at hl 0 rfl) ?_
        refine lv_if_ge (tgt := 81) hx hb dX5_whyJudged_76 (by decide) (fun c76 => ?_) (fun c76 => ?_)
        · rw [if_pos c76] at hf
          refine lv_iload hx hb dX5_whyJudged_81 (lv_at hl 0 rfl) ?_
          refine lv_aload_n hx hb dX5_whyJudged_83 rfl (lv_at hl 2 rfl) ?_
          refine lv_iload_n hx hb dX5_whyJudged_84 rfl (lv_at hl 1 rfl) ?_
          obtain ⟨v85, e85, hf⟩ := ob2 hf
          refine c_V (As := [.int v8]) (st1 := [.int v85, .int v72]) (rest := [.int v72]) (p_X5_left l E x m g o e85) (kc_X5_89 hB ⟨Nat.le_of_ble_eq_true rfl, Nat.le_of_ble_eq_true rfl⟩) (Wd.rec hK hW (by decide) cM_0 (ci := 5) rfl) hx hb hml hown hB hK hW hS ⟨Nat.zero_le _, Nat.zero_le _⟩ rfl hl.1 rfl (Nat.le_of_ble_eq_true rfl) rfl dX5_whyJudged_85 (fun H locs hW hS => ?_)
          refine lv_icmp_le (tgt := 95) hx hb dX5_whyJudged_88 (by decide) (fun c88 => ?_) (fun c88 => ?_)
          · rw [if_pos c88] at hf
            refine lv_iconst (v := 0) hx hb dX5_whyJudged_95 (by decide) ?_
            cases hf
            exact e_i hx hb hr hlk hW hS dX5_whyJudged_96
          · rw [if_neg c88] at hf
            refine lv_iconst (v := 5) hx hb dX5_whyJudged_91 (by decide) ?_
            refine lv_goto (tgt := 96) hx hb dX5_whyJudged_92 (by decide) ?_
            cases hf
            exact e_i hx hb hr hlk hW hS dX5_whyJudged_96
        · rw [if_neg c76] at hf
          refine lv_iconst (v := 4) hx hb dX5_whyJudged_79 (by decide) ?_
          cases hf
          exact e_i hx hb hr hlk hW hS dX5_whyJudged_80
      · rw [if_pos c44] at hf
        refine lv_iconst (v := 3) hx hb dX5_whyJudged_47 (by decide) ?_
        cases hf
        exact e_i hx hb hr hlk hW hS dX5_whyJudged_48
    · rw [if_pos c33] at hf
      refine lv_iconst (v := 2) hx hb dX5_whyJudged_36 (by decide) ?_
      cases hf
      exact e_i hx hb hr hlk hW hS dX5_whyJudged_37
  · rw [if_neg c22] at hf
    refine lv_iconst (v := 1) hx hb dX5_whyJudged_25 (by decide) ?_
    cases hf
    exact e_i hx hb hr hlk hW hS dX5_whyJudged_26
def f_X5_why (m : XS) (a0 : Int32) (a1 : Int32) (a2 : Int32) : Option (Int32) :=
    if (a2 = (-1) : Prop) then
      ((f_X5_whyJudged m a0 a1).bind fun v8 =>
      some v8)
    else
      ((f_X5_whyDecided m a0 a1 a2).bind fun v18 =>
      some v18)
set_option maxRecDepth 100000 in
set_option maxHeartbeats 4000000 in
theorem p_X5_why (l : Launch) (E : TE) (x m : XS) (g o : Int64) {a0 : Int32} {a1 : Int32} {a2 : Int32} {r : Int32} (hf : f_X5_why m a0 a1 a2 = some r) : MG l E yX5_why cX5_why 4 (some .int) 5 [rf E 211, .int a0, .int a1, .int a2] (Wd E x m g o) (Wd E x m g o) (some (.int r)) := by
  unfold f_X5_why at hf
  refine m_in (by decide) (Nat.le_of_ble_eq_true rfl) ?_
  intro p e s mi args below meth c H ls hx hb hr hlk hml hown hB hK hW hS hl
  have hl : lv_has ls 4 [(0, rf E 211), (1, .int a0), (2, .int a1), (3, .int a2)] := hl
  refine lv_iload_n hx hb dX5_why_0 rfl (lv_at hl 3 rfl) ?_
  refine lv_iconst (v := (-1)) hx hb dX5_why_1 (by decide) ?_
  refine lv_icmp_ne (tgt := 14) hx hb dX5_why_2 (by decide) (fun c2 => ?_) (fun c2 => ?_)
  · rw [if_neg c2] at hf
    refine lv_aload_n hx hb dX5_why_14 rfl (lv_at hl 0 rfl) ?_
    refine lv_iload_n hx hb dX5_why_15 rfl (lv_at hl 1 rfl) ?_
    refine lv_iload_n hx hb dX5_why_16 rfl (lv_at hl 2 rfl) ?_
    refine lv_iload_n hx hb dX5_why_17 rfl (lv_at hl 3 rfl) ?_
    obtain ⟨v18, e18, hf⟩ := ob2 hf
    refine c_V (As := [.int a0, .int a1, .int a2]) (st1 := [.int v18]) (rest := []) (p_X5_whyDecided l E x m g o e18) (kc_X5_95 hB ⟨Nat.le_of_ble_eq_true rfl, Nat.le_of_ble_eq_true rfl⟩) (Wd.rec hK hW (by decide) cM_0 (ci := 5) rfl) hx hb hml hown hB hK hW hS ⟨Nat.zero_le _, Nat.zero_le _⟩ rfl hl.1 rfl (Nat.le_of_ble_eq_true rfl) rfl dX5_why_18 (fun H locs hW hS => ?_)
    cases hf
    exact e_i hx hb hr hlk hW hS dX5_why_21
  · rw [if_pos c2] at hf
    refine lv_aload_n hx hb dX5_why_5 rfl (lv_at hl 0 rfl) ?_
    refine lv_iload_n hx hb dX5_why_6 rfl (lv_at hl 1 rfl) ?_
    refine lv_iload_n hx hb dX5_why_7 rfl (lv_at hl 2 rfl) ?_
    obtain ⟨v8, e8, hf⟩ := ob2 hf
    refine c_V (As := [.int a0, .int a1]) (st1 := [.int v8]) (rest := []) (p_X5_whyJudged l E x m g o e8) (kc_X5_92 hB ⟨Nat.le_of_ble_eq_true rfl, Nat.le_of_ble_eq_true rfl⟩) (Wd.rec hK hW (by decide) cM_0 (ci := 5) rfl) hx hb hml hown hB hK hW hS ⟨Nat.zero_le _, Nat.zero_le _⟩ rfl hl.1 rfl (Nat.le_of_ble_eq_true rfl) rfl dX5_why_8 (fun H locs hW hS => ?_)
    refine lv_goto (tgt := 21) hx hb dX5_why_11 (by decide) ?_
    cases hf
    exact e_i hx hb hr hlk hW hS dX5_why_21
def f_X5_give (m : XS) (a0 : Int32) (a1 : Int32) : Option (XS) :=
    (f_X5_of a0).bind fun v5 =>
    (aget 442 (m 1) v5).bind fun v8 =>
    (f_X5_cost m v8 a1).bind fun v13 =>
    (f_X5_of a0).bind fun v21 =>
    (aget 442 (m 1) (v21 + 5)).bind fun v26 =>
    (some ((v13 - v26))).bind fun v28 =>
    (f_X5_of a0).bind fun v35 =>
    (aset m 1 442 (v35 + 4) a1).bind fun m41 =>
    (f_X5_of a0).bind fun v47 =>
    (aget 442 (m41 1) (v47 + 5)).bind fun v53 =>
    (aset m41 1 442 (v47 + 5) (v53 + v28)).bind fun m57 =>
    (f_X5_at v8).bind fun v63 =>
    (aget 442 (m57 1) (v63 + 2)).bind fun v69 =>
    (aset m57 1 442 (v63 + 2) (v69 + v28)).bind fun m73 =>
    some m73
set_option maxRecDepth 100000 in
set_option maxHeartbeats 4000000 in
theorem p_X5_give (l : Launch) (E : TE) (x m : XS) (g o : Int64) {a0 : Int32} {a1 : Int32} {mr : XS} (hf : f_X5_give m a0 a1 = some mr) : MG l E yX5_give cX5_give 5 none 3 [rf E 211, .int a0, .int a1] (Wd E x m g o) (Wd E x mr g o) none := by
  unfold f_X5_give at hf
  refine m_in (by decide) (Nat.le_of_ble_eq_true rfl) ?_
  intro p e s mi args below meth c H ls hx hb hr hlk hml hown hB hK hW hS hl
  have hl : lv_has ls 5 [(0, rf E 211), (1, .int a0), (2, .int a1)] := hl
  refine lv_aload_n hx hb dX5_give_0 rfl (lv_at hl 0 rfl) ?_
  refine gf_X5_7 hx hb hB hK hown hW dX5_give_1 ?_
  refine lv_iload_n hx hb dX5_give_4 rfl (lv_at hl 1 rfl) ?_
  obtain ⟨v5, e5, hf⟩ := ob2 hf
  refine c_S (As := [.int a0]) (st1 := [.int v5, rf E 212]) (rest := [rf E 212]) (p_X5_of l E x m g o e5) (kc_X5_54 hB ⟨Nat.le_of_ble_eq_true rfl, Nat.le_of_ble_eq_true rfl⟩) hx hb hml hown hB hK hW hS ⟨Nat.zero_le _, Nat.zero_le _⟩ rfl hl.1 rfl (Nat.le_of_ble_eq_true rfl) rfl dX5_give_5 (fun H locs hW hS => ?_)
  obtain ⟨v8, e8, hf⟩ := ob2 hf
  refine r_iald hx hb hK hW (by decide) (cM_1) e8 dX5_give_8 ?_
  refine lv_istore_n (lv' := [(3, .int v8), (0, rf E 211), (1, .int a0), (2, .int a1)]) hx hb dX5_give_9 rfl hl (by decide) rfl (fun ls hl => ?_)
  refine lv_aload_n hx hb dX5_give_10 rfl (lv_at hl 1 rfl) ?_
  refine lv_iload_n hx hb dX5_give_11 rfl (lv_at hl 0 rfl) ?_
  refine lv_iload_n hx hb dX5_give_12 rfl (lv_at hl 3 rfl) ?_
  obtain ⟨v13, e13, hf⟩ := ob2 hf
  refine c_V (As := [.int v8, .int a1]) (st1 := [.int v13]) (rest := []) (p_X5_cost l E x m g o e13) (kc_X5_57 hB ⟨Nat.le_of_ble_eq_true rfl, Nat.le_of_ble_eq_true rfl⟩) (Wd.rec hK hW (by decide) cM_0 (ci := 5) rfl) hx hb hml hown hB hK hW hS ⟨Nat.zero_le _, Nat.zero_le _⟩ rfl hl.1 rfl (Nat.le_of_ble_eq_true rfl) rfl dX5_give_13 (fun H locs hW hS => ?_)
  refine lv_aload_n hx hb dX5_give_16 rfl (lv_at hl 1 rfl) ?_
  refine gf_X5_7 hx hb hB hK hown hW dX5_give_17 ?_
  refine lv_iload_n hx hb dX5_give_20 rfl (lv_at hl 2 rfl) ?_
  obtain ⟨v21, e21, hf⟩ := ob2 hf
  refine c_S (As := [.int a0]) (st1 := [.int v21, rf E 212, .int v13]) (rest := [rf E 212, .int v13]) (p_X5_of l E x m g o e21) (kc_X5_54 hB ⟨Nat.le_of_ble_eq_true rfl, Nat.le_of_ble_eq_true rfl⟩) hx hb hml hown hB hK hW hS ⟨Nat.zero_le _, Nat.zero_le _⟩ rfl hl.1 rfl (Nat.le_of_ble_eq_true rfl) rfl dX5_give_21 (fun H locs hW hS => ?_)
  refine lv_iconst (v := 5) hx hb dX5_give_24 (by decide) ?_
  refine lv_iadd hx hb dX5_give_25 ?_
  obtain ⟨v26, e26, hf⟩ := ob2 hf
  refine r_iald hx hb hK hW (by decide) (cM_1) e26 dX5_give_26 ?_
  refine lv_isub hx hb dX5_give_27 ?_
  obtain ⟨v28, e28, hf⟩ := ob hf
  refine lv_nm e28 ?_
  refine lv_istore (lv' := [(4, .int v28), (3, .int v8), (0, rf E 211), (1, .int a0), (2, .int a1)]) hx hb dX5_give_28 hl (by decide) rfl (fun ls hl => ?_)
  refine lv_aload_n hx hb dX5_give_30 rfl (lv_at hl 2 rfl) ?_
  refine gf_X5_7 hx hb hB hK hown hW dX5_give_31 ?_
  refine lv_iload_n hx hb dX5_give_34 rfl (lv_at hl 3 rfl) ?_
  obtain ⟨v35, e35, hf⟩ := ob2 hf
  refine c_S (As := [.int a0]) (st1 := [.int v35, rf E 212]) (rest := [rf E 212]) (p_X5_of l E x m g o e35) (kc_X5_54 hB ⟨Nat.le_of_ble_eq_true rfl, Nat.le_of_ble_eq_true rfl⟩) hx hb hml hown hB hK hW hS ⟨Nat.zero_le _, Nat.zero_le _⟩ rfl hl.1 rfl (Nat.le_of_ble_eq_true rfl) rfl dX5_give_35 (fun H locs hW hS => ?_)
  refine lv_iconst (v := 4) hx hb dX5_give_38 (by decide) ?_
  refine lv_iadd hx hb dX5_give_39 ?_
  refine lv_iload_n hx hb dX5_give_40 rfl (lv_at hl 4 rfl) ?_
  obtain ⟨m41, e41, hf⟩ := ob2 hf
  refine r_iastM (k := 1) hx hb hK hW hS (by decide) (fun _ => cM_1) e41 dX5_give_41 (fun H locs hW hS => ?_)
  refine lv_aload_n hx hb dX5_give_42 rfl (lv_at hl 2 rfl) ?_
  refine gf_X5_7 hx hb hB hK hown hW dX5_give_43 ?_
  refine lv_iload_n hx hb dX5_give_46 rfl (lv_at hl 3 rfl) ?_
  obtain ⟨v47, e47, hf⟩ := ob2 hf
  refine c_S (As := [.int a0]) (st1 := [.int v47, rf E 212]) (rest := [rf E 212]) (p_X5_of l E x m41 g o e47) (kc_X5_54 hB ⟨Nat.le_of_ble_eq_true rfl, Nat.le_of_ble_eq_true rfl⟩) hx hb hml hown hB hK hW hS ⟨Nat.zero_le _, Nat.zero_le _⟩ rfl hl.1 rfl (Nat.le_of_ble_eq_true rfl) rfl dX5_give_47 (fun H locs hW hS => ?_)
  refine lv_iconst (v := 5) hx hb dX5_give_50 (by decide) ?_
  refine lv_iadd hx hb dX5_give_51 ?_
  refine lv_dup2_11 hx hb dX5_give_52 rfl rfl ?_
  obtain ⟨v53, e53, hf⟩ := ob2 hf
  refine r_iald hx hb hK hW (by decide) (cM_1) e53 dX5_give_53 ?_
  refine lv_iload hx hb dX5_give_54 (lv_at hl 0 rfl) ?_
  refine lv_iadd hx hb dX5_give_56 ?_
  obtain ⟨m57, e57, hf⟩ := ob2 hf
  refine r_iastM (k := 1) hx hb hK hW hS (by decide) (fun _ => cM_1) e57 dX5_give_57 (fun H locs hW hS => ?_)
  refine lv_aload_n hx hb dX5_give_58 rfl (lv_at hl 2 rfl) ?_
  refine gf_X5_7 hx hb hB hK hown hW dX5_give_59 ?_
  refine lv_iload_n hx hb dX5_give_62 rfl (lv_at hl 1 rfl) ?_
  obtain ⟨v63, e63, hf⟩ := ob2 hf
  refine c_S (As := [.int v8]) (st1 := [.int v63, rf E 212]) (rest := [rf E 212]) (p_X5_at l E x m57 g o e63) (kc_X5_25 hB ⟨Nat.le_of_ble_eq_true rfl, Nat.le_of_ble_eq_true rfl⟩) hx hb hml hown hB hK hW hS ⟨Nat.zero_le _, Nat.zero_le _⟩ rfl hl.1 rfl (Nat.le_of_ble_eq_true rfl) rfl dX5_give_63 (fun H locs hW hS => ?_)
  refine lv_iconst (v := 2) hx hb dX5_give_66 (by decide) ?_
  refine lv_iadd hx hb dX5_give_67 ?_
  refine lv_dup2_11 hx hb dX5_give_68 rfl rfl ?_
  obtain ⟨v69, e69, hf⟩ := ob2 hf
  refine r_iald hx hb hK hW (by decide) (cM_1) e69 dX5_give_69 ?_
  refine lv_iload hx hb dX5_give_70 (lv_at hl 0 rfl) ?_
  refine lv_iadd hx hb dX5_give_72 ?_
  obtain ⟨m73, e73, hf⟩ := ob2 hf
  refine r_iastM (k := 1) hx hb hK hW hS (by decide) (fun _ => cM_1) e73 dX5_give_73 (fun H locs hW hS => ?_)
  cases hf
  exact e_v hx hb hr hlk hW hS dX5_give_74
def f_X5_setPrecedent (m : XS) (a0 : Int32) (a1 : Int32) : Option (Int32 × XS) :=
    (aget 442 (m 1) 5).bind fun v5 =>
    (aset m 1 442 (130 + (3 * v5)) a1).bind fun m19 =>
    (aget 442 (m19 1) 1).bind fun v38 =>
    (aset m19 1 442 ((130 + (3 * v5)) + 1) v38).bind fun m39 =>
    (aset m39 1 442 ((130 + (3 * v5)) + 2) a0).bind fun m54 =>
    (f_X5_of a0).bind fun v67 =>
    (aget 442 (m54 1) v67).bind fun v70 =>
    (f_X5_of a0).bind fun v78 =>
    (aget 442 (m54 1) (v78 + 1)).bind fun v83 =>
    (f_X5_group v83).bind fun v84 =>
    (aset m54 1 442 ((118 + (3 * v70)) + v84) v5).bind fun m89 =>
    (aget 442 (m89 1) 5).bind fun v96 =>
    (aset m89 1 442 5 (v96 + 1)).bind fun m99 =>
    some (v5, m99)
set_option maxRecDepth 100000 in
set_option maxHeartbeats 4000000 in
theorem p_X5_setPrecedent (l : Launch) (E : TE) (x m : XS) (g o : Int64) {a0 : Int32} {a1 : Int32} {r : Int32} {mr : XS} (hf : f_X5_setPrecedent m a0 a1 = some (r, mr)) : MG l E yX5_setPrecedent cX5_setPrecedent 4 (some .int) 1 [rf E 211, .int a0, .int a1] (Wd E x m g o) (Wd E x mr g o) (some (.int r)) := by
  unfold f_X5_setPrecedent at hf
  refine m_in (by decide) (Nat.le_of_ble_eq_true rfl) ?_
  intro p e s mi args below meth c H ls hx hb hr hlk hml hown hB hK hW hS hl
  have hl : lv_has ls 4 [(0, rf E 211), (1, .int a0), (2, .int a1)] := hl
  refine lv_aload_n hx hb dX5_setPrecedent_0 rfl (lv_at hl 0 rfl) ?_
  refine gf_X5_7 hx hb hB hK hown hW dX5_setPrecedent_1 ?_
  refine lv_iconst (v := 5) hx hb dX5_setPrecedent_4 (by decide) ?_
  obtain ⟨v5, e5, hf⟩ := ob2 hf
  refine r_iald hx hb hK hW (by decide) (cM_1) e5 dX5_setPrecedent_5 ?_
  refine lv_istore_n (lv' := [(3, .int v5), (0, rf E 211), (1, .int a0), (2, .int a1)]) hx hb dX5_setPrecedent_6 rfl hl (by decide) rfl (fun ls hl => ?_)
  refine lv_aload_n hx hb dX5_setPrecedent_7 rfl (lv_at hl 1 rfl) ?_
  refine gf_X5_7 hx hb hB hK hown hW dX5_setPrecedent_8 ?_
  refine lv_sipush (v := 130) hx hb dX5_setPrecedent_11 (by decide) ?_
  refine lv_iconst (v := 3) hx hb dX5_setPrecedent_14 (by decide) ?_
  refine lv_iload_n hx hb dX5_setPrecedent_15 rfl (lv_at hl 0 rfl) ?_
  refine lv_imul hx hb dX5_setPrecedent_16 ?_
  refine lv_iadd hx hb dX5_setPrecedent_17 ?_
  refine lv_iload_n hx hb dX5_setPrecedent_18 rfl (lv_at hl 3 rfl) ?_
  obtain ⟨m19, e19, hf⟩ := ob2 hf
  refine r_iastM (k := 1) hx hb hK hW hS (by decide) (fun _ => cM_1) e19 dX5_setPrecedent_19 (fun H locs hW hS => ?_)
  refine lv_aload_n hx hb dX5_setPrecedent_20 rfl (lv_at hl 1 rfl) ?_
  refine gf_X5_7 hx hb hB hK hown hW dX5_setPrecedent_21 ?_
  refine lv_sipush (v := 130) hx hb dX5_setPrecedent_24 (by decide) ?_
  refine lv_iconst (v := 3) hx hb dX5_setPrecedent_27 (by decide) ?_
  refine lv_iload_n hx hb dX5_setPrecedent_28 rfl (lv_at hl 0 rfl) ?_
  refine lv_imul hx hb dX5_setPrecedent_29 ?_
  refine lv_iadd hx hb dX5_setPrecedent_30 ?_
  refine lv_iconst (v := 1) hx hb dX5_setPrecedent_31 (by decide) ?_
  refine lv_iadd hx hb dX5_setPrecedent_32 ?_
  refine lv_aload_n hx hb dX5_setPrecedent_33 rfl (lv_at hl 1 rfl) ?_
  refine gf_X5_7 hx hb hB hK hown hW dX5_setPrecedent_34 ?_
  refine lv_iconst (v := 1) hx hb dX5_setPrecedent_37 (by decide) ?_
  obtain ⟨v38, e38, hf⟩ := ob2 hf
  refine r_iald hx hb hK hW (by decide) (cM_1) e38 dX5_setPrecedent_38 ?_
  obtain ⟨m39, e39, hf⟩ := ob2 hf
  refine r_iastM (k := 1) hx hb hK hW hS (by decide) (fun _ => cM_1) e39 dX5_setPrecedent_39 (fun H locs hW hS => ?_)
  refine lv_aload_n hx hb dX5_setPrecedent_40 rfl (lv_at hl 1 rfl) ?_
  refine gf_X5_7 hx hb hB hK hown hW dX5_setPrecedent_41 ?_
  refine lv_sipush (v := 130) hx hb dX5_setPrecedent_44 (by decide) ?_
  refine lv_iconst (v := 3) hx hb dX5_setPrecedent_47 (by decide) ?_
  refine lv_iload_n hx hb dX5_setPrecedent_48 rfl (lv_at hl 0 rfl) ?_
  refine lv_imul hx hb dX5_setPrecedent_49 ?_
  refine lv_iadd hx hb dX5_setPrecedent_50 ?_
  refine lv_iconst (v := 2) hx hb dX5_setPrecedent_51 (by decide) ?_
  refine lv_iadd hx hb dX5_setPrecedent_52 ?_
  refine lv_iload_n hx hb dX5_setPrecedent_53 rfl (lv_at hl 2 rfl) ?_
  obtain ⟨m54, e54, hf⟩ := ob2 hf
  refine r_iastM (k := 1) hx hb hK hW hS (by decide) (fun _ => cM_1) e54 dX5_setPrecedent_54 (fun H locs hW hS => ?_)
  refine lv_aload_n hx hb dX5_setPrecedent_55 rfl (lv_at hl 1 rfl) ?_
  refine gf_X5_7 hx hb hB hK hown hW dX5_setPrecedent_56 ?_
  refine lv_bipush (v := 118) hx hb dX5_setPrecedent_59 (by decide) ?_
  refine lv_iconst (v := 3) hx hb dX5_setPrecedent_61 (by decide) ?_
  refine lv_aload_n hx hb dX5_setPrecedent_62 rfl (lv_at hl 1 rfl) ?_
  refine gf_X5_7 hx hb hB hK hown hW dX5_setPrecedent_63 ?_
  refine lv_iload_n hx hb dX5_setPrecedent_66 rfl (lv_at hl 2 rfl) ?_
  obtain ⟨v67, e67, hf⟩ := ob2 hf
  refine c_S (As := [.int a0]) (st1 := [.int v67, rf E 212, .int 3, .int 118, rf E 212]) (rest := [rf E 212, .int 3, .int 118, rf E 212]) (p_X5_of l E x m54 g o e67) (kc_X5_54 hB ⟨Nat.le_of_ble_eq_true rfl, Nat.le_of_ble_eq_true rfl⟩) hx hb hml hown hB hK hW hS ⟨Nat.zero_le _, Nat.zero_le _⟩ rfl hl.1 rfl (Nat.le_of_ble_eq_true rfl) rfl dX5_setPrecedent_67 (fun H locs hW hS => ?_)
  obtain ⟨v70, e70, hf⟩ := ob2 hf
  refine r_iald hx hb hK hW (by decide) (cM_1) e70 dX5_setPrecedent_70 ?_
  refine lv_imul hx hb dX5_setPrecedent_71 ?_
  refine lv_iadd hx hb dX5_setPrecedent_72 ?_
  refine lv_aload_n hx hb dX5_setPrecedent_73 rfl (lv_at hl 1 rfl) ?_
  refine gf_X5_7 hx hb hB hK hown hW dX5_setPrecedent_74 ?_
  refine lv_iload_n hx hb dX5_setPrecedent_77 rfl (lv_at hl 2 rfl) ?_
  obtain ⟨v78, e78, hf⟩ := ob2 hf
  refine c_S (As := [.int a0]) (st1 := [.int v78, rf E 212, .int (118 + (3 * v70)), rf E 212]) (rest := [rf E 212, .int (118 + (3 * v70)), rf E 212]) (p_X5_of l E x m54 g o e78) (kc_X5_54 hB ⟨Nat.le_of_ble_eq_true rfl, Nat.le_of_ble_eq_true rfl⟩) hx hb hml hown hB hK hW hS ⟨Nat.zero_le _, Nat.zero_le _⟩ rfl hl.1 rfl (Nat.le_of_ble_eq_true rfl) rfl dX5_setPrecedent_78 (fun H locs hW hS => ?_)
  refine lv_iconst (v := 1) hx hb dX5_setPrecedent_81 (by decide) ?_
  refine lv_iadd hx hb dX5_setPrecedent_82 ?_
  obtain ⟨v83, e83, hf⟩ := ob2 hf
  refine r_iald hx hb hK hW (by decide) (cM_1) e83 dX5_setPrecedent_83 ?_
  obtain ⟨v84, e84, hf⟩ := ob2 hf
  refine c_S (As := [.int v83]) (st1 := [.int v84, .int (118 + (3 * v70)), rf E 212]) (rest := [.int (118 + (3 * v70)), rf E 212]) (p_X5_group l E x m54 g o e84) (kc_X5_80 hB ⟨Nat.le_of_ble_eq_true rfl, Nat.le_of_ble_eq_true rfl⟩) hx hb hml hown hB hK hW hS ⟨Nat.zero_le _, Nat.zero_le _⟩ rfl hl.1 rfl (Nat.le_of_ble_eq_true rfl) rfl dX5_setPrecedent_84 (fun H locs hW hS => ?_)
  refine lv_iadd hx hb dX5_setPrecedent_87 ?_
  refine lv_iload_n hx hb dX5_setPrecedent_88 rfl (lv_at hl 0 rfl) ?_
  obtain ⟨m89, e89, hf⟩ := ob2 hf
  refine r_iastM (k := 1) hx hb hK hW hS (by decide) (fun _ => cM_1) e89 dX5_setPrecedent_89 (fun H locs hW hS => ?_)
  refine lv_aload_n hx hb dX5_setPrecedent_90 rfl (lv_at hl 1 rfl) ?_
  refine gf_X5_7 hx hb hB hK hown hW dX5_setPrecedent_91 ?_
  refine lv_iconst (v := 5) hx hb dX5_setPrecedent_94 (by decide) ?_
  refine lv_dup2_11 hx hb dX5_setPrecedent_95 rfl rfl ?_
  obtain ⟨v96, e96, hf⟩ := ob2 hf
  refine r_iald hx hb hK hW (by decide) (cM_1) e96 dX5_setPrecedent_96 ?_
  refine lv_iconst (v := 1) hx hb dX5_setPrecedent_97 (by decide) ?_
  refine lv_iadd hx hb dX5_setPrecedent_98 ?_
  obtain ⟨m99, e99, hf⟩ := ob2 hf
  refine r_iastM (k := 1) hx hb hK hW hS (by decide) (fun _ => cM_1) e99 dX5_setPrecedent_99 (fun H locs hW hS => ?_)
  refine lv_iload_n hx hb dX5_setPrecedent_100 rfl (lv_at hl 0 rfl) ?_
  cases hf
  exact e_i hx hb hr hlk hW hS dX5_setPrecedent_101
