theorem dX4_save_0 : decode cX4_save 0 = .ok (.aload_n 0, 1) := by decide +kernel
theorem dX4_save_1 : decode cX4_save 1 = .ok (.aload_n 0, 1) := by decide +kernel
theorem dX4_save_2 : decode cX4_save 2 = .ok (.getfield 150, 3) := by decide +kernel
theorem dX4_save_5 : decode cX4_save 5 = .ok (.invokevirtual 153, 3) := by decide +kernel
theorem dX4_save_8 : decode cX4_save 8 = .ok (.astore_n 1, 1) := by decide +kernel
theorem dX4_save_9 : decode cX4_save 9 = .ok (.aload_n 1, 1) := by decide +kernel
theorem dX4_save_10 : decode cX4_save 10 = .ok (.ifnull 11, 3) := by decide +kernel
theorem dX4_save_13 : decode cX4_save 13 = .ok (.aload_n 1, 1) := by decide +kernel
theorem dX4_save_14 : decode cX4_save 14 = .ok (.aload_n 0, 1) := by decide +kernel
theorem dX4_save_15 : decode cX4_save 15 = .ok (.getfield 10, 3) := by decide +kernel
theorem dX4_save_18 : decode cX4_save 18 = .ok (.invokevirtual 157, 3) := by decide +kernel
theorem dX4_save_21 : decode cX4_save 21 = .ok (.aload_n 0, 1) := by decide +kernel
theorem dX4_save_22 : decode cX4_save 22 = .ok (.aload_n 0, 1) := by decide +kernel
theorem dX4_save_23 : decode cX4_save 23 = .ok (.getfield 150, 3) := by decide +kernel
theorem dX4_save_26 : decode cX4_save 26 = .ok (.iconst 1, 1) := by decide +kernel
theorem dX4_save_27 : decode cX4_save 27 = .ok (.iadd, 1) := by decide +kernel
theorem dX4_save_28 : decode cX4_save 28 = .ok (.bipush 6, 2) := by decide +kernel
theorem dX4_save_30 : decode cX4_save 30 = .ok (.irem, 1) := by decide +kernel
theorem dX4_save_31 : decode cX4_save 31 = .ok (.putfield 150, 3) := by decide +kernel
theorem dX4_save_34 : decode cX4_save 34 = .ok (.aload_n 0, 1) := by decide +kernel
theorem dX4_save_35 : decode cX4_save 35 = .ok (.getfield 147, 3) := by decide +kernel
theorem dX4_save_38 : decode cX4_save 38 = .ok (.bipush 6, 2) := by decide +kernel
theorem dX4_save_40 : decode cX4_save 40 = .ok (.if_icmp .ge 13, 3) := by decide +kernel
theorem dX4_save_43 : decode cX4_save 43 = .ok (.aload_n 0, 1) := by decide +kernel
theorem dX4_save_44 : decode cX4_save 44 = .ok (.dup, 1) := by decide +kernel
theorem dX4_save_45 : decode cX4_save 45 = .ok (.getfield 147, 3) := by decide +kernel
theorem dX4_save_48 : decode cX4_save 48 = .ok (.iconst 1, 1) := by decide +kernel
theorem dX4_save_49 : decode cX4_save 49 = .ok (.iadd, 1) := by decide +kernel
theorem dX4_save_50 : decode cX4_save 50 = .ok (.putfield 147, 3) := by decide +kernel
theorem dX4_save_53 : decode cX4_save 53 = .ok (.return_, 1) := by decide +kernel
theorem dX4_offer_0 : decode cX4_offer 0 = .ok (.iload_n 1, 1) := by decide +kernel
theorem dX4_offer_1 : decode cX4_offer 1 = .ok (.invokestatic 27, 3) := by decide +kernel
theorem dX4_offer_4 : decode cX4_offer 4 = .ok (.invokestatic 31, 3) := by decide +kernel
theorem dX4_offer_7 : decode cX4_offer 7 = .ok (.iload_n 2, 1) := by decide +kernel
theorem dX4_offer_8 : decode cX4_offer 8 = .ok (.iconst 0, 1) := by decide +kernel
theorem dX4_offer_9 : decode cX4_offer 9 = .ok (.sipush 999, 3) := by decide +kernel
theorem dX4_offer_12 : decode cX4_offer 12 = .ok (.invokestatic 35, 3) := by decide +kernel
theorem dX4_offer_15 : decode cX4_offer 15 = .ok (.invokestatic 39, 3) := by decide +kernel
theorem dX4_offer_18 : decode cX4_offer 18 = .ok (.iload_n 3, 1) := by decide +kernel
theorem dX4_offer_19 : decode cX4_offer 19 = .ok (.iconst 1, 1) := by decide +kernel
theorem dX4_offer_20 : decode cX4_offer 20 = .ok (.bipush 9, 2) := by decide +kernel
theorem dX4_offer_22 : decode cX4_offer 22 = .ok (.invokestatic 35, 3) := by decide +kernel
theorem dX4_offer_25 : decode cX4_offer 25 = .ok (.invokestatic 39, 3) := by decide +kernel
theorem dX4_offer_28 : decode cX4_offer 28 = .ok (.iload 4, 2) := by decide +kernel
theorem dX4_offer_30 : decode cX4_offer 30 = .ok (.iload_n 3, 1) := by decide +kernel
theorem dX4_offer_31 : decode cX4_offer 31 = .ok (.bipush 9, 2) := by decide +kernel
theorem dX4_offer_33 : decode cX4_offer 33 = .ok (.invokestatic 35, 3) := by decide +kernel
theorem dX4_offer_36 : decode cX4_offer 36 = .ok (.invokestatic 39, 3) := by decide +kernel
theorem dX4_offer_39 : decode cX4_offer 39 = .ok (.aload_n 0, 1) := by decide +kernel
theorem dX4_offer_40 : decode cX4_offer 40 = .ok (.getfield 10, 3) := by decide +kernel
theorem dX4_offer_43 : decode cX4_offer 43 = .ok (.getfield 42, 3) := by decide +kernel
theorem dX4_offer_46 : decode cX4_offer 46 = .ok (.iload_n 1, 1) := by decide +kernel
theorem dX4_offer_47 : decode cX4_offer 47 = .ok (.invokevirtual 46, 3) := by decide +kernel
theorem dX4_offer_50 : decode cX4_offer 50 = .ok (.bipush 6, 2) := by decide +kernel
theorem dX4_offer_52 : decode cX4_offer 52 = .ok (.if_icmp .ge 7, 3) := by decide +kernel
theorem dX4_offer_55 : decode cX4_offer 55 = .ok (.iconst 1, 1) := by decide +kernel
theorem dX4_offer_56 : decode cX4_offer 56 = .ok (.goto 4, 3) := by decide +kernel
theorem dX4_offer_59 : decode cX4_offer 59 = .ok (.iconst 0, 1) := by decide +kernel
theorem dX4_offer_60 : decode cX4_offer 60 = .ok (.invokestatic 52, 3) := by decide +kernel
theorem dX4_offer_63 : decode cX4_offer 63 = .ok (.aload_n 0, 1) := by decide +kernel
theorem dX4_offer_64 : decode cX4_offer 64 = .ok (.invokevirtual 55, 3) := by decide +kernel
theorem dX4_offer_67 : decode cX4_offer 67 = .ok (.aload_n 0, 1) := by decide +kernel
theorem dX4_offer_68 : decode cX4_offer 68 = .ok (.getfield 10, 3) := by decide +kernel
theorem dX4_offer_71 : decode cX4_offer 71 = .ok (.getfield 42, 3) := by decide +kernel
theorem dX4_offer_74 : decode cX4_offer 74 = .ok (.iload_n 1, 1) := by decide +kernel
theorem dX4_offer_75 : decode cX4_offer 75 = .ok (.iload_n 2, 1) := by decide +kernel
theorem dX4_offer_76 : decode cX4_offer 76 = .ok (.iload_n 3, 1) := by decide +kernel
theorem dX4_offer_77 : decode cX4_offer 77 = .ok (.iload 4, 2) := by decide +kernel
theorem dX4_offer_79 : decode cX4_offer 79 = .ok (.invokevirtual 58, 3) := by decide +kernel
theorem dX4_offer_82 : decode cX4_offer 82 = .ok (.ireturn, 1) := by decide +kernel
theorem dX4_takeOff_0 : decode cX4_takeOff 0 = .ok (.aload_n 0, 1) := by decide +kernel
theorem dX4_takeOff_1 : decode cX4_takeOff 1 = .ok (.getfield 10, 3) := by decide +kernel
theorem dX4_takeOff_4 : decode cX4_takeOff 4 = .ok (.getfield 42, 3) := by decide +kernel
theorem dX4_takeOff_7 : decode cX4_takeOff 7 = .ok (.iload_n 1, 1) := by decide +kernel
theorem dX4_takeOff_8 : decode cX4_takeOff 8 = .ok (.iload_n 2, 1) := by decide +kernel
theorem dX4_takeOff_9 : decode cX4_takeOff 9 = .ok (.invokevirtual 62, 3) := by decide +kernel
theorem dX4_takeOff_12 : decode cX4_takeOff 12 = .ok (.invokestatic 31, 3) := by decide +kernel
theorem dX4_takeOff_15 : decode cX4_takeOff 15 = .ok (.aload_n 0, 1) := by decide +kernel
theorem dX4_takeOff_16 : decode cX4_takeOff 16 = .ok (.getfield 10, 3) := by decide +kernel
theorem dX4_takeOff_19 : decode cX4_takeOff 19 = .ok (.getfield 42, 3) := by decide +kernel
theorem dX4_takeOff_22 : decode cX4_takeOff 22 = .ok (.iload_n 1, 1) := by decide +kernel
theorem dX4_takeOff_23 : decode cX4_takeOff 23 = .ok (.iload_n 2, 1) := by decide +kernel
theorem dX4_takeOff_24 : decode cX4_takeOff 24 = .ok (.invokevirtual 66, 3) := by decide +kernel
theorem dX4_takeOff_27 : decode cX4_takeOff 27 = .ok (.invokestatic 52, 3) := by decide +kernel
theorem dX4_takeOff_30 : decode cX4_takeOff 30 = .ok (.aload_n 0, 1) := by decide +kernel
theorem dX4_takeOff_31 : decode cX4_takeOff 31 = .ok (.invokevirtual 55, 3) := by decide +kernel
theorem dX4_takeOff_34 : decode cX4_takeOff 34 = .ok (.aload_n 0, 1) := by decide +kernel
theorem dX4_takeOff_35 : decode cX4_takeOff 35 = .ok (.getfield 10, 3) := by decide +kernel
theorem dX4_takeOff_38 : decode cX4_takeOff 38 = .ok (.getfield 42, 3) := by decide +kernel
theorem dX4_takeOff_41 : decode cX4_takeOff 41 = .ok (.iload_n 1, 1) := by decide +kernel
theorem dX4_takeOff_42 : decode cX4_takeOff 42 = .ok (.iload_n 2, 1) := by decide +kernel
theorem dX4_takeOff_43 : decode cX4_takeOff 43 = .ok (.invokevirtual 69, 3) := by decide +kernel
theorem dX4_takeOff_46 : decode cX4_takeOff 46 = .ok (.ireturn, 1) := by decide +kernel
theorem dX4_base_0 : decode cX4_base 0 = .ok (.iload_n 1, 1) := by decide +kernel
theorem dX4_base_1 : decode cX4_base 1 = .ok (.invokestatic 27, 3) := by decide +kernel
theorem dX4_base_4 : decode cX4_base 4 = .ok (.invokestatic 31, 3) := by decide +kernel
theorem dX4_base_7 : decode cX4_base 7 = .ok (.iload_n 2, 1) := by decide +kernel
theorem dX4_base_8 : decode cX4_base 8 = .ok (.iconst 0, 1) := by decide +kernel
theorem dX4_base_9 : decode cX4_base 9 = .ok (.sipush 9999, 3) := by decide +kernel
theorem dX4_base_12 : decode cX4_base 12 = .ok (.invokestatic 35, 3) := by decide +kernel
theorem dX4_base_15 : decode cX4_base 15 = .ok (.invokestatic 39, 3) := by decide +kernel
theorem dX4_base_18 : decode cX4_base 18 = .ok (.aload_n 0, 1) := by decide +kernel
theorem dX4_base_19 : decode cX4_base 19 = .ok (.invokevirtual 55, 3) := by decide +kernel
theorem dX4_base_22 : decode cX4_base 22 = .ok (.aload_n 0, 1) := by decide +kernel
theorem dX4_base_23 : decode cX4_base 23 = .ok (.getfield 10, 3) := by decide +kernel
theorem dX4_base_26 : decode cX4_base 26 = .ok (.iload_n 1, 1) := by decide +kernel
theorem dX4_base_27 : decode cX4_base 27 = .ok (.iload_n 2, 1) := by decide +kernel
theorem dX4_base_28 : decode cX4_base 28 = .ok (.invokevirtual 73, 3) := by decide +kernel
theorem dX4_base_31 : decode cX4_base 31 = .ok (.ireturn, 1) := by decide +kernel
theorem dX4_set_0 : decode cX4_set 0 = .ok (.iload_n 1, 1) := by decide +kernel
theorem dX4_set_1 : decode cX4_set 1 = .ok (.invokestatic 76, 3) := by decide +kernel
theorem dX4_set_4 : decode cX4_set 4 = .ok (.invokestatic 31, 3) := by decide +kernel
theorem dX4_set_7 : decode cX4_set 7 = .ok (.iload_n 1, 1) := by decide +kernel
theorem dX4_set_8 : decode cX4_set 8 = .ok (.iload_n 2, 1) := by decide +kernel
theorem dX4_set_9 : decode cX4_set 9 = .ok (.invokestatic 79, 3) := by decide +kernel
theorem dX4_set_12 : decode cX4_set 12 = .ok (.invokestatic 39, 3) := by decide +kernel
theorem dX4_set_15 : decode cX4_set 15 = .ok (.aload_n 0, 1) := by decide +kernel
theorem dX4_set_16 : decode cX4_set 16 = .ok (.invokevirtual 55, 3) := by decide +kernel
theorem dX4_set_19 : decode cX4_set 19 = .ok (.aload_n 0, 1) := by decide +kernel
theorem dX4_set_20 : decode cX4_set 20 = .ok (.getfield 10, 3) := by decide +kernel
theorem dX4_set_23 : decode cX4_set 23 = .ok (.iload_n 1, 1) := by decide +kernel
theorem dX4_set_24 : decode cX4_set 24 = .ok (.iload_n 2, 1) := by decide +kernel
theorem dX4_set_25 : decode cX4_set 25 = .ok (.invokevirtual 82, 3) := by decide +kernel
theorem dX4_set_28 : decode cX4_set 28 = .ok (.ireturn, 1) := by decide +kernel
theorem dX4_complain_0 : decode cX4_complain 0 = .ok (.iload_n 1, 1) := by decide +kernel
theorem dX4_complain_1 : decode cX4_complain 1 = .ok (.invokestatic 27, 3) := by decide +kernel
theorem dX4_complain_4 : decode cX4_complain 4 = .ok (.invokestatic 31, 3) := by decide +kernel
theorem dX4_complain_7 : decode cX4_complain 7 = .ok (.iload_n 2, 1) := by decide +kernel
theorem dX4_complain_8 : decode cX4_complain 8 = .ok (.iconst 1, 1) := by decide +kernel
theorem dX4_complain_9 : decode cX4_complain 9 = .ok (.bipush 9, 2) := by decide +kernel
theorem dX4_complain_11 : decode cX4_complain 11 = .ok (.invokestatic 35, 3) := by decide +kernel
theorem dX4_complain_14 : decode cX4_complain 14 = .ok (.invokestatic 39, 3) := by decide +kernel
theorem dX4_complain_17 : decode cX4_complain 17 = .ok (.iload_n 3, 1) := by decide +kernel
theorem dX4_complain_18 : decode cX4_complain 18 = .ok (.invokestatic 85, 3) := by decide +kernel
theorem dX4_complain_21 : decode cX4_complain 21 = .ok (.invokestatic 39, 3) := by decide +kernel
theorem dX4_complain_24 : decode cX4_complain 24 = .ok (.aload_n 0, 1) := by decide +kernel
theorem dX4_complain_25 : decode cX4_complain 25 = .ok (.getfield 10, 3) := by decide +kernel
theorem dX4_complain_28 : decode cX4_complain 28 = .ok (.getfield 88, 3) := by decide +kernel
theorem dX4_complain_31 : decode cX4_complain 31 = .ok (.getfield 92, 3) := by decide +kernel
theorem dX4_complain_34 : decode cX4_complain 34 = .ok (.bipush 24, 2) := by decide +kernel
theorem dX4_complain_36 : decode cX4_complain 36 = .ok (.if_icmp .ge 7, 3) := by decide +kernel
theorem dX4_complain_39 : decode cX4_complain 39 = .ok (.iconst 1, 1) := by decide +kernel
theorem dX4_complain_40 : decode cX4_complain 40 = .ok (.goto 4, 3) := by decide +kernel
theorem dX4_complain_43 : decode cX4_complain 43 = .ok (.iconst 0, 1) := by decide +kernel
theorem dX4_complain_44 : decode cX4_complain 44 = .ok (.invokestatic 52, 3) := by decide +kernel
theorem dX4_complain_47 : decode cX4_complain 47 = .ok (.aload_n 0, 1) := by decide +kernel
theorem dX4_complain_48 : decode cX4_complain 48 = .ok (.invokevirtual 55, 3) := by decide +kernel
theorem dX4_complain_51 : decode cX4_complain 51 = .ok (.aload_n 0, 1) := by decide +kernel
theorem dX4_complain_52 : decode cX4_complain 52 = .ok (.getfield 10, 3) := by decide +kernel
theorem dX4_complain_55 : decode cX4_complain 55 = .ok (.getfield 88, 3) := by decide +kernel
theorem dX4_complain_58 : decode cX4_complain 58 = .ok (.iload_n 1, 1) := by decide +kernel
theorem dX4_complain_59 : decode cX4_complain 59 = .ok (.iload_n 2, 1) := by decide +kernel
theorem dX4_complain_60 : decode cX4_complain 60 = .ok (.iload_n 3, 1) := by decide +kernel
theorem dX4_complain_61 : decode cX4_complain 61 = .ok (.invokevirtual 98, 3) := by decide +kernel
theorem dX4_complain_64 : decode cX4_complain 64 = .ok (.ireturn, 1) := by decide +kernel
theorem dX4_decide_0 : decode cX4_decide 0 = .ok (.aload_n 0, 1) := by decide +kernel
theorem dX4_decide_1 : decode cX4_decide 1 = .ok (.getfield 10, 3) := by decide +kernel
theorem dX4_decide_4 : decode cX4_decide 4 = .ok (.getfield 88, 3) := by decide +kernel
theorem dX4_decide_7 : decode cX4_decide 7 = .ok (.iload_n 1, 1) := by decide +kernel
theorem dX4_decide_8 : decode cX4_decide 8 = .ok (.invokevirtual 101, 3) := by decide +kernel
theorem dX4_decide_11 : decode cX4_decide 11 = .ok (.invokestatic 31, 3) := by decide +kernel
theorem dX4_decide_14 : decode cX4_decide 14 = .ok (.iload_n 3, 1) := by decide +kernel
theorem dX4_decide_15 : decode cX4_decide 15 = .ok (.iconst 0, 1) := by decide +kernel
theorem dX4_decide_16 : decode cX4_decide 16 = .ok (.iconst 5, 1) := by decide +kernel
theorem dX4_decide_17 : decode cX4_decide 17 = .ok (.invokestatic 35, 3) := by decide +kernel
theorem dX4_decide_20 : decode cX4_decide 20 = .ok (.invokestatic 39, 3) := by decide +kernel
theorem dX4_decide_23 : decode cX4_decide 23 = .ok (.aload_n 0, 1) := by decide +kernel
theorem dX4_decide_24 : decode cX4_decide 24 = .ok (.getfield 10, 3) := by decide +kernel
theorem dX4_decide_27 : decode cX4_decide 27 = .ok (.iload_n 1, 1) := by decide +kernel
theorem dX4_decide_28 : decode cX4_decide 28 = .ok (.iload_n 2, 1) := by decide +kernel
theorem dX4_decide_29 : decode cX4_decide 29 = .ok (.iload_n 3, 1) := by decide +kernel
theorem dX4_decide_30 : decode cX4_decide 30 = .ok (.invokevirtual 103, 3) := by decide +kernel
theorem dX4_decide_33 : decode cX4_decide 33 = .ok (.ifCond .ne 7, 3) := by decide +kernel
theorem dX4_decide_36 : decode cX4_decide 36 = .ok (.iconst 1, 1) := by decide +kernel
theorem dX4_decide_37 : decode cX4_decide 37 = .ok (.goto 4, 3) := by decide +kernel
theorem dX4_decide_40 : decode cX4_decide 40 = .ok (.iconst 0, 1) := by decide +kernel
theorem dX4_decide_41 : decode cX4_decide 41 = .ok (.invokestatic 52, 3) := by decide +kernel
theorem dX4_decide_44 : decode cX4_decide 44 = .ok (.aload_n 0, 1) := by decide +kernel
theorem dX4_decide_45 : decode cX4_decide 45 = .ok (.invokevirtual 55, 3) := by decide +kernel
theorem dX4_decide_48 : decode cX4_decide 48 = .ok (.aload_n 0, 1) := by decide +kernel
theorem dX4_decide_49 : decode cX4_decide 49 = .ok (.getfield 10, 3) := by decide +kernel
theorem dX4_decide_52 : decode cX4_decide 52 = .ok (.iload_n 1, 1) := by decide +kernel
theorem dX4_decide_53 : decode cX4_decide 53 = .ok (.iload_n 2, 1) := by decide +kernel
theorem dX4_decide_54 : decode cX4_decide 54 = .ok (.iload_n 3, 1) := by decide +kernel
theorem dX4_decide_55 : decode cX4_decide 55 = .ok (.invokevirtual 106, 3) := by decide +kernel
theorem dX4_decide_58 : decode cX4_decide 58 = .ok (.ireturn, 1) := by decide +kernel
theorem dX4_appeal_0 : decode cX4_appeal 0 = .ok (.aload_n 0, 1) := by decide +kernel
theorem dX4_appeal_1 : decode cX4_appeal 1 = .ok (.getfield 10, 3) := by decide +kernel
theorem dX4_appeal_4 : decode cX4_appeal 4 = .ok (.getfield 88, 3) := by decide +kernel
theorem dX4_appeal_7 : decode cX4_appeal 7 = .ok (.iload_n 1, 1) := by decide +kernel
theorem dX4_appeal_8 : decode cX4_appeal 8 = .ok (.invokevirtual 101, 3) := by decide +kernel
theorem dX4_appeal_11 : decode cX4_appeal 11 = .ok (.invokestatic 31, 3) := by decide +kernel
theorem dX4_appeal_14 : decode cX4_appeal 14 = .ok (.aload_n 0, 1) := by decide +kernel
theorem dX4_appeal_15 : decode cX4_appeal 15 = .ok (.getfield 10, 3) := by decide +kernel
theorem dX4_appeal_18 : decode cX4_appeal 18 = .ok (.iload_n 1, 1) := by decide +kernel
theorem dX4_appeal_19 : decode cX4_appeal 19 = .ok (.invokevirtual 109, 3) := by decide +kernel
theorem dX4_appeal_22 : decode cX4_appeal 22 = .ok (.invokestatic 52, 3) := by decide +kernel
theorem dX4_appeal_25 : decode cX4_appeal 25 = .ok (.aload_n 0, 1) := by decide +kernel
theorem dX4_appeal_26 : decode cX4_appeal 26 = .ok (.invokevirtual 55, 3) := by decide +kernel
theorem dX4_appeal_29 : decode cX4_appeal 29 = .ok (.aload_n 0, 1) := by decide +kernel
theorem dX4_appeal_30 : decode cX4_appeal 30 = .ok (.getfield 10, 3) := by decide +kernel
theorem dX4_appeal_33 : decode cX4_appeal 33 = .ok (.getfield 88, 3) := by decide +kernel
theorem dX4_appeal_36 : decode cX4_appeal 36 = .ok (.iload_n 1, 1) := by decide +kernel
theorem dX4_appeal_37 : decode cX4_appeal 37 = .ok (.iconst 2, 1) := by decide +kernel
theorem dX4_appeal_38 : decode cX4_appeal 38 = .ok (.invokevirtual 112, 3) := by decide +kernel
theorem dX4_appeal_41 : decode cX4_appeal 41 = .ok (.aload_n 0, 1) := by decide +kernel
theorem dX4_appeal_42 : decode cX4_appeal 42 = .ok (.getfield 10, 3) := by decide +kernel
theorem dX4_appeal_45 : decode cX4_appeal 45 = .ok (.getfield 88, 3) := by decide +kernel
theorem dX4_appeal_48 : decode cX4_appeal 48 = .ok (.iconst 2, 1) := by decide +kernel
theorem dX4_appeal_49 : decode cX4_appeal 49 = .ok (.invokevirtual 116, 3) := by decide +kernel
theorem dX4_appeal_52 : decode cX4_appeal 52 = .ok (.ireturn, 1) := by decide +kernel
theorem dX4_judge_0 : decode cX4_judge 0 = .ok (.aload_n 0, 1) := by decide +kernel
theorem dX4_judge_1 : decode cX4_judge 1 = .ok (.getfield 10, 3) := by decide +kernel
theorem dX4_judge_4 : decode cX4_judge 4 = .ok (.getfield 88, 3) := by decide +kernel
theorem dX4_judge_7 : decode cX4_judge 7 = .ok (.iload_n 1, 1) := by decide +kernel
theorem dX4_judge_8 : decode cX4_judge 8 = .ok (.invokevirtual 101, 3) := by decide +kernel
theorem dX4_judge_11 : decode cX4_judge 11 = .ok (.invokestatic 31, 3) := by decide +kernel
theorem dX4_judge_14 : decode cX4_judge 14 = .ok (.aload_n 0, 1) := by decide +kernel
theorem dX4_judge_15 : decode cX4_judge 15 = .ok (.getfield 10, 3) := by decide +kernel
theorem dX4_judge_18 : decode cX4_judge 18 = .ok (.iload_n 1, 1) := by decide +kernel
theorem dX4_judge_19 : decode cX4_judge 19 = .ok (.iload_n 2, 1) := by decide +kernel
theorem dX4_judge_20 : decode cX4_judge 20 = .ok (.invokevirtual 119, 3) := by decide +kernel
theorem dX4_judge_23 : decode cX4_judge 23 = .ok (.ifCond .ne 7, 3) := by decide +kernel
theorem dX4_judge_26 : decode cX4_judge 26 = .ok (.iconst 1, 1) := by decide +kernel
theorem dX4_judge_27 : decode cX4_judge 27 = .ok (.goto 4, 3) := by decide +kernel
theorem dX4_judge_30 : decode cX4_judge 30 = .ok (.iconst 0, 1) := by decide +kernel
theorem dX4_judge_31 : decode cX4_judge 31 = .ok (.invokestatic 52, 3) := by decide +kernel
theorem dX4_judge_34 : decode cX4_judge 34 = .ok (.aload_n 0, 1) := by decide +kernel
theorem dX4_judge_35 : decode cX4_judge 35 = .ok (.invokevirtual 55, 3) := by decide +kernel
theorem dX4_judge_38 : decode cX4_judge 38 = .ok (.aload_n 0, 1) := by decide +kernel
theorem dX4_judge_39 : decode cX4_judge 39 = .ok (.getfield 10, 3) := by decide +kernel
theorem dX4_judge_42 : decode cX4_judge 42 = .ok (.iload_n 1, 1) := by decide +kernel
theorem dX4_judge_43 : decode cX4_judge 43 = .ok (.iload_n 2, 1) := by decide +kernel
theorem dX4_judge_44 : decode cX4_judge 44 = .ok (.invokevirtual 122, 3) := by decide +kernel
theorem dX4_judge_47 : decode cX4_judge 47 = .ok (.ireturn, 1) := by decide +kernel
theorem dX4_closeMonth_0 : decode cX4_closeMonth 0 = .ok (.aload_n 0, 1) := by decide +kernel
theorem dX4_closeMonth_1 : decode cX4_closeMonth 1 = .ok (.getfield 10, 3) := by decide +kernel
theorem dX4_closeMonth_4 : decode cX4_closeMonth 4 = .ok (.getfield 125, 3) := by decide +kernel
theorem dX4_closeMonth_7 : decode cX4_closeMonth 7 = .ok (.sipush 500, 3) := by decide +kernel
theorem dX4_closeMonth_10 : decode cX4_closeMonth 10 = .ok (.if_icmp .ge 7, 3) := by decide +kernel
theorem dX4_closeMonth_13 : decode cX4_closeMonth 13 = .ok (.iconst 1, 1) := by decide +kernel
theorem dX4_closeMonth_14 : decode cX4_closeMonth 14 = .ok (.goto 4, 3) := by decide +kernel
theorem dX4_closeMonth_17 : decode cX4_closeMonth 17 = .ok (.iconst 0, 1) := by decide +kernel
theorem dX4_closeMonth_18 : decode cX4_closeMonth 18 = .ok (.invokestatic 52, 3) := by decide +kernel
theorem dX4_closeMonth_21 : decode cX4_closeMonth 21 = .ok (.aload_n 0, 1) := by decide +kernel
theorem dX4_closeMonth_22 : decode cX4_closeMonth 22 = .ok (.invokevirtual 55, 3) := by decide +kernel
theorem dX4_closeMonth_25 : decode cX4_closeMonth 25 = .ok (.aload_n 0, 1) := by decide +kernel
theorem dX4_closeMonth_26 : decode cX4_closeMonth 26 = .ok (.getfield 10, 3) := by decide +kernel
theorem dX4_closeMonth_29 : decode cX4_closeMonth 29 = .ok (.invokevirtual 128, 3) := by decide +kernel
theorem dX4_closeMonth_32 : decode cX4_closeMonth 32 = .ok (.ireturn, 1) := by decide +kernel
theorem dX4_append_0 : decode cX4_append 0 = .ok (.iload_n 1, 1) := by decide +kernel
theorem dX4_append_1 : decode cX4_append 1 = .ok (.bipush 33, 2) := by decide +kernel
theorem dX4_append_3 : decode cX4_append 3 = .ok (.bipush 126, 2) := by decide +kernel
theorem dX4_append_5 : decode cX4_append 5 = .ok (.invokestatic 35, 3) := by decide +kernel
theorem dX4_append_8 : decode cX4_append 8 = .ok (.invokestatic 39, 3) := by decide +kernel
theorem dX4_append_11 : decode cX4_append 11 = .ok (.aload_n 0, 1) := by decide +kernel
theorem dX4_append_12 : decode cX4_append 12 = .ok (.getfield 132, 3) := by decide +kernel
theorem dX4_append_15 : decode cX4_append 15 = .ok (.bipush 60, 2) := by decide +kernel
theorem dX4_append_17 : decode cX4_append 17 = .ok (.if_icmp .ge 7, 3) := by decide +kernel
theorem dX4_append_20 : decode cX4_append 20 = .ok (.iconst 1, 1) := by decide +kernel
theorem dX4_append_21 : decode cX4_append 21 = .ok (.goto 4, 3) := by decide +kernel
theorem dX4_append_24 : decode cX4_append 24 = .ok (.iconst 0, 1) := by decide +kernel
theorem dX4_append_25 : decode cX4_append 25 = .ok (.invokestatic 52, 3) := by decide +kernel
theorem dX4_append_28 : decode cX4_append 28 = .ok (.aload_n 0, 1) := by decide +kernel
theorem dX4_append_29 : decode cX4_append 29 = .ok (.getfield 23, 3) := by decide +kernel
theorem dX4_append_32 : decode cX4_append 32 = .ok (.aload_n 0, 1) := by decide +kernel
theorem dX4_append_33 : decode cX4_append 33 = .ok (.getfield 132, 3) := by decide +kernel
theorem dX4_append_36 : decode cX4_append 36 = .ok (.iload_n 1, 1) := by decide +kernel
theorem dX4_append_37 : decode cX4_append 37 = .ok (.iastore, 1) := by decide +kernel
theorem dX4_append_38 : decode cX4_append 38 = .ok (.aload_n 0, 1) := by decide +kernel
theorem dX4_append_39 : decode cX4_append 39 = .ok (.dup, 1) := by decide +kernel
theorem dX4_append_40 : decode cX4_append 40 = .ok (.getfield 132, 3) := by decide +kernel
theorem dX4_append_43 : decode cX4_append 43 = .ok (.iconst 1, 1) := by decide +kernel
theorem dX4_append_44 : decode cX4_append 44 = .ok (.iadd, 1) := by decide +kernel
theorem dX4_append_45 : decode cX4_append 45 = .ok (.putfield 132, 3) := by decide +kernel
theorem dX4_append_48 : decode cX4_append 48 = .ok (.aload_n 0, 1) := by decide +kernel
theorem dX4_append_49 : decode cX4_append 49 = .ok (.getfield 132, 3) := by decide +kernel
theorem dX4_append_52 : decode cX4_append 52 = .ok (.ireturn, 1) := by decide +kernel
theorem dX4_clearBuffer_0 : decode cX4_clearBuffer 0 = .ok (.aload_n 0, 1) := by decide +kernel
theorem dX4_clearBuffer_1 : decode cX4_clearBuffer 1 = .ok (.getfield 132, 3) := by decide +kernel
theorem dX4_clearBuffer_4 : decode cX4_clearBuffer 4 = .ok (.istore_n 1, 1) := by decide +kernel
theorem dX4_clearBuffer_5 : decode cX4_clearBuffer 5 = .ok (.aload_n 0, 1) := by decide +kernel
theorem dX4_clearBuffer_6 : decode cX4_clearBuffer 6 = .ok (.iconst 0, 1) := by decide +kernel
theorem dX4_clearBuffer_7 : decode cX4_clearBuffer 7 = .ok (.putfield 132, 3) := by decide +kernel
theorem dX4_clearBuffer_10 : decode cX4_clearBuffer 10 = .ok (.iload_n 1, 1) := by decide +kernel
theorem dX4_clearBuffer_11 : decode cX4_clearBuffer 11 = .ok (.ireturn, 1) := by decide +kernel
theorem dX4_codeAt_0 : decode cX4_codeAt 0 = .ok (.iload_n 1, 1) := by decide +kernel
theorem dX4_codeAt_1 : decode cX4_codeAt 1 = .ok (.iconst 0, 1) := by decide +kernel
theorem dX4_codeAt_2 : decode cX4_codeAt 2 = .ok (.bipush 59, 2) := by decide +kernel
theorem dX4_codeAt_4 : decode cX4_codeAt 4 = .ok (.invokestatic 35, 3) := by decide +kernel
theorem dX4_codeAt_7 : decode cX4_codeAt 7 = .ok (.ifCond .eq 12, 3) := by decide +kernel
theorem dX4_codeAt_10 : decode cX4_codeAt 10 = .ok (.aload_n 0, 1) := by decide +kernel
theorem dX4_codeAt_11 : decode cX4_codeAt 11 = .ok (.getfield 23, 3) := by decide +kernel
theorem dX4_codeAt_14 : decode cX4_codeAt 14 = .ok (.iload_n 1, 1) := by decide +kernel
theorem dX4_codeAt_15 : decode cX4_codeAt 15 = .ok (.iaload, 1) := by decide +kernel
theorem dX4_codeAt_16 : decode cX4_codeAt 16 = .ok (.goto 4, 3) := by decide +kernel
theorem dX4_codeAt_19 : decode cX4_codeAt 19 = .ok (.iconst 0, 1) := by decide +kernel
theorem dX4_codeAt_20 : decode cX4_codeAt 20 = .ok (.ireturn, 1) := by decide +kernel
theorem dX4_fitsPlace_0 : decode cX4_fitsPlace 0 = .ok (.iload_n 0, 1) := by decide +kernel
theorem dX4_fitsPlace_1 : decode cX4_fitsPlace 1 = .ok (.tableswitch 102 0 5 #[39, 51, 60, 72, 81, 93], 39) := by decide +kernel
theorem dX4_fitsPlace_40 : decode cX4_fitsPlace 40 = .ok (.iload_n 1, 1) := by decide +kernel
theorem dX4_fitsPlace_41 : decode cX4_fitsPlace 41 = .ok (.bipush 107, 2) := by decide +kernel
theorem dX4_fitsPlace_43 : decode cX4_fitsPlace 43 = .ok (.if_icmp .ne 7, 3) := by decide +kernel
theorem dX4_fitsPlace_46 : decode cX4_fitsPlace 46 = .ok (.iconst 1, 1) := by decide +kernel
theorem dX4_fitsPlace_47 : decode cX4_fitsPlace 47 = .ok (.goto 4, 3) := by decide +kernel
theorem dX4_fitsPlace_50 : decode cX4_fitsPlace 50 = .ok (.iconst 0, 1) := by decide +kernel
theorem dX4_fitsPlace_51 : decode cX4_fitsPlace 51 = .ok (.ireturn, 1) := by decide +kernel
theorem dX4_fitsPlace_52 : decode cX4_fitsPlace 52 = .ok (.iload_n 1, 1) := by decide +kernel
theorem dX4_fitsPlace_53 : decode cX4_fitsPlace 53 = .ok (.bipush 48, 2) := by decide +kernel
theorem dX4_fitsPlace_55 : decode cX4_fitsPlace 55 = .ok (.bipush 51, 2) := by decide +kernel
theorem dX4_fitsPlace_57 : decode cX4_fitsPlace 57 = .ok (.invokestatic 35, 3) := by decide +kernel
theorem dX4_fitsPlace_60 : decode cX4_fitsPlace 60 = .ok (.ireturn, 1) := by decide +kernel
theorem dX4_fitsPlace_61 : decode cX4_fitsPlace 61 = .ok (.iload_n 1, 1) := by decide +kernel
theorem dX4_fitsPlace_62 : decode cX4_fitsPlace 62 = .ok (.bipush 115, 2) := by decide +kernel
theorem dX4_fitsPlace_64 : decode cX4_fitsPlace 64 = .ok (.if_icmp .ne 7, 3) := by decide +kernel
theorem dX4_fitsPlace_67 : decode cX4_fitsPlace 67 = .ok (.iconst 1, 1) := by decide +kernel
theorem dX4_fitsPlace_68 : decode cX4_fitsPlace 68 = .ok (.goto 4, 3) := by decide +kernel
theorem dX4_fitsPlace_71 : decode cX4_fitsPlace 71 = .ok (.iconst 0, 1) := by decide +kernel
theorem dX4_fitsPlace_72 : decode cX4_fitsPlace 72 = .ok (.ireturn, 1) := by decide +kernel
theorem dX4_fitsPlace_73 : decode cX4_fitsPlace 73 = .ok (.iload_n 1, 1) := by decide +kernel
theorem dX4_fitsPlace_74 : decode cX4_fitsPlace 74 = .ok (.bipush 49, 2) := by decide +kernel
theorem dX4_fitsPlace_76 : decode cX4_fitsPlace 76 = .ok (.bipush 57, 2) := by decide +kernel
theorem dX4_fitsPlace_78 : decode cX4_fitsPlace 78 = .ok (.invokestatic 35, 3) := by decide +kernel
theorem dX4_fitsPlace_81 : decode cX4_fitsPlace 81 = .ok (.ireturn, 1) := by decide +kernel
theorem dX4_fitsPlace_82 : decode cX4_fitsPlace 82 = .ok (.iload_n 1, 1) := by decide +kernel
theorem dX4_fitsPlace_83 : decode cX4_fitsPlace 83 = .ok (.bipush 99, 2) := by decide +kernel
theorem dX4_fitsPlace_85 : decode cX4_fitsPlace 85 = .ok (.if_icmp .ne 7, 3) := by decide +kernel
theorem dX4_fitsPlace_88 : decode cX4_fitsPlace 88 = .ok (.iconst 1, 1) := by decide +kernel
theorem dX4_fitsPlace_89 : decode cX4_fitsPlace 89 = .ok (.goto 4, 3) := by decide +kernel
theorem dX4_fitsPlace_92 : decode cX4_fitsPlace 92 = .ok (.iconst 0, 1) := by decide +kernel
theorem dX4_fitsPlace_93 : decode cX4_fitsPlace 93 = .ok (.ireturn, 1) := by decide +kernel
theorem dX4_fitsPlace_94 : decode cX4_fitsPlace 94 = .ok (.iload_n 1, 1) := by decide +kernel
theorem dX4_fitsPlace_95 : decode cX4_fitsPlace 95 = .ok (.bipush 48, 2) := by decide +kernel
theorem dX4_fitsPlace_97 : decode cX4_fitsPlace 97 = .ok (.bipush 57, 2) := by decide +kernel
theorem dX4_fitsPlace_99 : decode cX4_fitsPlace 99 = .ok (.invokestatic 35, 3) := by decide +kernel
theorem dX4_fitsPlace_102 : decode cX4_fitsPlace 102 = .ok (.ireturn, 1) := by decide +kernel
theorem dX4_fitsPlace_103 : decode cX4_fitsPlace 103 = .ok (.iload_n 1, 1) := by decide +kernel
theorem dX4_fitsPlace_104 : decode cX4_fitsPlace 104 = .ok (.bipush 59, 2) := by decide +kernel
theorem dX4_fitsPlace_106 : decode cX4_fitsPlace 106 = .ok (.if_icmp .ne 7, 3) := by decide +kernel
theorem dX4_fitsPlace_109 : decode cX4_fitsPlace 109 = .ok (.iconst 1, 1) := by decide +kernel
theorem dX4_fitsPlace_110 : decode cX4_fitsPlace 110 = .ok (.goto 4, 3) := by decide +kernel
theorem dX4_fitsPlace_113 : decode cX4_fitsPlace 113 = .ok (.iconst 0, 1) := by decide +kernel
theorem dX4_fitsPlace_114 : decode cX4_fitsPlace 114 = .ok (.ireturn, 1) := by decide +kernel
theorem dX4_firstError_0 : decode cX4_firstError 0 = .ok (.iconst 0, 1) := by decide +kernel
theorem dX4_firstError_1 : decode cX4_firstError 1 = .ok (.istore_n 1, 1) := by decide +kernel
theorem dX4_firstError_2 : decode cX4_firstError 2 = .ok (.iload_n 1, 1) := by decide +kernel
theorem dX4_firstError_3 : decode cX4_firstError 3 = .ok (.aload_n 0, 1) := by decide +kernel
theorem dX4_firstError_4 : decode cX4_firstError 4 = .ok (.getfield 132, 3) := by decide +kernel
theorem dX4_firstError_7 : decode cX4_firstError 7 = .ok (.if_icmp .ge 26, 3) := by decide +kernel
theorem dX4_firstError_10 : decode cX4_firstError 10 = .ok (.iload_n 1, 1) := by decide +kernel
theorem dX4_firstError_11 : decode cX4_firstError 11 = .ok (.bipush 7, 2) := by decide +kernel
theorem dX4_firstError_13 : decode cX4_firstError 13 = .ok (.irem, 1) := by decide +kernel
theorem dX4_firstError_14 : decode cX4_firstError 14 = .ok (.aload_n 0, 1) := by decide +kernel
theorem dX4_firstError_15 : decode cX4_firstError 15 = .ok (.iload_n 1, 1) := by decide +kernel
theorem dX4_firstError_16 : decode cX4_firstError 16 = .ok (.invokevirtual 135, 3) := by decide +kernel
theorem dX4_firstError_19 : decode cX4_firstError 19 = .ok (.invokestatic 138, 3) := by decide +kernel
theorem dX4_firstError_22 : decode cX4_firstError 22 = .ok (.ifCond .ne 5, 3) := by decide +kernel
theorem dX4_firstError_25 : decode cX4_firstError 25 = .ok (.iload_n 1, 1) := by decide +kernel
theorem dX4_firstError_26 : decode cX4_firstError 26 = .ok (.ireturn, 1) := by decide +kernel
theorem dX4_firstError_27 : decode cX4_firstError 27 = .ok (.iinc 1 1, 3) := by decide +kernel
theorem dX4_firstError_30 : decode cX4_firstError 30 = .ok (.goto (-28), 3) := by decide +kernel
theorem dX4_firstError_33 : decode cX4_firstError 33 = .ok (.aload_n 0, 1) := by decide +kernel
theorem dX4_firstError_34 : decode cX4_firstError 34 = .ok (.getfield 132, 3) := by decide +kernel
theorem dX4_firstError_37 : decode cX4_firstError 37 = .ok (.ireturn, 1) := by decide +kernel
theorem dX4_digitAt_0 : decode cX4_digitAt 0 = .ok (.aload_n 0, 1) := by decide +kernel
theorem dX4_digitAt_1 : decode cX4_digitAt 1 = .ok (.iload_n 1, 1) := by decide +kernel
theorem dX4_digitAt_2 : decode cX4_digitAt 2 = .ok (.invokevirtual 135, 3) := by decide +kernel
theorem dX4_digitAt_5 : decode cX4_digitAt 5 = .ok (.bipush 48, 2) := by decide +kernel
theorem dX4_digitAt_7 : decode cX4_digitAt 7 = .ok (.isub, 1) := by decide +kernel
theorem dX4_digitAt_8 : decode cX4_digitAt 8 = .ok (.ireturn, 1) := by decide +kernel
theorem dX4_complainAll_0 : decode cX4_complainAll 0 = .ok (.aload_n 0, 1) := by decide +kernel
theorem dX4_complainAll_1 : decode cX4_complainAll 1 = .ok (.invokevirtual 141, 3) := by decide +kernel
theorem dX4_complainAll_4 : decode cX4_complainAll 4 = .ok (.aload_n 0, 1) := by decide +kernel
theorem dX4_complainAll_5 : decode cX4_complainAll 5 = .ok (.getfield 132, 3) := by decide +kernel
theorem dX4_complainAll_8 : decode cX4_complainAll 8 = .ok (.if_icmp .ne 19, 3) := by decide +kernel
theorem dX4_complainAll_11 : decode cX4_complainAll 11 = .ok (.aload_n 0, 1) := by decide +kernel
theorem dX4_complainAll_12 : decode cX4_complainAll 12 = .ok (.getfield 132, 3) := by decide +kernel
theorem dX4_complainAll_15 : decode cX4_complainAll 15 = .ok (.bipush 7, 2) := by decide +kernel
theorem dX4_complainAll_17 : decode cX4_complainAll 17 = .ok (.irem, 1) := by decide +kernel
theorem dX4_complainAll_18 : decode cX4_complainAll 18 = .ok (.bipush 6, 2) := by decide +kernel
theorem dX4_complainAll_20 : decode cX4_complainAll 20 = .ok (.if_icmp .ne 7, 3) := by decide +kernel
theorem dX4_complainAll_23 : decode cX4_complainAll 23 = .ok (.iconst 1, 1) := by decide +kernel
theorem dX4_complainAll_24 : decode cX4_complainAll 24 = .ok (.goto 4, 3) := by decide +kernel
theorem dX4_complainAll_27 : decode cX4_complainAll 27 = .ok (.iconst 0, 1) := by decide +kernel
theorem dX4_complainAll_28 : decode cX4_complainAll 28 = .ok (.invokestatic 39, 3) := by decide +kernel
theorem dX4_complainAll_31 : decode cX4_complainAll 31 = .ok (.aload_n 0, 1) := by decide +kernel
theorem dX4_complainAll_32 : decode cX4_complainAll 32 = .ok (.getfield 132, 3) := by decide +kernel
theorem dX4_complainAll_35 : decode cX4_complainAll 35 = .ok (.iconst 1, 1) := by decide +kernel
theorem dX4_complainAll_36 : decode cX4_complainAll 36 = .ok (.iadd, 1) := by decide +kernel
theorem dX4_complainAll_37 : decode cX4_complainAll 37 = .ok (.bipush 7, 2) := by decide +kernel
theorem dX4_complainAll_39 : decode cX4_complainAll 39 = .ok (.idiv, 1) := by decide +kernel
theorem dX4_complainAll_40 : decode cX4_complainAll 40 = .ok (.istore_n 1, 1) := by decide +kernel
theorem dX4_complainAll_41 : decode cX4_complainAll 41 = .ok (.aload_n 0, 1) := by decide +kernel
theorem dX4_complainAll_42 : decode cX4_complainAll 42 = .ok (.getfield 10, 3) := by decide +kernel
theorem dX4_complainAll_45 : decode cX4_complainAll 45 = .ok (.getfield 88, 3) := by decide +kernel
theorem dX4_complainAll_48 : decode cX4_complainAll 48 = .ok (.getfield 92, 3) := by decide +kernel
theorem dX4_complainAll_51 : decode cX4_complainAll 51 = .ok (.iload_n 1, 1) := by decide +kernel
theorem dX4_complainAll_52 : decode cX4_complainAll 52 = .ok (.iadd, 1) := by decide +kernel
theorem dX4_complainAll_53 : decode cX4_complainAll 53 = .ok (.bipush 24, 2) := by decide +kernel
theorem dX4_complainAll_55 : decode cX4_complainAll 55 = .ok (.if_icmp .gt 7, 3) := by decide +kernel
theorem dX4_complainAll_58 : decode cX4_complainAll 58 = .ok (.iconst 1, 1) := by decide +kernel
theorem dX4_complainAll_59 : decode cX4_complainAll 59 = .ok (.goto 4, 3) := by decide +kernel
theorem dX4_complainAll_62 : decode cX4_complainAll 62 = .ok (.iconst 0, 1) := by decide +kernel
theorem dX4_complainAll_63 : decode cX4_complainAll 63 = .ok (.invokestatic 52, 3) := by decide +kernel
theorem dX4_complainAll_66 : decode cX4_complainAll 66 = .ok (.aload_n 0, 1) := by decide +kernel
theorem dX4_complainAll_67 : decode cX4_complainAll 67 = .ok (.invokevirtual 55, 3) := by decide +kernel
theorem dX4_complainAll_70 : decode cX4_complainAll 70 = .ok (.iconst 0, 1) := by decide +kernel
theorem dX4_complainAll_71 : decode cX4_complainAll 71 = .ok (.istore_n 2, 1) := by decide +kernel
theorem dX4_complainAll_72 : decode cX4_complainAll 72 = .ok (.iload_n 2, 1) := by decide +kernel
theorem dX4_complainAll_73 : decode cX4_complainAll 73 = .ok (.iload_n 1, 1) := by decide +kernel
theorem dX4_complainAll_74 : decode cX4_complainAll 74 = .ok (.if_icmp .ge 46, 3) := by decide +kernel
theorem dX4_complainAll_77 : decode cX4_complainAll 77 = .ok (.iload_n 2, 1) := by decide +kernel
theorem dX4_complainAll_78 : decode cX4_complainAll 78 = .ok (.bipush 7, 2) := by decide +kernel
theorem dX4_complainAll_80 : decode cX4_complainAll 80 = .ok (.imul, 1) := by decide +kernel
theorem dX4_complainAll_81 : decode cX4_complainAll 81 = .ok (.istore_n 3, 1) := by decide +kernel
theorem dX4_complainAll_82 : decode cX4_complainAll 82 = .ok (.aload_n 0, 1) := by decide +kernel
theorem dX4_complainAll_83 : decode cX4_complainAll 83 = .ok (.getfield 10, 3) := by decide +kernel
theorem dX4_complainAll_86 : decode cX4_complainAll 86 = .ok (.getfield 88, 3) := by decide +kernel
theorem dX4_complainAll_89 : decode cX4_complainAll 89 = .ok (.aload_n 0, 1) := by decide +kernel
theorem dX4_complainAll_90 : decode cX4_complainAll 90 = .ok (.iload_n 3, 1) := by decide +kernel
theorem dX4_complainAll_91 : decode cX4_complainAll 91 = .ok (.iconst 1, 1) := by decide +kernel
theorem dX4_complainAll_92 : decode cX4_complainAll 92 = .ok (.iadd, 1) := by decide +kernel
theorem dX4_complainAll_93 : decode cX4_complainAll 93 = .ok (.invokevirtual 144, 3) := by decide +kernel
theorem dX4_complainAll_96 : decode cX4_complainAll 96 = .ok (.aload_n 0, 1) := by decide +kernel
theorem dX4_complainAll_97 : decode cX4_complainAll 97 = .ok (.iload_n 3, 1) := by decide +kernel
theorem dX4_complainAll_98 : decode cX4_complainAll 98 = .ok (.iconst 3, 1) := by decide +kernel
theorem dX4_complainAll_99 : decode cX4_complainAll 99 = .ok (.iadd, 1) := by decide +kernel
theorem dX4_complainAll_100 : decode cX4_complainAll 100 = .ok (.invokevirtual 144, 3) := by decide +kernel
theorem dX4_complainAll_103 : decode cX4_complainAll 103 = .ok (.aload_n 0, 1) := by decide +kernel
theorem dX4_complainAll_104 : decode cX4_complainAll 104 = .ok (.iload_n 3, 1) := by decide +kernel
theorem dX4_complainAll_105 : decode cX4_complainAll 105 = .ok (.iconst 5, 1) := by decide +kernel
theorem dX4_complainAll_106 : decode cX4_complainAll 106 = .ok (.iadd, 1) := by decide +kernel
theorem dX4_complainAll_107 : decode cX4_complainAll 107 = .ok (.invokevirtual 144, 3) := by decide +kernel
theorem dX4_complainAll_110 : decode cX4_complainAll 110 = .ok (.invokevirtual 98, 3) := by decide +kernel
theorem dX4_complainAll_113 : decode cX4_complainAll 113 = .ok (.pop, 1) := by decide +kernel
theorem dX4_complainAll_114 : decode cX4_complainAll 114 = .ok (.iinc 2 1, 3) := by decide +kernel
theorem dX4_complainAll_117 : decode cX4_complainAll 117 = .ok (.goto (-45), 3) := by decide +kernel
theorem dX4_complainAll_120 : decode cX4_complainAll 120 = .ok (.aload_n 0, 1) := by decide +kernel
theorem dX4_complainAll_121 : decode cX4_complainAll 121 = .ok (.iconst 0, 1) := by decide +kernel
theorem dX4_complainAll_122 : decode cX4_complainAll 122 = .ok (.putfield 132, 3) := by decide +kernel
theorem dX4_complainAll_125 : decode cX4_complainAll 125 = .ok (.aload_n 0, 1) := by decide +kernel
theorem dX4_complainAll_126 : decode cX4_complainAll 126 = .ok (.getfield 10, 3) := by decide +kernel
theorem dX4_complainAll_129 : decode cX4_complainAll 129 = .ok (.getfield 88, 3) := by decide +kernel
theorem dX4_complainAll_132 : decode cX4_complainAll 132 = .ok (.getfield 92, 3) := by decide +kernel
theorem dX4_complainAll_135 : decode cX4_complainAll 135 = .ok (.ireturn, 1) := by decide +kernel
theorem dX4_undo_0 : decode cX4_undo 0 = .ok (.aload_n 0, 1) := by decide +kernel
theorem dX4_undo_1 : decode cX4_undo 1 = .ok (.getfield 147, 3) := by decide +kernel
theorem dX4_undo_4 : decode cX4_undo 4 = .ok (.ifCond .le 7, 3) := by decide +kernel
theorem dX4_undo_7 : decode cX4_undo 7 = .ok (.iconst 1, 1) := by decide +kernel
theorem dX4_undo_8 : decode cX4_undo 8 = .ok (.goto 4, 3) := by decide +kernel
theorem dX4_undo_11 : decode cX4_undo 11 = .ok (.iconst 0, 1) := by decide +kernel
theorem dX4_undo_12 : decode cX4_undo 12 = .ok (.invokestatic 52, 3) := by decide +kernel
theorem dX4_undo_15 : decode cX4_undo 15 = .ok (.aload_n 0, 1) := by decide +kernel
theorem dX4_undo_16 : decode cX4_undo 16 = .ok (.aload_n 0, 1) := by decide +kernel
theorem dX4_undo_17 : decode cX4_undo 17 = .ok (.getfield 150, 3) := by decide +kernel
theorem dX4_undo_20 : decode cX4_undo 20 = .ok (.bipush 6, 2) := by decide +kernel
theorem dX4_undo_22 : decode cX4_undo 22 = .ok (.iadd, 1) := by decide +kernel
theorem dX4_undo_23 : decode cX4_undo 23 = .ok (.iconst 1, 1) := by decide +kernel
theorem dX4_undo_24 : decode cX4_undo 24 = .ok (.isub, 1) := by decide +kernel
theorem dX4_undo_25 : decode cX4_undo 25 = .ok (.bipush 6, 2) := by decide +kernel
theorem dX4_undo_27 : decode cX4_undo 27 = .ok (.irem, 1) := by decide +kernel
theorem dX4_undo_28 : decode cX4_undo 28 = .ok (.putfield 150, 3) := by decide +kernel
theorem dX4_undo_31 : decode cX4_undo 31 = .ok (.aload_n 0, 1) := by decide +kernel
theorem dX4_undo_32 : decode cX4_undo 32 = .ok (.dup, 1) := by decide +kernel
theorem dX4_undo_33 : decode cX4_undo 33 = .ok (.getfield 147, 3) := by decide +kernel
theorem dX4_undo_36 : decode cX4_undo 36 = .ok (.iconst 1, 1) := by decide +kernel
theorem dX4_undo_37 : decode cX4_undo 37 = .ok (.isub, 1) := by decide +kernel
theorem dX4_undo_38 : decode cX4_undo 38 = .ok (.putfield 147, 3) := by decide +kernel
theorem dX4_undo_41 : decode cX4_undo 41 = .ok (.aload_n 0, 1) := by decide +kernel
theorem dX4_undo_42 : decode cX4_undo 42 = .ok (.getfield 10, 3) := by decide +kernel
theorem dX4_undo_45 : decode cX4_undo 45 = .ok (.aload_n 0, 1) := by decide +kernel
theorem dX4_undo_46 : decode cX4_undo 46 = .ok (.aload_n 0, 1) := by decide +kernel
theorem dX4_undo_47 : decode cX4_undo 47 = .ok (.getfield 150, 3) := by decide +kernel
theorem dX4_undo_50 : decode cX4_undo 50 = .ok (.invokevirtual 153, 3) := by decide +kernel
theorem dX4_undo_53 : decode cX4_undo 53 = .ok (.invokevirtual 157, 3) := by decide +kernel
theorem dX4_undo_56 : decode cX4_undo 56 = .ok (.aload_n 0, 1) := by decide +kernel
theorem dX4_undo_57 : decode cX4_undo 57 = .ok (.getfield 147, 3) := by decide +kernel
theorem dX4_undo_60 : decode cX4_undo 60 = .ok (.ireturn, 1) := by decide +kernel
theorem dX4_complaint_0 : decode cX4_complaint 0 = .ok (.aload_n 0, 1) := by decide +kernel
theorem dX4_complaint_1 : decode cX4_complaint 1 = .ok (.getfield 10, 3) := by decide +kernel
theorem dX4_complaint_4 : decode cX4_complaint 4 = .ok (.getfield 88, 3) := by decide +kernel
theorem dX4_complaint_7 : decode cX4_complaint 7 = .ok (.iload_n 1, 1) := by decide +kernel
theorem dX4_complaint_8 : decode cX4_complaint 8 = .ok (.invokevirtual 101, 3) := by decide +kernel
theorem dX4_complaint_11 : decode cX4_complaint 11 = .ok (.invokestatic 31, 3) := by decide +kernel
theorem dX4_complaint_14 : decode cX4_complaint 14 = .ok (.iload_n 2, 1) := by decide +kernel
theorem dX4_complaint_15 : decode cX4_complaint 15 = .ok (.iconst 0, 1) := by decide +kernel
theorem dX4_complaint_16 : decode cX4_complaint 16 = .ok (.bipush 10, 2) := by decide +kernel
theorem dX4_complaint_18 : decode cX4_complaint 18 = .ok (.invokestatic 35, 3) := by decide +kernel
theorem dX4_complaint_21 : decode cX4_complaint 21 = .ok (.invokestatic 39, 3) := by decide +kernel
theorem dX4_complaint_24 : decode cX4_complaint 24 = .ok (.aload_n 0, 1) := by decide +kernel
theorem dX4_complaint_25 : decode cX4_complaint 25 = .ok (.getfield 10, 3) := by decide +kernel
theorem dX4_complaint_28 : decode cX4_complaint 28 = .ok (.iload_n 1, 1) := by decide +kernel
theorem dX4_complaint_29 : decode cX4_complaint 29 = .ok (.iload_n 2, 1) := by decide +kernel
theorem dX4_complaint_30 : decode cX4_complaint 30 = .ok (.invokevirtual 161, 3) := by decide +kernel
theorem dX4_complaint_33 : decode cX4_complaint 33 = .ok (.ireturn, 1) := by decide +kernel
theorem dX4_amends_0 : decode cX4_amends 0 = .ok (.aload_n 0, 1) := by decide +kernel
theorem dX4_amends_1 : decode cX4_amends 1 = .ok (.getfield 10, 3) := by decide +kernel
theorem dX4_amends_4 : decode cX4_amends 4 = .ok (.getfield 42, 3) := by decide +kernel
theorem dX4_amends_7 : decode cX4_amends 7 = .ok (.iload_n 1, 1) := by decide +kernel
theorem dX4_amends_8 : decode cX4_amends 8 = .ok (.iload_n 2, 1) := by decide +kernel
theorem dX4_amends_9 : decode cX4_amends 9 = .ok (.invokevirtual 62, 3) := by decide +kernel
theorem dX4_amends_12 : decode cX4_amends 12 = .ok (.invokestatic 31, 3) := by decide +kernel
theorem dX4_amends_15 : decode cX4_amends 15 = .ok (.iload_n 3, 1) := by decide +kernel
theorem dX4_amends_16 : decode cX4_amends 16 = .ok (.iconst 0, 1) := by decide +kernel
theorem dX4_amends_17 : decode cX4_amends 17 = .ok (.iconst 4, 1) := by decide +kernel
theorem dX4_amends_18 : decode cX4_amends 18 = .ok (.invokestatic 35, 3) := by decide +kernel
theorem dX4_amends_21 : decode cX4_amends 21 = .ok (.invokestatic 39, 3) := by decide +kernel
theorem dX4_amends_24 : decode cX4_amends 24 = .ok (.iload_n 3, 1) := by decide +kernel
theorem dX4_amends_25 : decode cX4_amends 25 = .ok (.tableswitch 91 0 3 #[31, 44, 57, 70], 31) := by decide +kernel
theorem dX4_amends_56 : decode cX4_amends 56 = .ok (.aload_n 0, 1) := by decide +kernel
theorem dX4_amends_57 : decode cX4_amends 57 = .ok (.getfield 10, 3) := by decide +kernel
theorem dX4_amends_60 : decode cX4_amends 60 = .ok (.getfield 42, 3) := by decide +kernel
theorem dX4_amends_63 : decode cX4_amends 63 = .ok (.iload_n 1, 1) := by decide +kernel
theorem dX4_amends_64 : decode cX4_amends 64 = .ok (.iload_n 2, 1) := by decide +kernel
theorem dX4_amends_65 : decode cX4_amends 65 = .ok (.invokevirtual 164, 3) := by decide +kernel
theorem dX4_amends_68 : decode cX4_amends 68 = .ok (.ireturn, 1) := by decide +kernel
theorem dX4_amends_69 : decode cX4_amends 69 = .ok (.aload_n 0, 1) := by decide +kernel
theorem dX4_amends_70 : decode cX4_amends 70 = .ok (.getfield 10, 3) := by decide +kernel
theorem dX4_amends_73 : decode cX4_amends 73 = .ok (.getfield 42, 3) := by decide +kernel
theorem dX4_amends_76 : decode cX4_amends 76 = .ok (.iload_n 1, 1) := by decide +kernel
theorem dX4_amends_77 : decode cX4_amends 77 = .ok (.iload_n 2, 1) := by decide +kernel
theorem dX4_amends_78 : decode cX4_amends 78 = .ok (.invokevirtual 167, 3) := by decide +kernel
theorem dX4_amends_81 : decode cX4_amends 81 = .ok (.ireturn, 1) := by decide +kernel
theorem dX4_amends_82 : decode cX4_amends 82 = .ok (.aload_n 0, 1) := by decide +kernel
theorem dX4_amends_83 : decode cX4_amends 83 = .ok (.getfield 10, 3) := by decide +kernel
theorem dX4_amends_86 : decode cX4_amends 86 = .ok (.getfield 42, 3) := by decide +kernel
theorem dX4_amends_89 : decode cX4_amends 89 = .ok (.iload_n 1, 1) := by decide +kernel
theorem dX4_amends_90 : decode cX4_amends 90 = .ok (.iload_n 2, 1) := by decide +kernel
theorem dX4_amends_91 : decode cX4_amends 91 = .ok (.invokevirtual 170, 3) := by decide +kernel
theorem dX4_amends_94 : decode cX4_amends 94 = .ok (.ireturn, 1) := by decide +kernel
theorem dX4_amends_95 : decode cX4_amends 95 = .ok (.aload_n 0, 1) := by decide +kernel
theorem dX4_amends_96 : decode cX4_amends 96 = .ok (.getfield 10, 3) := by decide +kernel
theorem dX4_amends_99 : decode cX4_amends 99 = .ok (.getfield 42, 3) := by decide +kernel
theorem dX4_amends_102 : decode cX4_amends 102 = .ok (.iload_n 1, 1) := by decide +kernel
theorem dX4_amends_103 : decode cX4_amends 103 = .ok (.iload_n 2, 1) := by decide +kernel
theorem dX4_amends_104 : decode cX4_amends 104 = .ok (.invokevirtual 66, 3) := by decide +kernel
theorem dX4_amends_107 : decode cX4_amends 107 = .ok (.ifCond .eq 7, 3) := by decide +kernel
theorem dX4_amends_110 : decode cX4_amends 110 = .ok (.iconst 1, 1) := by decide +kernel
theorem dX4_amends_111 : decode cX4_amends 111 = .ok (.goto 4, 3) := by decide +kernel
theorem dX4_amends_114 : decode cX4_amends 114 = .ok (.iconst 0, 1) := by decide +kernel
theorem dX4_amends_115 : decode cX4_amends 115 = .ok (.ireturn, 1) := by decide +kernel
theorem dX4_amends_116 : decode cX4_amends 116 = .ok (.aload_n 0, 1) := by decide +kernel
theorem dX4_amends_117 : decode cX4_amends 117 = .ok (.getfield 10, 3) := by decide +kernel
theorem dX4_amends_120 : decode cX4_amends 120 = .ok (.getfield 88, 3) := by decide +kernel
theorem dX4_amends_123 : decode cX4_amends 123 = .ok (.iload_n 1, 1) := by decide +kernel
theorem dX4_amends_124 : decode cX4_amends 124 = .ok (.iload_n 2, 1) := by decide +kernel
theorem dX4_amends_125 : decode cX4_amends 125 = .ok (.invokevirtual 173, 3) := by decide +kernel
theorem dX4_amends_128 : decode cX4_amends 128 = .ok (.ireturn, 1) := by decide +kernel
theorem dX4_precedent_0 : decode cX4_precedent 0 = .ok (.iload_n 1, 1) := by decide +kernel
theorem dX4_precedent_1 : decode cX4_precedent 1 = .ok (.invokestatic 27, 3) := by decide +kernel
theorem dX4_precedent_4 : decode cX4_precedent 4 = .ok (.ifCond .eq 14, 3) := by decide +kernel
theorem dX4_precedent_7 : decode cX4_precedent 7 = .ok (.iload_n 2, 1) := by decide +kernel
theorem dX4_precedent_8 : decode cX4_precedent 8 = .ok (.invokestatic 176, 3) := by decide +kernel
theorem dX4_precedent_11 : decode cX4_precedent 11 = .ok (.ifCond .eq 7, 3) := by decide +kernel
theorem dX4_precedent_14 : decode cX4_precedent 14 = .ok (.iconst 1, 1) := by decide +kernel
theorem dX4_precedent_15 : decode cX4_precedent 15 = .ok (.goto 4, 3) := by decide +kernel
theorem dX4_precedent_18 : decode cX4_precedent 18 = .ok (.iconst 0, 1) := by decide +kernel
theorem dX4_precedent_19 : decode cX4_precedent 19 = .ok (.invokestatic 31, 3) := by decide +kernel
theorem dX4_precedent_22 : decode cX4_precedent 22 = .ok (.iload_n 3, 1) := by decide +kernel
theorem dX4_precedent_23 : decode cX4_precedent 23 = .ok (.iconst 0, 1) := by decide +kernel
theorem dX4_precedent_24 : decode cX4_precedent 24 = .ok (.iconst 4, 1) := by decide +kernel
theorem dX4_precedent_25 : decode cX4_precedent 25 = .ok (.invokestatic 35, 3) := by decide +kernel
theorem dX4_precedent_28 : decode cX4_precedent 28 = .ok (.invokestatic 39, 3) := by decide +kernel
theorem dX4_precedent_31 : decode cX4_precedent 31 = .ok (.aload_n 0, 1) := by decide +kernel
theorem dX4_precedent_32 : decode cX4_precedent 32 = .ok (.getfield 10, 3) := by decide +kernel
theorem dX4_precedent_35 : decode cX4_precedent 35 = .ok (.getfield 179, 3) := by decide +kernel
theorem dX4_precedent_38 : decode cX4_precedent 38 = .ok (.iload_n 1, 1) := by decide +kernel
theorem dX4_precedent_39 : decode cX4_precedent 39 = .ok (.iload_n 2, 1) := by decide +kernel
theorem dX4_precedent_40 : decode cX4_precedent 40 = .ok (.invokevirtual 183, 3) := by decide +kernel
theorem dX4_precedent_43 : decode cX4_precedent 43 = .ok (.istore 4, 2) := by decide +kernel
theorem dX4_precedent_45 : decode cX4_precedent 45 = .ok (.aload_n 0, 1) := by decide +kernel
theorem dX4_precedent_46 : decode cX4_precedent 46 = .ok (.getfield 10, 3) := by decide +kernel
theorem dX4_precedent_49 : decode cX4_precedent 49 = .ok (.getfield 179, 3) := by decide +kernel
theorem dX4_precedent_52 : decode cX4_precedent 52 = .ok (.iload 4, 2) := by decide +kernel
theorem dX4_precedent_54 : decode cX4_precedent 54 = .ok (.invokevirtual 188, 3) := by decide +kernel
theorem dX4_precedent_57 : decode cX4_precedent 57 = .ok (.ifCond .ne 5, 3) := by decide +kernel
theorem dX4_precedent_60 : decode cX4_precedent 60 = .ok (.iconst (-1), 1) := by decide +kernel
theorem dX4_precedent_61 : decode cX4_precedent 61 = .ok (.ireturn, 1) := by decide +kernel
theorem dX4_precedent_62 : decode cX4_precedent 62 = .ok (.iload_n 3, 1) := by decide +kernel
theorem dX4_precedent_63 : decode cX4_precedent 63 = .ok (.tableswitch 87 0 3 #[29, 42, 55, 68], 29) := by decide +kernel
theorem dX4_precedent_92 : decode cX4_precedent 92 = .ok (.aload_n 0, 1) := by decide +kernel
theorem dX4_precedent_93 : decode cX4_precedent 93 = .ok (.getfield 10, 3) := by decide +kernel
theorem dX4_precedent_96 : decode cX4_precedent 96 = .ok (.getfield 179, 3) := by decide +kernel
theorem dX4_precedent_99 : decode cX4_precedent 99 = .ok (.iload 4, 2) := by decide +kernel
theorem dX4_precedent_101 : decode cX4_precedent 101 = .ok (.invokevirtual 189, 3) := by decide +kernel
theorem dX4_precedent_104 : decode cX4_precedent 104 = .ok (.ireturn, 1) := by decide +kernel
theorem dX4_precedent_105 : decode cX4_precedent 105 = .ok (.aload_n 0, 1) := by decide +kernel
theorem dX4_precedent_106 : decode cX4_precedent 106 = .ok (.getfield 10, 3) := by decide +kernel
theorem dX4_precedent_109 : decode cX4_precedent 109 = .ok (.getfield 179, 3) := by decide +kernel
theorem dX4_precedent_112 : decode cX4_precedent 112 = .ok (.iload 4, 2) := by decide +kernel
theorem dX4_precedent_114 : decode cX4_precedent 114 = .ok (.invokevirtual 192, 3) := by decide +kernel
theorem dX4_precedent_117 : decode cX4_precedent 117 = .ok (.ireturn, 1) := by decide +kernel
theorem dX4_precedent_118 : decode cX4_precedent 118 = .ok (.aload_n 0, 1) := by decide +kernel
theorem dX4_precedent_119 : decode cX4_precedent 119 = .ok (.getfield 10, 3) := by decide +kernel
theorem dX4_precedent_122 : decode cX4_precedent 122 = .ok (.getfield 179, 3) := by decide +kernel
theorem dX4_precedent_125 : decode cX4_precedent 125 = .ok (.iload 4, 2) := by decide +kernel
theorem dX4_precedent_127 : decode cX4_precedent 127 = .ok (.invokevirtual 195, 3) := by decide +kernel
theorem dX4_precedent_130 : decode cX4_precedent 130 = .ok (.ireturn, 1) := by decide +kernel
theorem dX4_precedent_131 : decode cX4_precedent 131 = .ok (.aload_n 0, 1) := by decide +kernel
theorem dX4_precedent_132 : decode cX4_precedent 132 = .ok (.getfield 10, 3) := by decide +kernel
theorem dX4_precedent_135 : decode cX4_precedent 135 = .ok (.iload_n 1, 1) := by decide +kernel
theorem dX4_precedent_136 : decode cX4_precedent 136 = .ok (.iload 4, 2) := by decide +kernel
theorem dX4_precedent_138 : decode cX4_precedent 138 = .ok (.invokevirtual 198, 3) := by decide +kernel
theorem dX4_precedent_141 : decode cX4_precedent 141 = .ok (.ifCond .eq 7, 3) := by decide +kernel
theorem dX4_precedent_144 : decode cX4_precedent 144 = .ok (.iconst 1, 1) := by decide +kernel
theorem dX4_precedent_145 : decode cX4_precedent 145 = .ok (.goto 4, 3) := by decide +kernel
theorem dX4_precedent_148 : decode cX4_precedent 148 = .ok (.iconst 0, 1) := by decide +kernel
theorem dX4_precedent_149 : decode cX4_precedent 149 = .ok (.ireturn, 1) := by decide +kernel
theorem dX4_precedent_150 : decode cX4_precedent 150 = .ok (.aload_n 0, 1) := by decide +kernel
theorem dX4_precedent_151 : decode cX4_precedent 151 = .ok (.getfield 10, 3) := by decide +kernel
theorem dX4_precedent_154 : decode cX4_precedent 154 = .ok (.getfield 88, 3) := by decide +kernel
theorem dX4_precedent_157 : decode cX4_precedent 157 = .ok (.iload 4, 2) := by decide +kernel
theorem dX4_precedent_159 : decode cX4_precedent 159 = .ok (.invokevirtual 201, 3) := by decide +kernel
theorem dX4_precedent_162 : decode cX4_precedent 162 = .ok (.ireturn, 1) := by decide +kernel
theorem dX4_kind_0 : decode cX4_kind 0 = .ok (.iload_n 1, 1) := by decide +kernel
theorem dX4_kind_1 : decode cX4_kind 1 = .ok (.invokestatic 27, 3) := by decide +kernel
theorem dX4_kind_4 : decode cX4_kind 4 = .ok (.invokestatic 31, 3) := by decide +kernel
theorem dX4_kind_7 : decode cX4_kind 7 = .ok (.iload_n 2, 1) := by decide +kernel
theorem dX4_kind_8 : decode cX4_kind 8 = .ok (.iconst 0, 1) := by decide +kernel
theorem dX4_kind_9 : decode cX4_kind 9 = .ok (.bipush 7, 2) := by decide +kernel
theorem dX4_kind_11 : decode cX4_kind 11 = .ok (.invokestatic 35, 3) := by decide +kernel
theorem dX4_kind_14 : decode cX4_kind 14 = .ok (.invokestatic 39, 3) := by decide +kernel
theorem dX4_kind_17 : decode cX4_kind 17 = .ok (.iload_n 2, 1) := by decide +kernel
theorem dX4_kind_18 : decode cX4_kind 18 = .ok (.tableswitch 114 0 6 #[42, 51, 60, 69, 78, 90, 102], 42) := by decide +kernel
theorem dX4_kind_60 : decode cX4_kind 60 = .ok (.aload_n 0, 1) := by decide +kernel
theorem dX4_kind_61 : decode cX4_kind 61 = .ok (.getfield 10, 3) := by decide +kernel
theorem dX4_kind_64 : decode cX4_kind 64 = .ok (.iload_n 1, 1) := by decide +kernel
theorem dX4_kind_65 : decode cX4_kind 65 = .ok (.invokevirtual 204, 3) := by decide +kernel
theorem dX4_kind_68 : decode cX4_kind 68 = .ok (.ireturn, 1) := by decide +kernel
theorem dX4_kind_69 : decode cX4_kind 69 = .ok (.aload_n 0, 1) := by decide +kernel
theorem dX4_kind_70 : decode cX4_kind 70 = .ok (.getfield 10, 3) := by decide +kernel
theorem dX4_kind_73 : decode cX4_kind 73 = .ok (.iload_n 1, 1) := by decide +kernel
theorem dX4_kind_74 : decode cX4_kind 74 = .ok (.invokevirtual 207, 3) := by decide +kernel
theorem dX4_kind_77 : decode cX4_kind 77 = .ok (.ireturn, 1) := by decide +kernel
theorem dX4_kind_78 : decode cX4_kind 78 = .ok (.aload_n 0, 1) := by decide +kernel
theorem dX4_kind_79 : decode cX4_kind 79 = .ok (.getfield 10, 3) := by decide +kernel
theorem dX4_kind_82 : decode cX4_kind 82 = .ok (.iload_n 1, 1) := by decide +kernel
theorem dX4_kind_83 : decode cX4_kind 83 = .ok (.invokevirtual 210, 3) := by decide +kernel
theorem dX4_kind_86 : decode cX4_kind 86 = .ok (.ireturn, 1) := by decide +kernel
theorem dX4_kind_87 : decode cX4_kind 87 = .ok (.aload_n 0, 1) := by decide +kernel
theorem dX4_kind_88 : decode cX4_kind 88 = .ok (.getfield 10, 3) := by decide +kernel
theorem dX4_kind_91 : decode cX4_kind 91 = .ok (.iload_n 1, 1) := by decide +kernel
theorem dX4_kind_92 : decode cX4_kind 92 = .ok (.invokevirtual 213, 3) := by decide +kernel
theorem dX4_kind_95 : decode cX4_kind 95 = .ok (.ireturn, 1) := by decide +kernel
theorem dX4_kind_96 : decode cX4_kind 96 = .ok (.aload_n 0, 1) := by decide +kernel
theorem dX4_kind_97 : decode cX4_kind 97 = .ok (.getfield 10, 3) := by decide +kernel
theorem dX4_kind_100 : decode cX4_kind 100 = .ok (.getfield 42, 3) := by decide +kernel
theorem dX4_kind_103 : decode cX4_kind 103 = .ok (.iload_n 1, 1) := by decide +kernel
theorem dX4_kind_104 : decode cX4_kind 104 = .ok (.invokevirtual 46, 3) := by decide +kernel
theorem dX4_kind_107 : decode cX4_kind 107 = .ok (.ireturn, 1) := by decide +kernel
theorem dX4_kind_108 : decode cX4_kind 108 = .ok (.aload_n 0, 1) := by decide +kernel
theorem dX4_kind_109 : decode cX4_kind 109 = .ok (.getfield 10, 3) := by decide +kernel
theorem dX4_kind_112 : decode cX4_kind 112 = .ok (.getfield 88, 3) := by decide +kernel
theorem dX4_kind_115 : decode cX4_kind 115 = .ok (.iload_n 1, 1) := by decide +kernel
theorem dX4_kind_116 : decode cX4_kind 116 = .ok (.invokevirtual 216, 3) := by decide +kernel
theorem dX4_kind_119 : decode cX4_kind 119 = .ok (.ireturn, 1) := by decide +kernel
theorem dX4_kind_120 : decode cX4_kind 120 = .ok (.aload_n 0, 1) := by decide +kernel
theorem dX4_kind_121 : decode cX4_kind 121 = .ok (.getfield 10, 3) := by decide +kernel
theorem dX4_kind_124 : decode cX4_kind 124 = .ok (.getfield 88, 3) := by decide +kernel
theorem dX4_kind_127 : decode cX4_kind 127 = .ok (.iload_n 1, 1) := by decide +kernel
theorem dX4_kind_128 : decode cX4_kind 128 = .ok (.invokevirtual 219, 3) := by decide +kernel
theorem dX4_kind_131 : decode cX4_kind 131 = .ok (.ireturn, 1) := by decide +kernel
theorem dX4_kind_132 : decode cX4_kind 132 = .ok (.aload_n 0, 1) := by decide +kernel
theorem dX4_kind_133 : decode cX4_kind 133 = .ok (.getfield 10, 3) := by decide +kernel
theorem dX4_kind_136 : decode cX4_kind 136 = .ok (.iload_n 1, 1) := by decide +kernel
theorem dX4_kind_137 : decode cX4_kind 137 = .ok (.invokevirtual 222, 3) := by decide +kernel
theorem dX4_kind_140 : decode cX4_kind 140 = .ok (.ireturn, 1) := by decide +kernel
theorem dX4_count_0 : decode cX4_count 0 = .ok (.iload_n 1, 1) := by decide +kernel
theorem dX4_count_1 : decode cX4_count 1 = .ok (.iconst 0, 1) := by decide +kernel
theorem dX4_count_2 : decode cX4_count 2 = .ok (.bipush 11, 2) := by decide +kernel
theorem dX4_count_4 : decode cX4_count 4 = .ok (.invokestatic 35, 3) := by decide +kernel
theorem dX4_count_7 : decode cX4_count 7 = .ok (.invokestatic 39, 3) := by decide +kernel
theorem dX4_count_10 : decode cX4_count 10 = .ok (.iload_n 1, 1) := by decide +kernel
theorem dX4_count_11 : decode cX4_count 11 = .ok (.tableswitch 173 0 10 #[57, 68, 80, 92, 104, 116, 124, 135, 143, 151, 162], 57) := by decide +kernel
theorem dX4_count_68 : decode cX4_count 68 = .ok (.aload_n 0, 1) := by decide +kernel
theorem dX4_count_69 : decode cX4_count 69 = .ok (.getfield 10, 3) := by decide +kernel
theorem dX4_count_72 : decode cX4_count 72 = .ok (.getfield 88, 3) := by decide +kernel
theorem dX4_count_75 : decode cX4_count 75 = .ok (.getfield 92, 3) := by decide +kernel
theorem dX4_count_78 : decode cX4_count 78 = .ok (.ireturn, 1) := by decide +kernel
theorem dX4_count_79 : decode cX4_count 79 = .ok (.aload_n 0, 1) := by decide +kernel
theorem dX4_count_80 : decode cX4_count 80 = .ok (.getfield 10, 3) := by decide +kernel
theorem dX4_count_83 : decode cX4_count 83 = .ok (.getfield 88, 3) := by decide +kernel
theorem dX4_count_86 : decode cX4_count 86 = .ok (.iconst 0, 1) := by decide +kernel
theorem dX4_count_87 : decode cX4_count 87 = .ok (.invokevirtual 116, 3) := by decide +kernel
theorem dX4_count_90 : decode cX4_count 90 = .ok (.ireturn, 1) := by decide +kernel
theorem dX4_count_91 : decode cX4_count 91 = .ok (.aload_n 0, 1) := by decide +kernel
theorem dX4_count_92 : decode cX4_count 92 = .ok (.getfield 10, 3) := by decide +kernel
theorem dX4_count_95 : decode cX4_count 95 = .ok (.getfield 88, 3) := by decide +kernel
theorem dX4_count_98 : decode cX4_count 98 = .ok (.iconst 1, 1) := by decide +kernel
theorem dX4_count_99 : decode cX4_count 99 = .ok (.invokevirtual 116, 3) := by decide +kernel
theorem dX4_count_102 : decode cX4_count 102 = .ok (.ireturn, 1) := by decide +kernel
theorem dX4_count_103 : decode cX4_count 103 = .ok (.aload_n 0, 1) := by decide +kernel
theorem dX4_count_104 : decode cX4_count 104 = .ok (.getfield 10, 3) := by decide +kernel
theorem dX4_count_107 : decode cX4_count 107 = .ok (.getfield 88, 3) := by decide +kernel
theorem dX4_count_110 : decode cX4_count 110 = .ok (.iconst 2, 1) := by decide +kernel
theorem dX4_count_111 : decode cX4_count 111 = .ok (.invokevirtual 116, 3) := by decide +kernel
theorem dX4_count_114 : decode cX4_count 114 = .ok (.ireturn, 1) := by decide +kernel
theorem dX4_count_115 : decode cX4_count 115 = .ok (.aload_n 0, 1) := by decide +kernel
theorem dX4_count_116 : decode cX4_count 116 = .ok (.getfield 10, 3) := by decide +kernel
theorem dX4_count_119 : decode cX4_count 119 = .ok (.getfield 88, 3) := by decide +kernel
theorem dX4_count_122 : decode cX4_count 122 = .ok (.iconst 3, 1) := by decide +kernel
theorem dX4_count_123 : decode cX4_count 123 = .ok (.invokevirtual 116, 3) := by decide +kernel
theorem dX4_count_126 : decode cX4_count 126 = .ok (.ireturn, 1) := by decide +kernel
theorem dX4_count_127 : decode cX4_count 127 = .ok (.aload_n 0, 1) := by decide +kernel
theorem dX4_count_128 : decode cX4_count 128 = .ok (.getfield 10, 3) := by decide +kernel
theorem dX4_count_131 : decode cX4_count 131 = .ok (.getfield 125, 3) := by decide +kernel
theorem dX4_count_134 : decode cX4_count 134 = .ok (.ireturn, 1) := by decide +kernel
theorem dX4_count_135 : decode cX4_count 135 = .ok (.aload_n 0, 1) := by decide +kernel
theorem dX4_count_136 : decode cX4_count 136 = .ok (.getfield 10, 3) := by decide +kernel
theorem dX4_count_139 : decode cX4_count 139 = .ok (.getfield 88, 3) := by decide +kernel
theorem dX4_count_142 : decode cX4_count 142 = .ok (.invokevirtual 225, 3) := by decide +kernel
theorem dX4_count_145 : decode cX4_count 145 = .ok (.ireturn, 1) := by decide +kernel
theorem dX4_count_146 : decode cX4_count 146 = .ok (.aload_n 0, 1) := by decide +kernel
theorem dX4_count_147 : decode cX4_count 147 = .ok (.getfield 10, 3) := by decide +kernel
theorem dX4_count_150 : decode cX4_count 150 = .ok (.invokevirtual 228, 3) := by decide +kernel
theorem dX4_count_153 : decode cX4_count 153 = .ok (.ireturn, 1) := by decide +kernel
theorem dX4_count_154 : decode cX4_count 154 = .ok (.aload_n 0, 1) := by decide +kernel
theorem dX4_count_155 : decode cX4_count 155 = .ok (.getfield 10, 3) := by decide +kernel
theorem dX4_count_158 : decode cX4_count 158 = .ok (.invokevirtual 231, 3) := by decide +kernel
theorem dX4_count_161 : decode cX4_count 161 = .ok (.ireturn, 1) := by decide +kernel
theorem dX4_count_162 : decode cX4_count 162 = .ok (.aload_n 0, 1) := by decide +kernel
theorem dX4_count_163 : decode cX4_count 163 = .ok (.getfield 10, 3) := by decide +kernel
theorem dX4_count_166 : decode cX4_count 166 = .ok (.getfield 179, 3) := by decide +kernel
theorem dX4_count_169 : decode cX4_count 169 = .ok (.getfield 234, 3) := by decide +kernel
theorem dX4_count_172 : decode cX4_count 172 = .ok (.ireturn, 1) := by decide +kernel
theorem dX4_count_173 : decode cX4_count 173 = .ok (.aload_n 0, 1) := by decide +kernel
theorem dX4_count_174 : decode cX4_count 174 = .ok (.getfield 10, 3) := by decide +kernel
theorem dX4_count_177 : decode cX4_count 177 = .ok (.getfield 88, 3) := by decide +kernel
theorem dX4_count_180 : decode cX4_count 180 = .ok (.invokevirtual 235, 3) := by decide +kernel
theorem dX4_count_183 : decode cX4_count 183 = .ok (.ireturn, 1) := by decide +kernel
theorem dX4_count_184 : decode cX4_count 184 = .ok (.aload_n 0, 1) := by decide +kernel
theorem dX4_count_185 : decode cX4_count 185 = .ok (.getfield 147, 3) := by decide +kernel
theorem dX4_count_188 : decode cX4_count 188 = .ok (.ireturn, 1) := by decide +kernel
theorem dX4_setting_0 : decode cX4_setting 0 = .ok (.iload_n 1, 1) := by decide +kernel
theorem dX4_setting_1 : decode cX4_setting 1 = .ok (.invokestatic 76, 3) := by decide +kernel
theorem dX4_setting_4 : decode cX4_setting 4 = .ok (.invokestatic 31, 3) := by decide +kernel
theorem dX4_setting_7 : decode cX4_setting 7 = .ok (.aload_n 0, 1) := by decide +kernel
theorem dX4_setting_8 : decode cX4_setting 8 = .ok (.getfield 10, 3) := by decide +kernel
theorem dX4_setting_11 : decode cX4_setting 11 = .ok (.iload_n 1, 1) := by decide +kernel
theorem dX4_setting_12 : decode cX4_setting 12 = .ok (.invokevirtual 238, 3) := by decide +kernel
theorem dX4_setting_15 : decode cX4_setting 15 = .ok (.ireturn, 1) := by decide +kernel
theorem dX4_ofCustomer_0 : decode cX4_ofCustomer 0 = .ok (.iload_n 1, 1) := by decide +kernel
theorem dX4_ofCustomer_1 : decode cX4_ofCustomer 1 = .ok (.invokestatic 85, 3) := by decide +kernel
theorem dX4_ofCustomer_4 : decode cX4_ofCustomer 4 = .ok (.invokestatic 31, 3) := by decide +kernel
theorem dX4_ofCustomer_7 : decode cX4_ofCustomer 7 = .ok (.iload_n 2, 1) := by decide +kernel
theorem dX4_ofCustomer_8 : decode cX4_ofCustomer 8 = .ok (.iconst 0, 1) := by decide +kernel
theorem dX4_ofCustomer_9 : decode cX4_ofCustomer 9 = .ok (.bipush 23, 2) := by decide +kernel
theorem dX4_ofCustomer_11 : decode cX4_ofCustomer 11 = .ok (.invokestatic 35, 3) := by decide +kernel
theorem dX4_ofCustomer_14 : decode cX4_ofCustomer 14 = .ok (.invokestatic 39, 3) := by decide +kernel
theorem dX4_ofCustomer_17 : decode cX4_ofCustomer 17 = .ok (.aload_n 0, 1) := by decide +kernel
theorem dX4_ofCustomer_18 : decode cX4_ofCustomer 18 = .ok (.getfield 10, 3) := by decide +kernel
theorem dX4_ofCustomer_21 : decode cX4_ofCustomer 21 = .ok (.getfield 88, 3) := by decide +kernel
theorem dX4_ofCustomer_24 : decode cX4_ofCustomer 24 = .ok (.iload_n 1, 1) := by decide +kernel
theorem dX4_ofCustomer_25 : decode cX4_ofCustomer 25 = .ok (.iload_n 2, 1) := by decide +kernel
theorem dX4_ofCustomer_26 : decode cX4_ofCustomer 26 = .ok (.invokevirtual 241, 3) := by decide +kernel
theorem dX4_ofCustomer_29 : decode cX4_ofCustomer 29 = .ok (.ireturn, 1) := by decide +kernel
theorem dX4_whyNot_0 : decode cX4_whyNot 0 = .ok (.aload_n 0, 1) := by decide +kernel
theorem dX4_whyNot_1 : decode cX4_whyNot 1 = .ok (.getfield 10, 3) := by decide +kernel
theorem dX4_whyNot_4 : decode cX4_whyNot 4 = .ok (.getfield 88, 3) := by decide +kernel
theorem dX4_whyNot_7 : decode cX4_whyNot 7 = .ok (.iload_n 1, 1) := by decide +kernel
theorem dX4_whyNot_8 : decode cX4_whyNot 8 = .ok (.invokevirtual 101, 3) := by decide +kernel
theorem dX4_whyNot_11 : decode cX4_whyNot 11 = .ok (.invokestatic 31, 3) := by decide +kernel
theorem dX4_whyNot_14 : decode cX4_whyNot 14 = .ok (.iload_n 3, 1) := by decide +kernel
theorem dX4_whyNot_15 : decode cX4_whyNot 15 = .ok (.iconst (-1), 1) := by decide +kernel
theorem dX4_whyNot_16 : decode cX4_whyNot 16 = .ok (.if_icmp .eq 12, 3) := by decide +kernel
theorem dX4_whyNot_19 : decode cX4_whyNot 19 = .ok (.iload_n 3, 1) := by decide +kernel
theorem dX4_whyNot_20 : decode cX4_whyNot 20 = .ok (.iconst 0, 1) := by decide +kernel
theorem dX4_whyNot_21 : decode cX4_whyNot 21 = .ok (.iconst 5, 1) := by decide +kernel
theorem dX4_whyNot_22 : decode cX4_whyNot 22 = .ok (.invokestatic 35, 3) := by decide +kernel
theorem dX4_whyNot_25 : decode cX4_whyNot 25 = .ok (.ifCond .eq 7, 3) := by decide +kernel
theorem dX4_whyNot_28 : decode cX4_whyNot 28 = .ok (.iconst 1, 1) := by decide +kernel
theorem dX4_whyNot_29 : decode cX4_whyNot 29 = .ok (.goto 4, 3) := by decide +kernel
theorem dX4_whyNot_32 : decode cX4_whyNot 32 = .ok (.iconst 0, 1) := by decide +kernel
theorem dX4_whyNot_33 : decode cX4_whyNot 33 = .ok (.invokestatic 39, 3) := by decide +kernel
theorem dX4_whyNot_36 : decode cX4_whyNot 36 = .ok (.iload_n 3, 1) := by decide +kernel
theorem dX4_whyNot_37 : decode cX4_whyNot 37 = .ok (.iconst (-1), 1) := by decide +kernel
theorem dX4_whyNot_38 : decode cX4_whyNot 38 = .ok (.if_icmp .ne 13, 3) := by decide +kernel
theorem dX4_whyNot_41 : decode cX4_whyNot 41 = .ok (.aload_n 0, 1) := by decide +kernel
theorem dX4_whyNot_42 : decode cX4_whyNot 42 = .ok (.getfield 10, 3) := by decide +kernel
theorem dX4_whyNot_45 : decode cX4_whyNot 45 = .ok (.iload_n 1, 1) := by decide +kernel
theorem dX4_whyNot_46 : decode cX4_whyNot 46 = .ok (.iload_n 2, 1) := by decide +kernel
theorem dX4_whyNot_47 : decode cX4_whyNot 47 = .ok (.invokevirtual 119, 3) := by decide +kernel
theorem dX4_whyNot_50 : decode cX4_whyNot 50 = .ok (.ireturn, 1) := by decide +kernel
theorem dX4_whyNot_51 : decode cX4_whyNot 51 = .ok (.aload_n 0, 1) := by decide +kernel
theorem dX4_whyNot_52 : decode cX4_whyNot 52 = .ok (.getfield 10, 3) := by decide +kernel
theorem dX4_whyNot_55 : decode cX4_whyNot 55 = .ok (.iload_n 1, 1) := by decide +kernel
theorem dX4_whyNot_56 : decode cX4_whyNot 56 = .ok (.iload_n 2, 1) := by decide +kernel
theorem dX4_whyNot_57 : decode cX4_whyNot 57 = .ok (.iload_n 3, 1) := by decide +kernel
theorem dX4_whyNot_58 : decode cX4_whyNot 58 = .ok (.invokevirtual 103, 3) := by decide +kernel
theorem dX4_whyNot_61 : decode cX4_whyNot 61 = .ok (.ireturn, 1) := by decide +kernel
theorem dX4_fair_0 : decode cX4_fair 0 = .ok (.aload_n 0, 1) := by decide +kernel
theorem dX4_fair_1 : decode cX4_fair 1 = .ok (.getfield 10, 3) := by decide +kernel
theorem dX4_fair_4 : decode cX4_fair 4 = .ok (.getfield 88, 3) := by decide +kernel
theorem dX4_fair_7 : decode cX4_fair 7 = .ok (.iload_n 1, 1) := by decide +kernel
theorem dX4_fair_8 : decode cX4_fair 8 = .ok (.invokevirtual 101, 3) := by decide +kernel
theorem dX4_fair_11 : decode cX4_fair 11 = .ok (.invokestatic 31, 3) := by decide +kernel
theorem dX4_fair_14 : decode cX4_fair 14 = .ok (.aload_n 0, 1) := by decide +kernel
theorem dX4_fair_15 : decode cX4_fair 15 = .ok (.getfield 10, 3) := by decide +kernel
theorem dX4_fair_18 : decode cX4_fair 18 = .ok (.getfield 88, 3) := by decide +kernel
theorem dX4_fair_21 : decode cX4_fair 21 = .ok (.iload_n 1, 1) := by decide +kernel
theorem dX4_fair_22 : decode cX4_fair 22 = .ok (.invokevirtual 244, 3) := by decide +kernel
theorem dX4_fair_25 : decode cX4_fair 25 = .ok (.istore_n 2, 1) := by decide +kernel
theorem dX4_fair_26 : decode cX4_fair 26 = .ok (.iconst (-1), 1) := by decide +kernel
theorem dX4_fair_27 : decode cX4_fair 27 = .ok (.istore_n 3, 1) := by decide +kernel
theorem dX4_fair_28 : decode cX4_fair 28 = .ok (.iconst 0, 1) := by decide +kernel
theorem dX4_fair_29 : decode cX4_fair 29 = .ok (.istore 4, 2) := by decide +kernel
theorem dX4_fair_31 : decode cX4_fair 31 = .ok (.iload 4, 2) := by decide +kernel
theorem dX4_fair_33 : decode cX4_fair 33 = .ok (.aload_n 0, 1) := by decide +kernel
theorem dX4_fair_34 : decode cX4_fair 34 = .ok (.getfield 10, 3) := by decide +kernel
theorem dX4_fair_37 : decode cX4_fair 37 = .ok (.getfield 42, 3) := by decide +kernel
theorem dX4_fair_40 : decode cX4_fair 40 = .ok (.iload_n 2, 1) := by decide +kernel
theorem dX4_fair_41 : decode cX4_fair 41 = .ok (.invokevirtual 46, 3) := by decide +kernel
theorem dX4_fair_44 : decode cX4_fair 44 = .ok (.if_icmp .ge 71, 3) := by decide +kernel
theorem dX4_fair_47 : decode cX4_fair 47 = .ok (.iload_n 3, 1) := by decide +kernel
theorem dX4_fair_48 : decode cX4_fair 48 = .ok (.iconst (-1), 1) := by decide +kernel
theorem dX4_fair_49 : decode cX4_fair 49 = .ok (.if_icmp .eq 31, 3) := by decide +kernel
theorem dX4_fair_52 : decode cX4_fair 52 = .ok (.aload_n 0, 1) := by decide +kernel
theorem dX4_fair_53 : decode cX4_fair 53 = .ok (.getfield 10, 3) := by decide +kernel
theorem dX4_fair_56 : decode cX4_fair 56 = .ok (.getfield 42, 3) := by decide +kernel
theorem dX4_fair_59 : decode cX4_fair 59 = .ok (.iload_n 2, 1) := by decide +kernel
theorem dX4_fair_60 : decode cX4_fair 60 = .ok (.iload 4, 2) := by decide +kernel
theorem dX4_fair_62 : decode cX4_fair 62 = .ok (.invokevirtual 164, 3) := by decide +kernel
theorem dX4_fair_65 : decode cX4_fair 65 = .ok (.aload_n 0, 1) := by decide +kernel
theorem dX4_fair_66 : decode cX4_fair 66 = .ok (.getfield 10, 3) := by decide +kernel
theorem dX4_fair_69 : decode cX4_fair 69 = .ok (.getfield 42, 3) := by decide +kernel
theorem dX4_fair_72 : decode cX4_fair 72 = .ok (.iload_n 2, 1) := by decide +kernel
theorem dX4_fair_73 : decode cX4_fair 73 = .ok (.iload_n 3, 1) := by decide +kernel
theorem dX4_fair_74 : decode cX4_fair 74 = .ok (.invokevirtual 164, 3) := by decide +kernel
theorem dX4_fair_77 : decode cX4_fair 77 = .ok (.if_icmp .ge 7, 3) := by decide +kernel
theorem dX4_fair_80 : decode cX4_fair 80 = .ok (.iconst 1, 1) := by decide +kernel
theorem dX4_fair_81 : decode cX4_fair 81 = .ok (.goto 4, 3) := by decide +kernel
theorem dX4_fair_84 : decode cX4_fair 84 = .ok (.iconst 0, 1) := by decide +kernel
theorem dX4_fair_85 : decode cX4_fair 85 = .ok (.istore 5, 2) := by decide +kernel
theorem dX4_fair_87 : decode cX4_fair 87 = .ok (.iload 5, 2) := by decide +kernel
theorem dX4_fair_89 : decode cX4_fair 89 = .ok (.ifCond .eq 20, 3) := by decide +kernel
theorem dX4_fair_92 : decode cX4_fair 92 = .ok (.aload_n 0, 1) := by decide +kernel
theorem dX4_fair_93 : decode cX4_fair 93 = .ok (.getfield 10, 3) := by decide +kernel
theorem dX4_fair_96 : decode cX4_fair 96 = .ok (.iload_n 1, 1) := by decide +kernel
theorem dX4_fair_97 : decode cX4_fair 97 = .ok (.iload 4, 2) := by decide +kernel
theorem dX4_fair_99 : decode cX4_fair 99 = .ok (.iconst 0, 1) := by decide +kernel
theorem dX4_fair_100 : decode cX4_fair 100 = .ok (.invokevirtual 103, 3) := by decide +kernel
theorem dX4_fair_103 : decode cX4_fair 103 = .ok (.ifCond .ne 6, 3) := by decide +kernel
theorem dX4_fair_106 : decode cX4_fair 106 = .ok (.iload 4, 2) := by decide +kernel
theorem dX4_fair_108 : decode cX4_fair 108 = .ok (.istore_n 3, 1) := by decide +kernel
theorem dX4_fair_109 : decode cX4_fair 109 = .ok (.iinc 4 1, 3) := by decide +kernel
theorem dX4_fair_112 : decode cX4_fair 112 = .ok (.goto (-81), 3) := by decide +kernel
theorem dX4_fair_115 : decode cX4_fair 115 = .ok (.iload_n 3, 1) := by decide +kernel
theorem dX4_fair_116 : decode cX4_fair 116 = .ok (.ireturn, 1) := by decide +kernel
theorem dX4_ifJudged_0 : decode cX4_ifJudged 0 = .ok (.aload_n 0, 1) := by decide +kernel
theorem dX4_ifJudged_1 : decode cX4_ifJudged 1 = .ok (.getfield 10, 3) := by decide +kernel
theorem dX4_ifJudged_4 : decode cX4_ifJudged 4 = .ok (.getfield 88, 3) := by decide +kernel
theorem dX4_ifJudged_7 : decode cX4_ifJudged 7 = .ok (.iload_n 1, 1) := by decide +kernel
theorem dX4_ifJudged_8 : decode cX4_ifJudged 8 = .ok (.invokevirtual 101, 3) := by decide +kernel
theorem dX4_ifJudged_11 : decode cX4_ifJudged 11 = .ok (.invokestatic 31, 3) := by decide +kernel
theorem dX4_ifJudged_14 : decode cX4_ifJudged 14 = .ok (.iload_n 3, 1) := by decide +kernel
theorem dX4_ifJudged_15 : decode cX4_ifJudged 15 = .ok (.iconst 0, 1) := by decide +kernel
theorem dX4_ifJudged_16 : decode cX4_ifJudged 16 = .ok (.iconst 3, 1) := by decide +kernel
theorem dX4_ifJudged_17 : decode cX4_ifJudged 17 = .ok (.invokestatic 35, 3) := by decide +kernel
theorem dX4_ifJudged_20 : decode cX4_ifJudged 20 = .ok (.invokestatic 39, 3) := by decide +kernel
theorem dX4_ifJudged_23 : decode cX4_ifJudged 23 = .ok (.aload_n 0, 1) := by decide +kernel
theorem dX4_ifJudged_24 : decode cX4_ifJudged 24 = .ok (.getfield 10, 3) := by decide +kernel
theorem dX4_ifJudged_27 : decode cX4_ifJudged 27 = .ok (.iload_n 1, 1) := by decide +kernel
theorem dX4_ifJudged_28 : decode cX4_ifJudged 28 = .ok (.iload_n 2, 1) := by decide +kernel
theorem dX4_ifJudged_29 : decode cX4_ifJudged 29 = .ok (.invokevirtual 119, 3) := by decide +kernel
theorem dX4_ifJudged_32 : decode cX4_ifJudged 32 = .ok (.ifCond .eq 5, 3) := by decide +kernel
theorem dX4_ifJudged_35 : decode cX4_ifJudged 35 = .ok (.iconst (-1), 1) := by decide +kernel
theorem dX4_ifJudged_36 : decode cX4_ifJudged 36 = .ok (.ireturn, 1) := by decide +kernel
theorem dX4_ifJudged_37 : decode cX4_ifJudged 37 = .ok (.aload_n 0, 1) := by decide +kernel
theorem dX4_ifJudged_38 : decode cX4_ifJudged 38 = .ok (.getfield 16, 3) := by decide +kernel
theorem dX4_ifJudged_41 : decode cX4_ifJudged 41 = .ok (.aload_n 0, 1) := by decide +kernel
theorem dX4_ifJudged_42 : decode cX4_ifJudged 42 = .ok (.getfield 10, 3) := by decide +kernel
theorem dX4_ifJudged_45 : decode cX4_ifJudged 45 = .ok (.invokevirtual 157, 3) := by decide +kernel
theorem dX4_ifJudged_48 : decode cX4_ifJudged 48 = .ok (.aload_n 0, 1) := by decide +kernel
theorem dX4_ifJudged_49 : decode cX4_ifJudged 49 = .ok (.getfield 16, 3) := by decide +kernel
theorem dX4_ifJudged_52 : decode cX4_ifJudged 52 = .ok (.iload_n 1, 1) := by decide +kernel
theorem dX4_ifJudged_53 : decode cX4_ifJudged 53 = .ok (.iload_n 2, 1) := by decide +kernel
theorem dX4_ifJudged_54 : decode cX4_ifJudged 54 = .ok (.invokevirtual 122, 3) := by decide +kernel
theorem dX4_ifJudged_57 : decode cX4_ifJudged 57 = .ok (.istore 4, 2) := by decide +kernel
theorem dX4_ifJudged_59 : decode cX4_ifJudged 59 = .ok (.iload_n 3, 1) := by decide +kernel
theorem dX4_ifJudged_60 : decode cX4_ifJudged 60 = .ok (.tableswitch 61 0 2 #[28, 50, 53], 28) := by decide +kernel
theorem dX4_ifJudged_88 : decode cX4_ifJudged 88 = .ok (.aload_n 0, 1) := by decide +kernel
theorem dX4_ifJudged_89 : decode cX4_ifJudged 89 = .ok (.getfield 16, 3) := by decide +kernel
theorem dX4_ifJudged_92 : decode cX4_ifJudged 92 = .ok (.getfield 88, 3) := by decide +kernel
theorem dX4_ifJudged_95 : decode cX4_ifJudged 95 = .ok (.invokevirtual 225, 3) := by decide +kernel
theorem dX4_ifJudged_98 : decode cX4_ifJudged 98 = .ok (.aload_n 0, 1) := by decide +kernel
theorem dX4_ifJudged_99 : decode cX4_ifJudged 99 = .ok (.getfield 10, 3) := by decide +kernel
theorem dX4_ifJudged_102 : decode cX4_ifJudged 102 = .ok (.getfield 88, 3) := by decide +kernel
theorem dX4_ifJudged_105 : decode cX4_ifJudged 105 = .ok (.invokevirtual 225, 3) := by decide +kernel
theorem dX4_ifJudged_108 : decode cX4_ifJudged 108 = .ok (.isub, 1) := by decide +kernel
theorem dX4_ifJudged_109 : decode cX4_ifJudged 109 = .ok (.ireturn, 1) := by decide +kernel
theorem dX4_ifJudged_110 : decode cX4_ifJudged 110 = .ok (.iload 4, 2) := by decide +kernel
theorem dX4_ifJudged_112 : decode cX4_ifJudged 112 = .ok (.ireturn, 1) := by decide +kernel
theorem dX4_ifJudged_113 : decode cX4_ifJudged 113 = .ok (.aload_n 0, 1) := by decide +kernel
theorem dX4_ifJudged_114 : decode cX4_ifJudged 114 = .ok (.getfield 16, 3) := by decide +kernel
theorem dX4_ifJudged_117 : decode cX4_ifJudged 117 = .ok (.invokevirtual 228, 3) := by decide +kernel
theorem dX4_ifJudged_120 : decode cX4_ifJudged 120 = .ok (.ireturn, 1) := by decide +kernel
theorem dX4_ifJudged_121 : decode cX4_ifJudged 121 = .ok (.aload_n 0, 1) := by decide +kernel
theorem dX4_ifJudged_122 : decode cX4_ifJudged 122 = .ok (.getfield 16, 3) := by decide +kernel
theorem dX4_ifJudged_125 : decode cX4_ifJudged 125 = .ok (.invokevirtual 247, 3) := by decide +kernel
theorem dX4_ifJudged_128 : decode cX4_ifJudged 128 = .ok (.ireturn, 1) := by decide +kernel
theorem dX4_monthsToEqual_0 : decode cX4_monthsToEqual 0 = .ok (.aload_n 0, 1) := by decide +kernel
theorem dX4_monthsToEqual_1 : decode cX4_monthsToEqual 1 = .ok (.getfield 10, 3) := by decide +kernel
theorem dX4_monthsToEqual_4 : decode cX4_monthsToEqual 4 = .ok (.invokevirtual 228, 3) := by decide +kernel
theorem dX4_monthsToEqual_7 : decode cX4_monthsToEqual 7 = .ok (.ifCond .ne 5, 3) := by decide +kernel
theorem dX4_monthsToEqual_10 : decode cX4_monthsToEqual 10 = .ok (.iconst 0, 1) := by decide +kernel
theorem dX4_monthsToEqual_11 : decode cX4_monthsToEqual 11 = .ok (.ireturn, 1) := by decide +kernel
theorem dX4_monthsToEqual_12 : decode cX4_monthsToEqual 12 = .ok (.aload_n 0, 1) := by decide +kernel
theorem dX4_monthsToEqual_13 : decode cX4_monthsToEqual 13 = .ok (.getfield 16, 3) := by decide +kernel
theorem dX4_monthsToEqual_16 : decode cX4_monthsToEqual 16 = .ok (.aload_n 0, 1) := by decide +kernel
theorem dX4_monthsToEqual_17 : decode cX4_monthsToEqual 17 = .ok (.getfield 10, 3) := by decide +kernel
theorem dX4_monthsToEqual_20 : decode cX4_monthsToEqual 20 = .ok (.invokevirtual 157, 3) := by decide +kernel
theorem dX4_monthsToEqual_23 : decode cX4_monthsToEqual 23 = .ok (.iconst 1, 1) := by decide +kernel
theorem dX4_monthsToEqual_24 : decode cX4_monthsToEqual 24 = .ok (.istore_n 1, 1) := by decide +kernel
theorem dX4_monthsToEqual_25 : decode cX4_monthsToEqual 25 = .ok (.iload_n 1, 1) := by decide +kernel
theorem dX4_monthsToEqual_26 : decode cX4_monthsToEqual 26 = .ok (.bipush 24, 2) := by decide +kernel
theorem dX4_monthsToEqual_28 : decode cX4_monthsToEqual 28 = .ok (.if_icmp .gt 29, 3) := by decide +kernel
theorem dX4_monthsToEqual_31 : decode cX4_monthsToEqual 31 = .ok (.aload_n 0, 1) := by decide +kernel
theorem dX4_monthsToEqual_32 : decode cX4_monthsToEqual 32 = .ok (.getfield 16, 3) := by decide +kernel
theorem dX4_monthsToEqual_35 : decode cX4_monthsToEqual 35 = .ok (.invokevirtual 128, 3) := by decide +kernel
theorem dX4_monthsToEqual_38 : decode cX4_monthsToEqual 38 = .ok (.pop, 1) := by decide +kernel
theorem dX4_monthsToEqual_39 : decode cX4_monthsToEqual 39 = .ok (.aload_n 0, 1) := by decide +kernel
theorem dX4_monthsToEqual_40 : decode cX4_monthsToEqual 40 = .ok (.getfield 16, 3) := by decide +kernel
theorem dX4_monthsToEqual_43 : decode cX4_monthsToEqual 43 = .ok (.invokevirtual 228, 3) := by decide +kernel
theorem dX4_monthsToEqual_46 : decode cX4_monthsToEqual 46 = .ok (.ifCond .ne 5, 3) := by decide +kernel
theorem dX4_monthsToEqual_49 : decode cX4_monthsToEqual 49 = .ok (.iload_n 1, 1) := by decide +kernel
theorem dX4_monthsToEqual_50 : decode cX4_monthsToEqual 50 = .ok (.ireturn, 1) := by decide +kernel
theorem dX4_monthsToEqual_51 : decode cX4_monthsToEqual 51 = .ok (.iinc 1 1, 3) := by decide +kernel
theorem dX4_monthsToEqual_54 : decode cX4_monthsToEqual 54 = .ok (.goto (-29), 3) := by decide +kernel
theorem dX4_monthsToEqual_57 : decode cX4_monthsToEqual 57 = .ok (.iconst (-1), 1) := by decide +kernel
theorem dX4_monthsToEqual_58 : decode cX4_monthsToEqual 58 = .ok (.ireturn, 1) := by decide +kernel
theorem dX4_followShare_0 : decode cX4_followShare 0 = .ok (.aload_n 0, 1) := by decide +kernel
theorem dX4_followShare_1 : decode cX4_followShare 1 = .ok (.getfield 10, 3) := by decide +kernel
theorem dX4_followShare_4 : decode cX4_followShare 4 = .ok (.getfield 88, 3) := by decide +kernel
theorem dX4_followShare_7 : decode cX4_followShare 7 = .ok (.getfield 92, 3) := by decide +kernel
theorem dX4_followShare_10 : decode cX4_followShare 10 = .ok (.aload_n 0, 1) := by decide +kernel
theorem dX4_followShare_11 : decode cX4_followShare 11 = .ok (.getfield 10, 3) := by decide +kernel
theorem dX4_followShare_14 : decode cX4_followShare 14 = .ok (.getfield 88, 3) := by decide +kernel
theorem dX4_followShare_17 : decode cX4_followShare 17 = .ok (.iconst 0, 1) := by decide +kernel
theorem dX4_followShare_18 : decode cX4_followShare 18 = .ok (.invokevirtual 116, 3) := by decide +kernel
theorem dX4_followShare_21 : decode cX4_followShare 21 = .ok (.isub, 1) := by decide +kernel
theorem dX4_followShare_22 : decode cX4_followShare 22 = .ok (.istore_n 1, 1) := by decide +kernel
theorem dX4_followShare_23 : decode cX4_followShare 23 = .ok (.iload_n 1, 1) := by decide +kernel
theorem dX4_followShare_24 : decode cX4_followShare 24 = .ok (.ifCond .gt 5, 3) := by decide +kernel
theorem dX4_followShare_27 : decode cX4_followShare 27 = .ok (.dconst 1, 1) := by decide +kernel
theorem dX4_followShare_28 : decode cX4_followShare 28 = .ok (.dreturn, 1) := by decide +kernel
theorem dX4_followShare_29 : decode cX4_followShare 29 = .ok (.iload_n 1, 1) := by decide +kernel
theorem dX4_followShare_30 : decode cX4_followShare 30 = .ok (.aload_n 0, 1) := by decide +kernel
theorem dX4_followShare_31 : decode cX4_followShare 31 = .ok (.getfield 10, 3) := by decide +kernel
theorem dX4_followShare_34 : decode cX4_followShare 34 = .ok (.invokevirtual 231, 3) := by decide +kernel
theorem dX4_followShare_37 : decode cX4_followShare 37 = .ok (.isub, 1) := by decide +kernel
theorem dX4_followShare_38 : decode cX4_followShare 38 = .ok (.i2d, 1) := by decide +kernel
theorem dX4_followShare_39 : decode cX4_followShare 39 = .ok (.iload_n 1, 1) := by decide +kernel
theorem dX4_followShare_40 : decode cX4_followShare 40 = .ok (.i2d, 1) := by decide +kernel
theorem dX4_followShare_41 : decode cX4_followShare 41 = .ok (.ddiv, 1) := by decide +kernel
theorem dX4_followShare_42 : decode cX4_followShare 42 = .ok (.dreturn, 1) := by decide +kernel
theorem dX4_withKind_0 : decode cX4_withKind 0 = .ok (.lload_n 1, 1) := by decide +kernel
theorem dX4_withKind_1 : decode cX4_withKind 1 = .ok (.lstore 4, 2) := by decide +kernel
theorem dX4_withKind_3 : decode cX4_withKind 3 = .ok (.iconst 0, 1) := by decide +kernel
theorem dX4_withKind_4 : decode cX4_withKind 4 = .ok (.istore 6, 2) := by decide +kernel
theorem dX4_withKind_6 : decode cX4_withKind 6 = .ok (.iload 6, 2) := by decide +kernel
theorem dX4_withKind_8 : decode cX4_withKind 8 = .ok (.bipush 7, 2) := by decide +kernel
theorem dX4_withKind_10 : decode cX4_withKind 10 = .ok (.if_icmp .gt 26, 3) := by decide +kernel
theorem dX4_withKind_13 : decode cX4_withKind 13 = .ok (.ldc2_w 252, 3) := by decide +kernel
theorem dX4_withKind_16 : decode cX4_withKind 16 = .ok (.lload 4, 2) := by decide +kernel
theorem dX4_withKind_18 : decode cX4_withKind 18 = .ok (.lmul, 1) := by decide +kernel
theorem dX4_withKind_19 : decode cX4_withKind 19 = .ok (.aload_n 0, 1) := by decide +kernel
theorem dX4_withKind_20 : decode cX4_withKind 20 = .ok (.iload_n 3, 1) := by decide +kernel
theorem dX4_withKind_21 : decode cX4_withKind 21 = .ok (.iload 6, 2) := by decide +kernel
theorem dX4_withKind_23 : decode cX4_withKind 23 = .ok (.invokevirtual 294, 3) := by decide +kernel
theorem dX4_withKind_26 : decode cX4_withKind 26 = .ok (.i2l, 1) := by decide +kernel
theorem dX4_withKind_27 : decode cX4_withKind 27 = .ok (.ladd, 1) := by decide +kernel
theorem dX4_withKind_28 : decode cX4_withKind 28 = .ok (.lstore 4, 2) := by decide +kernel
theorem dX4_withKind_30 : decode cX4_withKind 30 = .ok (.iinc 6 1, 3) := by decide +kernel
theorem dX4_withKind_33 : decode cX4_withKind 33 = .ok (.goto (-27), 3) := by decide +kernel
theorem dX4_withKind_36 : decode cX4_withKind 36 = .ok (.iconst 0, 1) := by decide +kernel
theorem dX4_withKind_37 : decode cX4_withKind 37 = .ok (.istore 6, 2) := by decide +kernel
theorem dX4_withKind_39 : decode cX4_withKind 39 = .ok (.iload 6, 2) := by decide +kernel
theorem dX4_withKind_41 : decode cX4_withKind 41 = .ok (.aload_n 0, 1) := by decide +kernel
theorem dX4_withKind_42 : decode cX4_withKind 42 = .ok (.getfield 10, 3) := by decide +kernel
theorem dX4_withKind_45 : decode cX4_withKind 45 = .ok (.getfield 42, 3) := by decide +kernel
theorem dX4_withKind_48 : decode cX4_withKind 48 = .ok (.iload_n 3, 1) := by decide +kernel
theorem dX4_withKind_49 : decode cX4_withKind 49 = .ok (.invokevirtual 46, 3) := by decide +kernel
theorem dX4_withKind_52 : decode cX4_withKind 52 = .ok (.if_icmp .ge 43, 3) := by decide +kernel
theorem dX4_withKind_55 : decode cX4_withKind 55 = .ok (.iconst 0, 1) := by decide +kernel
theorem dX4_withKind_56 : decode cX4_withKind 56 = .ok (.istore 7, 2) := by decide +kernel
theorem dX4_withKind_58 : decode cX4_withKind 58 = .ok (.iload 7, 2) := by decide +kernel
theorem dX4_withKind_60 : decode cX4_withKind 60 = .ok (.iconst 4, 1) := by decide +kernel
theorem dX4_withKind_61 : decode cX4_withKind 61 = .ok (.if_icmp .gt 28, 3) := by decide +kernel
theorem dX4_withKind_64 : decode cX4_withKind 64 = .ok (.ldc2_w 252, 3) := by decide +kernel
theorem dX4_withKind_67 : decode cX4_withKind 67 = .ok (.lload 4, 2) := by decide +kernel
theorem dX4_withKind_69 : decode cX4_withKind 69 = .ok (.lmul, 1) := by decide +kernel
theorem dX4_withKind_70 : decode cX4_withKind 70 = .ok (.aload_n 0, 1) := by decide +kernel
theorem dX4_withKind_71 : decode cX4_withKind 71 = .ok (.iload_n 3, 1) := by decide +kernel
theorem dX4_withKind_72 : decode cX4_withKind 72 = .ok (.iload 6, 2) := by decide +kernel
theorem dX4_withKind_74 : decode cX4_withKind 74 = .ok (.iload 7, 2) := by decide +kernel
theorem dX4_withKind_76 : decode cX4_withKind 76 = .ok (.invokevirtual 297, 3) := by decide +kernel
theorem dX4_withKind_79 : decode cX4_withKind 79 = .ok (.i2l, 1) := by decide +kernel
theorem dX4_withKind_80 : decode cX4_withKind 80 = .ok (.ladd, 1) := by decide +kernel
theorem dX4_withKind_81 : decode cX4_withKind 81 = .ok (.lstore 4, 2) := by decide +kernel
theorem dX4_withKind_83 : decode cX4_withKind 83 = .ok (.iinc 7 1, 3) := by decide +kernel
theorem dX4_withKind_86 : decode cX4_withKind 86 = .ok (.goto (-28), 3) := by decide +kernel
theorem dX4_withKind_89 : decode cX4_withKind 89 = .ok (.iinc 6 1, 3) := by decide +kernel
theorem dX4_withKind_92 : decode cX4_withKind 92 = .ok (.goto (-53), 3) := by decide +kernel
theorem dX4_withKind_95 : decode cX4_withKind 95 = .ok (.iconst 0, 1) := by decide +kernel
theorem dX4_withKind_96 : decode cX4_withKind 96 = .ok (.istore 6, 2) := by decide +kernel
theorem dX4_withKind_98 : decode cX4_withKind 98 = .ok (.iload 6, 2) := by decide +kernel
theorem dX4_withKind_100 : decode cX4_withKind 100 = .ok (.iconst 3, 1) := by decide +kernel
theorem dX4_withKind_101 : decode cX4_withKind 101 = .ok (.if_icmp .ge 43, 3) := by decide +kernel
theorem dX4_withKind_104 : decode cX4_withKind 104 = .ok (.iconst 0, 1) := by decide +kernel
theorem dX4_withKind_105 : decode cX4_withKind 105 = .ok (.istore 7, 2) := by decide +kernel
theorem dX4_withKind_107 : decode cX4_withKind 107 = .ok (.iload 7, 2) := by decide +kernel
theorem dX4_withKind_109 : decode cX4_withKind 109 = .ok (.iconst 4, 1) := by decide +kernel
theorem dX4_withKind_110 : decode cX4_withKind 110 = .ok (.if_icmp .gt 28, 3) := by decide +kernel
theorem dX4_withKind_113 : decode cX4_withKind 113 = .ok (.ldc2_w 252, 3) := by decide +kernel
theorem dX4_withKind_116 : decode cX4_withKind 116 = .ok (.lload 4, 2) := by decide +kernel
theorem dX4_withKind_118 : decode cX4_withKind 118 = .ok (.lmul, 1) := by decide +kernel
theorem dX4_withKind_119 : decode cX4_withKind 119 = .ok (.aload_n 0, 1) := by decide +kernel
theorem dX4_withKind_120 : decode cX4_withKind 120 = .ok (.iload_n 3, 1) := by decide +kernel
theorem dX4_withKind_121 : decode cX4_withKind 121 = .ok (.iload 6, 2) := by decide +kernel
theorem dX4_withKind_123 : decode cX4_withKind 123 = .ok (.iload 7, 2) := by decide +kernel
theorem dX4_withKind_125 : decode cX4_withKind 125 = .ok (.invokevirtual 300, 3) := by decide +kernel
theorem dX4_withKind_128 : decode cX4_withKind 128 = .ok (.i2l, 1) := by decide +kernel
theorem dX4_withKind_129 : decode cX4_withKind 129 = .ok (.ladd, 1) := by decide +kernel
theorem dX4_withKind_130 : decode cX4_withKind 130 = .ok (.lstore 4, 2) := by decide +kernel
theorem dX4_withKind_132 : decode cX4_withKind 132 = .ok (.iinc 7 1, 3) := by decide +kernel
theorem dX4_withKind_135 : decode cX4_withKind 135 = .ok (.goto (-28), 3) := by decide +kernel
theorem dX4_withKind_138 : decode cX4_withKind 138 = .ok (.iinc 6 1, 3) := by decide +kernel
theorem dX4_withKind_141 : decode cX4_withKind 141 = .ok (.goto (-43), 3) := by decide +kernel
theorem dX4_withKind_144 : decode cX4_withKind 144 = .ok (.lload 4, 2) := by decide +kernel
theorem dX4_withKind_146 : decode cX4_withKind 146 = .ok (.lreturn, 1) := by decide +kernel
theorem dX4_withComplaint_0 : decode cX4_withComplaint 0 = .ok (.lload_n 1, 1) := by decide +kernel
theorem dX4_withComplaint_1 : decode cX4_withComplaint 1 = .ok (.lstore 4, 2) := by decide +kernel
theorem dX4_withComplaint_3 : decode cX4_withComplaint 3 = .ok (.iconst 0, 1) := by decide +kernel
theorem dX4_withComplaint_4 : decode cX4_withComplaint 4 = .ok (.istore 6, 2) := by decide +kernel
theorem dX4_withComplaint_6 : decode cX4_withComplaint 6 = .ok (.iload 6, 2) := by decide +kernel
theorem dX4_withComplaint_8 : decode cX4_withComplaint 8 = .ok (.bipush 10, 2) := by decide +kernel
theorem dX4_withComplaint_10 : decode cX4_withComplaint 10 = .ok (.if_icmp .gt 26, 3) := by decide +kernel
theorem dX4_withComplaint_13 : decode cX4_withComplaint 13 = .ok (.ldc2_w 252, 3) := by decide +kernel
theorem dX4_withComplaint_16 : decode cX4_withComplaint 16 = .ok (.lload 4, 2) := by decide +kernel
theorem dX4_withComplaint_18 : decode cX4_withComplaint 18 = .ok (.lmul, 1) := by decide +kernel
theorem dX4_withComplaint_19 : decode cX4_withComplaint 19 = .ok (.aload_n 0, 1) := by decide +kernel
theorem dX4_withComplaint_20 : decode cX4_withComplaint 20 = .ok (.iload_n 3, 1) := by decide +kernel
theorem dX4_withComplaint_21 : decode cX4_withComplaint 21 = .ok (.iload 6, 2) := by decide +kernel
theorem dX4_withComplaint_23 : decode cX4_withComplaint 23 = .ok (.invokevirtual 303, 3) := by decide +kernel
theorem dX4_withComplaint_26 : decode cX4_withComplaint 26 = .ok (.i2l, 1) := by decide +kernel
theorem dX4_withComplaint_27 : decode cX4_withComplaint 27 = .ok (.ladd, 1) := by decide +kernel
theorem dX4_withComplaint_28 : decode cX4_withComplaint 28 = .ok (.lstore 4, 2) := by decide +kernel
theorem dX4_withComplaint_30 : decode cX4_withComplaint 30 = .ok (.iinc 6 1, 3) := by decide +kernel
theorem dX4_withComplaint_33 : decode cX4_withComplaint 33 = .ok (.goto (-27), 3) := by decide +kernel
theorem dX4_withComplaint_36 : decode cX4_withComplaint 36 = .ok (.lload 4, 2) := by decide +kernel
theorem dX4_withComplaint_38 : decode cX4_withComplaint 38 = .ok (.lreturn, 1) := by decide +kernel
theorem dX4_bitsOf_0 : decode cX4_bitsOf 0 = .ok (.dload_n 0, 1) := by decide +kernel
theorem dX4_bitsOf_1 : decode cX4_bitsOf 1 = .ok (.dconst 0, 1) := by decide +kernel
theorem dX4_bitsOf_2 : decode cX4_bitsOf 2 = .ok (.dcmp .g, 1) := by decide +kernel
theorem dX4_bitsOf_3 : decode cX4_bitsOf 3 = .ok (.ifCond .gt 5, 3) := by decide +kernel
theorem dX4_bitsOf_6 : decode cX4_bitsOf 6 = .ok (.lconst 0, 1) := by decide +kernel
theorem dX4_bitsOf_7 : decode cX4_bitsOf 7 = .ok (.lreturn, 1) := by decide +kernel
theorem dX4_bitsOf_8 : decode cX4_bitsOf 8 = .ok (.dload_n 0, 1) := by decide +kernel
theorem dX4_bitsOf_9 : decode cX4_bitsOf 9 = .ok (.dstore_n 2, 1) := by decide +kernel
theorem dX4_bitsOf_10 : decode cX4_bitsOf 10 = .ok (.ldc2_w 306, 3) := by decide +kernel
theorem dX4_bitsOf_13 : decode cX4_bitsOf 13 = .ok (.lstore 4, 2) := by decide +kernel
theorem dX4_bitsOf_15 : decode cX4_bitsOf 15 = .ok (.iconst 0, 1) := by decide +kernel
theorem dX4_bitsOf_16 : decode cX4_bitsOf 16 = .ok (.istore 6, 2) := by decide +kernel
theorem dX4_bitsOf_18 : decode cX4_bitsOf 18 = .ok (.iload 6, 2) := by decide +kernel
theorem dX4_bitsOf_20 : decode cX4_bitsOf 20 = .ok (.bipush 60, 2) := by decide +kernel
theorem dX4_bitsOf_22 : decode cX4_bitsOf 22 = .ok (.if_icmp .ge 27, 3) := by decide +kernel
theorem dX4_bitsOf_25 : decode cX4_bitsOf 25 = .ok (.dload_n 2, 1) := by decide +kernel
theorem dX4_bitsOf_26 : decode cX4_bitsOf 26 = .ok (.dconst 1, 1) := by decide +kernel
theorem dX4_bitsOf_27 : decode cX4_bitsOf 27 = .ok (.dcmp .g, 1) := by decide +kernel
theorem dX4_bitsOf_28 : decode cX4_bitsOf 28 = .ok (.ifCond .ge 21, 3) := by decide +kernel
theorem dX4_bitsOf_31 : decode cX4_bitsOf 31 = .ok (.dload_n 2, 1) := by decide +kernel
theorem dX4_bitsOf_32 : decode cX4_bitsOf 32 = .ok (.ldc2_w 308, 3) := by decide +kernel
theorem dX4_bitsOf_35 : decode cX4_bitsOf 35 = .ok (.dmul, 1) := by decide +kernel
theorem dX4_bitsOf_36 : decode cX4_bitsOf 36 = .ok (.dstore_n 2, 1) := by decide +kernel
theorem dX4_bitsOf_37 : decode cX4_bitsOf 37 = .ok (.lload 4, 2) := by decide +kernel
theorem dX4_bitsOf_39 : decode cX4_bitsOf 39 = .ok (.lconst 1, 1) := by decide +kernel
theorem dX4_bitsOf_40 : decode cX4_bitsOf 40 = .ok (.lsub, 1) := by decide +kernel
theorem dX4_bitsOf_41 : decode cX4_bitsOf 41 = .ok (.lstore 4, 2) := by decide +kernel
theorem dX4_bitsOf_43 : decode cX4_bitsOf 43 = .ok (.iinc 6 1, 3) := by decide +kernel
theorem dX4_bitsOf_46 : decode cX4_bitsOf 46 = .ok (.goto (-28), 3) := by decide +kernel
theorem dX4_bitsOf_49 : decode cX4_bitsOf 49 = .ok (.dload_n 2, 1) := by decide +kernel
theorem dX4_bitsOf_50 : decode cX4_bitsOf 50 = .ok (.dconst 1, 1) := by decide +kernel
theorem dX4_bitsOf_51 : decode cX4_bitsOf 51 = .ok (.dsub, 1) := by decide +kernel
theorem dX4_bitsOf_52 : decode cX4_bitsOf 52 = .ok (.ldc2_w 310, 3) := by decide +kernel
theorem dX4_bitsOf_55 : decode cX4_bitsOf 55 = .ok (.dmul, 1) := by decide +kernel
theorem dX4_bitsOf_56 : decode cX4_bitsOf 56 = .ok (.dstore 6, 2) := by decide +kernel
theorem dX4_bitsOf_58 : decode cX4_bitsOf 58 = .ok (.lload 4, 2) := by decide +kernel
theorem dX4_bitsOf_60 : decode cX4_bitsOf 60 = .ok (.bipush 52, 2) := by decide +kernel
theorem dX4_bitsOf_62 : decode cX4_bitsOf 62 = .ok (.lshl, 1) := by decide +kernel
theorem dX4_bitsOf_63 : decode cX4_bitsOf 63 = .ok (.dload 6, 2) := by decide +kernel
theorem dX4_bitsOf_65 : decode cX4_bitsOf 65 = .ok (.d2l, 1) := by decide +kernel
theorem dX4_bitsOf_66 : decode cX4_bitsOf 66 = .ok (.lor, 1) := by decide +kernel
theorem dX4_bitsOf_67 : decode cX4_bitsOf 67 = .ok (.lreturn, 1) := by decide +kernel
theorem dX4_withBuffer_0 : decode cX4_withBuffer 0 = .ok (.ldc2_w 252, 3) := by decide +kernel
theorem dX4_withBuffer_3 : decode cX4_withBuffer 3 = .ok (.lload_n 1, 1) := by decide +kernel
theorem dX4_withBuffer_4 : decode cX4_withBuffer 4 = .ok (.lmul, 1) := by decide +kernel
theorem dX4_withBuffer_5 : decode cX4_withBuffer 5 = .ok (.aload_n 0, 1) := by decide +kernel
theorem dX4_withBuffer_6 : decode cX4_withBuffer 6 = .ok (.getfield 132, 3) := by decide +kernel
theorem dX4_withBuffer_9 : decode cX4_withBuffer 9 = .ok (.i2l, 1) := by decide +kernel
theorem dX4_withBuffer_10 : decode cX4_withBuffer 10 = .ok (.ladd, 1) := by decide +kernel
theorem dX4_withBuffer_11 : decode cX4_withBuffer 11 = .ok (.lstore_n 3, 1) := by decide +kernel
theorem dX4_withBuffer_12 : decode cX4_withBuffer 12 = .ok (.iconst 0, 1) := by decide +kernel
theorem dX4_withBuffer_13 : decode cX4_withBuffer 13 = .ok (.istore 5, 2) := by decide +kernel
theorem dX4_withBuffer_15 : decode cX4_withBuffer 15 = .ok (.iload 5, 2) := by decide +kernel
theorem dX4_withBuffer_17 : decode cX4_withBuffer 17 = .ok (.aload_n 0, 1) := by decide +kernel
theorem dX4_withBuffer_18 : decode cX4_withBuffer 18 = .ok (.getfield 132, 3) := by decide +kernel
theorem dX4_withBuffer_21 : decode cX4_withBuffer 21 = .ok (.if_icmp .ge 23, 3) := by decide +kernel
theorem dX4_withBuffer_24 : decode cX4_withBuffer 24 = .ok (.ldc2_w 252, 3) := by decide +kernel
theorem dX4_withBuffer_27 : decode cX4_withBuffer 27 = .ok (.lload_n 3, 1) := by decide +kernel
theorem dX4_withBuffer_28 : decode cX4_withBuffer 28 = .ok (.lmul, 1) := by decide +kernel
theorem dX4_withBuffer_29 : decode cX4_withBuffer 29 = .ok (.aload_n 0, 1) := by decide +kernel
theorem dX4_withBuffer_30 : decode cX4_withBuffer 30 = .ok (.iload 5, 2) := by decide +kernel
theorem dX4_withBuffer_32 : decode cX4_withBuffer 32 = .ok (.invokevirtual 135, 3) := by decide +kernel
theorem dX4_withBuffer_35 : decode cX4_withBuffer 35 = .ok (.i2l, 1) := by decide +kernel
theorem dX4_withBuffer_36 : decode cX4_withBuffer 36 = .ok (.ladd, 1) := by decide +kernel
theorem dX4_withBuffer_37 : decode cX4_withBuffer 37 = .ok (.lstore_n 3, 1) := by decide +kernel
theorem dX4_withBuffer_38 : decode cX4_withBuffer 38 = .ok (.iinc 5 1, 3) := by decide +kernel
theorem dX4_withBuffer_41 : decode cX4_withBuffer 41 = .ok (.goto (-26), 3) := by decide +kernel
theorem dX4_withBuffer_44 : decode cX4_withBuffer 44 = .ok (.lload_n 3, 1) := by decide +kernel
theorem dX4_withBuffer_45 : decode cX4_withBuffer 45 = .ok (.lreturn, 1) := by decide +kernel
theorem dX4_digest_0 : decode cX4_digest 0 = .ok (.ldc2_w 250, 3) := by decide +kernel
theorem dX4_digest_3 : decode cX4_digest 3 = .ok (.lstore_n 1, 1) := by decide +kernel
theorem dX4_digest_4 : decode cX4_digest 4 = .ok (.iconst 0, 1) := by decide +kernel
theorem dX4_digest_5 : decode cX4_digest 5 = .ok (.istore_n 3, 1) := by decide +kernel
theorem dX4_digest_6 : decode cX4_digest 6 = .ok (.iload_n 3, 1) := by decide +kernel
theorem dX4_digest_7 : decode cX4_digest 7 = .ok (.bipush 11, 2) := by decide +kernel
theorem dX4_digest_9 : decode cX4_digest 9 = .ok (.if_icmp .gt 22, 3) := by decide +kernel
theorem dX4_digest_12 : decode cX4_digest 12 = .ok (.ldc2_w 252, 3) := by decide +kernel
theorem dX4_digest_15 : decode cX4_digest 15 = .ok (.lload_n 1, 1) := by decide +kernel
theorem dX4_digest_16 : decode cX4_digest 16 = .ok (.lmul, 1) := by decide +kernel
theorem dX4_digest_17 : decode cX4_digest 17 = .ok (.aload_n 0, 1) := by decide +kernel
theorem dX4_digest_18 : decode cX4_digest 18 = .ok (.iload_n 3, 1) := by decide +kernel
theorem dX4_digest_19 : decode cX4_digest 19 = .ok (.invokevirtual 254, 3) := by decide +kernel
theorem dX4_digest_22 : decode cX4_digest 22 = .ok (.i2l, 1) := by decide +kernel
theorem dX4_digest_23 : decode cX4_digest 23 = .ok (.ladd, 1) := by decide +kernel
theorem dX4_digest_24 : decode cX4_digest 24 = .ok (.lstore_n 1, 1) := by decide +kernel
theorem dX4_digest_25 : decode cX4_digest 25 = .ok (.iinc 3 1, 3) := by decide +kernel
theorem dX4_digest_28 : decode cX4_digest 28 = .ok (.goto (-22), 3) := by decide +kernel
theorem dX4_digest_31 : decode cX4_digest 31 = .ok (.iconst 0, 1) := by decide +kernel
theorem dX4_digest_32 : decode cX4_digest 32 = .ok (.istore_n 3, 1) := by decide +kernel
theorem dX4_digest_33 : decode cX4_digest 33 = .ok (.iload_n 3, 1) := by decide +kernel
theorem dX4_digest_34 : decode cX4_digest 34 = .ok (.iconst 3, 1) := by decide +kernel
theorem dX4_digest_35 : decode cX4_digest 35 = .ok (.if_icmp .ge 22, 3) := by decide +kernel
theorem dX4_digest_38 : decode cX4_digest 38 = .ok (.ldc2_w 252, 3) := by decide +kernel
theorem dX4_digest_41 : decode cX4_digest 41 = .ok (.lload_n 1, 1) := by decide +kernel
theorem dX4_digest_42 : decode cX4_digest 42 = .ok (.lmul, 1) := by decide +kernel
theorem dX4_digest_43 : decode cX4_digest 43 = .ok (.aload_n 0, 1) := by decide +kernel
theorem dX4_digest_44 : decode cX4_digest 44 = .ok (.iload_n 3, 1) := by decide +kernel
theorem dX4_digest_45 : decode cX4_digest 45 = .ok (.invokevirtual 257, 3) := by decide +kernel
theorem dX4_digest_48 : decode cX4_digest 48 = .ok (.i2l, 1) := by decide +kernel
theorem dX4_digest_49 : decode cX4_digest 49 = .ok (.ladd, 1) := by decide +kernel
theorem dX4_digest_50 : decode cX4_digest 50 = .ok (.lstore_n 1, 1) := by decide +kernel
theorem dX4_digest_51 : decode cX4_digest 51 = .ok (.iinc 3 1, 3) := by decide +kernel
theorem dX4_digest_54 : decode cX4_digest 54 = .ok (.goto (-21), 3) := by decide +kernel
theorem dX4_digest_57 : decode cX4_digest 57 = .ok (.iconst 0, 1) := by decide +kernel
theorem dX4_digest_58 : decode cX4_digest 58 = .ok (.istore_n 3, 1) := by decide +kernel
theorem dX4_digest_59 : decode cX4_digest 59 = .ok (.iload_n 3, 1) := by decide +kernel
theorem dX4_digest_60 : decode cX4_digest 60 = .ok (.iconst 4, 1) := by decide +kernel
theorem dX4_digest_61 : decode cX4_digest 61 = .ok (.if_icmp .ge 16, 3) := by decide +kernel
theorem dX4_digest_64 : decode cX4_digest 64 = .ok (.aload_n 0, 1) := by decide +kernel
theorem dX4_digest_65 : decode cX4_digest 65 = .ok (.lload_n 1, 1) := by decide +kernel
theorem dX4_digest_66 : decode cX4_digest 66 = .ok (.iload_n 3, 1) := by decide +kernel
theorem dX4_digest_67 : decode cX4_digest 67 = .ok (.invokevirtual 260, 3) := by decide +kernel
theorem dX4_digest_70 : decode cX4_digest 70 = .ok (.lstore_n 1, 1) := by decide +kernel
theorem dX4_digest_71 : decode cX4_digest 71 = .ok (.iinc 3 1, 3) := by decide +kernel
theorem dX4_digest_74 : decode cX4_digest 74 = .ok (.goto (-15), 3) := by decide +kernel
theorem dX4_digest_77 : decode cX4_digest 77 = .ok (.iconst 0, 1) := by decide +kernel
theorem dX4_digest_78 : decode cX4_digest 78 = .ok (.istore_n 3, 1) := by decide +kernel
theorem dX4_digest_79 : decode cX4_digest 79 = .ok (.iload_n 3, 1) := by decide +kernel
theorem dX4_digest_80 : decode cX4_digest 80 = .ok (.aload_n 0, 1) := by decide +kernel
theorem dX4_digest_81 : decode cX4_digest 81 = .ok (.getfield 10, 3) := by decide +kernel
theorem dX4_digest_84 : decode cX4_digest 84 = .ok (.getfield 88, 3) := by decide +kernel
theorem dX4_digest_87 : decode cX4_digest 87 = .ok (.getfield 92, 3) := by decide +kernel
theorem dX4_digest_90 : decode cX4_digest 90 = .ok (.if_icmp .ge 75, 3) := by decide +kernel
theorem dX4_digest_93 : decode cX4_digest 93 = .ok (.aload_n 0, 1) := by decide +kernel
theorem dX4_digest_94 : decode cX4_digest 94 = .ok (.lload_n 1, 1) := by decide +kernel
theorem dX4_digest_95 : decode cX4_digest 95 = .ok (.iload_n 3, 1) := by decide +kernel
theorem dX4_digest_96 : decode cX4_digest 96 = .ok (.invokevirtual 264, 3) := by decide +kernel
theorem dX4_digest_99 : decode cX4_digest 99 = .ok (.lstore_n 1, 1) := by decide +kernel
theorem dX4_digest_100 : decode cX4_digest 100 = .ok (.ldc2_w 252, 3) := by decide +kernel
theorem dX4_digest_103 : decode cX4_digest 103 = .ok (.lload_n 1, 1) := by decide +kernel
theorem dX4_digest_104 : decode cX4_digest 104 = .ok (.lmul, 1) := by decide +kernel
theorem dX4_digest_105 : decode cX4_digest 105 = .ok (.aload_n 0, 1) := by decide +kernel
theorem dX4_digest_106 : decode cX4_digest 106 = .ok (.iload_n 3, 1) := by decide +kernel
theorem dX4_digest_107 : decode cX4_digest 107 = .ok (.invokevirtual 267, 3) := by decide +kernel
theorem dX4_digest_110 : decode cX4_digest 110 = .ok (.i2l, 1) := by decide +kernel
theorem dX4_digest_111 : decode cX4_digest 111 = .ok (.ladd, 1) := by decide +kernel
theorem dX4_digest_112 : decode cX4_digest 112 = .ok (.lstore_n 1, 1) := by decide +kernel
theorem dX4_digest_113 : decode cX4_digest 113 = .ok (.ldc2_w 252, 3) := by decide +kernel
theorem dX4_digest_116 : decode cX4_digest 116 = .ok (.lload_n 1, 1) := by decide +kernel
theorem dX4_digest_117 : decode cX4_digest 117 = .ok (.lmul, 1) := by decide +kernel
theorem dX4_digest_118 : decode cX4_digest 118 = .ok (.aload_n 0, 1) := by decide +kernel
theorem dX4_digest_119 : decode cX4_digest 119 = .ok (.iload_n 3, 1) := by decide +kernel
theorem dX4_digest_120 : decode cX4_digest 120 = .ok (.iconst 0, 1) := by decide +kernel
theorem dX4_digest_121 : decode cX4_digest 121 = .ok (.iconst 0, 1) := by decide +kernel
theorem dX4_digest_122 : decode cX4_digest 122 = .ok (.invokevirtual 270, 3) := by decide +kernel
theorem dX4_digest_125 : decode cX4_digest 125 = .ok (.i2l, 1) := by decide +kernel
theorem dX4_digest_126 : decode cX4_digest 126 = .ok (.ladd, 1) := by decide +kernel
theorem dX4_digest_127 : decode cX4_digest 127 = .ok (.lstore_n 1, 1) := by decide +kernel
theorem dX4_digest_128 : decode cX4_digest 128 = .ok (.iconst 0, 1) := by decide +kernel
theorem dX4_digest_129 : decode cX4_digest 129 = .ok (.istore 4, 2) := by decide +kernel
theorem dX4_digest_131 : decode cX4_digest 131 = .ok (.iload 4, 2) := by decide +kernel
theorem dX4_digest_133 : decode cX4_digest 133 = .ok (.iconst 3, 1) := by decide +kernel
theorem dX4_digest_134 : decode cX4_digest 134 = .ok (.if_icmp .gt 25, 3) := by decide +kernel
theorem dX4_digest_137 : decode cX4_digest 137 = .ok (.ldc2_w 252, 3) := by decide +kernel
theorem dX4_digest_140 : decode cX4_digest 140 = .ok (.lload_n 1, 1) := by decide +kernel
theorem dX4_digest_141 : decode cX4_digest 141 = .ok (.lmul, 1) := by decide +kernel
theorem dX4_digest_142 : decode cX4_digest 142 = .ok (.aload_n 0, 1) := by decide +kernel
theorem dX4_digest_143 : decode cX4_digest 143 = .ok (.iload_n 3, 1) := by decide +kernel
theorem dX4_digest_144 : decode cX4_digest 144 = .ok (.iconst 1, 1) := by decide +kernel
theorem dX4_digest_145 : decode cX4_digest 145 = .ok (.iload 4, 2) := by decide +kernel
theorem dX4_digest_147 : decode cX4_digest 147 = .ok (.invokevirtual 273, 3) := by decide +kernel
theorem dX4_digest_150 : decode cX4_digest 150 = .ok (.i2l, 1) := by decide +kernel
theorem dX4_digest_151 : decode cX4_digest 151 = .ok (.ladd, 1) := by decide +kernel
theorem dX4_digest_152 : decode cX4_digest 152 = .ok (.lstore_n 1, 1) := by decide +kernel
theorem dX4_digest_153 : decode cX4_digest 153 = .ok (.iinc 4 1, 3) := by decide +kernel
theorem dX4_digest_156 : decode cX4_digest 156 = .ok (.goto (-25), 3) := by decide +kernel
theorem dX4_digest_159 : decode cX4_digest 159 = .ok (.iinc 3 1, 3) := by decide +kernel
theorem dX4_digest_162 : decode cX4_digest 162 = .ok (.goto (-83), 3) := by decide +kernel
theorem dX4_digest_165 : decode cX4_digest 165 = .ok (.iconst 0, 1) := by decide +kernel
theorem dX4_digest_166 : decode cX4_digest 166 = .ok (.istore_n 3, 1) := by decide +kernel
theorem dX4_digest_167 : decode cX4_digest 167 = .ok (.iload_n 3, 1) := by decide +kernel
theorem dX4_digest_168 : decode cX4_digest 168 = .ok (.bipush 10, 2) := by decide +kernel
theorem dX4_digest_170 : decode cX4_digest 170 = .ok (.if_icmp .ge 23, 3) := by decide +kernel
theorem dX4_digest_173 : decode cX4_digest 173 = .ok (.ldc2_w 252, 3) := by decide +kernel
theorem dX4_digest_176 : decode cX4_digest 176 = .ok (.lload_n 1, 1) := by decide +kernel
theorem dX4_digest_177 : decode cX4_digest 177 = .ok (.lmul, 1) := by decide +kernel
theorem dX4_digest_178 : decode cX4_digest 178 = .ok (.aload_n 0, 1) := by decide +kernel
theorem dX4_digest_179 : decode cX4_digest 179 = .ok (.iload_n 3, 1) := by decide +kernel
theorem dX4_digest_180 : decode cX4_digest 180 = .ok (.iconst 0, 1) := by decide +kernel
theorem dX4_digest_181 : decode cX4_digest 181 = .ok (.invokevirtual 276, 3) := by decide +kernel
theorem dX4_digest_184 : decode cX4_digest 184 = .ok (.i2l, 1) := by decide +kernel
theorem dX4_digest_185 : decode cX4_digest 185 = .ok (.ladd, 1) := by decide +kernel
theorem dX4_digest_186 : decode cX4_digest 186 = .ok (.lstore_n 1, 1) := by decide +kernel
theorem dX4_digest_187 : decode cX4_digest 187 = .ok (.iinc 3 1, 3) := by decide +kernel
theorem dX4_digest_190 : decode cX4_digest 190 = .ok (.goto (-23), 3) := by decide +kernel
theorem dX4_digest_193 : decode cX4_digest 193 = .ok (.ldc2_w 252, 3) := by decide +kernel
theorem dX4_digest_196 : decode cX4_digest 196 = .ok (.lload_n 1, 1) := by decide +kernel
theorem dX4_digest_197 : decode cX4_digest 197 = .ok (.lmul, 1) := by decide +kernel
theorem dX4_digest_198 : decode cX4_digest 198 = .ok (.aload_n 0, 1) := by decide +kernel
theorem dX4_digest_199 : decode cX4_digest 199 = .ok (.invokevirtual 279, 3) := by decide +kernel
theorem dX4_digest_202 : decode cX4_digest 202 = .ok (.i2l, 1) := by decide +kernel
theorem dX4_digest_203 : decode cX4_digest 203 = .ok (.ladd, 1) := by decide +kernel
theorem dX4_digest_204 : decode cX4_digest 204 = .ok (.lstore_n 1, 1) := by decide +kernel
theorem dX4_digest_205 : decode cX4_digest 205 = .ok (.ldc2_w 252, 3) := by decide +kernel
theorem dX4_digest_208 : decode cX4_digest 208 = .ok (.lload_n 1, 1) := by decide +kernel
theorem dX4_digest_209 : decode cX4_digest 209 = .ok (.lmul, 1) := by decide +kernel
theorem dX4_digest_210 : decode cX4_digest 210 = .ok (.aload_n 0, 1) := by decide +kernel
theorem dX4_digest_211 : decode cX4_digest 211 = .ok (.invokevirtual 282, 3) := by decide +kernel
theorem dX4_digest_214 : decode cX4_digest 214 = .ok (.invokestatic 286, 3) := by decide +kernel
theorem dX4_digest_217 : decode cX4_digest 217 = .ok (.ladd, 1) := by decide +kernel
theorem dX4_digest_218 : decode cX4_digest 218 = .ok (.lstore_n 1, 1) := by decide +kernel
theorem dX4_digest_219 : decode cX4_digest 219 = .ok (.aload_n 0, 1) := by decide +kernel
theorem dX4_digest_220 : decode cX4_digest 220 = .ok (.lload_n 1, 1) := by decide +kernel
theorem dX4_digest_221 : decode cX4_digest 221 = .ok (.invokevirtual 290, 3) := by decide +kernel
theorem dX4_digest_224 : decode cX4_digest 224 = .ok (.lreturn, 1) := by decide +kernel
def f_X4_save_21 (x21 : XS) : Option (XS) :=
    (some (ux x21 0 4 (((x21 0 4) + 1) - ((x21 0 4) + 1) / 6 * 6))).bind fun x31 =>
    if (6 ≤ (x31 0 3) : Prop) then
      some x31
    else
      ((some (ux x31 0 3 ((x31 0 3) + 1))).bind fun x50 =>
      some x50)
def f_X4_save (x : XS) : Option (XS) :=
    (f_X4_savedAt (x 0 4)).bind fun v5 =>
    (f_X3_copyFrom v5 1 x).bind fun x18 =>
    f_X4_save_21 x18
set_option maxRecDepth 100000 in
set_option maxHeartbeats 4000000 in
theorem p_X4_save (l : Launch) (E : TE) (x m : XS) (g o : Int64) {xr : XS} (hf : f_X4_save x = some xr) : MG l E yX4_save cX4_save 2 none 5 [rf E 0] (Wd E x m g o) (Wd E xr m g o) none := by
  unfold f_X4_save at hf
  refine m_in (by decide) (Nat.le_of_ble_eq_true rfl) ?_
  intro p e s mi args below meth c H ls hx hb hr hlk hml hown hB hK hW hS hl
  have hl : lv_has ls 2 [(0, rf E 0)] := hl
  have J21 : ∀ (x21 : XS) (H : Heap) (locs : List Loc) (ls : Array Slot), f_X4_save_21 x21 = some xr → Wd E x21 m g o H → va_S (Ah E) s.heap H locs → lv_has ls 2 [(0, rf E 0)] → W p l e (rmH 5) s mi args below meth c H locs 0 0 (EQ E below args s (Wd E xr m g o) none) (F0 mi 21 ls []) := by
    intro x21 H locs ls hf hW hS hl
    unfold f_X4_save_21 at hf
    refine lv_aload_n hx hb dX4_save_21 rfl (lv_at hl 0 rfl) ?_
    refine lv_aload_n hx hb dX4_save_22 rfl (lv_at hl 0 rfl) ?_
    refine gf_X4_150 hx hb hB hK hown hW dX4_save_23 ?_
    refine lv_iconst (v := 1) hx hb dX4_save_26 (by decide) ?_
    refine lv_iadd hx hb dX4_save_27 ?_
    refine lv_bipush (v := 6) hx hb dX4_save_28 (by decide) ?_
    refine lv_irem hx hb dX4_save_30 (by decide) ?_
    obtain ⟨x31, e31, hf⟩ := ob hf
    refine pf_X4_150 hx hb hB hK hown hW hS e31 dX4_save_31 (fun H locs hW hS => ?_)
    refine lv_aload_n hx hb dX4_save_34 rfl (lv_at hl 0 rfl) ?_
    refine gf_X4_147 hx hb hB hK hown hW dX4_save_35 ?_
    refine lv_bipush (v := 6) hx hb dX4_save_38 (by decide) ?_
    refine lv_icmp_ge (tgt := 53) hx hb dX4_save_40 (by decide) (fun c40 => ?_) (fun c40 => ?_)
    · rw [if_pos c40] at hf
      cases hf
      exact e_v hx hb hr hlk hW hS dX4_save_53
    · rw [if_neg c40] at hf
      refine lv_aload_n hx hb dX4_save_43 rfl (lv_at hl 0 rfl) ?_
      refine lv_dup hx hb dX4_save_44 rfl ?_
      refine gf_X4_147 hx hb hB hK hown hW dX4_save_45 ?_
      refine lv_iconst (v := 1) hx hb dX4_save_48 (by decide) ?_
      refine lv_iadd hx hb dX4_save_49 ?_
      obtain ⟨x50, e50, hf⟩ := ob hf
      refine pf_X4_147 hx hb hB hK hown hW hS e50 dX4_save_50 (fun H locs hW hS => ?_)
      cases hf
      exact e_v hx hb hr hlk hW hS dX4_save_53
  refine lv_aload_n hx hb dX4_save_0 rfl (lv_at hl 0 rfl) ?_
  refine lv_aload_n hx hb dX4_save_1 rfl (lv_at hl 0 rfl) ?_
  refine gf_X4_150 hx hb hB hK hown hW dX4_save_2 ?_
  obtain ⟨v5, e5, hf⟩ := ob2 hf
  refine c_V (As := [.int (x 0 4)]) (st1 := [rf E v5]) (rest := []) (p_X4_savedAt l E x m g o e5) (kc_X4_153 hB ⟨Nat.le_of_ble_eq_true rfl, Nat.le_of_ble_eq_true rfl⟩) (Wd.rec hK hW (by decide) cX_0 (ci := 4) rfl) hx hb hml hown hB hK hW hS ⟨Nat.zero_le _, Nat.zero_le _⟩ rfl hl.1 rfl (Nat.le_of_ble_eq_true rfl) rfl dX4_save_5 (fun H locs hW hS => ?_)
  have hB_v5 := f_X4_savedAt_B e5
  refine lv_astore_n (lv' := [(1, rf E v5), (0, rf E 0)]) hx hb dX4_save_8 rfl hl (by decide) rfl (fun ls hl => ?_)
  refine lv_aload_n hx hb dX4_save_9 rfl (lv_at hl 0 rfl) ?_
  refine lv_ifnull hx hb dX4_save_10 ?_
  refine lv_aload_n hx hb dX4_save_13 rfl (lv_at hl 0 rfl) ?_
  refine lv_aload_n hx hb dX4_save_14 rfl (lv_at hl 1 rfl) ?_
  refine gf_X4_10 hx hb hB hK hown hW dX4_save_15 ?_
  obtain ⟨x18, e18, hf⟩ := ob2 hf
  refine c_V (As := [rf E 1]) (st1 := []) (rest := []) (p_X3_copyFrom l E hB_v5 IsB1 x m g o e18) (kc_X4_157 hB ⟨Nat.le_of_ble_eq_true rfl, Nat.le_of_ble_eq_true rfl⟩) (Wd.rec hK hW hB_v5.l0 (cB_0 hB_v5) (ci := 3) rfl) hx hb hml hown hB hK hW hS ⟨Nat.zero_le _, Nat.zero_le _⟩ rfl hl.1 rfl (Nat.le_of_ble_eq_true rfl) rfl dX4_save_18 (fun H locs hW hS => ?_)
  exact J21 x18 _ _ _ hf hW hS (lv_sub hl [1] rfl)
def f_X4_offer_60 (x60 : XS) (l1_60 : Int32) (l2_60 : Int32) (l3_60 : Int32) (l4_60 : Int32) (t0_60 : Int32) : Option (Int32 × XS) :=
    (f_X4_requireState t0_60).bind fun _ =>
    (f_X4_save x60).bind fun x64 =>
    (f_X1_add 1 x64 l1_60 l2_60 l3_60 l4_60).bind fun q79 => (fun v79 x79 =>
    some (v79, x79)) q79.1 q79.2
def f_X4_offer (x : XS) (a0 : Int32) (a1 : Int32) (a2 : Int32) (a3 : Int32) : Option (Int32 × XS) :=
    (f_X4_isKind a0).bind fun v1 =>
    (f_X4_requireIndex v1).bind fun _ =>
    (f_X4_isWithin a1 0 999).bind fun v12 =>
    (f_X4_requireArgument v12).bind fun _ =>
    (f_X4_isWithin a2 1 9).bind fun v22 =>
    (f_X4_requireArgument v22).bind fun _ =>
    (f_X4_isWithin a3 a2 9).bind fun v33 =>
    (f_X4_requireArgument v33).bind fun _ =>
    (f_X1_sizeOf 1 x a0).bind fun v47 =>
    if (6 ≤ v47 : Prop) then
      f_X4_offer_60 x a0 a1 a2 a3 0
    else
      f_X4_offer_60 x a0 a1 a2 a3 1
set_option maxRecDepth 100000 in
set_option maxHeartbeats 4000000 in
theorem p_X4_offer (l : Launch) (E : TE) (x m : XS) (g o : Int64) {a0 : Int32} {a1 : Int32} {a2 : Int32} {a3 : Int32} {r : Int32} {xr : XS} (hf : f_X4_offer x a0 a1 a2 a3 = some (r, xr)) : MG l E yX4_offer cX4_offer 5 (some .int) 6 [rf E 0, .int a0, .int a1, .int a2, .int a3] (Wd E x m g o) (Wd E xr m g o) (some (.int r)) := by
  unfold f_X4_offer at hf
  refine m_in (by decide) (Nat.le_of_ble_eq_true rfl) ?_
  intro p e s mi args below meth c H ls hx hb hr hlk hml hown hB hK hW hS hl
  have hl : lv_has ls 5 [(0, rf E 0), (1, .int a0), (2, .int a1), (3, .int a2), (4, .int a3)] := hl
  have J60 : ∀ (x60 : XS) (l1_60 : Int32) (l2_60 : Int32) (l3_60 : Int32) (l4_60 : Int32) (t0_60 : Int32) (H : Heap) (locs : List Loc) (ls : Array Slot), f_X4_offer_60 x60 l1_60 l2_60 l3_60 l4_60 t0_60 = some (r, xr) → Wd E x60 m g o H → va_S (Ah E) s.heap H locs → lv_has ls 5 [(0, rf E 0), (1, .int l1_60), (2, .int l2_60), (3, .int l3_60), (4, .int l4_60)] → W p l e (rmH 6) s mi args below meth c H locs 0 0 (EQ E below args s (Wd E xr m g o) (some (.int r))) (F0 mi 60 ls [.int t0_60]) := by
    intro x60 l1_60 l2_60 l3_60 l4_60 t0_60 H locs ls hf hW hS hl
    unfold f_X4_offer_60 at hf
    obtain ⟨u60, e60, hf⟩ := ob2 hf
    refine c_S (As := [.int t0_60]) (st1 := []) (rest := []) (p_X4_requireState l E x60 m g o e60) (kc_X4_52 hB ⟨Nat.le_of_ble_eq_true rfl, Nat.le_of_ble_eq_true rfl⟩) hx hb hml hown hB hK hW hS ⟨Nat.zero_le _, Nat.zero_le _⟩ rfl hl.1 rfl (Nat.le_of_ble_eq_true rfl) rfl dX4_offer_60 (fun H locs hW hS => ?_)
    refine lv_aload_n hx hb dX4_offer_63 rfl (lv_at hl 0 rfl) ?_
    obtain ⟨x64, e64, hf⟩ := ob2 hf
    refine c_V (As := []) (st1 := []) (rest := []) (p_X4_save l E x60 m g o e64) (kc_X4_55 hB ⟨Nat.le_of_ble_eq_true rfl, Nat.le_of_ble_eq_true rfl⟩) (Wd.rec hK hW (by decide) cX_0 (ci := 4) rfl) hx hb hml hown hB hK hW hS ⟨Nat.zero_le _, Nat.zero_le _⟩ rfl hl.1 rfl (Nat.le_of_ble_eq_true rfl) rfl dX4_offer_64 (fun H locs hW hS => ?_)
    refine lv_aload_n hx hb dX4_offer_67 rfl (lv_at hl 0 rfl) ?_
    refine gf_X4_10 hx hb hB hK hown hW dX4_offer_68 ?_
    refine gf_X4_42 hx hb hB hK hown hW IsB1 dX4_offer_71 ?_
    refine lv_iload_n hx hb dX4_offer_74 rfl (lv_at hl 1 rfl) ?_
    refine lv_iload_n hx hb dX4_offer_75 rfl (lv_at hl 2 rfl) ?_
    refine lv_iload_n hx hb dX4_offer_76 rfl (lv_at hl 3 rfl) ?_
    refine lv_iload hx hb dX4_offer_77 (lv_at hl 4 rfl) ?_
    obtain ⟨⟨v79, x79⟩, e79, hf⟩ := ob2 hf
    dsimp only at hf
    refine c_V (As := [.int l1_60, .int l2_60, .int l3_60, .int l4_60]) (st1 := [.int v79]) (rest := []) (p_X1_add l E IsB1 x64 m g o e79) (kc_X4_58 hB ⟨Nat.le_of_ble_eq_true rfl, Nat.le_of_ble_eq_true rfl⟩) (Wd.rec hK hW (IsB1.l8 (j := 1) (by decide)) (cB_1 IsB1) (ci := 1) rfl) hx hb hml hown hB hK hW hS ⟨Nat.zero_le _, Nat.zero_le _⟩ rfl hl.1 rfl (Nat.le_of_ble_eq_true rfl) rfl dX4_offer_79 (fun H locs hW hS => ?_)
    cases hf
    exact e_i hx hb hr hlk hW hS dX4_offer_82
  refine lv_iload_n hx hb dX4_offer_0 rfl (lv_at hl 1 rfl) ?_
  obtain ⟨v1, e1, hf⟩ := ob2 hf
  refine c_S (As := [.int a0]) (st1 := [.int v1]) (rest := []) (p_X4_isKind l E x m g o e1) (kc_X4_27 hB ⟨Nat.le_of_ble_eq_true rfl, Nat.le_of_ble_eq_true rfl⟩) hx hb hml hown hB hK hW hS ⟨Nat.zero_le _, Nat.zero_le _⟩ rfl hl.1 rfl (Nat.le_of_ble_eq_true rfl) rfl dX4_offer_1 (fun H locs hW hS => ?_)
  obtain ⟨u4, e4, hf⟩ := ob2 hf
  refine c_S (As := [.int v1]) (st1 := []) (rest := []) (p_X4_requireIndex l E x m g o e4) (kc_X4_31 hB ⟨Nat.le_of_ble_eq_true rfl, Nat.le_of_ble_eq_true rfl⟩) hx hb hml hown hB hK hW hS ⟨Nat.zero_le _, Nat.zero_le _⟩ rfl hl.1 rfl (Nat.le_of_ble_eq_true rfl) rfl dX4_offer_4 (fun H locs hW hS => ?_)
  refine lv_iload_n hx hb dX4_offer_7 rfl (lv_at hl 2 rfl) ?_
  refine lv_iconst (v := 0) hx hb dX4_offer_8 (by decide) ?_
  refine lv_sipush (v := 999) hx hb dX4_offer_9 (by decide) ?_
  obtain ⟨v12, e12, hf⟩ := ob2 hf
  refine c_S (As := [.int a1, .int 0, .int 999]) (st1 := [.int v12]) (rest := []) (p_X4_isWithin l E x m g o e12) (kc_X4_35 hB ⟨Nat.le_of_ble_eq_true rfl, Nat.le_of_ble_eq_true rfl⟩) hx hb hml hown hB hK hW hS ⟨Nat.zero_le _, Nat.zero_le _⟩ rfl hl.1 rfl (Nat.le_of_ble_eq_true rfl) rfl dX4_offer_12 (fun H locs hW hS => ?_)
  obtain ⟨u15, e15, hf⟩ := ob2 hf
  refine c_S (As := [.int v12]) (st1 := []) (rest := []) (p_X4_requireArgument l E x m g o e15) (kc_X4_39 hB ⟨Nat.le_of_ble_eq_true rfl, Nat.le_of_ble_eq_true rfl⟩) hx hb hml hown hB hK hW hS ⟨Nat.zero_le _, Nat.zero_le _⟩ rfl hl.1 rfl (Nat.le_of_ble_eq_true rfl) rfl dX4_offer_15 (fun H locs hW hS => ?_)
  refine lv_iload_n hx hb dX4_offer_18 rfl (lv_at hl 3 rfl) ?_
  refine lv_iconst (v := 1) hx hb dX4_offer_19 (by decide) ?_
  refine lv_bipush (v := 9) hx hb dX4_offer_20 (by decide) ?_
  obtain ⟨v22, e22, hf⟩ := ob2 hf
  refine c_S (As := [.int a2, .int 1, .int 9]) (st1 := [.int v22]) (rest := []) (p_X4_isWithin l E x m g o e22) (kc_X4_35 hB ⟨Nat.le_of_ble_eq_true rfl, Nat.le_of_ble_eq_true rfl⟩) hx hb hml hown hB hK hW hS ⟨Nat.zero_le _, Nat.zero_le _⟩ rfl hl.1 rfl (Nat.le_of_ble_eq_true rfl) rfl dX4_offer_22 (fun H locs hW hS => ?_)
  obtain ⟨u25, e25, hf⟩ := ob2 hf
  refine c_S (As := [.int v22]) (st1 := []) (rest := []) (p_X4_requireArgument l E x m g o e25) (kc_X4_39 hB ⟨Nat.le_of_ble_eq_true rfl, Nat.le_of_ble_eq_true rfl⟩) hx hb hml hown hB hK hW hS ⟨Nat.zero_le _, Nat.zero_le _⟩ rfl hl.1 rfl (Nat.le_of_ble_eq_true rfl) rfl dX4_offer_25 (fun H locs hW hS => ?_)
  refine lv_iload hx hb dX4_offer_28 (lv_at hl 4 rfl) ?_
  refine lv_iload_n hx hb dX4_offer_30 rfl (lv_at hl 3 rfl) ?_
  refine lv_bipush (v := 9) hx hb dX4_offer_31 (by decide) ?_
  obtain ⟨v33, e33, hf⟩ := ob2 hf
  refine c_S (As := [.int a3, .int a2, .int 9]) (st1 := [.int v33]) (rest := []) (p_X4_isWithin l E x m g o e33) (kc_X4_35 hB ⟨Nat.le_of_ble_eq_true rfl, Nat.le_of_ble_eq_true rfl⟩) hx hb hml hown hB hK hW hS ⟨Nat.zero_le _, Nat.zero_le _⟩ rfl hl.1 rfl (Nat.le_of_ble_eq_true rfl) rfl dX4_offer_33 (fun H locs hW hS => ?_)
  obtain ⟨u36, e36, hf⟩ := ob2 hf
  refine c_S (As := [.int v33]) (st1 := []) (rest := []) (p_X4_requireArgument l E x m g o e36) (kc_X4_39 hB ⟨Nat.le_of_ble_eq_true rfl, Nat.le_of_ble_eq_true rfl⟩) hx hb hml hown hB hK hW hS ⟨Nat.zero_le _, Nat.zero_le _⟩ rfl hl.1 rfl (Nat.le_of_ble_eq_true rfl) rfl dX4_offer_36 (fun H locs hW hS => ?_)
  refine lv_aload_n hx hb dX4_offer_39 rfl (lv_at hl 0 rfl) ?_
  refine gf_X4_10 hx hb hB hK hown hW dX4_offer_40 ?_
  refine gf_X4_42 hx hb hB hK hown hW IsB1 dX4_offer_43 ?_
  refine lv_iload_n hx hb dX4_offer_46 rfl (lv_at hl 1 rfl) ?_
  obtain ⟨v47, e47, hf⟩ := ob2 hf
  refine c_V (As := [.int a0]) (st1 := [.int v47]) (rest := []) (p_X1_sizeOf l E IsB1 x m g o e47) (kc_X4_46 hB ⟨Nat.le_of_ble_eq_true rfl, Nat.le_of_ble_eq_true rfl⟩) (Wd.rec hK hW (IsB1.l8 (j := 1) (by decide)) (cB_1 IsB1) (ci := 1) rfl) hx hb hml hown hB hK hW hS ⟨Nat.zero_le _, Nat.zero_le _⟩ rfl hl.1 rfl (Nat.le_of_ble_eq_true rfl) rfl dX4_offer_47 (fun H locs hW hS => ?_)
  refine lv_bipush (v := 6) hx hb dX4_offer_50 (by decide) ?_
  refine lv_icmp_ge (tgt := 59) hx hb dX4_offer_52 (by decide) (fun c52 => ?_) (fun c52 => ?_)
  · rw [if_pos c52] at hf
    refine lv_iconst (v := 0) hx hb dX4_offer_59 (by decide) ?_
    exact J60 x a0 a1 a2 a3 0 _ _ _ hf hW hS (lv_sub hl [0, 1, 2, 3, 4] rfl)
  · rw [if_neg c52] at hf
    refine lv_iconst (v := 1) hx hb dX4_offer_55 (by decide) ?_
    refine lv_goto (tgt := 60) hx hb dX4_offer_56 (by decide) ?_
    exact J60 x a0 a1 a2 a3 1 _ _ _ hf hW hS (lv_sub hl [0, 1, 2, 3, 4] rfl)
def f_X4_takeOff (x : XS) (a0 : Int32) (a1 : Int32) : Option (Int32 × XS) :=
    (f_X1_has 1 x a0 a1).bind fun v9 =>
    (f_X4_requireIndex v9).bind fun _ =>
    (f_X1_isOffered 1 x a0 a1).bind fun v24 =>
    (f_X4_requireState v24).bind fun _ =>
    (f_X4_save x).bind fun x31 =>
    (f_X1_remove 1 x31 a0 a1).bind fun q43 => (fun v43 x43 =>
    some (v43, x43)) q43.1 q43.2
set_option maxRecDepth 100000 in
set_option maxHeartbeats 4000000 in
theorem p_X4_takeOff (l : Launch) (E : TE) (x m : XS) (g o : Int64) {a0 : Int32} {a1 : Int32} {r : Int32} {xr : XS} (hf : f_X4_takeOff x a0 a1 = some (r, xr)) : MG l E yX4_takeOff cX4_takeOff 3 (some .int) 6 [rf E 0, .int a0, .int a1] (Wd E x m g o) (Wd E xr m g o) (some (.int r)) := by
  unfold f_X4_takeOff at hf
  refine m_in (by decide) (Nat.le_of_ble_eq_true rfl) ?_
  intro p e s mi args below meth c H ls hx hb hr hlk hml hown hB hK hW hS hl
  have hl : lv_has ls 3 [(0, rf E 0), (1, .int a0), (2, .int a1)] := hl
  refine lv_aload_n hx hb dX4_takeOff_0 rfl (lv_at hl 0 rfl) ?_
  refine gf_X4_10 hx hb hB hK hown hW dX4_takeOff_1 ?_
  refine gf_X4_42 hx hb hB hK hown hW IsB1 dX4_takeOff_4 ?_
  refine lv_iload_n hx hb dX4_takeOff_7 rfl (lv_at hl 1 rfl) ?_
  refine lv_iload_n hx hb dX4_takeOff_8 rfl (lv_at hl 2 rfl) ?_
  obtain ⟨v9, e9, hf⟩ := ob2 hf
  refine c_V (As := [.int a0, .int a1]) (st1 := [.int v9]) (rest := []) (p_X1_has l E IsB1 x m g o e9) (kc_X4_62 hB ⟨Nat.le_of_ble_eq_true rfl, Nat.le_of_ble_eq_true rfl⟩) (Wd.rec hK hW (IsB1.l8 (j := 1) (by decide)) (cB_1 IsB1) (ci := 1) rfl) hx hb hml hown hB hK hW hS ⟨Nat.zero_le _, Nat.zero_le _⟩ rfl hl.1 rfl (Nat.le_of_ble_eq_true rfl) rfl dX4_takeOff_9 (fun H locs hW hS => ?_)
  obtain ⟨u12, e12, hf⟩ := ob2 hf
  refine c_S (As := [.int v9]) (st1 := []) (rest := []) (p_X4_requireIndex l E x m g o e12) (kc_X4_31 hB ⟨Nat.le_of_ble_eq_true rfl, Nat.le_of_ble_eq_true rfl⟩) hx hb hml hown hB hK hW hS ⟨Nat.zero_le _, Nat.zero_le _⟩ rfl hl.1 rfl (Nat.le_of_ble_eq_true rfl) rfl dX4_takeOff_12 (fun H locs hW hS => ?_)
  refine lv_aload_n hx hb dX4_takeOff_15 rfl (lv_at hl 0 rfl) ?_
  refine gf_X4_10 hx hb hB hK hown hW dX4_takeOff_16 ?_
  refine gf_X4_42 hx hb hB hK hown hW IsB1 dX4_takeOff_19 ?_
  refine lv_iload_n hx hb dX4_takeOff_22 rfl (lv_at hl 1 rfl) ?_
  refine lv_iload_n hx hb dX4_takeOff_23 rfl (lv_at hl 2 rfl) ?_
  obtain ⟨v24, e24, hf⟩ := ob2 hf
  refine c_V (As := [.int a0, .int a1]) (st1 := [.int v24]) (rest := []) (p_X1_isOffered l E IsB1 x m g o e24) (kc_X4_66 hB ⟨Nat.le_of_ble_eq_true rfl, Nat.le_of_ble_eq_true rfl⟩) (Wd.rec hK hW (IsB1.l8 (j := 1) (by decide)) (cB_1 IsB1) (ci := 1) rfl) hx hb hml hown hB hK hW hS ⟨Nat.zero_le _, Nat.zero_le _⟩ rfl hl.1 rfl (Nat.le_of_ble_eq_true rfl) rfl dX4_takeOff_24 (fun H locs hW hS => ?_)
  obtain ⟨u27, e27, hf⟩ := ob2 hf
  refine c_S (As := [.int v24]) (st1 := []) (rest := []) (p_X4_requireState l E x m g o e27) (kc_X4_52 hB ⟨Nat.le_of_ble_eq_true rfl, Nat.le_of_ble_eq_true rfl⟩) hx hb hml hown hB hK hW hS ⟨Nat.zero_le _, Nat.zero_le _⟩ rfl hl.1 rfl (Nat.le_of_ble_eq_true rfl) rfl dX4_takeOff_27 (fun H locs hW hS => ?_)
  refine lv_aload_n hx hb dX4_takeOff_30 rfl (lv_at hl 0 rfl) ?_
  obtain ⟨x31, e31, hf⟩ := ob2 hf
  refine c_V (As := []) (st1 := []) (rest := []) (p_X4_save l E x m g o e31) (kc_X4_55 hB ⟨Nat.le_of_ble_eq_true rfl, Nat.le_of_ble_eq_true rfl⟩) (Wd.rec hK hW (by decide) cX_0 (ci := 4) rfl) hx hb hml hown hB hK hW hS ⟨Nat.zero_le _, Nat.zero_le _⟩ rfl hl.1 rfl (Nat.le_of_ble_eq_true rfl) rfl dX4_takeOff_31 (fun H locs hW hS => ?_)
  refine lv_aload_n hx hb dX4_takeOff_34 rfl (lv_at hl 0 rfl) ?_
  refine gf_X4_10 hx hb hB hK hown hW dX4_takeOff_35 ?_
  refine gf_X4_42 hx hb hB hK hown hW IsB1 dX4_takeOff_38 ?_
  refine lv_iload_n hx hb dX4_takeOff_41 rfl (lv_at hl 1 rfl) ?_
  refine lv_iload_n hx hb dX4_takeOff_42 rfl (lv_at hl 2 rfl) ?_
  obtain ⟨⟨v43, x43⟩, e43, hf⟩ := ob2 hf
  dsimp only at hf
  refine c_V (As := [.int a0, .int a1]) (st1 := [.int v43]) (rest := []) (p_X1_remove l E IsB1 x31 m g o e43) (kc_X4_69 hB ⟨Nat.le_of_ble_eq_true rfl, Nat.le_of_ble_eq_true rfl⟩) (Wd.rec hK hW (IsB1.l8 (j := 1) (by decide)) (cB_1 IsB1) (ci := 1) rfl) hx hb hml hown hB hK hW hS ⟨Nat.zero_le _, Nat.zero_le _⟩ rfl hl.1 rfl (Nat.le_of_ble_eq_true rfl) rfl dX4_takeOff_43 (fun H locs hW hS => ?_)
  cases hf
  exact e_i hx hb hr hlk hW hS dX4_takeOff_46
def f_X4_base (x : XS) (a0 : Int32) (a1 : Int32) : Option (Int32 × XS) :=
    (f_X4_isKind a0).bind fun v1 =>
    (f_X4_requireIndex v1).bind fun _ =>
    (f_X4_isWithin a1 0 9999).bind fun v12 =>
    (f_X4_requireArgument v12).bind fun _ =>
    (f_X4_save x).bind fun x19 =>
    (f_X3_changeBase 1 x19 a0 a1).bind fun q28 => (fun v28 x28 =>
    some (v28, x28)) q28.1 q28.2
set_option maxRecDepth 100000 in
set_option maxHeartbeats 4000000 in
theorem p_X4_base (l : Launch) (E : TE) (x m : XS) (g o : Int64) {a0 : Int32} {a1 : Int32} {r : Int32} {xr : XS} (hf : f_X4_base x a0 a1 = some (r, xr)) : MG l E yX4_base cX4_base 3 (some .int) 6 [rf E 0, .int a0, .int a1] (Wd E x m g o) (Wd E xr m g o) (some (.int r)) := by
  unfold f_X4_base at hf
  refine m_in (by decide) (Nat.le_of_ble_eq_true rfl) ?_
  intro p e s mi args below meth c H ls hx hb hr hlk hml hown hB hK hW hS hl
  have hl : lv_has ls 3 [(0, rf E 0), (1, .int a0), (2, .int a1)] := hl
  refine lv_iload_n hx hb dX4_base_0 rfl (lv_at hl 1 rfl) ?_
  obtain ⟨v1, e1, hf⟩ := ob2 hf
  refine c_S (As := [.int a0]) (st1 := [.int v1]) (rest := []) (p_X4_isKind l E x m g o e1) (kc_X4_27 hB ⟨Nat.le_of_ble_eq_true rfl, Nat.le_of_ble_eq_true rfl⟩) hx hb hml hown hB hK hW hS ⟨Nat.zero_le _, Nat.zero_le _⟩ rfl hl.1 rfl (Nat.le_of_ble_eq_true rfl) rfl dX4_base_1 (fun H locs hW hS => ?_)
  obtain ⟨u4, e4, hf⟩ := ob2 hf
  refine c_S (As := [.int v1]) (st1 := []) (rest := []) (p_X4_requireIndex l E x m g o e4) (kc_X4_31 hB ⟨Nat.le_of_ble_eq_true rfl, Nat.le_of_ble_eq_true rfl⟩) hx hb hml hown hB hK hW hS ⟨Nat.zero_le _, Nat.zero_le _⟩ rfl hl.1 rfl (Nat.le_of_ble_eq_true rfl) rfl dX4_base_4 (fun H locs hW hS => ?_)
  refine lv_iload_n hx hb dX4_base_7 rfl (lv_at hl 2 rfl) ?_
  refine lv_iconst (v := 0) hx hb dX4_base_8 (by decide) ?_
  refine lv_sipush (v := 9999) hx hb dX4_base_9 (by decide) ?_
  obtain ⟨v12, e12, hf⟩ := ob2 hf
  refine c_S (As := [.int a1, .int 0, .int 9999]) (st1 := [.int v12]) (rest := []) (p_X4_isWithin l E x m g o e12) (kc_X4_35 hB ⟨Nat.le_of_ble_eq_true rfl, Nat.le_of_ble_eq_true rfl⟩) hx hb hml hown hB hK hW hS ⟨Nat.zero_le _, Nat.zero_le _⟩ rfl hl.1 rfl (Nat.le_of_ble_eq_true rfl) rfl dX4_base_12 (fun H locs hW hS => ?_)
  obtain ⟨u15, e15, hf⟩ := ob2 hf
  refine c_S (As := [.int v12]) (st1 := []) (rest := []) (p_X4_requireArgument l E x m g o e15) (kc_X4_39 hB ⟨Nat.le_of_ble_eq_true rfl, Nat.le_of_ble_eq_true rfl⟩) hx hb hml hown hB hK hW hS ⟨Nat.zero_le _, Nat.zero_le _⟩ rfl hl.1 rfl (Nat.le_of_ble_eq_true rfl) rfl dX4_base_15 (fun H locs hW hS => ?_)
  refine lv_aload_n hx hb dX4_base_18 rfl (lv_at hl 0 rfl) ?_
  obtain ⟨x19, e19, hf⟩ := ob2 hf
  refine c_V (As := []) (st1 := []) (rest := []) (p_X4_save l E x m g o e19) (kc_X4_55 hB ⟨Nat.le_of_ble_eq_true rfl, Nat.le_of_ble_eq_true rfl⟩) (Wd.rec hK hW (by decide) cX_0 (ci := 4) rfl) hx hb hml hown hB hK hW hS ⟨Nat.zero_le _, Nat.zero_le _⟩ rfl hl.1 rfl (Nat.le_of_ble_eq_true rfl) rfl dX4_base_19 (fun H locs hW hS => ?_)
  refine lv_aload_n hx hb dX4_base_22 rfl (lv_at hl 0 rfl) ?_
  refine gf_X4_10 hx hb hB hK hown hW dX4_base_23 ?_
  refine lv_iload_n hx hb dX4_base_26 rfl (lv_at hl 1 rfl) ?_
  refine lv_iload_n hx hb dX4_base_27 rfl (lv_at hl 2 rfl) ?_
  obtain ⟨⟨v28, x28⟩, e28, hf⟩ := ob2 hf
  dsimp only at hf
  refine c_V (As := [.int a0, .int a1]) (st1 := [.int v28]) (rest := []) (p_X3_changeBase l E IsB1 x19 m g o e28) (kc_X4_73 hB ⟨Nat.le_of_ble_eq_true rfl, Nat.le_of_ble_eq_true rfl⟩) (Wd.rec hK hW IsB1.l0 (cB_0 IsB1) (ci := 3) rfl) hx hb hml hown hB hK hW hS ⟨Nat.zero_le _, Nat.zero_le _⟩ rfl hl.1 rfl (Nat.le_of_ble_eq_true rfl) rfl dX4_base_28 (fun H locs hW hS => ?_)
  cases hf
  exact e_i hx hb hr hlk hW hS dX4_base_31
def f_X4_set (x : XS) (a0 : Int32) (a1 : Int32) : Option (Int32 × XS) :=
    (f_X4_isSetting a0).bind fun v1 =>
    (f_X4_requireIndex v1).bind fun _ =>
    (f_X4_isValueOf x a0 a1).bind fun v9 =>
    (f_X4_requireArgument v9).bind fun _ =>
    (f_X4_save x).bind fun x16 =>
    (f_X3_changeSetting 1 x16 a0 a1).bind fun q25 => (fun v25 x25 =>
    some (v25, x25)) q25.1 q25.2
set_option maxRecDepth 100000 in
set_option maxHeartbeats 4000000 in
theorem p_X4_set (l : Launch) (E : TE) (x m : XS) (g o : Int64) {a0 : Int32} {a1 : Int32} {r : Int32} {xr : XS} (hf : f_X4_set x a0 a1 = some (r, xr)) : MG l E yX4_set cX4_set 3 (some .int) 6 [rf E 0, .int a0, .int a1] (Wd E x m g o) (Wd E xr m g o) (some (.int r)) := by
  unfold f_X4_set at hf
  refine m_in (by decide) (Nat.le_of_ble_eq_true rfl) ?_
  intro p e s mi args below meth c H ls hx hb hr hlk hml hown hB hK hW hS hl
  have hl : lv_has ls 3 [(0, rf E 0), (1, .int a0), (2, .int a1)] := hl
  refine lv_iload_n hx hb dX4_set_0 rfl (lv_at hl 1 rfl) ?_
  obtain ⟨v1, e1, hf⟩ := ob2 hf
  refine c_S (As := [.int a0]) (st1 := [.int v1]) (rest := []) (p_X4_isSetting l E x m g o e1) (kc_X4_76 hB ⟨Nat.le_of_ble_eq_true rfl, Nat.le_of_ble_eq_true rfl⟩) hx hb hml hown hB hK hW hS ⟨Nat.zero_le _, Nat.zero_le _⟩ rfl hl.1 rfl (Nat.le_of_ble_eq_true rfl) rfl dX4_set_1 (fun H locs hW hS => ?_)
  obtain ⟨u4, e4, hf⟩ := ob2 hf
  refine c_S (As := [.int v1]) (st1 := []) (rest := []) (p_X4_requireIndex l E x m g o e4) (kc_X4_31 hB ⟨Nat.le_of_ble_eq_true rfl, Nat.le_of_ble_eq_true rfl⟩) hx hb hml hown hB hK hW hS ⟨Nat.zero_le _, Nat.zero_le _⟩ rfl hl.1 rfl (Nat.le_of_ble_eq_true rfl) rfl dX4_set_4 (fun H locs hW hS => ?_)
  refine lv_iload_n hx hb dX4_set_7 rfl (lv_at hl 1 rfl) ?_
  refine lv_iload_n hx hb dX4_set_8 rfl (lv_at hl 2 rfl) ?_
  obtain ⟨v9, e9, hf⟩ := ob2 hf
  refine c_S (As := [.int a0, .int a1]) (st1 := [.int v9]) (rest := []) (p_X4_isValueOf l E x m g o e9) (kc_X4_79 hB ⟨Nat.le_of_ble_eq_true rfl, Nat.le_of_ble_eq_true rfl⟩) hx hb hml hown hB hK hW hS ⟨Nat.zero_le _, Nat.zero_le _⟩ rfl hl.1 rfl (Nat.le_of_ble_eq_true rfl) rfl dX4_set_9 (fun H locs hW hS => ?_)
  obtain ⟨u12, e12, hf⟩ := ob2 hf
  refine c_S (As := [.int v9]) (st1 := []) (rest := []) (p_X4_requireArgument l E x m g o e12) (kc_X4_39 hB ⟨Nat.le_of_ble_eq_true rfl, Nat.le_of_ble_eq_true rfl⟩) hx hb hml hown hB hK hW hS ⟨Nat.zero_le _, Nat.zero_le _⟩ rfl hl.1 rfl (Nat.le_of_ble_eq_true rfl) rfl dX4_set_12 (fun H locs hW hS => ?_)
  refine lv_aload_n hx hb dX4_set_15 rfl (lv_at hl 0 rfl) ?_
  obtain ⟨x16, e16, hf⟩ := ob2 hf
  refine c_V (As := []) (st1 := []) (rest := []) (p_X4_save l E x m g o e16) (kc_X4_55 hB ⟨Nat.le_of_ble_eq_true rfl, Nat.le_of_ble_eq_true rfl⟩) (Wd.rec hK hW (by decide) cX_0 (ci := 4) rfl) hx hb hml hown hB hK hW hS ⟨Nat.zero_le _, Nat.zero_le _⟩ rfl hl.1 rfl (Nat.le_of_ble_eq_true rfl) rfl dX4_set_16 (fun H locs hW hS => ?_)
  refine lv_aload_n hx hb dX4_set_19 rfl (lv_at hl 0 rfl) ?_
  refine gf_X4_10 hx hb hB hK hown hW dX4_set_20 ?_
  refine lv_iload_n hx hb dX4_set_23 rfl (lv_at hl 1 rfl) ?_
  refine lv_iload_n hx hb dX4_set_24 rfl (lv_at hl 2 rfl) ?_
  obtain ⟨⟨v25, x25⟩, e25, hf⟩ := ob2 hf
  dsimp only at hf
  refine c_V (As := [.int a0, .int a1]) (st1 := [.int v25]) (rest := []) (p_X3_changeSetting l E IsB1 x16 m g o e25) (kc_X4_82 hB ⟨Nat.le_of_ble_eq_true rfl, Nat.le_of_ble_eq_true rfl⟩) (Wd.rec hK hW IsB1.l0 (cB_0 IsB1) (ci := 3) rfl) hx hb hml hown hB hK hW hS ⟨Nat.zero_le _, Nat.zero_le _⟩ rfl hl.1 rfl (Nat.le_of_ble_eq_true rfl) rfl dX4_set_25 (fun H locs hW hS => ?_)
  cases hf
  exact e_i hx hb hr hlk hW hS dX4_set_28
def f_X4_complain_44 (x44 : XS) (l1_44 : Int32) (l2_44 : Int32) (l3_44 : Int32) (t0_44 : Int32) : Option (Int32 × XS) :=
    (f_X4_requireState t0_44).bind fun _ =>
    (f_X4_save x44).bind fun x48 =>
    (f_X0_add 1 x48 l1_44 l2_44 l3_44).bind fun q61 => (fun v61 x61 =>
    some (v61, x61)) q61.1 q61.2
def f_X4_complain (x : XS) (a0 : Int32) (a1 : Int32) (a2 : Int32) : Option (Int32 × XS) :=
    (f_X4_isKind a0).bind fun v1 =>
    (f_X4_requireIndex v1).bind fun _ =>
    (f_X4_isWithin a1 1 9).bind fun v11 =>
    (f_X4_requireArgument v11).bind fun _ =>
    (f_X4_isCustomer a2).bind fun v18 =>
    (f_X4_requireArgument v18).bind fun _ =>
    if (24 ≤ (x (1 + 7) 0) : Prop) then
      f_X4_complain_44 x a0 a1 a2 0
    else
      f_X4_complain_44 x a0 a1 a2 1
set_option maxRecDepth 100000 in
set_option maxHeartbeats 4000000 in
theorem p_X4_complain (l : Launch) (E : TE) (x m : XS) (g o : Int64) {a0 : Int32} {a1 : Int32} {a2 : Int32} {r : Int32} {xr : XS} (hf : f_X4_complain x a0 a1 a2 = some (r, xr)) : MG l E yX4_complain cX4_complain 4 (some .int) 6 [rf E 0, .int a0, .int a1, .int a2] (Wd E x m g o) (Wd E xr m g o) (some (.int r)) := by
  unfold f_X4_complain at hf
  refine m_in (by decide) (Nat.le_of_ble_eq_true rfl) ?_
  intro p e s mi args below meth c H ls hx hb hr hlk hml hown hB hK hW hS hl
  have hl : lv_has ls 4 [(0, rf E 0), (1, .int a0), (2, .int a1), (3, .int a2)] := hl
  have J44 : ∀ (x44 : XS) (l1_44 : Int32) (l2_44 : Int32) (l3_44 : Int32) (t0_44 : Int32) (H : Heap) (locs : List Loc) (ls : Array Slot), f_X4_complain_44 x44 l1_44 l2_44 l3_44 t0_44 = some (r, xr) → Wd E x44 m g o H → va_S (Ah E) s.heap H locs → lv_has ls 4 [(0, rf E 0), (1, .int l1_44), (2, .int l2_44), (3, .int l3_44)] → W p l e (rmH 6) s mi args below meth c H locs 0 0 (EQ E below args s (Wd E xr m g o) (some (.int r))) (F0 mi 44 ls [.int t0_44]) := by
    intro x44 l1_44 l2_44 l3_44 t0_44 H locs ls hf hW hS hl
    unfold f_X4_complain_44 at hf
    obtain ⟨u44, e44, hf⟩ := ob2 hf
    refine c_S (As := [.int t0_44]) (st1 := []) (rest := []) (p_X4_requireState l E x44 m g o e44) (kc_X4_52 hB ⟨Nat.le_of_ble_eq_true rfl, Nat.le_of_ble_eq_true rfl⟩) hx hb hml hown hB hK hW hS ⟨Nat.zero_le _, Nat.zero_le _⟩ rfl hl.1 rfl (Nat.le_of_ble_eq_true rfl) rfl dX4_complain_44 (fun H locs hW hS => ?_)
    refine lv_aload_n hx hb dX4_complain_47 rfl (lv_at hl 0 rfl) ?_
    obtain ⟨x48, e48, hf⟩ := ob2 hf
    refine c_V (As := []) (st1 := []) (rest := []) (p_X4_save l E x44 m g o e48) (kc_X4_55 hB ⟨Nat.le_of_ble_eq_true rfl, Nat.le_of_ble_eq_true rfl⟩) (Wd.rec hK hW (by decide) cX_0 (ci := 4) rfl) hx hb hml hown hB hK hW hS ⟨Nat.zero_le _, Nat.zero_le _⟩ rfl hl.1 rfl (Nat.le_of_ble_eq_true rfl) rfl dX4_complain_48 (fun H locs hW hS => ?_)
    refine lv_aload_n hx hb dX4_complain_51 rfl (lv_at hl 0 rfl) ?_
    refine gf_X4_10 hx hb hB hK hown hW dX4_complain_52 ?_
    refine gf_X4_88 hx hb hB hK hown hW IsB1 dX4_complain_55 ?_
    refine lv_iload_n hx hb dX4_complain_58 rfl (lv_at hl 1 rfl) ?_
    refine lv_iload_n hx hb dX4_complain_59 rfl (lv_at hl 2 rfl) ?_
    refine lv_iload_n hx hb dX4_complain_60 rfl (lv_at hl 3 rfl) ?_
    obtain ⟨⟨v61, x61⟩, e61, hf⟩ := ob2 hf
    dsimp only at hf
    refine c_V (As := [.int l1_44, .int l2_44, .int l3_44]) (st1 := [.int v61]) (rest := []) (p_X0_add l E IsB1 x48 m g o e61) (kc_X4_98 hB ⟨Nat.le_of_ble_eq_true rfl, Nat.le_of_ble_eq_true rfl⟩) (Wd.rec hK hW (IsB1.l8 (j := 7) (by decide)) (cB_7 IsB1) (ci := 0) rfl) hx hb hml hown hB hK hW hS ⟨Nat.zero_le _, Nat.zero_le _⟩ rfl hl.1 rfl (Nat.le_of_ble_eq_true rfl) rfl dX4_complain_61 (fun H locs hW hS => ?_)
    cases hf
    exact e_i hx hb hr hlk hW hS dX4_complain_64
  refine lv_iload_n hx hb dX4_complain_0 rfl (lv_at hl 1 rfl) ?_
  obtain ⟨v1, e1, hf⟩ := ob2 hf
  refine c_S (As := [.int a0]) (st1 := [.int v1]) (rest := []) (p_X4_isKind l E x m g o e1) (kc_X4_27 hB ⟨Nat.le_of_ble_eq_true rfl, Nat.le_of_ble_eq_true rfl⟩) hx hb hml hown hB hK hW hS ⟨Nat.zero_le _, Nat.zero_le _⟩ rfl hl.1 rfl (Nat.le_of_ble_eq_true rfl) rfl dX4_complain_1 (fun H locs hW hS => ?_)
  obtain ⟨u4, e4, hf⟩ := ob2 hf
  refine c_S (As := [.int v1]) (st1 := []) (rest := []) (p_X4_requireIndex l E x m g o e4) (kc_X4_31 hB ⟨Nat.le_of_ble_eq_true rfl, Nat.le_of_ble_eq_true rfl⟩) hx hb hml hown hB hK hW hS ⟨Nat.zero_le _, Nat.zero_le _⟩ rfl hl.1 rfl (Nat.le_of_ble_eq_true rfl) rfl dX4_complain_4 (fun H locs hW hS => ?_)
  refine lv_iload_n hx hb dX4_complain_7 rfl (lv_at hl 2 rfl) ?_
  refine lv_iconst (v := 1) hx hb dX4_complain_8 (by decide) ?_
  refine lv_bipush (v := 9) hx hb dX4_complain_9 (by decide) ?_
  obtain ⟨v11, e11, hf⟩ := ob2 hf
  refine c_S (As := [.int a1, .int 1, .int 9]) (st1 := [.int v11]) (rest := []) (p_X4_isWithin l E x m g o e11) (kc_X4_35 hB ⟨Nat.le_of_ble_eq_true rfl, Nat.le_of_ble_eq_true rfl⟩) hx hb hml hown hB hK hW hS ⟨Nat.zero_le _, Nat.zero_le _⟩ rfl hl.1 rfl (Nat.le_of_ble_eq_true rfl) rfl dX4_complain_11 (fun H locs hW hS => ?_)
  obtain ⟨u14, e14, hf⟩ := ob2 hf
  refine c_S (As := [.int v11]) (st1 := []) (rest := []) (p_X4_requireArgument l E x m g o e14) (kc_X4_39 hB ⟨Nat.le_of_ble_eq_true rfl, Nat.le_of_ble_eq_true rfl⟩) hx hb hml hown hB hK hW hS ⟨Nat.zero_le _, Nat.zero_le _⟩ rfl hl.1 rfl (Nat.le_of_ble_eq_true rfl) rfl dX4_complain_14 (fun H locs hW hS => ?_)
  refine lv_iload_n hx hb dX4_complain_17 rfl (lv_at hl 3 rfl) ?_
  obtain ⟨v18, e18, hf⟩ := ob2 hf
  refine c_S (As := [.int a2]) (st1 := [.int v18]) (rest := []) (p_X4_isCustomer l E x m g o e18) (kc_X4_85 hB ⟨Nat.le_of_ble_eq_true rfl, Nat.le_of_ble_eq_true rfl⟩) hx hb hml hown hB hK hW hS ⟨Nat.zero_le _, Nat.zero_le _⟩ rfl hl.1 rfl (Nat.le_of_ble_eq_true rfl) rfl dX4_complain_18 (fun H locs hW hS => ?_)
  obtain ⟨u21, e21, hf⟩ := ob2 hf
  refine c_S (As := [.int v18]) (st1 := []) (rest := []) (p_X4_requireArgument l E x m g o e21) (kc_X4_39 hB ⟨Nat.le_of_ble_eq_true rfl, Nat.le_of_ble_eq_true rfl⟩) hx hb hml hown hB hK hW hS ⟨Nat.zero_le _, Nat.zero_le _⟩ rfl hl.1 rfl (Nat.le_of_ble_eq_true rfl) rfl dX4_complain_21 (fun H locs hW hS => ?_)
  refine lv_aload_n hx hb dX4_complain_24 rfl (lv_at hl 0 rfl) ?_
  refine gf_X4_10 hx hb hB hK hown hW dX4_complain_25 ?_
  refine gf_X4_88 hx hb hB hK hown hW IsB1 dX4_complain_28 ?_
  refine gf_X4_92 hx hb hB hK hown hW IsB1 dX4_complain_31 ?_
  refine lv_bipush (v := 24) hx hb dX4_complain_34 (by decide) ?_
  refine lv_icmp_ge (tgt := 43) hx hb dX4_complain_36 (by decide) (fun c36 => ?_) (fun c36 => ?_)
  · rw [if_pos c36] at hf
    refine lv_iconst (v := 0) hx hb dX4_complain_43 (by decide) ?_
    exact J44 x a0 a1 a2 0 _ _ _ hf hW hS (lv_sub hl [0, 1, 2, 3] rfl)
  · rw [if_neg c36] at hf
    refine lv_iconst (v := 1) hx hb dX4_complain_39 (by decide) ?_
    refine lv_goto (tgt := 44) hx hb dX4_complain_40 (by decide) ?_
    exact J44 x a0 a1 a2 1 _ _ _ hf hW hS (lv_sub hl [0, 1, 2, 3] rfl)
def f_X4_decide_41 (x41 : XS) (l1_41 : Int32) (l2_41 : Int32) (l3_41 : Int32) (t0_41 : Int32) : Option (Int32 × XS) :=
    (f_X4_requireState t0_41).bind fun _ =>
    (f_X4_save x41).bind fun x45 =>
    (f_X3_makeDecision 1 x45 l1_41 l2_41 l3_41).bind fun q55 => (fun v55 x55 =>
    some (v55, x55)) q55.1 q55.2
def f_X4_decide (x : XS) (a0 : Int32) (a1 : Int32) (a2 : Int32) : Option (Int32 × XS) :=
    (f_X0_has 1 x a0).bind fun v8 =>
    (f_X4_requireIndex v8).bind fun _ =>
    (f_X4_isWithin a2 0 5).bind fun v17 =>
    (f_X4_requireArgument v17).bind fun _ =>
    (f_X3_againstDecision 1 x a0 a1 a2).bind fun v30 =>
    if (v30 = 0 : Prop) then
      f_X4_decide_41 x a0 a1 a2 1
    else
      f_X4_decide_41 x a0 a1 a2 0
set_option maxRecDepth 100000 in
set_option maxHeartbeats 4000000 in
theorem p_X4_decide (l : Launch) (E : TE) (x m : XS) (g o : Int64) {a0 : Int32} {a1 : Int32} {a2 : Int32} {r : Int32} {xr : XS} (hf : f_X4_decide x a0 a1 a2 = some (r, xr)) : MG l E yX4_decide cX4_decide 4 (some .int) 6 [rf E 0, .int a0, .int a1, .int a2] (Wd E x m g o) (Wd E xr m g o) (some (.int r)) := by
  unfold f_X4_decide at hf
  refine m_in (by decide) (Nat.le_of_ble_eq_true rfl) ?_
  intro p e s mi args below meth c H ls hx hb hr hlk hml hown hB hK hW hS hl
  have hl : lv_has ls 4 [(0, rf E 0), (1, .int a0), (2, .int a1), (3, .int a2)] := hl
  have J41 : ∀ (x41 : XS) (l1_41 : Int32) (l2_41 : Int32) (l3_41 : Int32) (t0_41 : Int32) (H : Heap) (locs : List Loc) (ls : Array Slot), f_X4_decide_41 x41 l1_41 l2_41 l3_41 t0_41 = some (r, xr) → Wd E x41 m g o H → va_S (Ah E) s.heap H locs → lv_has ls 4 [(0, rf E 0), (1, .int l1_41), (2, .int l2_41), (3, .int l3_41)] → W p l e (rmH 6) s mi args below meth c H locs 0 0 (EQ E below args s (Wd E xr m g o) (some (.int r))) (F0 mi 41 ls [.int t0_41]) := by
    intro x41 l1_41 l2_41 l3_41 t0_41 H locs ls hf hW hS hl
    unfold f_X4_decide_41 at hf
    obtain ⟨u41, e41, hf⟩ := ob2 hf
    refine c_S (As := [.int t0_41]) (st1 := []) (rest := []) (p_X4_requireState l E x41 m g o e41) (kc_X4_52 hB ⟨Nat.le_of_ble_eq_true rfl, Nat.le_of_ble_eq_true rfl⟩) hx hb hml hown hB hK hW hS ⟨Nat.zero_le _, Nat.zero_le _⟩ rfl hl.1 rfl (Nat.le_of_ble_eq_true rfl) rfl dX4_decide_41 (fun H locs hW hS => ?_)
    refine lv_aload_n hx hb dX4_decide_44 rfl (lv_at hl 0 rfl) ?_
    obtain ⟨x45, e45, hf⟩ := ob2 hf
    refine c_V (As := []) (st1 := []) (rest := []) (p_X4_save l E x41 m g o e45) (kc_X4_55 hB ⟨Nat.le_of_ble_eq_true rfl, Nat.le_of_ble_eq_true rfl⟩) (Wd.rec hK hW (by decide) cX_0 (ci := 4) rfl) hx hb hml hown hB hK hW hS ⟨Nat.zero_le _, Nat.zero_le _⟩ rfl hl.1 rfl (Nat.le_of_ble_eq_true rfl) rfl dX4_decide_45 (fun H locs hW hS => ?_)
    refine lv_aload_n hx hb dX4_decide_48 rfl (lv_at hl 0 rfl) ?_
    refine gf_X4_10 hx hb hB hK hown hW dX4_decide_49 ?_
    refine lv_iload_n hx hb dX4_decide_52 rfl (lv_at hl 1 rfl) ?_
    refine lv_iload_n hx hb dX4_decide_53 rfl (lv_at hl 2 rfl) ?_
    refine lv_iload_n hx hb dX4_decide_54 rfl (lv_at hl 3 rfl) ?_
    obtain ⟨⟨v55, x55⟩, e55, hf⟩ := ob2 hf
    dsimp only at hf
    refine c_V (As := [.int l1_41, .int l2_41, .int l3_41]) (st1 := [.int v55]) (rest := []) (p_X3_makeDecision l E IsB1 x45 m g o e55) (kc_X4_106 hB ⟨Nat.le_of_ble_eq_true rfl, Nat.le_of_ble_eq_true rfl⟩) (Wd.rec hK hW IsB1.l0 (cB_0 IsB1) (ci := 3) rfl) hx hb hml hown hB hK hW hS ⟨Nat.zero_le _, Nat.zero_le _⟩ rfl hl.1 rfl (Nat.le_of_ble_eq_true rfl) rfl dX4_decide_55 (fun H locs hW hS => ?_)
    cases hf
    exact e_i hx hb hr hlk hW hS dX4_decide_58
  refine lv_aload_n hx hb dX4_decide_0 rfl (lv_at hl 0 rfl) ?_
  refine gf_X4_10 hx hb hB hK hown hW dX4_decide_1 ?_
  refine gf_X4_88 hx hb hB hK hown hW IsB1 dX4_decide_4 ?_
  refine lv_iload_n hx hb dX4_decide_7 rfl (lv_at hl 1 rfl) ?_
  obtain ⟨v8, e8, hf⟩ := ob2 hf
  refine c_V (As := [.int a0]) (st1 := [.int v8]) (rest := []) (p_X0_has l E IsB1 x m g o e8) (kc_X4_101 hB ⟨Nat.le_of_ble_eq_true rfl, Nat.le_of_ble_eq_true rfl⟩) (Wd.rec hK hW (IsB1.l8 (j := 7) (by decide)) (cB_7 IsB1) (ci := 0) rfl) hx hb hml hown hB hK hW hS ⟨Nat.zero_le _, Nat.zero_le _⟩ rfl hl.1 rfl (Nat.le_of_ble_eq_true rfl) rfl dX4_decide_8 (fun H locs hW hS => ?_)
  obtain ⟨u11, e11, hf⟩ := ob2 hf
  refine c_S (As := [.int v8]) (st1 := []) (rest := []) (p_X4_requireIndex l E x m g o e11) (kc_X4_31 hB ⟨Nat.le_of_ble_eq_true rfl, Nat.le_of_ble_eq_true rfl⟩) hx hb hml hown hB hK hW hS ⟨Nat.zero_le _, Nat.zero_le _⟩ rfl hl.1 rfl (Nat.le_of_ble_eq_true rfl) rfl dX4_decide_11 (fun H locs hW hS => ?_)
  refine lv_iload_n hx hb dX4_decide_14 rfl (lv_at hl 3 rfl) ?_
  refine lv_iconst (v := 0) hx hb dX4_decide_15 (by decide) ?_
  refine lv_iconst (v := 5) hx hb dX4_decide_16 (by decide) ?_
  obtain ⟨v17, e17, hf⟩ := ob2 hf
  refine c_S (As := [.int a2, .int 0, .int 5]) (st1 := [.int v17]) (rest := []) (p_X4_isWithin l E x m g o e17) (kc_X4_35 hB ⟨Nat.le_of_ble_eq_true rfl, Nat.le_of_ble_eq_true rfl⟩) hx hb hml hown hB hK hW hS ⟨Nat.zero_le _, Nat.zero_le _⟩ rfl hl.1 rfl (Nat.le_of_ble_eq_true rfl) rfl dX4_decide_17 (fun H locs hW hS => ?_)
  obtain ⟨u20, e20, hf⟩ := ob2 hf
  refine c_S (As := [.int v17]) (st1 := []) (rest := []) (p_X4_requireArgument l E x m g o e20) (kc_X4_39 hB ⟨Nat.le_of_ble_eq_true rfl, Nat.le_of_ble_eq_true rfl⟩) hx hb hml hown hB hK hW hS ⟨Nat.zero_le _, Nat.zero_le _⟩ rfl hl.1 rfl (Nat.le_of_ble_eq_true rfl) rfl dX4_decide_20 (fun H locs hW hS => ?_)
  refine lv_aload_n hx hb dX4_decide_23 rfl (lv_at hl 0 rfl) ?_
  refine gf_X4_10 hx hb hB hK hown hW dX4_decide_24 ?_
  refine lv_iload_n hx hb dX4_decide_27 rfl (lv_at hl 1 rfl) ?_
  refine lv_iload_n hx hb dX4_decide_28 rfl (lv_at hl 2 rfl) ?_
  refine lv_iload_n hx hb dX4_decide_29 rfl (lv_at hl 3 rfl) ?_
  obtain ⟨v30, e30, hf⟩ := ob2 hf
  refine c_V (As := [.int a0, .int a1, .int a2]) (st1 := [.int v30]) (rest := []) (p_X3_againstDecision l E IsB1 x m g o e30) (kc_X4_103 hB ⟨Nat.le_of_ble_eq_true rfl, Nat.le_of_ble_eq_true rfl⟩) (Wd.rec hK hW IsB1.l0 (cB_0 IsB1) (ci := 3) rfl) hx hb hml hown hB hK hW hS ⟨Nat.zero_le _, Nat.zero_le _⟩ rfl hl.1 rfl (Nat.le_of_ble_eq_true rfl) rfl dX4_decide_30 (fun H locs hW hS => ?_)
  refine lv_if_ne (tgt := 40) hx hb dX4_decide_33 (by decide) (fun c33 => ?_) (fun c33 => ?_)
  · rw [if_neg c33] at hf
    refine lv_iconst (v := 0) hx hb dX4_decide_40 (by decide) ?_
    exact J41 x a0 a1 a2 0 _ _ _ hf hW hS (lv_sub hl [0, 1, 2, 3] rfl)
  · rw [if_pos c33] at hf
    refine lv_iconst (v := 1) hx hb dX4_decide_36 (by decide) ?_
    refine lv_goto (tgt := 41) hx hb dX4_decide_37 (by decide) ?_
    exact J41 x a0 a1 a2 1 _ _ _ hf hW hS (lv_sub hl [0, 1, 2, 3] rfl)
def f_X4_appeal (x : XS) (a0 : Int32) : Option (Int32 × XS) :=
    (f_X0_has 1 x a0).bind fun v8 =>
    (f_X4_requireIndex v8).bind fun _ =>
    (f_X3_canBeAppealed 1 x a0).bind fun v19 =>
    (f_X4_requireState v19).bind fun _ =>
    (f_X4_save x).bind fun x26 =>
    (f_X0_changeStage 1 x26 a0 2).bind fun x38 =>
    (f_X0_inStage 1 x38 2).bind fun v49 =>
    some (v49, x38)
set_option maxRecDepth 100000 in
set_option maxHeartbeats 4000000 in
theorem p_X4_appeal (l : Launch) (E : TE) (x m : XS) (g o : Int64) {a0 : Int32} {r : Int32} {xr : XS} (hf : f_X4_appeal x a0 = some (r, xr)) : MG l E yX4_appeal cX4_appeal 2 (some .int) 6 [rf E 0, .int a0] (Wd E x m g o) (Wd E xr m g o) (some (.int r)) := by
  unfold f_X4_appeal at hf
  refine m_in (by decide) (Nat.le_of_ble_eq_true rfl) ?_
  intro p e s mi args below meth c H ls hx hb hr hlk hml hown hB hK hW hS hl
  have hl : lv_has ls 2 [(0, rf E 0), (1, .int a0)] := hl
  refine lv_aload_n hx hb dX4_appeal_0 rfl (lv_at hl 0 rfl) ?_
  refine gf_X4_10 hx hb hB hK hown hW dX4_appeal_1 ?_
  refine gf_X4_88 hx hb hB hK hown hW IsB1 dX4_appeal_4 ?_
  refine lv_iload_n hx hb dX4_appeal_7 rfl (lv_at hl 1 rfl) ?_
  obtain ⟨v8, e8, hf⟩ := ob2 hf
  refine c_V (As := [.int a0]) (st1 := [.int v8]) (rest := []) (p_X0_has l E IsB1 x m g o e8) (kc_X4_101 hB ⟨Nat.le_of_ble_eq_true rfl, Nat.le_of_ble_eq_true rfl⟩) (Wd.rec hK hW (IsB1.l8 (j := 7) (by decide)) (cB_7 IsB1) (ci := 0) rfl) hx hb hml hown hB hK hW hS ⟨Nat.zero_le _, Nat.zero_le _⟩ rfl hl.1 rfl (Nat.le_of_ble_eq_true rfl) rfl dX4_appeal_8 (fun H locs hW hS => ?_)
  obtain ⟨u11, e11, hf⟩ := ob2 hf
  refine c_S (As := [.int v8]) (st1 := []) (rest := []) (p_X4_requireIndex l E x m g o e11) (kc_X4_31 hB ⟨Nat.le_of_ble_eq_true rfl, Nat.le_of_ble_eq_true rfl⟩) hx hb hml hown hB hK hW hS ⟨Nat.zero_le _, Nat.zero_le _⟩ rfl hl.1 rfl (Nat.le_of_ble_eq_true rfl) rfl dX4_appeal_11 (fun H locs hW hS => ?_)
  refine lv_aload_n hx hb dX4_appeal_14 rfl (lv_at hl 0 rfl) ?_
  refine gf_X4_10 hx hb hB hK hown hW dX4_appeal_15 ?_
  refine lv_iload_n hx hb dX4_appeal_18 rfl (lv_at hl 1 rfl) ?_
  obtain ⟨v19, e19, hf⟩ := ob2 hf
  refine c_V (As := [.int a0]) (st1 := [.int v19]) (rest := []) (p_X3_canBeAppealed l E IsB1 x m g o e19) (kc_X4_109 hB ⟨Nat.le_of_ble_eq_true rfl, Nat.le_of_ble_eq_true rfl⟩) (Wd.rec hK hW IsB1.l0 (cB_0 IsB1) (ci := 3) rfl) hx hb hml hown hB hK hW hS ⟨Nat.zero_le _, Nat.zero_le _⟩ rfl hl.1 rfl (Nat.le_of_ble_eq_true rfl) rfl dX4_appeal_19 (fun H locs hW hS => ?_)
  obtain ⟨u22, e22, hf⟩ := ob2 hf
  refine c_S (As := [.int v19]) (st1 := []) (rest := []) (p_X4_requireState l E x m g o e22) (kc_X4_52 hB ⟨Nat.le_of_ble_eq_true rfl, Nat.le_of_ble_eq_true rfl⟩) hx hb hml hown hB hK hW hS ⟨Nat.zero_le _, Nat.zero_le _⟩ rfl hl.1 rfl (Nat.le_of_ble_eq_true rfl) rfl dX4_appeal_22 (fun H locs hW hS => ?_)
  refine lv_aload_n hx hb dX4_appeal_25 rfl (lv_at hl 0 rfl) ?_
  obtain ⟨x26, e26, hf⟩ := ob2 hf
  refine c_V (As := []) (st1 := []) (rest := []) (p_X4_save l E x m g o e26) (kc_X4_55 hB ⟨Nat.le_of_ble_eq_true rfl, Nat.le_of_ble_eq_true rfl⟩) (Wd.rec hK hW (by decide) cX_0 (ci := 4) rfl) hx hb hml hown hB hK hW hS ⟨Nat.zero_le _, Nat.zero_le _⟩ rfl hl.1 rfl (Nat.le_of_ble_eq_true rfl) rfl dX4_appeal_26 (fun H locs hW hS => ?_)
  refine lv_aload_n hx hb dX4_appeal_29 rfl (lv_at hl 0 rfl) ?_
  refine gf_X4_10 hx hb hB hK hown hW dX4_appeal_30 ?_
  refine gf_X4_88 hx hb hB hK hown hW IsB1 dX4_appeal_33 ?_
  refine lv_iload_n hx hb dX4_appeal_36 rfl (lv_at hl 1 rfl) ?_
  refine lv_iconst (v := 2) hx hb dX4_appeal_37 (by decide) ?_
  obtain ⟨x38, e38, hf⟩ := ob2 hf
  refine c_V (As := [.int a0, .int 2]) (st1 := []) (rest := []) (p_X0_changeStage l E IsB1 x26 m g o e38) (kc_X4_112 hB ⟨Nat.le_of_ble_eq_true rfl, Nat.le_of_ble_eq_true rfl⟩) (Wd.rec hK hW (IsB1.l8 (j := 7) (by decide)) (cB_7 IsB1) (ci := 0) rfl) hx hb hml hown hB hK hW hS ⟨Nat.zero_le _, Nat.zero_le _⟩ rfl hl.1 rfl (Nat.le_of_ble_eq_true rfl) rfl dX4_appeal_38 (fun H locs hW hS => ?_)
  refine lv_aload_n hx hb dX4_appeal_41 rfl (lv_at hl 0 rfl) ?_
  refine gf_X4_10 hx hb hB hK hown hW dX4_appeal_42 ?_
  refine gf_X4_88 hx hb hB hK hown hW IsB1 dX4_appeal_45 ?_
  refine lv_iconst (v := 2) hx hb dX4_appeal_48 (by decide) ?_
  obtain ⟨v49, e49, hf⟩ := ob2 hf
  refine c_V (As := [.int 2]) (st1 := [.int v49]) (rest := []) (p_X0_inStage l E IsB1 x38 m g o e49) (kc_X4_116 hB ⟨Nat.le_of_ble_eq_true rfl, Nat.le_of_ble_eq_true rfl⟩) (Wd.rec hK hW (IsB1.l8 (j := 7) (by decide)) (cB_7 IsB1) (ci := 0) rfl) hx hb hml hown hB hK hW hS ⟨Nat.zero_le _, Nat.zero_le _⟩ rfl hl.1 rfl (Nat.le_of_ble_eq_true rfl) rfl dX4_appeal_49 (fun H locs hW hS => ?_)
  cases hf
  exact e_i hx hb hr hlk hW hS dX4_appeal_52
def f_X4_judge_31 (x31 : XS) (l1_31 : Int32) (l2_31 : Int32) (t0_31 : Int32) : Option (Int32 × XS) :=
    (f_X4_requireState t0_31).bind fun _ =>
    (f_X4_save x31).bind fun x35 =>
    (f_X3_makeJudgement 1 x35 l1_31 l2_31).bind fun q44 => (fun v44 x44 =>
    some (v44, x44)) q44.1 q44.2
def f_X4_judge (x : XS) (a0 : Int32) (a1 : Int32) : Option (Int32 × XS) :=
    (f_X0_has 1 x a0).bind fun v8 =>
    (f_X4_requireIndex v8).bind fun _ =>
    (f_X3_againstJudgement 1 x a0 a1).bind fun v20 =>
    if (v20 = 0 : Prop) then
      f_X4_judge_31 x a0 a1 1
    else
      f_X4_judge_31 x a0 a1 0
set_option maxRecDepth 100000 in
set_option maxHeartbeats 4000000 in
theorem p_X4_judge (l : Launch) (E : TE) (x m : XS) (g o : Int64) {a0 : Int32} {a1 : Int32} {r : Int32} {xr : XS} (hf : f_X4_judge x a0 a1 = some (r, xr)) : MG l E yX4_judge cX4_judge 3 (some .int) 6 [rf E 0, .int a0, .int a1] (Wd E x m g o) (Wd E xr m g o) (some (.int r)) := by
  unfold f_X4_judge at hf
  refine m_in (by decide) (Nat.le_of_ble_eq_true rfl) ?_
  intro p e s mi args below meth c H ls hx hb hr hlk hml hown hB hK hW hS hl
  have hl : lv_has ls 3 [(0, rf E 0), (1, .int a0), (2, .int a1)] := hl
  have J31 : ∀ (x31 : XS) (l1_31 : Int32) (l2_31 : Int32) (t0_31 : Int32) (H : Heap) (locs : List Loc) (ls : Array Slot), f_X4_judge_31 x31 l1_31 l2_31 t0_31 = some (r, xr) → Wd E x31 m g o H → va_S (Ah E) s.heap H locs → lv_has ls 3 [(0, rf E 0), (1, .int l1_31), (2, .int l2_31)] → W p l e (rmH 6) s mi args below meth c H locs 0 0 (EQ E below args s (Wd E xr m g o) (some (.int r))) (F0 mi 31 ls [.int t0_31]) := by
    intro x31 l1_31 l2_31 t0_31 H locs ls hf hW hS hl
    unfold f_X4_judge_31 at hf
    obtain ⟨u31, e31, hf⟩ := ob2 hf
    refine c_S (As := [.int t0_31]) (st1 := []) (rest := []) (p_X4_requireState l E x31 m g o e31) (kc_X4_52 hB ⟨Nat.le_of_ble_eq_true rfl, Nat.le_of_ble_eq_true rfl⟩) hx hb hml hown hB hK hW hS ⟨Nat.zero_le _, Nat.zero_le _⟩ rfl hl.1 rfl (Nat.le_of_ble_eq_true rfl) rfl dX4_judge_31 (fun H locs hW hS => ?_)
    refine lv_aload_n hx hb dX4_judge_34 rfl (lv_at hl 0 rfl) ?_
    obtain ⟨x35, e35, hf⟩ := ob2 hf
    refine c_V (As := []) (st1 := []) (rest := []) (p_X4_save l E x31 m g o e35) (kc_X4_55 hB ⟨Nat.le_of_ble_eq_true rfl, Nat.le_of_ble_eq_true rfl⟩) (Wd.rec hK hW (by decide) cX_0 (ci := 4) rfl) hx hb hml hown hB hK hW hS ⟨Nat.zero_le _, Nat.zero_le _⟩ rfl hl.1 rfl (Nat.le_of_ble_eq_true rfl) rfl dX4_judge_35 (fun H locs hW hS => ?_)
    refine lv_aload_n hx hb dX4_judge_38 rfl (lv_at hl 0 rfl) ?_
    refine gf_X4_10 hx hb hB hK hown hW dX4_judge_39 ?_
    refine lv_iload_n hx hb dX4_judge_42 rfl (lv_at hl 1 rfl) ?_
    refine lv_iload_n hx hb dX4_judge_43 rfl (lv_at hl 2 rfl) ?_
    obtain ⟨⟨v44, x44⟩, e44, hf⟩ := ob2 hf
    dsimp only at hf
    refine c_V (As := [.int l1_31, .int l2_31]) (st1 := [.int v44]) (rest := []) (p_X3_makeJudgement l E IsB1 x35 m g o e44) (kc_X4_122 hB ⟨Nat.le_of_ble_eq_true rfl, Nat.le_of_ble_eq_true rfl⟩) (Wd.rec hK hW IsB1.l0 (cB_0 IsB1) (ci := 3) rfl) hx hb hml hown hB hK hW hS ⟨Nat.zero_le _, Nat.zero_le _⟩ rfl hl.1 rfl (Nat.le_of_ble_eq_true rfl) rfl dX4_judge_44 (fun H locs hW hS => ?_)
    cases hf
    exact e_i hx hb hr hlk hW hS dX4_judge_47
  refine lv_aload_n hx hb dX4_judge_0 rfl (lv_at hl 0 rfl) ?_
  refine gf_X4_10 hx hb hB hK hown hW dX4_judge_1 ?_
  refine gf_X4_88 hx hb hB hK hown hW IsB1 dX4_judge_4 ?_
  refine lv_iload_n hx hb dX4_judge_7 rfl (lv_at hl 1 rfl) ?_
  obtain ⟨v8, e8, hf⟩ := ob2 hf
  refine c_V (As := [.int a0]) (st1 := [.int v8]) (rest := []) (p_X0_has l E IsB1 x m g o e8) (kc_X4_101 hB ⟨Nat.le_of_ble_eq_true rfl, Nat.le_of_ble_eq_true rfl⟩) (Wd.rec hK hW (IsB1.l8 (j := 7) (by decide)) (cB_7 IsB1) (ci := 0) rfl) hx hb hml hown hB hK hW hS ⟨Nat.zero_le _, Nat.zero_le _⟩ rfl hl.1 rfl (Nat.le_of_ble_eq_true rfl) rfl dX4_judge_8 (fun H locs hW hS => ?_)
  obtain ⟨u11, e11, hf⟩ := ob2 hf
  refine c_S (As := [.int v8]) (st1 := []) (rest := []) (p_X4_requireIndex l E x m g o e11) (kc_X4_31 hB ⟨Nat.le_of_ble_eq_true rfl, Nat.le_of_ble_eq_true rfl⟩) hx hb hml hown hB hK hW hS ⟨Nat.zero_le _, Nat.zero_le _⟩ rfl hl.1 rfl (Nat.le_of_ble_eq_true rfl) rfl dX4_judge_11 (fun H locs hW hS => ?_)
  refine lv_aload_n hx hb dX4_judge_14 rfl (lv_at hl 0 rfl) ?_
  refine gf_X4_10 hx hb hB hK hown hW dX4_judge_15 ?_
  refine lv_iload_n hx hb dX4_judge_18 rfl (lv_at hl 1 rfl) ?_
  refine lv_iload_n hx hb dX4_judge_19 rfl (lv_at hl 2 rfl) ?_
  obtain ⟨v20, e20, hf⟩ := ob2 hf
  refine c_V (As := [.int a0, .int a1]) (st1 := [.int v20]) (rest := []) (p_X3_againstJudgement l E IsB1 x m g o e20) (kc_X4_119 hB ⟨Nat.le_of_ble_eq_true rfl, Nat.le_of_ble_eq_true rfl⟩) (Wd.rec hK hW IsB1.l0 (cB_0 IsB1) (ci := 3) rfl) hx hb hml hown hB hK hW hS ⟨Nat.zero_le _, Nat.zero_le _⟩ rfl hl.1 rfl (Nat.le_of_ble_eq_true rfl) rfl dX4_judge_20 (fun H locs hW hS => ?_)
  refine lv_if_ne (tgt := 30) hx hb dX4_judge_23 (by decide) (fun c23 => ?_) (fun c23 => ?_)
  · rw [if_neg c23] at hf
    refine lv_iconst (v := 0) hx hb dX4_judge_30 (by decide) ?_
    exact J31 x a0 a1 0 _ _ _ hf hW hS (lv_sub hl [0, 1, 2] rfl)
  · rw [if_pos c23] at hf
    refine lv_iconst (v := 1) hx hb dX4_judge_26 (by decide) ?_
    refine lv_goto (tgt := 31) hx hb dX4_judge_27 (by decide) ?_
    exact J31 x a0 a1 1 _ _ _ hf hW hS (lv_sub hl [0, 1, 2] rfl)
def f_X4_closeMonth_18 (x18 : XS) (t0_18 : Int32) : Option (Int32 × XS) :=
    (f_X4_requireState t0_18).bind fun _ =>
    (f_X4_save x18).bind fun x22 =>
    (f_X3_turnMonth 1 x22).bind fun q29 => (fun v29 x29 =>
    some (v29, x29)) q29.1 q29.2
def f_X4_closeMonth (x : XS) : Option (Int32 × XS) :=
    if (500 ≤ (x 1 7) : Prop) then
      f_X4_closeMonth_18 x 0
    else
      f_X4_closeMonth_18 x 1
set_option maxRecDepth 100000 in
set_option maxHeartbeats 4000000 in
theorem p_X4_closeMonth (l : Launch) (E : TE) (x m : XS) (g o : Int64) {r : Int32} {xr : XS} (hf : f_X4_closeMonth x = some (r, xr)) : MG l E yX4_closeMonth cX4_closeMonth 1 (some .int) 6 [rf E 0] (Wd E x m g o) (Wd E xr m g o) (some (.int r)) := by
  unfold f_X4_closeMonth at hf
  refine m_in (by decide) (Nat.le_of_ble_eq_true rfl) ?_
  intro p e s mi args below meth c H ls hx hb hr hlk hml hown hB hK hW hS hl
  have hl : lv_has ls 1 [(0, rf E 0)] := hl
  have J18 : ∀ (x18 : XS) (t0_18 : Int32) (H : Heap) (locs : List Loc) (ls : Array Slot), f_X4_closeMonth_18 x18 t0_18 = some (r, xr) → Wd E x18 m g o H → va_S (Ah E) s.heap H locs → lv_has ls 1 [(0, rf E 0)] → W p l e (rmH 6) s mi args below meth c H locs 0 0 (EQ E below args s (Wd E xr m g o) (some (.int r))) (F0 mi 18 ls [.int t0_18]) := by
    intro x18 t0_18 H locs ls hf hW hS hl
    unfold f_X4_closeMonth_18 at hf
    obtain ⟨u18, e18, hf⟩ := ob2 hf
    refine c_S (As := [.int t0_18]) (st1 := []) (rest := []) (p_X4_requireState l E x18 m g o e18) (kc_X4_52 hB ⟨Nat.le_of_ble_eq_true rfl, Nat.le_of_ble_eq_true rfl⟩) hx hb hml hown hB hK hW hS ⟨Nat.zero_le _, Nat.zero_le _⟩ rfl hl.1 rfl (Nat.le_of_ble_eq_true rfl) rfl dX4_closeMonth_18 (fun H locs hW hS => ?_)
    refine lv_aload_n hx hb dX4_closeMonth_21 rfl (lv_at hl 0 rfl) ?_
    obtain ⟨x22, e22, hf⟩ := ob2 hf
    refine c_V (As := []) (st1 := []) (rest := []) (p_X4_save l E x18 m g o e22) (kc_X4_55 hB ⟨Nat.le_of_ble_eq_true rfl, Nat.le_of_ble_eq_true rfl⟩) (Wd.rec hK hW (by decide) cX_0 (ci := 4) rfl) hx hb hml hown hB hK hW hS ⟨Nat.zero_le _, Nat.zero_le _⟩ rfl hl.1 rfl (Nat.le_of_ble_eq_true rfl) rfl dX4_closeMonth_22 (fun H locs hW hS => ?_)
    refine lv_aload_n hx hb dX4_closeMonth_25 rfl (lv_at hl 0 rfl) ?_
    refine gf_X4_10 hx hb hB hK hown hW dX4_closeMonth_26 ?_
    obtain ⟨⟨v29, x29⟩, e29, hf⟩ := ob2 hf
    dsimp only at hf
    refine c_V (As := []) (st1 := [.int v29]) (rest := []) (p_X3_turnMonth l E IsB1 x22 m g o e29) (kc_X4_128 hB ⟨Nat.le_of_ble_eq_true rfl, Nat.le_of_ble_eq_true rfl⟩) (Wd.rec hK hW IsB1.l0 (cB_0 IsB1) (ci := 3) rfl) hx hb hml hown hB hK hW hS ⟨Nat.zero_le _, Nat.zero_le _⟩ rfl hl.1 rfl (Nat.le_of_ble_eq_true rfl) rfl dX4_closeMonth_29 (fun H locs hW hS => ?_)
    cases hf
    exact e_i hx hb hr hlk hW hS dX4_closeMonth_32
  refine lv_aload_n hx hb dX4_closeMonth_0 rfl (lv_at hl 0 rfl) ?_
  refine gf_X4_10 hx hb hB hK hown hW dX4_closeMonth_1 ?_
  refine gf_X4_125 hx hb hB hK hown hW IsB1 dX4_closeMonth_4 ?_
  refine lv_sipush (v := 500) hx hb dX4_closeMonth_7 (by decide) ?_
  refine lv_icmp_ge (tgt := 17) hx hb dX4_closeMonth_10 (by decide) (fun c10 => ?_) (fun c10 => ?_)
  · rw [if_pos c10] at hf
    refine lv_iconst (v := 0) hx hb dX4_closeMonth_17 (by decide) ?_
    exact J18 x 0 _ _ _ hf hW hS (lv_sub hl [0] rfl)
  · rw [if_neg c10] at hf
    refine lv_iconst (v := 1) hx hb dX4_closeMonth_13 (by decide) ?_
    refine lv_goto (tgt := 18) hx hb dX4_closeMonth_14 (by decide) ?_
    exact J18 x 1 _ _ _ hf hW hS (lv_sub hl [0] rfl)
def f_X4_append_25 (x25 : XS) (l1_25 : Int32) (t0_25 : Int32) : Option (Int32 × XS) :=
    (f_X4_requireState t0_25).bind fun _ =>
    (aset x25 54 60 (x25 0 6) l1_25).bind fun x37 =>
    (some (ux x37 0 6 ((x37 0 6) + 1))).bind fun x45 =>
    some ((x45 0 6), x45)
def f_X4_append (x : XS) (a0 : Int32) : Option (Int32 × XS) :=
    (f_X4_isWithin a0 33 126).bind fun v5 =>
    (f_X4_requireArgument v5).bind fun _ =>
    if (60 ≤ (x 0 6) : Prop) then
      f_X4_append_25 x a0 0
    else
      f_X4_append_25 x a0 1
set_option maxRecDepth 100000 in
set_option maxHeartbeats 4000000 in
theorem p_X4_append (l : Launch) (E : TE) (x m : XS) (g o : Int64) {a0 : Int32} {r : Int32} {xr : XS} (hf : f_X4_append x a0 = some (r, xr)) : MG l E yX4_append cX4_append 2 (some .int) 2 [rf E 0, .int a0] (Wd E x m g o) (Wd E xr m g o) (some (.int r)) := by
  unfold f_X4_append at hf
  refine m_in (by decide) (Nat.le_of_ble_eq_true rfl) ?_
  intro p e s mi args below meth c H ls hx hb hr hlk hml hown hB hK hW hS hl
  have hl : lv_has ls 2 [(0, rf E 0), (1, .int a0)] := hl
  have J25 : ∀ (x25 : XS) (l1_25 : Int32) (t0_25 : Int32) (H : Heap) (locs : List Loc) (ls : Array Slot), f_X4_append_25 x25 l1_25 t0_25 = some (r, xr) → Wd E x25 m g o H → va_S (Ah E) s.heap H locs → lv_has ls 2 [(0, rf E 0), (1, .int l1_25)] → W p l e (rmH 2) s mi args below meth c H locs 0 0 (EQ E below args s (Wd E xr m g o) (some (.int r))) (F0 mi 25 ls [.int t0_25]) := by
    intro x25 l1_25 t0_25 H locs ls hf hW hS hl
    unfold f_X4_append_25 at hf
    obtain ⟨u25, e25, hf⟩ := ob2 hf
    refine c_S (As := [.int t0_25]) (st1 := []) (rest := []) (p_X4_requireState l E x25 m g o e25) (kc_X4_52 hB ⟨Nat.le_of_ble_eq_true rfl, Nat.le_of_ble_eq_true rfl⟩) hx hb hml hown hB hK hW hS ⟨Nat.zero_le _, Nat.zero_le _⟩ rfl hl.1 rfl (Nat.le_of_ble_eq_true rfl) rfl dX4_append_25 (fun H locs hW hS => ?_)
    refine lv_aload_n hx hb dX4_append_28 rfl (lv_at hl 0 rfl) ?_
    refine gf_X4_23 hx hb hB hK hown hW dX4_append_29 ?_
    refine lv_aload_n hx hb dX4_append_32 rfl (lv_at hl 0 rfl) ?_
    refine gf_X4_132 hx hb hB hK hown hW dX4_append_33 ?_
    refine lv_iload_n hx hb dX4_append_36 rfl (lv_at hl 1 rfl) ?_
    obtain ⟨x37, e37, hf⟩ := ob2 hf
    refine r_iastX hx hb hK hW hS (by decide) (fun _ => cX_54) e37 dX4_append_37 (fun H locs hW hS => ?_)
    refine lv_aload_n hx hb dX4_append_38 rfl (lv_at hl 0 rfl) ?_
    refine lv_dup hx hb dX4_append_39 rfl ?_
    refine gf_X4_132 hx hb hB hK hown hW dX4_append_40 ?_
    refine lv_iconst (v := 1) hx hb dX4_append_43 (by decide) ?_
    refine lv_iadd hx hb dX4_append_44 ?_
    obtain ⟨x45, e45, hf⟩ := ob hf
    refine pf_X4_132 hx hb hB hK hown hW hS e45 dX4_append_45 (fun H locs hW hS => ?_)
    refine lv_aload_n hx hb dX4_append_48 rfl (lv_at hl 0 rfl) ?_
    refine gf_X4_132 hx hb hB hK hown hW dX4_append_49 ?_
    cases hf
    exact e_i hx hb hr hlk hW hS dX4_append_52
  refine lv_iload_n hx hb dX4_append_0 rfl (lv_at hl 1 rfl) ?_
  refine lv_bipush (v := 33) hx hb dX4_append_1 (by decide) ?_
  refine lv_bipush (v := 126) hx hb dX4_append_3 (by decide) ?_
  obtain ⟨v5, e5, hf⟩ := ob2 hf
  refine c_S (As := [.int a0, .int 33, .int 126]) (st1 := [.int v5]) (rest := []) (p_X4_isWithin l E x m g o e5) (kc_X4_35 hB ⟨Nat.le_of_ble_eq_true rfl, Nat.le_of_ble_eq_true rfl⟩) hx hb hml hown hB hK hW hS ⟨Nat.zero_le _, Nat.zero_le _⟩ rfl hl.1 rfl (Nat.le_of_ble_eq_true rfl) rfl dX4_append_5 (fun H locs hW hS => ?_)
  obtain ⟨u8, e8, hf⟩ := ob2 hf
  refine c_S (As := [.int v5]) (st1 := []) (rest := []) (p_X4_requireArgument l E x m g o e8) (kc_X4_39 hB ⟨Nat.le_of_ble_eq_true rfl, Nat.le_of_ble_eq_true rfl⟩) hx hb hml hown hB hK hW hS ⟨Nat.zero_le _, Nat.zero_le _⟩ rfl hl.1 rfl (Nat.le_of_ble_eq_true rfl) rfl dX4_append_8 (fun H locs hW hS => ?_)
  refine lv_aload_n hx hb dX4_append_11 rfl (lv_at hl 0 rfl) ?_
  refine gf_X4_132 hx hb hB hK hown hW dX4_append_12 ?_
  refine lv_bipush (v := 60) hx hb dX4_append_15 (by decide) ?_
  refine lv_icmp_ge (tgt := 24) hx hb dX4_append_17 (by decide) (fun c17 => ?_) (fun c17 => ?_)
  · rw [if_pos c17] at hf
    refine lv_iconst (v := 0) hx hb dX4_append_24 (by decide) ?_
    exact J25 x a0 0 _ _ _ hf hW hS (lv_sub hl [0, 1] rfl)
  · rw [if_neg c17] at hf
    refine lv_iconst (v := 1) hx hb dX4_append_20 (by decide) ?_
    refine lv_goto (tgt := 25) hx hb dX4_append_21 (by decide) ?_
    exact J25 x a0 1 _ _ _ hf hW hS (lv_sub hl [0, 1] rfl)
def f_X4_clearBuffer (x : XS) : Option (Int32 × XS) :=
    (some ((x 0 6))).bind fun v4 =>
    (some (ux x 0 6 0)).bind fun x7 =>
    some (v4, x7)
set_option maxRecDepth 100000 in
set_option maxHeartbeats 4000000 in
theorem p_X4_clearBuffer (l : Launch) (E : TE) (x m : XS) (g o : Int64) {r : Int32} {xr : XS} (hf : f_X4_clearBuffer x = some (r, xr)) : MG l E yX4_clearBuffer cX4_clearBuffer 2 (some .int) 0 [rf E 0] (Wd E x m g o) (Wd E xr m g o) (some (.int r)) := by
  unfold f_X4_clearBuffer at hf
  refine m_in (by decide) (Nat.le_of_ble_eq_true rfl) ?_
  intro p e s mi args below meth c H ls hx hb hr hlk hml hown hB hK hW hS hl
  have hl : lv_has ls 2 [(0, rf E 0)] := hl
  refine lv_aload_n hx hb dX4_clearBuffer_0 rfl (lv_at hl 0 rfl) ?_
  refine gf_X4_132 hx hb hB hK hown hW dX4_clearBuffer_1 ?_
  obtain ⟨v4, e4, hf⟩ := ob hf
  refine lv_nm e4 ?_
  refine lv_istore_n (lv' := [(1, .int v4), (0, rf E 0)]) hx hb dX4_clearBuffer_4 rfl hl (by decide) rfl (fun ls hl => ?_)
  refine lv_aload_n hx hb dX4_clearBuffer_5 rfl (lv_at hl 1 rfl) ?_
  refine lv_iconst (v := 0) hx hb dX4_clearBuffer_6 (by decide) ?_
  obtain ⟨x7, e7, hf⟩ := ob hf
  refine pf_X4_132 hx hb hB hK hown hW hS e7 dX4_clearBuffer_7 (fun H locs hW hS => ?_)
  refine lv_iload_n hx hb dX4_clearBuffer_10 rfl (lv_at hl 0 rfl) ?_
  cases hf
  exact e_i hx hb hr hlk hW hS dX4_clearBuffer_11
def f_X4_codeAt (x : XS) (a0 : Int32) : Option (Int32) :=
    (f_X4_isWithin a0 0 59).bind fun v4 =>
    if (v4 = 0 : Prop) then
      some 0
    else
      ((aget 60 (x 54) a0).bind fun v15 =>
      some v15)
set_option maxRecDepth 100000 in
set_option maxHeartbeats 4000000 in
theorem p_X4_codeAt (l : Launch) (E : TE) (x m : XS) (g o : Int64) {a0 : Int32} {r : Int32} (hf : f_X4_codeAt x a0 = some r) : MG l E yX4_codeAt cX4_codeAt 2 (some .int) 1 [rf E 0, .int a0] (Wd E x m g o) (Wd E x m g o) (some (.int r)) := by
  unfold f_X4_codeAt at hf
  refine m_in (by decide) (Nat.le_of_ble_eq_true rfl) ?_
  intro p e s mi args below meth c H ls hx hb hr hlk hml hown hB hK hW hS hl
  have hl : lv_has ls 2 [(0, rf E 0), (1, .int a0)] := hl
  refine lv_iload_n hx hb dX4_codeAt_0 rfl (lv_at hl 1 rfl) ?_
  refine lv_iconst (v := 0) hx hb dX4_codeAt_1 (by decide) ?_
  refine lv_bipush (v := 59) hx hb dX4_codeAt_2 (by decide) ?_
  obtain ⟨v4, e4, hf⟩ := ob2 hf
  refine c_S (As := [.int a0, .int 0, .int 59]) (st1 := [.int v4]) (rest := []) (p_X4_isWithin l E x m g o e4) (kc_X4_35 hB ⟨Nat.le_of_ble_eq_true rfl, Nat.le_of_ble_eq_true rfl⟩) hx hb hml hown hB hK hW hS ⟨Nat.zero_le _, Nat.zero_le _⟩ rfl hl.1 rfl (Nat.le_of_ble_eq_true rfl) rfl dX4_codeAt_4 (fun H locs hW hS => ?_)
  refine lv_if_eq (tgt := 19) hx hb dX4_codeAt_7 (by decide) (fun c7 => ?_) (fun c7 => ?_)
  · rw [if_pos c7] at hf
    refine lv_iconst (v := 0) hx hb dX4_codeAt_19 (by decide) ?_
    cases hf
    exact e_i hx hb hr hlk hW hS dX4_codeAt_20
  · rw [if_neg c7] at hf
    refine lv_aload_n hx hb dX4_codeAt_10 rfl (lv_at hl 0 rfl) ?_
    refine gf_X4_23 hx hb hB hK hown hW dX4_codeAt_11 ?_
    refine lv_iload_n hx hb dX4_codeAt_14 rfl (lv_at hl 1 rfl) ?_
    obtain ⟨v15, e15, hf⟩ := ob2 hf
    refine r_iald hx hb hK hW (by decide) (cX_54) e15 dX4_codeAt_15 ?_
    refine lv_goto (tgt := 20) hx hb dX4_codeAt_16 (by decide) ?_
    cases hf
    exact e_i hx hb hr hlk hW hS dX4_codeAt_20
def f_X4_fitsPlace (a0 : Int32) (a1 : Int32) : Option (Int32) :=
    if (a0 = 0 : Prop) then
      (if (a1 = 107 : Prop) then
        some 1
      else
        some 0)
    else if (a0 = 1 : Prop) then
      ((f_X4_isWithin a1 48 51).bind fun v57 =>
      if (v57 = 0 ∨ v57 = 1 : Prop) then some v57 else none)
    else if (a0 = 2 : Prop) then
      (if (a1 = 115 : Prop) then
        some 1
      else
        some 0)
    else if (a0 = 3 : Prop) then
      ((f_X4_isWithin a1 49 57).bind fun v78 =>
      if (v78 = 0 ∨ v78 = 1 : Prop) then some v78 else none)
    else if (a0 = 4 : Prop) then
      (if (a1 = 99 : Prop) then
        some 1
      else
        some 0)
    else if (a0 = 5 : Prop) then
      ((f_X4_isWithin a1 48 57).bind fun v99 =>
      if (v99 = 0 ∨ v99 = 1 : Prop) then some v99 else none)
    else   (if (a1 = 59 : Prop) then
        some 1
      else
        some 0)
set_option maxRecDepth 100000 in
set_option maxHeartbeats 4000000 in
theorem p_X4_fitsPlace (l : Launch) (E : TE) (x m : XS) (g o : Int64) {a0 : Int32} {a1 : Int32} {r : Int32} (hf : f_X4_fitsPlace a0 a1 = some r) : MG l E yX4_fitsPlace cX4_fitsPlace 2 (some .boolean) 1 [.int a0, .int a1] (Wd E x m g o) (Wd E x m g o) (some (.int r)) := by
  unfold f_X4_fitsPlace at hf
  refine m_in (by decide) (Nat.le_of_ble_eq_true rfl) ?_
  intro p e s mi args below meth c H ls hx hb hr hlk hml hown hB hK hW hS hl
  have hl : lv_has ls 2 [(0, .int a0), (1, .int a1)] := hl
  refine lv_iload_n hx hb dX4_fitsPlace_0 rfl (lv_at hl 0 rfl) ?_
  by_cases c1_0 : a0 = 0
  · rw [if_pos c1_0] at hf
    refine lv_tableIn (tgt := 40) (off := 39) hx hb dX4_fitsPlace_1 (by rw [c1_0]; decide) (by rw [c1_0]; decide) (by rw [c1_0]; rfl) (by decide) ?_
    refine lv_iload_n hx hb dX4_fitsPlace_40 rfl (lv_at hl 1 rfl) ?_
    refine lv_bipush (v := 107) hx hb dX4_fitsPlace_41 (by decide) ?_
    refine lv_icmp_ne (tgt := 50) hx hb dX4_fitsPlace_43 (by decide) (fun c43 => ?_) (fun c43 => ?_)
    · rw [if_neg c43] at hf
      refine lv_iconst (v := 0) hx hb dX4_fitsPlace_50 (by decide) ?_
      cases hf
      exact e_z hx hb hr hlk (Or.inl rfl) hW hS dX4_fitsPlace_51
    · rw [if_pos c43] at hf
      refine lv_iconst (v := 1) hx hb dX4_fitsPlace_46 (by decide) ?_
      refine lv_goto (tgt := 51) hx hb dX4_fitsPlace_47 (by decide) ?_
      cases hf
      exact e_z hx hb hr hlk (Or.inr rfl) hW hS dX4_fitsPlace_51
  rw [if_neg c1_0] at hf
  by_cases c1_1 : a0 = 1
  · rw [if_pos c1_1] at hf
    refine lv_tableIn (tgt := 52) (off := 51) hx hb dX4_fitsPlace_1 (by rw [c1_1]; decide) (by rw [c1_1]; decide) (by rw [c1_1]; rfl) (by decide) ?_
    refine lv_iload_n hx hb dX4_fitsPlace_52 rfl (lv_at hl 1 rfl) ?_
    refine lv_bipush (v := 48) hx hb dX4_fitsPlace_53 (by decide) ?_
    refine lv_bipush (v := 51) hx hb dX4_fitsPlace_55 (by decide) ?_
    obtain ⟨v57, e57, hf⟩ := ob2 hf
    refine c_S (As := [.int a1, .int 48, .int 51]) (st1 := [.int v57]) (rest := []) (p_X4_isWithin l E x m g o e57) (kc_X4_35 hB ⟨Nat.le_of_ble_eq_true rfl, Nat.le_of_ble_eq_true rfl⟩) hx hb hml hown hB hK hW hS ⟨Nat.zero_le _, Nat.zero_le _⟩ rfl hl.1 rfl (Nat.le_of_ble_eq_true rfl) rfl dX4_fitsPlace_57 (fun H locs hW hS => ?_)
    obtain ⟨zb, hf⟩ := oif hf
    cases hf
    exact e_z hx hb hr hlk zb hW hS dX4_fitsPlace_60
  rw [if_neg c1_1] at hf
  by_cases c1_2 : a0 = 2
  · rw [if_pos c1_2] at hf
    refine lv_tableIn (tgt := 61) (off := 60) hx hb dX4_fitsPlace_1 (by rw [c1_2]; decide) (by rw [c1_2]; decide) (by rw [c1_2]; rfl) (by decide) ?_
    refine lv_iload_n hx hb dX4_fitsPlace_61 rfl (lv_at hl 1 rfl) ?_
    refine lv_bipush (v := 115) hx hb dX4_fitsPlace_62 (by decide) ?_
    refine lv_icmp_ne (tgt := 71) hx hb dX4_fitsPlace_64 (by decide) (fun c64 => ?_) (fun c64 => ?_)
    · rw [if_neg c64] at hf
      refine lv_iconst (v := 0) hx hb dX4_fitsPlace_71 (by decide) ?_
      cases hf
      exact e_z hx hb hr hlk (Or.inl rfl) hW hS dX4_fitsPlace_72
    · rw [if_pos c64] at hf
      refine lv_iconst (v := 1) hx hb dX4_fitsPlace_67 (by decide) ?_
      refine lv_goto (tgt := 72) hx hb dX4_fitsPlace_68 (by decide) ?_
      cases hf
      exact e_z hx hb hr hlk (Or.inr rfl) hW hS dX4_fitsPlace_72
  rw [if_neg c1_2] at hf
  by_cases c1_3 : a0 = 3
  · rw [if_pos c1_3] at hf
    refine lv_tableIn (tgt := 73) (off := 72) hx hb dX4_fitsPlace_1 (by rw [c1_3]; decide) (by rw [c1_3]; decide) (by rw [c1_3]; rfl) (by decide) ?_
    refine lv_iload_n hx hb dX4_fitsPlace_73 rfl (lv_at hl 1 rfl) ?_
    refine lv_bipush (v := 49) hx hb dX4_fitsPlace_74 (by decide) ?_
    refine lv_bipush (v := 57) hx hb dX4_fitsPlace_76 (by decide) ?_
    obtain ⟨v78, e78, hf⟩ := ob2 hf
    refine c_S (As := [.int a1, .int 49, .int 57]) (st1 := [.int v78]) (rest := []) (p_X4_isWithin l E x m g o e78) (kc_X4_35 hB ⟨Nat.le_of_ble_eq_true rfl, Nat.le_of_ble_eq_true rfl⟩) hx hb hml hown hB hK hW hS ⟨Nat.zero_le _, Nat.zero_le _⟩ rfl hl.1 rfl (Nat.le_of_ble_eq_true rfl) rfl dX4_fitsPlace_78 (fun H locs hW hS => ?_)
    obtain ⟨zb, hf⟩ := oif hf
    cases hf
    exact e_z hx hb hr hlk zb hW hS dX4_fitsPlace_81
  rw [if_neg c1_3] at hf
  by_cases c1_4 : a0 = 4
  · rw [if_pos c1_4] at hf
    refine lv_tableIn (tgt := 82) (off := 81) hx hb dX4_fitsPlace_1 (by rw [c1_4]; decide) (by rw [c1_4]; decide) (by rw [c1_4]; rfl) (by decide) ?_
    refine lv_iload_n hx hb dX4_fitsPlace_82 rfl (lv_at hl 1 rfl) ?_
    refine lv_bipush (v := 99) hx hb dX4_fitsPlace_83 (by decide) ?_
    refine lv_icmp_ne (tgt := 92) hx hb dX4_fitsPlace_85 (by decide) (fun c85 => ?_) (fun c85 => ?_)
    · rw [if_neg c85] at hf
      refine lv_iconst (v := 0) hx hb dX4_fitsPlace_92 (by decide) ?_
      cases hf
      exact e_z hx hb hr hlk (Or.inl rfl) hW hS dX4_fitsPlace_93
    · rw [if_pos c85] at hf
      refine lv_iconst (v := 1) hx hb dX4_fitsPlace_88 (by decide) ?_
      refine lv_goto (tgt := 93) hx hb dX4_fitsPlace_89 (by decide) ?_
      cases hf
      exact e_z hx hb hr hlk (Or.inr rfl) hW hS dX4_fitsPlace_93
  rw [if_neg c1_4] at hf
  by_cases c1_5 : a0 = 5
  · rw [if_pos c1_5] at hf
    refine lv_tableIn (tgt := 94) (off := 93) hx hb dX4_fitsPlace_1 (by rw [c1_5]; decide) (by rw [c1_5]; decide) (by rw [c1_5]; rfl) (by decide) ?_
    refine lv_iload_n hx hb dX4_fitsPlace_94 rfl (lv_at hl 1 rfl) ?_
    refine lv_bipush (v := 48) hx hb dX4_fitsPlace_95 (by decide) ?_
    refine lv_bipush (v := 57) hx hb dX4_fitsPlace_97 (by decide) ?_
    obtain ⟨v99, e99, hf⟩ := ob2 hf
    refine c_S (As := [.int a1, .int 48, .int 57]) (st1 := [.int v99]) (rest := []) (p_X4_isWithin l E x m g o e99) (kc_X4_35 hB ⟨Nat.le_of_ble_eq_true rfl, Nat.le_of_ble_eq_true rfl⟩) hx hb hml hown hB hK hW hS ⟨Nat.zero_le _, Nat.zero_le _⟩ rfl hl.1 rfl (Nat.le_of_ble_eq_true rfl) rfl dX4_fitsPlace_99 (fun H locs hW hS => ?_)
    obtain ⟨zb, hf⟩ := oif hf
    cases hf
    exact e_z hx hb hr hlk zb hW hS dX4_fitsPlace_102
  rw [if_neg c1_5] at hf
  refine lv_tableOut (tgt := 103) hx hb dX4_fitsPlace_1 (by have h0 := lv_neT c1_0 (show (0 : Int32).toInt = 0 by decide); have h1 := lv_neT c1_1 (show (1 : Int32).toInt = 1 by decide); have h2 := lv_neT c1_2 (show (2 : Int32).toInt = 2 by decide); have h3 := lv_neT c1_3 (show (3 : Int32).toInt = 3 by decide); have h4 := lv_neT c1_4 (show (4 : Int32).toInt = 4 by decide); have h5 := lv_neT c1_5 (show (5 : Int32).toInt = 5 by decide); omega) (by decide) ?_
  refine lv_iload_n hx hb dX4_fitsPlace_103 rfl (lv_at hl 1 rfl) ?_
  refine lv_bipush (v := 59) hx hb dX4_fitsPlace_104 (by decide) ?_
  refine lv_icmp_ne (tgt := 113) hx hb dX4_fitsPlace_106 (by decide) (fun c106 => ?_) (fun c106 => ?_)
  · rw [if_neg c106] at hf
    refine lv_iconst (v := 0) hx hb dX4_fitsPlace_113 (by decide) ?_
    cases hf
    exact e_z hx hb hr hlk (Or.inl rfl) hW hS dX4_fitsPlace_114
  · rw [if_pos c106] at hf
    refine lv_iconst (v := 1) hx hb dX4_fitsPlace_109 (by decide) ?_
    refine lv_goto (tgt := 114) hx hb dX4_fitsPlace_110 (by decide) ?_
    cases hf
    exact e_z hx hb hr hlk (Or.inr rfl) hW hS dX4_fitsPlace_114
def f_X4_firstError_2 (x : XS) : Nat → Int32 → Option (Int32)
  | 0, _ => none
  | n2 + 1, l1_2 =>
    if ((x 0 6) ≤ l1_2 : Prop) then
      some (x 0 6)
    else
      ((f_X4_codeAt x l1_2).bind fun v16 =>
      (f_X4_fitsPlace (l1_2 - l1_2 / 7 * 7) v16).bind fun v19 =>
      if (v19 = 0 : Prop) then
        some l1_2
      else
        ((some (l1_2 + 1)).bind fun v27 =>
        f_X4_firstError_2 x n2 v27))
def f_X4_firstError (x : XS) : Option (Int32) :=
    f_X4_firstError_2 x 4096 0
set_option maxRecDepth 100000 in
set_option maxHeartbeats 4000000 in
theorem p_X4_firstError (l : Launch) (E : TE) (x m : XS) (g o : Int64) {r : Int32} (hf : f_X4_firstError x = some r) : MG l E yX4_firstError cX4_firstError 2 (some .int) 2 [rf E 0] (Wd E x m g o) (Wd E x m g o) (some (.int r)) := by
  unfold f_X4_firstError at hf
  refine m_in (by decide) (Nat.le_of_ble_eq_true rfl) ?_
  intro p e s mi args below meth c H ls hx hb hr hlk hml hown hB hK hW hS hl
  have hl : lv_has ls 2 [(0, rf E 0)] := hl
  have J2 : ∀ (n2 : Nat), ∀ (l1_2 : Int32) (H : Heap) (locs : List Loc) (ls : Array Slot), f_X4_firstError_2 x n2 l1_2 = some r → Wd E x m g o H → va_S (Ah E) s.heap H locs → lv_has ls 2 [(0, rf E 0), (1, .int l1_2)] → W p l e (rmH 2) s mi args below meth c H locs 0 0 (EQ E below args s (Wd E x m g o) (some (.int r))) (F0 mi 2 ls []) := by
    intro n2
    induction n2 with
    | zero => intro l1_2 H locs ls hf; exact absurd hf (fun z => nomatch (show (none : Option (Int32)) = some _ from z))
    | succ n2 ih2 =>
      intro l1_2 H locs ls hf hW hS hl
      rw [f_X4_firstError_2.eq_2] at hf
      refine lv_iload_n hx hb dX4_firstError_2 rfl (lv_at hl 1 rfl) ?_
      refine lv_aload_n hx hb dX4_firstError_3 rfl (lv_at hl 0 rfl) ?_
      refine gf_X4_132 hx hb hB hK hown hW dX4_firstError_4 ?_
      refine lv_icmp_ge (tgt := 33) hx hb dX4_firstError_7 (by decide) (fun c7 => ?_) (fun c7 => ?_)
      · rw [if_pos c7] at hf
        refine lv_aload_n hx hb dX4_firstError_33 rfl (lv_at hl 0 rfl) ?_
        refine gf_X4_132 hx hb hB hK hown hW dX4_firstError_34 ?_
        cases hf
        exact e_i hx hb hr hlk hW hS dX4_firstError_37
      · rw [if_neg c7] at hf
        refine lv_iload_n hx hb dX4_firstError_10 rfl (lv_at hl 1 rfl) ?_
        refine lv_bipush (v := 7) hx hb dX4_firstError_11 (by decide) ?_
        refine lv_irem hx hb dX4_firstError_13 (by decide) ?_
        refine lv_aload_n hx hb dX4_firstError_14 rfl (lv_at hl 0 rfl) ?_
        refine lv_iload_n hx hb dX4_firstError_15 rfl (lv_at hl 1 rfl) ?_
        obtain ⟨v16, e16, hf⟩ := ob2 hf
        refine c_V (As := [.int l1_2]) (st1 := [.int v16, .int (l1_2 - l1_2 / 7 * 7)]) (rest := [.int (l1_2 - l1_2 / 7 * 7)]) (p_X4_codeAt l E x m g o e16) (kc_X4_135 hB ⟨Nat.le_of_ble_eq_true rfl, Nat.le_of_ble_eq_true rfl⟩) (Wd.rec hK hW (by decide) cX_0 (ci := 4) rfl) hx hb hml hown hB hK hW hS ⟨Nat.zero_le _, Nat.zero_le _⟩ rfl hl.1 rfl (Nat.le_of_ble_eq_true rfl) rfl dX4_firstError_16 (fun H locs hW hS => ?_)
        obtain ⟨v19, e19, hf⟩ := ob2 hf
        refine c_S (As := [.int (l1_2 - l1_2 / 7 * 7), .int v16]) (st1 := [.int v19]) (rest := []) (p_X4_fitsPlace l E x m g o e19) (kc_X4_138 hB ⟨Nat.le_of_ble_eq_true rfl, Nat.le_of_ble_eq_true rfl⟩) hx hb hml hown hB hK hW hS ⟨Nat.zero_le _, Nat.zero_le _⟩ rfl hl.1 rfl (Nat.le_of_ble_eq_true rfl) rfl dX4_firstError_19 (fun H locs hW hS => ?_)
        refine lv_if_ne (tgt := 27) hx hb dX4_firstError_22 (by decide) (fun c22 => ?_) (fun c22 => ?_)
        · rw [if_neg c22] at hf
          obtain ⟨v27, e27, hf⟩ := ob hf
          refine lv_iinc (v := v27) (lv' := [(1, .int v27), (0, rf E 0)]) hx hb dX4_firstError_27 hl (k := 1) rfl (by rw [e27]; rfl) (by decide) rfl (fun ls hl => ?_)
          refine lv_goto (tgt := 2) hx hb dX4_firstError_30 (by decide) ?_
          exact ih2 v27 _ _ _ hf hW hS (lv_sub hl [1, 0] rfl)
        · rw [if_pos c22] at hf
          refine lv_iload_n hx hb dX4_firstError_25 rfl (lv_at hl 1 rfl) ?_
          cases hf
          exact e_i hx hb hr hlk hW hS dX4_firstError_26
  refine lv_iconst (v := 0) hx hb dX4_firstError_0 (by decide) ?_
  refine lv_istore_n (lv' := [(1, .int 0), (0, rf E 0)]) hx hb dX4_firstError_1 rfl hl (by decide) rfl (fun ls hl => ?_)
  exact J2 4096 0 _ _ _ hf hW hS (lv_sub hl [1, 0] rfl)
def f_X4_digitAt (x : XS) (a0 : Int32) : Option (Int32) :=
    (f_X4_codeAt x a0).bind fun v2 =>
    some (v2 - 48)
set_option maxRecDepth 100000 in
set_option maxHeartbeats 4000000 in
theorem p_X4_digitAt (l : Launch) (E : TE) (x m : XS) (g o : Int64) {a0 : Int32} {r : Int32} (hf : f_X4_digitAt x a0 = some r) : MG l E yX4_digitAt cX4_digitAt 2 (some .int) 2 [rf E 0, .int a0] (Wd E x m g o) (Wd E x m g o) (some (.int r)) := by
  unfold f_X4_digitAt at hf
  refine m_in (by decide) (Nat.le_of_ble_eq_true rfl) ?_
  intro p e s mi args below meth c H ls hx hb hr hlk hml hown hB hK hW hS hl
  have hl : lv_has ls 2 [(0, rf E 0), (1, .int a0)] := hl
  refine lv_aload_n hx hb dX4_digitAt_0 rfl (lv_at hl 0 rfl) ?_
  refine lv_iload_n hx hb dX4_digitAt_1 rfl (lv_at hl 1 rfl) ?_
  obtain ⟨v2, e2, hf⟩ := ob2 hf
  refine c_V (As := [.int a0]) (st1 := [.int v2]) (rest := []) (p_X4_codeAt l E x m g o e2) (kc_X4_135 hB ⟨Nat.le_of_ble_eq_true rfl, Nat.le_of_ble_eq_true rfl⟩) (Wd.rec hK hW (by decide) cX_0 (ci := 4) rfl) hx hb hml hown hB hK hW hS ⟨Nat.zero_le _, Nat.zero_le _⟩ rfl hl.1 rfl (Nat.le_of_ble_eq_true rfl) rfl dX4_digitAt_2 (fun H locs hW hS => ?_)
  refine lv_bipush (v := 48) hx hb dX4_digitAt_5 (by decide) ?_
  refine lv_isub hx hb dX4_digitAt_7 ?_
  cases hf
  exact e_i hx hb hr hlk hW hS dX4_digitAt_8
def f_X4_complainAll_72 : Nat → XS → Int32 → Int32 → Option (Int32 × XS)
  | 0, _, _, _ => none
  | n72 + 1, x72, l1_72, l2_72 =>
    if (l1_72 ≤ l2_72 : Prop) then
      ((some (ux x72 0 6 0)).bind fun x122 =>
      some ((x122 (1 + 7) 0), x122))
    else
      ((some ((l2_72 * 7))).bind fun v81 =>
      (f_X4_digitAt x72 (v81 + 1)).bind fun v93 =>
      (f_X4_digitAt x72 (v81 + 3)).bind fun v100 =>
      (f_X4_digitAt x72 (v81 + 5)).bind fun v107 =>
      (f_X0_add 1 x72 v93 v100 v107).bind fun q110 => (fun v110 x110 =>
      (some (l2_72 + 1)).bind fun v114 =>
      f_X4_complainAll_72 n72 x110 l1_72 v114) q110.1 q110.2)
def f_X4_complainAll_63 (x63 : XS) (l1_63 : Int32) (t0_63 : Int32) : Option (Int32 × XS) :=
    (f_X4_requireState t0_63).bind fun _ =>
    (f_X4_save x63).bind fun x67 =>
    f_X4_complainAll_72 4096 x67 l1_63 0
def f_X4_complainAll_28 (x28 : XS) (t0_28 : Int32) : Option (Int32 × XS) :=
    (f_X4_requireArgument t0_28).bind fun _ =>
    (some ((((x28 0 6) + 1) / 7))).bind fun v40 =>
    if (24 < ((x28 (1 + 7) 0) + v40) : Prop) then
      f_X4_complainAll_63 x28 v40 0
    else
      f_X4_complainAll_63 x28 v40 1
def f_X4_complainAll_27 (x27 : XS) : Option (Int32 × XS) :=
    f_X4_complainAll_28 x27 0
def f_X4_complainAll (x : XS) : Option (Int32 × XS) :=
    (f_X4_firstError x).bind fun v1 =>
    if (v1 = (x 0 6) : Prop) then
      (if (((x 0 6) - (x 0 6) / 7 * 7) = 6 : Prop) then
        f_X4_complainAll_28 x 1
      else
        f_X4_complainAll_27 x)
    else
      f_X4_complainAll_27 x
set_option maxRecDepth 100000 in
set_option maxHeartbeats 4000000 in
theorem p_X4_complainAll (l : Launch) (E : TE) (x m : XS) (g o : Int64) {r : Int32} {xr : XS} (hf : f_X4_complainAll x = some (r, xr)) : MG l E yX4_complainAll cX4_complainAll 4 (some .int) 6 [rf E 0] (Wd E x m g o) (Wd E xr m g o) (some (.int r)) := by
  unfold f_X4_complainAll at hf
  refine m_in (by decide) (Nat.le_of_ble_eq_true rfl) ?_
  intro p e s mi args below meth c H ls hx hb hr hlk hml hown hB hK hW hS hl
  have hl : lv_has ls 4 [(0, rf E 0)] := hl
  have J72 : ∀ (n72 : Nat), ∀ (x72 : XS) (l1_72 : Int32) (l2_72 : Int32) (H : Heap) (locs : List Loc) (ls : Array Slot), f_X4_complainAll_72 n72 x72 l1_72 l2_72 = some (r, xr) → Wd E x72 m g o H → va_S (Ah E) s.heap H locs → lv_has ls 4 [(0, rf E 0), (1, .int l1_72), (2, .int l2_72)] → W p l e (rmH 6) s mi args below meth c H locs 0 0 (EQ E below args s (Wd E xr m g o) (some (.int r))) (F0 mi 72 ls []) := by
    intro n72
    induction n72 with
    | zero => intro x72 l1_72 l2_72 H locs ls hf; exact absurd hf (fun z => nomatch (show (none : Option (Int32 × XS)) = some _ from z))
    | succ n72 ih72 =>
      intro x72 l1_72 l2_72 H locs ls hf hW hS hl
      rw [f_X4_complainAll_72.eq_2] at hf
      refine lv_iload_n hx hb dX4_complainAll_72 rfl (lv_at hl 2 rfl) ?_
      refine lv_iload_n hx hb dX4_complainAll_73 rfl (lv_at hl 1 rfl) ?_
      refine lv_icmp_ge (tgt := 120) hx hb dX4_complainAll_74 (by decide) (fun c74 => ?_) (fun c74 => ?_)
      · rw [if_pos c74] at hf
        refine lv_aload_n hx hb dX4_complainAll_120 rfl (lv_at hl 0 rfl) ?_
        refine lv_iconst (v := 0) hx hb dX4_complainAll_121 (by decide) ?_
        obtain ⟨x122, e122, hf⟩ := ob hf
        refine pf_X4_132 hx hb hB hK hown hW hS e122 dX4_complainAll_122 (fun H locs hW hS => ?_)
        refine lv_aload_n hx hb dX4_complainAll_125 rfl (lv_at hl 0 rfl) ?_
        refine gf_X4_10 hx hb hB hK hown hW dX4_complainAll_126 ?_
        refine gf_X4_88 hx hb hB hK hown hW IsB1 dX4_complainAll_129 ?_
        refine gf_X4_92 hx hb hB hK hown hW IsB1 dX4_complainAll_132 ?_
        cases hf
        exact e_i hx hb hr hlk hW hS dX4_complainAll_135
      · rw [if_neg c74] at hf
        refine lv_iload_n hx hb dX4_complainAll_77 rfl (lv_at hl 2 rfl) ?_
        refine lv_bipush (v := 7) hx hb dX4_complainAll_78 (by decide) ?_
        refine lv_imul hx hb dX4_complainAll_80 ?_
        obtain ⟨v81, e81, hf⟩ := ob hf
        refine lv_nm e81 ?_
        refine lv_istore_n (lv' := [(3, .int v81), (0, rf E 0), (1, .int l1_72), (2, .int l2_72)]) hx hb dX4_complainAll_81 rfl hl (by decide) rfl (fun ls hl => ?_)
        refine lv_aload_n hx hb dX4_complainAll_82 rfl (lv_at hl 1 rfl) ?_
        refine gf_X4_10 hx hb hB hK hown hW dX4_complainAll_83 ?_
        refine gf_X4_88 hx hb hB hK hown hW IsB1 dX4_complainAll_86 ?_
        refine lv_aload_n hx hb dX4_complainAll_89 rfl (lv_at hl 1 rfl) ?_
        refine lv_iload_n hx hb dX4_complainAll_90 rfl (lv_at hl 0 rfl) ?_
        refine lv_iconst (v := 1) hx hb dX4_complainAll_91 (by decide) ?_
        refine lv_iadd hx hb dX4_complainAll_92 ?_
        obtain ⟨v93, e93, hf⟩ := ob2 hf
        refine c_V (As := [.int (v81 + 1)]) (st1 := [.int v93, rf E (1 + 7)]) (rest := [rf E (1 + 7)]) (p_X4_digitAt l E x72 m g o e93) (kc_X4_144 hB ⟨Nat.le_of_ble_eq_true rfl, Nat.le_of_ble_eq_true rfl⟩) (Wd.rec hK hW (by decide) cX_0 (ci := 4) rfl) hx hb hml hown hB hK hW hS ⟨Nat.zero_le _, Nat.zero_le _⟩ rfl hl.1 rfl (Nat.le_of_ble_eq_true rfl) rfl dX4_complainAll_93 (fun H locs hW hS => ?_)
        refine lv_aload_n hx hb dX4_complainAll_96 rfl (lv_at hl 1 rfl) ?_
        refine lv_iload_n hx hb dX4_complainAll_97 rfl (lv_at hl 0 rfl) ?_
        refine lv_iconst (v := 3) hx hb dX4_complainAll_98 (by decide) ?_
        refine lv_iadd hx hb dX4_complainAll_99 ?_
        obtain ⟨v100, e100, hf⟩ := ob2 hf
        refine c_V (As := [.int (v81 + 3)]) (st1 := [.int v100, .int v93, rf E (1 + 7)]) (rest := [.int v93, rf E (1 + 7)]) (p_X4_digitAt l E x72 m g o e100) (kc_X4_144 hB ⟨Nat.le_of_ble_eq_true rfl, Nat.le_of_ble_eq_true rfl⟩) (Wd.rec hK hW (by decide) cX_0 (ci := 4) rfl) hx hb hml hown hB hK hW hS ⟨Nat.zero_le _, Nat.zero_le _⟩ rfl hl.1 rfl (Nat.le_of_ble_eq_true rfl) rfl dX4_complainAll_100 (fun H locs hW hS => ?_)
        refine lv_aload_n hx hb dX4_complainAll_103 rfl (lv_at hl 1 rfl) ?_
        refine lv_iload_n hx hb dX4_complainAll_104 rfl (lv_at hl 0 rfl) ?_
        refine lv_iconst (v := 5) hx hb dX4_complainAll_105 (by decide) ?_
        refine lv_iadd hx hb dX4_complainAll_106 ?_
        obtain ⟨v107, e107, hf⟩ := ob2 hf
        refine c_V (As := [.int (v81 + 5)]) (st1 := [.int v107, .int v100, .int v93, rf E (1 + 7)]) (rest := [.int v100, .int v93, rf E (1 + 7)]) (p_X4_digitAt l E x72 m g o e107) (kc_X4_144 hB ⟨Nat.le_of_ble_eq_true rfl, Nat.le_of_ble_eq_true rfl⟩) (Wd.rec hK hW (by decide) cX_0 (ci := 4) rfl) hx hb hml hown hB hK hW hS ⟨Nat.zero_le _, Nat.zero_le _⟩ rfl hl.1 rfl (Nat.le_of_ble_eq_true rfl) rfl dX4_complainAll_107 (fun H locs hW hS => ?_)
        obtain ⟨⟨v110, x110⟩, e110, hf⟩ := ob2 hf
        dsimp only at hf
        refine c_V (As := [.int v93, .int v100, .int v107]) (st1 := [.int v110]) (rest := []) (p_X0_add l E IsB1 x72 m g o e110) (kc_X4_98 hB ⟨Nat.le_of_ble_eq_true rfl, Nat.le_of_ble_eq_true rfl⟩) (Wd.rec hK hW (IsB1.l8 (j := 7) (by decide)) (cB_7 IsB1) (ci := 0) rfl) hx hb hml hown hB hK hW hS ⟨Nat.zero_le _, Nat.zero_le _⟩ rfl hl.1 rfl (Nat.le_of_ble_eq_true rfl) rfl dX4_complainAll_110 (fun H locs hW hS => ?_)
        refine lv_pop hx hb dX4_complainAll_113 rfl ?_
        obtain ⟨v114, e114, hf⟩ := ob hf
        refine lv_iinc (v := v114) (lv' := [(2, .int v114), (3, .int v81), (0, rf E 0), (1, .int l1_72)]) hx hb dX4_complainAll_114 hl (k := 3) rfl (by rw [e114]; rfl) (by decide) rfl (fun ls hl => ?_)
        refine lv_goto (tgt := 72) hx hb dX4_complainAll_117 (by decide) ?_
        exact ih72 x110 l1_72 v114 _ _ _ hf hW hS (lv_sub hl [2, 3, 0] rfl)
  have J63 : ∀ (x63 : XS) (l1_63 : Int32) (t0_63 : Int32) (H : Heap) (locs : List Loc) (ls : Array Slot), f_X4_complainAll_63 x63 l1_63 t0_63 = some (r, xr) → Wd E x63 m g o H → va_S (Ah E) s.heap H locs → lv_has ls 4 [(0, rf E 0), (1, .int l1_63)] → W p l e (rmH 6) s mi args below meth c H locs 0 0 (EQ E below args s (Wd E xr m g o) (some (.int r))) (F0 mi 63 ls [.int t0_63]) := by
    intro x63 l1_63 t0_63 H locs ls hf hW hS hl
    unfold f_X4_complainAll_63 at hf
    obtain ⟨u63, e63, hf⟩ := ob2 hf
    refine c_S (As := [.int t0_63]) (st1 := []) (rest := []) (p_X4_requireState l E x63 m g o e63) (kc_X4_52 hB ⟨Nat.le_of_ble_eq_true rfl, Nat.le_of_ble_eq_true rfl⟩) hx hb hml hown hB hK hW hS ⟨Nat.zero_le _, Nat.zero_le _⟩ rfl hl.1 rfl (Nat.le_of_ble_eq_true rfl) rfl dX4_complainAll_63 (fun H locs hW hS => ?_)
    refine lv_aload_n hx hb dX4_complainAll_66 rfl (lv_at hl 0 rfl) ?_
    obtain ⟨x67, e67, hf⟩ := ob2 hf
    refine c_V (As := []) (st1 := []) (rest := []) (p_X4_save l E x63 m g o e67) (kc_X4_55 hB ⟨Nat.le_of_ble_eq_true rfl, Nat.le_of_ble_eq_true rfl⟩) (Wd.rec hK hW (by decide) cX_0 (ci := 4) rfl) hx hb hml hown hB hK hW hS ⟨Nat.zero_le _, Nat.zero_le _⟩ rfl hl.1 rfl (Nat.le_of_ble_eq_true rfl) rfl dX4_complainAll_67 (fun H locs hW hS => ?_)
    refine lv_iconst (v := 0) hx hb dX4_complainAll_70 (by decide) ?_
    refine lv_istore_n (lv' := [(2, .int 0), (0, rf E 0), (1, .int l1_63)]) hx hb dX4_complainAll_71 rfl hl (by decide) rfl (fun ls hl => ?_)
    exact J72 4096 x67 l1_63 0 _ _ _ hf hW hS (lv_sub hl [1, 2, 0] rfl)
  have J28 : ∀ (x28 : XS) (t0_28 : Int32) (H : Heap) (locs : List Loc) (ls : Array Slot), f_X4_complainAll_28 x28 t0_28 = some (r, xr) → Wd E x28 m g o H → va_S (Ah E) s.heap H locs → lv_has ls 4 [(0, rf E 0)] → W p l e (rmH 6) s mi args below meth c H locs 0 0 (EQ E below args s (Wd E xr m g o) (some (.int r))) (F0 mi 28 ls [.int t0_28]) := by
    intro x28 t0_28 H locs ls hf hW hS hl
    unfold f_X4_complainAll_28 at hf
    obtain ⟨u28, e28, hf⟩ := ob2 hf
    refine c_S (As := [.int t0_28]) (st1 := []) (rest := []) (p_X4_requireArgument l E x28 m g o e28) (kc_X4_39 hB ⟨Nat.le_of_ble_eq_true rfl, Nat.le_of_ble_eq_true rfl⟩) hx hb hml hown hB hK hW hS ⟨Nat.zero_le _, Nat.zero_le _⟩ rfl hl.1 rfl (Nat.le_of_ble_eq_true rfl) rfl dX4_complainAll_28 (fun H locs hW hS => ?_)
    refine lv_aload_n hx hb dX4_complainAll_31 rfl (lv_at hl 0 rfl) ?_
    refine gf_X4_132 hx hb hB hK hown hW dX4_complainAll_32 ?_
    refine lv_iconst (v := 1) hx hb dX4_complainAll_35 (by decide) ?_
    refine lv_iadd hx hb dX4_complainAll_36 ?_
    refine lv_bipush (v := 7) hx hb dX4_complainAll_37 (by decide) ?_
    refine lv_idiv hx hb dX4_complainAll_39 (by decide) ?_
    obtain ⟨v40, e40, hf⟩ := ob hf
    refine lv_nm e40 ?_
    refine lv_istore_n (lv' := [(1, .int v40), (0, rf E 0)]) hx hb dX4_complainAll_40 rfl hl (by decide) rfl (fun ls hl => ?_)
    refine lv_aload_n hx hb dX4_complainAll_41 rfl (lv_at hl 1 rfl) ?_
    refine gf_X4_10 hx hb hB hK hown hW dX4_complainAll_42 ?_
    refine gf_X4_88 hx hb hB hK hown hW IsB1 dX4_complainAll_45 ?_
    refine gf_X4_92 hx hb hB hK hown hW IsB1 dX4_complainAll_48 ?_
    refine lv_iload_n hx hb dX4_complainAll_51 rfl (lv_at hl 0 rfl) ?_
    refine lv_iadd hx hb dX4_complainAll_52 ?_
    refine lv_bipush (v := 24) hx hb dX4_complainAll_53 (by decide) ?_
    refine lv_icmp_gt (tgt := 62) hx hb dX4_complainAll_55 (by decide) (fun c55 => ?_) (fun c55 => ?_)
    · rw [if_pos c55] at hf
      refine lv_iconst (v := 0) hx hb dX4_complainAll_62 (by decide) ?_
      exact J63 x28 v40 0 _ _ _ hf hW hS (lv_sub hl [1, 0] rfl)
    · rw [if_neg c55] at hf
      refine lv_iconst (v := 1) hx hb dX4_complainAll_58 (by decide) ?_
      refine lv_goto (tgt := 63) hx hb dX4_complainAll_59 (by decide) ?_
      exact J63 x28 v40 1 _ _ _ hf hW hS (lv_sub hl [1, 0] rfl)
  have J27 : ∀ (x27 : XS) (H : Heap) (locs : List Loc) (ls : Array Slot), f_X4_complainAll_27 x27 = some (r, xr) → Wd E x27 m g o H → va_S (Ah E) s.heap H locs → lv_has ls 4 [(0, rf E 0)] → W p l e (rmH 6) s mi args below meth c H locs 0 0 (EQ E below args s (Wd E xr m g o) (some (.int r))) (F0 mi 27 ls []) := by
    intro x27 H locs ls hf hW hS hl
    unfold f_X4_complainAll_27 at hf
    refine lv_iconst (v := 0) hx hb dX4_complainAll_27 (by decide) ?_
    exact J28 x27 0 _ _ _ hf hW hS (lv_sub hl [0] rfl)
  refine lv_aload_n hx hb dX4_complainAll_0 rfl (lv_at hl 0 rfl) ?_
  obtain ⟨v1, e1, hf⟩ := ob2 hf
  refine c_V (As := []) (st1 := [.int v1]) (rest := []) (p_X4_firstError l E x m g o e1) (kc_X4_141 hB ⟨Nat.le_of_ble_eq_true rfl, Nat.le_of_ble_eq_true rfl⟩) (Wd.rec hK hW (by decide) cX_0 (ci := 4) rfl) hx hb hml hown hB hK hW hS ⟨Nat.zero_le _, Nat.zero_le _⟩ rfl hl.1 rfl (Nat.le_of_ble_eq_true rfl) rfl dX4_complainAll_1 (fun H locs hW hS => ?_)
  refine lv_aload_n hx hb dX4_complainAll_4 rfl (lv_at hl 0 rfl) ?_
  refine gf_X4_132 hx hb hB hK hown hW dX4_complainAll_5 ?_
  refine lv_icmp_ne (tgt := 27) hx hb dX4_complainAll_8 (by decide) (fun c8 => ?_) (fun c8 => ?_)
  · rw [if_neg c8] at hf
    exact J27 x _ _ _ hf hW hS (lv_sub hl [0] rfl)
  · rw [if_pos c8] at hf
    refine lv_aload_n hx hb dX4_complainAll_11 rfl (lv_at hl 0 rfl) ?_
    refine gf_X4_132 hx hb hB hK hown hW dX4_complainAll_12 ?_
    refine lv_bipush (v := 7) hx hb dX4_complainAll_15 (by decide) ?_
    refine lv_irem hx hb dX4_complainAll_17 (by decide) ?_
    refine lv_bipush (v := 6) hx hb dX4_complainAll_18 (by decide) ?_
    refine lv_icmp_ne (tgt := 27) hx hb dX4_complainAll_20 (by decide) (fun c20 => ?_) (fun c20 => ?_)
    · rw [if_neg c20] at hf
      exact J27 x _ _ _ hf hW hS (lv_sub hl [0] rfl)
    · rw [if_pos c20] at hf
      refine lv_iconst (v := 1) hx hb dX4_complainAll_23 (by decide) ?_
      refine lv_goto (tgt := 28) hx hb dX4_complainAll_24 (by decide) ?_
      exact J28 x 1 _ _ _ hf hW hS (lv_sub hl [0] rfl)
def f_X4_undo_12 (x12 : XS) (t0_12 : Int32) : Option (Int32 × XS) :=
    (f_X4_requireState t0_12).bind fun _ =>
    (some (ux x12 0 4 ((((x12 0 4) + 6) - 1) - (((x12 0 4) + 6) - 1) / 6 * 6))).bind fun x28 =>
    (some (ux x28 0 3 ((x28 0 3) - 1))).bind fun x38 =>
    (f_X4_savedAt (x38 0 4)).bind fun v50 =>
    (f_X3_copyFrom 1 v50 x38).bind fun x53 =>
    some ((x53 0 3), x53)
def f_X4_undo (x : XS) : Option (Int32 × XS) :=
    if ((x 0 3) ≤ 0 : Prop) then
      f_X4_undo_12 x 0
    else
      f_X4_undo_12 x 1
set_option maxRecDepth 100000 in
set_option maxHeartbeats 4000000 in
theorem p_X4_undo (l : Launch) (E : TE) (x m : XS) (g o : Int64) {r : Int32} {xr : XS} (hf : f_X4_undo x = some (r, xr)) : MG l E yX4_undo cX4_undo 1 (some .int) 5 [rf E 0] (Wd E x m g o) (Wd E xr m g o) (some (.int r)) := by
  unfold f_X4_undo at hf
  refine m_in (by decide) (Nat.le_of_ble_eq_true rfl) ?_
  intro p e s mi args below meth c H ls hx hb hr hlk hml hown hB hK hW hS hl
  have hl : lv_has ls 1 [(0, rf E 0)] := hl
  have J12 : ∀ (x12 : XS) (t0_12 : Int32) (H : Heap) (locs : List Loc) (ls : Array Slot), f_X4_undo_12 x12 t0_12 = some (r, xr) → Wd E x12 m g o H → va_S (Ah E) s.heap H locs → lv_has ls 1 [(0, rf E 0)] → W p l e (rmH 5) s mi args below meth c H locs 0 0 (EQ E below args s (Wd E xr m g o) (some (.int r))) (F0 mi 12 ls [.int t0_12]) := by
    intro x12 t0_12 H locs ls hf hW hS hl
    unfold f_X4_undo_12 at hf
    obtain ⟨u12, e12, hf⟩ := ob2 hf
    refine c_S (As := [.int t0_12]) (st1 := []) (rest := []) (p_X4_requireState l E x12 m g o e12) (kc_X4_52 hB ⟨Nat.le_of_ble_eq_true rfl, Nat.le_of_ble_eq_true rfl⟩) hx hb hml hown hB hK hW hS ⟨Nat.zero_le _, Nat.zero_le _⟩ rfl hl.1 rfl (Nat.le_of_ble_eq_true rfl) rfl dX4_undo_12 (fun H locs hW hS => ?_)
    refine lv_aload_n hx hb dX4_undo_15 rfl (lv_at hl 0 rfl) ?_
    refine lv_aload_n hx hb dX4_undo_16 rfl (lv_at hl 0 rfl) ?_
    refine gf_X4_150 hx hb hB hK hown hW dX4_undo_17 ?_
    refine lv_bipush (v := 6) hx hb dX4_undo_20 (by decide) ?_
    refine lv_iadd hx hb dX4_undo_22 ?_
    refine lv_iconst (v := 1) hx hb dX4_undo_23 (by decide) ?_
    refine lv_isub hx hb dX4_undo_24 ?_
    refine lv_bipush (v := 6) hx hb dX4_undo_25 (by decide) ?_
    refine lv_irem hx hb dX4_undo_27 (by decide) ?_
    obtain ⟨x28, e28, hf⟩ := ob hf
    refine pf_X4_150 hx hb hB hK hown hW hS e28 dX4_undo_28 (fun H locs hW hS => ?_)
    refine lv_aload_n hx hb dX4_undo_31 rfl (lv_at hl 0 rfl) ?_
    refine lv_dup hx hb dX4_undo_32 rfl ?_
    refine gf_X4_147 hx hb hB hK hown hW dX4_undo_33 ?_
    refine lv_iconst (v := 1) hx hb dX4_undo_36 (by decide) ?_
    refine lv_isub hx hb dX4_undo_37 ?_
    obtain ⟨x38, e38, hf⟩ := ob hf
    refine pf_X4_147 hx hb hB hK hown hW hS e38 dX4_undo_38 (fun H locs hW hS => ?_)
    refine lv_aload_n hx hb dX4_undo_41 rfl (lv_at hl 0 rfl) ?_
    refine gf_X4_10 hx hb hB hK hown hW dX4_undo_42 ?_
    refine lv_aload_n hx hb dX4_undo_45 rfl (lv_at hl 0 rfl) ?_
    refine lv_aload_n hx hb dX4_undo_46 rfl (lv_at hl 0 rfl) ?_
    refine gf_X4_150 hx hb hB hK hown hW dX4_undo_47 ?_
    obtain ⟨v50, e50, hf⟩ := ob2 hf
    refine c_V (As := [.int (x38 0 4)]) (st1 := [rf E v50, rf E 1]) (rest := [rf E 1]) (p_X4_savedAt l E x38 m g o e50) (kc_X4_153 hB ⟨Nat.le_of_ble_eq_true rfl, Nat.le_of_ble_eq_true rfl⟩) (Wd.rec hK hW (by decide) cX_0 (ci := 4) rfl) hx hb hml hown hB hK hW hS ⟨Nat.zero_le _, Nat.zero_le _⟩ rfl hl.1 rfl (Nat.le_of_ble_eq_true rfl) rfl dX4_undo_50 (fun H locs hW hS => ?_)
    have hB_v50 := f_X4_savedAt_B e50
    obtain ⟨x53, e53, hf⟩ := ob2 hf
    refine c_V (As := [rf E v50]) (st1 := []) (rest := []) (p_X3_copyFrom l E IsB1 hB_v50 x38 m g o e53) (kc_X4_157 hB ⟨Nat.le_of_ble_eq_true rfl, Nat.le_of_ble_eq_true rfl⟩) (Wd.rec hK hW IsB1.l0 (cB_0 IsB1) (ci := 3) rfl) hx hb hml hown hB hK hW hS ⟨Nat.zero_le _, Nat.zero_le _⟩ rfl hl.1 rfl (Nat.le_of_ble_eq_true rfl) rfl dX4_undo_53 (fun H locs hW hS => ?_)
    refine lv_aload_n hx hb dX4_undo_56 rfl (lv_at hl 0 rfl) ?_
    refine gf_X4_147 hx hb hB hK hown hW dX4_undo_57 ?_
    cases hf
    exact e_i hx hb hr hlk hW hS dX4_undo_60
  refine lv_aload_n hx hb dX4_undo_0 rfl (lv_at hl 0 rfl) ?_
  refine gf_X4_147 hx hb hB hK hown hW dX4_undo_1 ?_
  refine lv_if_le (tgt := 11) hx hb dX4_undo_4 (by decide) (fun c4 => ?_) (fun c4 => ?_)
  · rw [if_pos c4] at hf
    refine lv_iconst (v := 0) hx hb dX4_undo_11 (by decide) ?_
    exact J12 x 0 _ _ _ hf hW hS (lv_sub hl [0] rfl)
  · rw [if_neg c4] at hf
    refine lv_iconst (v := 1) hx hb dX4_undo_7 (by decide) ?_
    refine lv_goto (tgt := 12) hx hb dX4_undo_8 (by decide) ?_
    exact J12 x 1 _ _ _ hf hW hS (lv_sub hl [0] rfl)
def f_X4_complaint (x : XS) (a0 : Int32) (a1 : Int32) : Option (Int32) :=
    (f_X0_has 1 x a0).bind fun v8 =>
    (f_X4_requireIndex v8).bind fun _ =>
    (f_X4_isWithin a1 0 10).bind fun v18 =>
    (f_X4_requireArgument v18).bind fun _ =>
    (f_X3_ofComplaint 1 x a0 a1).bind fun v30 =>
    some v30
set_option maxRecDepth 100000 in
set_option maxHeartbeats 4000000 in
theorem p_X4_complaint (l : Launch) (E : TE) (x m : XS) (g o : Int64) {a0 : Int32} {a1 : Int32} {r : Int32} (hf : f_X4_complaint x a0 a1 = some r) : MG l E yX4_complaint cX4_complaint 3 (some .int) 5 [rf E 0, .int a0, .int a1] (Wd E x m g o) (Wd E x m g o) (some (.int r)) := by
  unfold f_X4_complaint at hf
  refine m_in (by decide) (Nat.le_of_ble_eq_true rfl) ?_
  intro p e s mi args below meth c H ls hx hb hr hlk hml hown hB hK hW hS hl
  have hl : lv_has ls 3 [(0, rf E 0), (1, .int a0), (2, .int a1)] := hl
  refine lv_aload_n hx hb dX4_complaint_0 rfl (lv_at hl 0 rfl) ?_
  refine gf_X4_10 hx hb hB hK hown hW dX4_complaint_1 ?_
  refine gf_X4_88 hx hb hB hK hown hW IsB1 dX4_complaint_4 ?_
  refine lv_iload_n hx hb dX4_complaint_7 rfl (lv_at hl 1 rfl) ?_
  obtain ⟨v8, e8, hf⟩ := ob2 hf
  refine c_V (As := [.int a0]) (st1 := [.int v8]) (rest := []) (p_X0_has l E IsB1 x m g o e8) (kc_X4_101 hB ⟨Nat.le_of_ble_eq_true rfl, Nat.le_of_ble_eq_true rfl⟩) (Wd.rec hK hW (IsB1.l8 (j := 7) (by decide)) (cB_7 IsB1) (ci := 0) rfl) hx hb hml hown hB hK hW hS ⟨Nat.zero_le _, Nat.zero_le _⟩ rfl hl.1 rfl (Nat.le_of_ble_eq_true rfl) rfl dX4_complaint_8 (fun H locs hW hS => ?_)
  obtain ⟨u11, e11, hf⟩ := ob2 hf
  refine c_S (As := [.int v8]) (st1 := []) (rest := []) (p_X4_requireIndex l E x m g o e11) (kc_X4_31 hB ⟨Nat.le_of_ble_eq_true rfl, Nat.le_of_ble_eq_true rfl⟩) hx hb hml hown hB hK hW hS ⟨Nat.zero_le _, Nat.zero_le _⟩ rfl hl.1 rfl (Nat.le_of_ble_eq_true rfl) rfl dX4_complaint_11 (fun H locs hW hS => ?_)
  refine lv_iload_n hx hb dX4_complaint_14 rfl (lv_at hl 2 rfl) ?_
  refine lv_iconst (v := 0) hx hb dX4_complaint_15 (by decide) ?_
  refine lv_bipush (v := 10) hx hb dX4_complaint_16 (by decide) ?_
  obtain ⟨v18, e18, hf⟩ := ob2 hf
  refine c_S (As := [.int a1, .int 0, .int 10]) (st1 := [.int v18]) (rest := []) (p_X4_isWithin l E x m g o e18) (kc_X4_35 hB ⟨Nat.le_of_ble_eq_true rfl, Nat.le_of_ble_eq_true rfl⟩) hx hb hml hown hB hK hW hS ⟨Nat.zero_le _, Nat.zero_le _⟩ rfl hl.1 rfl (Nat.le_of_ble_eq_true rfl) rfl dX4_complaint_18 (fun H locs hW hS => ?_)
  obtain ⟨u21, e21, hf⟩ := ob2 hf
  refine c_S (As := [.int v18]) (st1 := []) (rest := []) (p_X4_requireArgument l E x m g o e21) (kc_X4_39 hB ⟨Nat.le_of_ble_eq_true rfl, Nat.le_of_ble_eq_true rfl⟩) hx hb hml hown hB hK hW hS ⟨Nat.zero_le _, Nat.zero_le _⟩ rfl hl.1 rfl (Nat.le_of_ble_eq_true rfl) rfl dX4_complaint_21 (fun H locs hW hS => ?_)
  refine lv_aload_n hx hb dX4_complaint_24 rfl (lv_at hl 0 rfl) ?_
  refine gf_X4_10 hx hb hB hK hown hW dX4_complaint_25 ?_
  refine lv_iload_n hx hb dX4_complaint_28 rfl (lv_at hl 1 rfl) ?_
  refine lv_iload_n hx hb dX4_complaint_29 rfl (lv_at hl 2 rfl) ?_
  obtain ⟨v30, e30, hf⟩ := ob2 hf
  refine c_V (As := [.int a0, .int a1]) (st1 := [.int v30]) (rest := []) (p_X3_ofComplaint l E IsB1 x m g o e30) (kc_X4_161 hB ⟨Nat.le_of_ble_eq_true rfl, Nat.le_of_ble_eq_true rfl⟩) (Wd.rec hK hW IsB1.l0 (cB_0 IsB1) (ci := 3) rfl) hx hb hml hown hB hK hW hS ⟨Nat.zero_le _, Nat.zero_le _⟩ rfl hl.1 rfl (Nat.le_of_ble_eq_true rfl) rfl dX4_complaint_30 (fun H locs hW hS => ?_)
  cases hf
  exact e_i hx hb hr hlk hW hS dX4_complaint_33
def f_X4_amends (x : XS) (a0 : Int32) (a1 : Int32) (a2 : Int32) : Option (Int32) :=
    (f_X1_has 1 x a0 a1).bind fun v9 =>
    (f_X4_requireIndex v9).bind fun _ =>
    (f_X4_isWithin a2 0 4).bind fun v18 =>
    (f_X4_requireArgument v18).bind fun _ =>
    if (a2 = 0 : Prop) then
      ((f_X1_costOf 1 x a0 a1).bind fun v65 =>
      some v65)
    else if (a2 = 1 : Prop) then
      ((f_X1_leastOf 1 x a0 a1).bind fun v78 =>
      some v78)
    else if (a2 = 2 : Prop) then
      ((f_X1_mostOf 1 x a0 a1).bind fun v91 =>
      some v91)
    else if (a2 = 3 : Prop) then
      ((f_X1_isOffered 1 x a0 a1).bind fun v104 =>
      if (v104 = 0 : Prop) then
        some 0
      else
        some 1)
    else   ((f_X0_having 1 x a0 a1).bind fun v125 =>
      some v125)
set_option maxRecDepth 100000 in
set_option maxHeartbeats 4000000 in
theorem p_X4_amends (l : Launch) (E : TE) (x m : XS) (g o : Int64) {a0 : Int32} {a1 : Int32} {a2 : Int32} {r : Int32} (hf : f_X4_amends x a0 a1 a2 = some r) : MG l E yX4_amends cX4_amends 4 (some .int) 3 [rf E 0, .int a0, .int a1, .int a2] (Wd E x m g o) (Wd E x m g o) (some (.int r)) := by
  unfold f_X4_amends at hf
  refine m_in (by decide) (Nat.le_of_ble_eq_true rfl) ?_
  intro p e s mi args below meth c H ls hx hb hr hlk hml hown hB hK hW hS hl
  have hl : lv_has ls 4 [(0, rf E 0), (1, .int a0), (2, .int a1), (3, .int a2)] := hl
  refine lv_aload_n hx hb dX4_amends_0 rfl (lv_at hl 0 rfl) ?_
  refine gf_X4_10 hx hb hB hK hown hW dX4_amends_1 ?_
  refine gf_X4_42 hx hb hB hK hown hW IsB1 dX4_amends_4 ?_
  refine lv_iload_n hx hb dX4_amends_7 rfl (lv_at hl 1 rfl) ?_
  refine lv_iload_n hx hb dX4_amends_8 rfl (lv_at hl 2 rfl) ?_
  obtain ⟨v9, e9, hf⟩ := ob2 hf
  refine c_V (As := [.int a0, .int a1]) (st1 := [.int v9]) (rest := []) (p_X1_has l E IsB1 x m g o e9) (kc_X4_62 hB ⟨Nat.le_of_ble_eq_true rfl, Nat.le_of_ble_eq_true rfl⟩) (Wd.rec hK hW (IsB1.l8 (j := 1) (by decide)) (cB_1 IsB1) (ci := 1) rfl) hx hb hml hown hB hK hW hS ⟨Nat.zero_le _, Nat.zero_le _⟩ rfl hl.1 rfl (Nat.le_of_ble_eq_true rfl) rfl dX4_amends_9 (fun H locs hW hS => ?_)
  obtain ⟨u12, e12, hf⟩ := ob2 hf
  refine c_S (As := [.int v9]) (st1 := []) (rest := []) (p_X4_requireIndex l E x m g o e12) (kc_X4_31 hB ⟨Nat.le_of_ble_eq_true rfl, Nat.le_of_ble_eq_true rfl⟩) hx hb hml hown hB hK hW hS ⟨Nat.zero_le _, Nat.zero_le _⟩ rfl hl.1 rfl (Nat.le_of_ble_eq_true rfl) rfl dX4_amends_12 (fun H locs hW hS => ?_)
  refine lv_iload_n hx hb dX4_amends_15 rfl (lv_at hl 3 rfl) ?_
  refine lv_iconst (v := 0) hx hb dX4_amends_16 (by decide) ?_
  refine lv_iconst (v := 4) hx hb dX4_amends_17 (by decide) ?_
  obtain ⟨v18, e18, hf⟩ := ob2 hf
  refine c_S (As := [.int a2, .int 0, .int 4]) (st1 := [.int v18]) (rest := []) (p_X4_isWithin l E x m g o e18) (kc_X4_35 hB ⟨Nat.le_of_ble_eq_true rfl, Nat.le_of_ble_eq_true rfl⟩) hx hb hml hown hB hK hW hS ⟨Nat.zero_le _, Nat.zero_le _⟩ rfl hl.1 rfl (Nat.le_of_ble_eq_true rfl) rfl dX4_amends_18 (fun H locs hW hS => ?_)
  obtain ⟨u21, e21, hf⟩ := ob2 hf
  refine c_S (As := [.int v18]) (st1 := []) (rest := []) (p_X4_requireArgument l E x m g o e21) (kc_X4_39 hB ⟨Nat.le_of_ble_eq_true rfl, Nat.le_of_ble_eq_true rfl⟩) hx hb hml hown hB hK hW hS ⟨Nat.zero_le _, Nat.zero_le _⟩ rfl hl.1 rfl (Nat.le_of_ble_eq_true rfl) rfl dX4_amends_21 (fun H locs hW hS => ?_)
  refine lv_iload_n hx hb dX4_amends_24 rfl (lv_at hl 3 rfl) ?_
  by_cases c25_0 : a2 = 0
  · rw [if_pos c25_0] at hf
    refine lv_tableIn (tgt := 56) (off := 31) hx hb dX4_amends_25 (by rw [c25_0]; decide) (by rw [c25_0]; decide) (by rw [c25_0]; rfl) (by decide) ?_
    refine lv_aload_n hx hb dX4_amends_56 rfl (lv_at hl 0 rfl) ?_
    refine gf_X4_10 hx hb hB hK hown hW dX4_amends_57 ?_
    refine gf_X4_42 hx hb hB hK hown hW IsB1 dX4_amends_60 ?_
    refine lv_iload_n hx hb dX4_amends_63 rfl (lv_at hl 1 rfl) ?_
    refine lv_iload_n hx hb dX4_amends_64 rfl (lv_at hl 2 rfl) ?_
    obtain ⟨v65, e65, hf⟩ := ob2 hf
    refine c_V (As := [.int a0, .int a1]) (st1 := [.int v65]) (rest := []) (p_X1_costOf l E IsB1 x m g o e65) (kc_X4_164 hB ⟨Nat.le_of_ble_eq_true rfl, Nat.le_of_ble_eq_true rfl⟩) (Wd.rec hK hW (IsB1.l8 (j := 1) (by decide)) (cB_1 IsB1) (ci := 1) rfl) hx hb hml hown hB hK hW hS ⟨Nat.zero_le _, Nat.zero_le _⟩ rfl hl.1 rfl (Nat.le_of_ble_eq_true rfl) rfl dX4_amends_65 (fun H locs hW hS => ?_)
    cases hf
    exact e_i hx hb hr hlk hW hS dX4_amends_68
  rw [if_neg c25_0] at hf
  by_cases c25_1 : a2 = 1
  · rw [if_pos c25_1] at hf
    refine lv_tableIn (tgt := 69) (off := 44) hx hb dX4_amends_25 (by rw [c25_1]; decide) (by rw [c25_1]; decide) (by rw [c25_1]; rfl) (by decide) ?_
    refine lv_aload_n hx hb dX4_amends_69 rfl (lv_at hl 0 rfl) ?_
    refine gf_X4_10 hx hb hB hK hown hW dX4_amends_70 ?_
    refine gf_X4_42 hx hb hB hK hown hW IsB1 dX4_amends_73 ?_
    refine lv_iload_n hx hb dX4_amends_76 rfl (lv_at hl 1 rfl) ?_
    refine lv_iload_n hx hb dX4_amends_77 rfl (lv_at hl 2 rfl) ?_
    obtain ⟨v78, e78, hf⟩ := ob2 hf
    refine c_V (As := [.int a0, .int a1]) (st1 := [.int v78]) (rest := []) (p_X1_leastOf l E IsB1 x m g o e78) (kc_X4_167 hB ⟨Nat.le_of_ble_eq_true rfl, Nat.le_of_ble_eq_true rfl⟩) (Wd.rec hK hW (IsB1.l8 (j := 1) (by decide)) (cB_1 IsB1) (ci := 1) rfl) hx hb hml hown hB hK hW hS ⟨Nat.zero_le _, Nat.zero_le _⟩ rfl hl.1 rfl (Nat.le_of_ble_eq_true rfl) rfl dX4_amends_78 (fun H locs hW hS => ?_)
    cases hf
    exact e_i hx hb hr hlk hW hS dX4_amends_81
  rw [if_neg c25_1] at hf
  by_cases c25_2 : a2 = 2
  · rw [if_pos c25_2] at hf
    refine lv_tableIn (tgt := 82) (off := 57) hx hb dX4_amends_25 (by rw [c25_2]; decide) (by rw [c25_2]; decide) (by rw [c25_2]; rfl) (by decide) ?_
    refine lv_aload_n hx hb dX4_amends_82 rfl (lv_at hl 0 rfl) ?_
    refine gf_X4_10 hx hb hB hK hown hW dX4_amends_83 ?_
    refine gf_X4_42 hx hb hB hK hown hW IsB1 dX4_amends_86 ?_
    refine lv_iload_n hx hb dX4_amends_89 rfl (lv_at hl 1 rfl) ?_
    refine lv_iload_n hx hb dX4_amends_90 rfl (lv_at hl 2 rfl) ?_
    obtain ⟨v91, e91, hf⟩ := ob2 hf
    refine c_V (As := [.int a0, .int a1]) (st1 := [.int v91]) (rest := []) (p_X1_mostOf l E IsB1 x m g o e91) (kc_X4_170 hB ⟨Nat.le_of_ble_eq_true rfl, Nat.le_of_ble_eq_true rfl⟩) (Wd.rec hK hW (IsB1.l8 (j := 1) (by decide)) (cB_1 IsB1) (ci := 1) rfl) hx hb hml hown hB hK hW hS ⟨Nat.zero_le _, Nat.zero_le _⟩ rfl hl.1 rfl (Nat.le_of_ble_eq_true rfl) rfl dX4_amends_91 (fun H locs hW hS => ?_)
    cases hf
    exact e_i hx hb hr hlk hW hS dX4_amends_94
  rw [if_neg c25_2] at hf
  by_cases c25_3 : a2 = 3
  · rw [if_pos c25_3] at hf
    refine lv_tableIn (tgt := 95) (off := 70) hx hb dX4_amends_25 (by rw [c25_3]; decide) (by rw [c25_3]; decide) (by rw [c25_3]; rfl) (by decide) ?_
    refine lv_aload_n hx hb dX4_amends_95 rfl (lv_at hl 0 rfl) ?_
    refine gf_X4_10 hx hb hB hK hown hW dX4_amends_96 ?_
    refine gf_X4_42 hx hb hB hK hown hW IsB1 dX4_amends_99 ?_
    refine lv_iload_n hx hb dX4_amends_102 rfl (lv_at hl 1 rfl) ?_
    refine lv_iload_n hx hb dX4_amends_103 rfl (lv_at hl 2 rfl) ?_
    obtain ⟨v104, e104, hf⟩ := ob2 hf
    refine c_V (As := [.int a0, .int a1]) (st1 := [.int v104]) (rest := []) (p_X1_isOffered l E IsB1 x m g o e104) (kc_X4_66 hB ⟨Nat.le_of_ble_eq_true rfl, Nat.le_of_ble_eq_true rfl⟩) (Wd.rec hK hW (IsB1.l8 (j := 1) (by decide)) (cB_1 IsB1) (ci := 1) rfl) hx hb hml hown hB hK hW hS ⟨Nat.zero_le _, Nat.zero_le _⟩ rfl hl.1 rfl (Nat.le_of_ble_eq_true rfl) rfl dX4_amends_104 (fun H locs hW hS => ?_)
    refine lv_if_eq (tgt := 114) hx hb dX4_amends_107 (by decide) (fun c107 => ?_) (fun c107 => ?_)
    · rw [if_pos c107] at hf
      refine lv_iconst (v := 0) hx hb dX4_amends_114 (by decide) ?_
      cases hf
      exact e_i hx hb hr hlk hW hS dX4_amends_115
    · rw [if_neg c107] at hf
      refine lv_iconst (v := 1) hx hb dX4_amends_110 (by decide) ?_
      refine lv_goto (tgt := 115) hx hb dX4_amends_111 (by decide) ?_
      cases hf
      exact e_i hx hb hr hlk hW hS dX4_amends_115
  rw [if_neg c25_3] at hf
  refine lv_tableOut (tgt := 116) hx hb dX4_amends_25 (by have h0 := lv_neT c25_0 (show (0 : Int32).toInt = 0 by decide); have h1 := lv_neT c25_1 (show (1 : Int32).toInt = 1 by decide); have h2 := lv_neT c25_2 (show (2 : Int32).toInt = 2 by decide); have h3 := lv_neT c25_3 (show (3 : Int32).toInt = 3 by decide); omega) (by decide) ?_
  refine lv_aload_n hx hb dX4_amends_116 rfl (lv_at hl 0 rfl) ?_
  refine gf_X4_10 hx hb hB hK hown hW dX4_amends_117 ?_
  refine gf_X4_88 hx hb hB hK hown hW IsB1 dX4_amends_120 ?_
  refine lv_iload_n hx hb dX4_amends_123 rfl (lv_at hl 1 rfl) ?_
  refine lv_iload_n hx hb dX4_amends_124 rfl (lv_at hl 2 rfl) ?_
  obtain ⟨v125, e125, hf⟩ := ob2 hf
  refine c_V (As := [.int a0, .int a1]) (st1 := [.int v125]) (rest := []) (p_X0_having l E IsB1 x m g o e125) (kc_X4_173 hB ⟨Nat.le_of_ble_eq_true rfl, Nat.le_of_ble_eq_true rfl⟩) (Wd.rec hK hW (IsB1.l8 (j := 7) (by decide)) (cB_7 IsB1) (ci := 0) rfl) hx hb hml hown hB hK hW hS ⟨Nat.zero_le _, Nat.zero_le _⟩ rfl hl.1 rfl (Nat.le_of_ble_eq_true rfl) rfl dX4_amends_125 (fun H locs hW hS => ?_)
  cases hf
  exact e_i hx hb hr hlk hW hS dX4_amends_128
def f_X4_precedent_19 (x : XS) (l1_19 : Int32) (l2_19 : Int32) (l3_19 : Int32) (t0_19 : Int32) : Option (Int32) :=
    (f_X4_requireIndex t0_19).bind fun _ =>
    (f_X4_isWithin l3_19 0 4).bind fun v25 =>
    (f_X4_requireArgument v25).bind fun _ =>
    (f_X2_latestOf 1 x l1_19 l2_19).bind fun v40 =>
    (f_X2_has 1 x v40).bind fun v54 =>
    if (v54 = 0 : Prop) then
      some (-1)
    else
      (if (l3_19 = 0 : Prop) then
        ((f_X2_amendsOf 1 x v40).bind fun v101 =>
        some v101)
      else if (l3_19 = 1 : Prop) then
        ((f_X2_monthOf 1 x v40).bind fun v114 =>
        some v114)
      else if (l3_19 = 2 : Prop) then
        ((f_X2_setterOf 1 x v40).bind fun v127 =>
        some v127)
      else if (l3_19 = 3 : Prop) then
        ((f_X3_isBinding 1 x l1_19 v40).bind fun v138 =>
        if (v138 = 0 : Prop) then
          some 0
        else
          some 1)
      else   ((f_X0_following 1 x v40).bind fun v159 =>
        some v159))
def f_X4_precedent_18 (x : XS) (l1_18 : Int32) (l2_18 : Int32) (l3_18 : Int32) : Option (Int32) :=
    f_X4_precedent_19 x l1_18 l2_18 l3_18 0
def f_X4_precedent (x : XS) (a0 : Int32) (a1 : Int32) (a2 : Int32) : Option (Int32) :=
    (f_X4_isKind a0).bind fun v1 =>
    if (v1 = 0 : Prop) then
      f_X4_precedent_18 x a0 a1 a2
    else
      ((f_X4_isGroup a1).bind fun v8 =>
      if (v8 = 0 : Prop) then
        f_X4_precedent_18 x a0 a1 a2
      else
        f_X4_precedent_19 x a0 a1 a2 1)
set_option maxRecDepth 100000 in
set_option maxHeartbeats 4000000 in
theorem p_X4_precedent (l : Launch) (E : TE) (x m : XS) (g o : Int64) {a0 : Int32} {a1 : Int32} {a2 : Int32} {r : Int32} (hf : f_X4_precedent x a0 a1 a2 = some r) : MG l E yX4_precedent cX4_precedent 5 (some .int) 4 [rf E 0, .int a0, .int a1, .int a2] (Wd E x m g o) (Wd E x m g o) (some (.int r)) := by
  unfold f_X4_precedent at hf
  refine m_in (by decide) (Nat.le_of_ble_eq_true rfl) ?_
  intro p e s mi args below meth c H ls hx hb hr hlk hml hown hB hK hW hS hl
  have hl : lv_has ls 5 [(0, rf E 0), (1, .int a0), (2, .int a1), (3, .int a2)] := hl
  have J19 : ∀ (l1_19 : Int32) (l2_19 : Int32) (l3_19 : Int32) (t0_19 : Int32) (H : Heap) (locs : List Loc) (ls : Array Slot), f_X4_precedent_19 x l1_19 l2_19 l3_19 t0_19 = some r → Wd E x m g o H → va_S (Ah E) s.heap H locs → lv_has ls 5 [(0, rf E 0), (1, .int l1_19), (2, .int l2_19), (3, .int l3_19)] → W p l e (rmH 4) s mi args below meth c H locs 0 0 (EQ E below args s (Wd E x m g o) (some (.int r))) (F0 mi 19 ls [.int t0_19]) := by
    intro l1_19 l2_19 l3_19 t0_19 H locs ls hf hW hS hl
    unfold f_X4_precedent_19 at hf
    obtain ⟨u19, e19, hf⟩ := ob2 hf
    refine c_S (As := [.int t0_19]) (st1 := []) (rest := []) (p_X4_requireIndex l E x m g o e19) (kc_X4_31 hB ⟨Nat.le_of_ble_eq_true rfl, Nat.le_of_ble_eq_true rfl⟩) hx hb hml hown hB hK hW hS ⟨Nat.zero_le _, Nat.zero_le _⟩ rfl hl.1 rfl (Nat.le_of_ble_eq_true rfl) rfl dX4_precedent_19 (fun H locs hW hS => ?_)
    refine lv_iload_n hx hb dX4_precedent_22 rfl (lv_at hl 3 rfl) ?_
    refine lv_iconst (v := 0) hx hb dX4_precedent_23 (by decide) ?_
    refine lv_iconst (v := 4) hx hb dX4_precedent_24 (by decide) ?_
    obtain ⟨v25, e25, hf⟩ := ob2 hf
    refine c_S (As := [.int l3_19, .int 0, .int 4]) (st1 := [.int v25]) (rest := []) (p_X4_isWithin l E x m g o e25) (kc_X4_35 hB ⟨Nat.le_of_ble_eq_true rfl, Nat.le_of_ble_eq_true rfl⟩) hx hb hml hown hB hK hW hS ⟨Nat.zero_le _, Nat.zero_le _⟩ rfl hl.1 rfl (Nat.le_of_ble_eq_true rfl) rfl dX4_precedent_25 (fun H locs hW hS => ?_)
    obtain ⟨u28, e28, hf⟩ := ob2 hf
    refine c_S (As := [.int v25]) (st1 := []) (rest := []) (p_X4_requireArgument l E x m g o e28) (kc_X4_39 hB ⟨Nat.le_of_ble_eq_true rfl, Nat.le_of_ble_eq_true rfl⟩) hx hb hml hown hB hK hW hS ⟨Nat.zero_le _, Nat.zero_le _⟩ rfl hl.1 rfl (Nat.le_of_ble_eq_true rfl) rfl dX4_precedent_28 (fun H locs hW hS => ?_)
    refine lv_aload_n hx hb dX4_precedent_31 rfl (lv_at hl 0 rfl) ?_
    refine gf_X4_10 hx hb hB hK hown hW dX4_precedent_32 ?_
    refine gf_X4_179 hx hb hB hK hown hW IsB1 dX4_precedent_35 ?_
    refine lv_iload_n hx hb dX4_precedent_38 rfl (lv_at hl 1 rfl) ?_
    refine lv_iload_n hx hb dX4_precedent_39 rfl (lv_at hl 2 rfl) ?_
    obtain ⟨v40, e40, hf⟩ := ob2 hf
    refine c_V (As := [.int l1_19, .int l2_19]) (st1 := [.int v40]) (rest := []) (p_X2_latestOf l E IsB1 x m g o e40) (kc_X4_183 hB ⟨Nat.le_of_ble_eq_true rfl, Nat.le_of_ble_eq_true rfl⟩) (Wd.rec hK hW (IsB1.l8 (j := 17) (by decide)) (cB_17 IsB1) (ci := 2) rfl) hx hb hml hown hB hK hW hS ⟨Nat.zero_le _, Nat.zero_le _⟩ rfl hl.1 rfl (Nat.le_of_ble_eq_true rfl) rfl dX4_precedent_40 (fun H locs hW hS => ?_)
    refine lv_istore (lv' := [(4, .int v40), (0, rf E 0), (1, .int l1_19), (2, .int l2_19), (3, .int l3_19)]) hx hb dX4_precedent_43 hl (by decide) rfl (fun ls hl => ?_)
    refine lv_aload_n hx hb dX4_precedent_45 rfl (lv_at hl 1 rfl) ?_
    refine gf_X4_10 hx hb hB hK hown hW dX4_precedent_46 ?_
    refine gf_X4_179 hx hb hB hK hown hW IsB1 dX4_precedent_49 ?_
    refine lv_iload hx hb dX4_precedent_52 (lv_at hl 0 rfl) ?_
    obtain ⟨v54, e54, hf⟩ := ob2 hf
    refine c_V (As := [.int v40]) (st1 := [.int v54]) (rest := []) (p_X2_has l E IsB1 x m g o e54) (kc_X4_188 hB ⟨Nat.le_of_ble_eq_true rfl, Nat.le_of_ble_eq_true rfl⟩) (Wd.rec hK hW (IsB1.l8 (j := 17) (by decide)) (cB_17 IsB1) (ci := 2) rfl) hx hb hml hown hB hK hW hS ⟨Nat.zero_le _, Nat.zero_le _⟩ rfl hl.1 rfl (Nat.le_of_ble_eq_true rfl) rfl dX4_precedent_54 (fun H locs hW hS => ?_)
    refine lv_if_ne (tgt := 62) hx hb dX4_precedent_57 (by decide) (fun c57 => ?_) (fun c57 => ?_)
    · rw [if_neg c57] at hf
      refine lv_iload_n hx hb dX4_precedent_62 rfl (lv_at hl 4 rfl) ?_
      by_cases c63_0 : l3_19 = 0
      · rw [if_pos c63_0] at hf
        refine lv_tableIn (tgt := 92) (off := 29) hx hb dX4_precedent_63 (by rw [c63_0]; decide) (by rw [c63_0]; decide) (by rw [c63_0]; rfl) (by decide) ?_
        refine lv_aload_n hx hb dX4_precedent_92 rfl (lv_at hl 1 rfl) ?_
        refine gf_X4_10 hx hb hB hK hown hW dX4_precedent_93 ?_
        refine gf_X4_179 hx hb hB hK hown hW IsB1 dX4_precedent_96 ?_
        refine lv_iload hx hb dX4_precedent_99 (lv_at hl 0 rfl) ?_
        obtain ⟨v101, e101, hf⟩ := ob2 hf
        refine c_V (As := [.int v40]) (st1 := [.int v101]) (rest := []) (p_X2_amendsOf l E IsB1 x m g o e101) (kc_X4_189 hB ⟨Nat.le_of_ble_eq_true rfl, Nat.le_of_ble_eq_true rfl⟩) (Wd.rec hK hW (IsB1.l8 (j := 17) (by decide)) (cB_17 IsB1) (ci := 2) rfl) hx hb hml hown hB hK hW hS ⟨Nat.zero_le _, Nat.zero_le _⟩ rfl hl.1 rfl (Nat.le_of_ble_eq_true rfl) rfl dX4_precedent_101 (fun H locs hW hS => ?_)
        cases hf
        exact e_i hx hb hr hlk hW hS dX4_precedent_104
      rw [if_neg c63_0] at hf
      by_cases c63_1 : l3_19 = 1
      · rw [if_pos c63_1] at hf
        refine lv_tableIn (tgt := 105) (off := 42) hx hb dX4_precedent_63 (by rw [c63_1]; decide) (by rw [c63_1]; decide) (by rw [c63_1]; rfl) (by decide) ?_
        refine lv_aload_n hx hb dX4_precedent_105 rfl (lv_at hl 1 rfl) ?_
        refine gf_X4_10 hx hb hB hK hown hW dX4_precedent_106 ?_
        refine gf_X4_179 hx hb hB hK hown hW IsB1 dX4_precedent_109 ?_
        refine lv_iload hx hb dX4_precedent_112 (lv_at hl 0 rfl) ?_
        obtain ⟨v114, e114, hf⟩ := ob2 hf
        refine c_V (As := [.int v40]) (st1 := [.int v114]) (rest := []) (p_X2_monthOf l E IsB1 x m g o e114) (kc_X4_192 hB ⟨Nat.le_of_ble_eq_true rfl, Nat.le_of_ble_eq_true rfl⟩) (Wd.rec hK hW (IsB1.l8 (j := 17) (by decide)) (cB_17 IsB1) (ci := 2) rfl) hx hb hml hown hB hK hW hS ⟨Nat.zero_le _, Nat.zero_le _⟩ rfl hl.1 rfl (Nat.le_of_ble_eq_true rfl) rfl dX4_precedent_114 (fun H locs hW hS => ?_)
        cases hf
        exact e_i hx hb hr hlk hW hS dX4_precedent_117
      rw [if_neg c63_1] at hf
      by_cases c63_2 : l3_19 = 2
      · rw [if_pos c63_2] at hf
        refine lv_tableIn (tgt := 118) (off := 55) hx hb dX4_precedent_63 (by rw [c63_2]; decide) (by rw [c63_2]; decide) (by rw [c63_2]; rfl) (by decide) ?_
        refine lv_aload_n hx hb dX4_precedent_118 rfl (lv_at hl 1 rfl) ?_
        refine gf_X4_10 hx hb hB hK hown hW dX4_precedent_119 ?_
        refine gf_X4_179 hx hb hB hK hown hW IsB1 dX4_precedent_122 ?_
        refine lv_iload hx hb dX4_precedent_125 (lv_at hl 0 rfl) ?_
        obtain ⟨v127, e127, hf⟩ := ob2 hf
        refine c_V (As := [.int v40]) (st1 := [.int v127]) (rest := []) (p_X2_setterOf l E IsB1 x m g o e127) (kc_X4_195 hB ⟨Nat.le_of_ble_eq_true rfl, Nat.le_of_ble_eq_true rfl⟩) (Wd.rec hK hW (IsB1.l8 (j := 17) (by decide)) (cB_17 IsB1) (ci := 2) rfl) hx hb hml hown hB hK hW hS ⟨Nat.zero_le _, Nat.zero_le _⟩ rfl hl.1 rfl (Nat.le_of_ble_eq_true rfl) rfl dX4_precedent_127 (fun H locs hW hS => ?_)
        cases hf
        exact e_i hx hb hr hlk hW hS dX4_precedent_130
      rw [if_neg c63_2] at hf
      by_cases c63_3 : l3_19 = 3
      · rw [if_pos c63_3] at hf
        refine lv_tableIn (tgt := 131) (off := 68) hx hb dX4_precedent_63 (by rw [c63_3]; decide) (by rw [c63_3]; decide) (by rw [c63_3]; rfl) (by decide) ?_
        refine lv_aload_n hx hb dX4_precedent_131 rfl (lv_at hl 1 rfl) ?_
        refine gf_X4_10 hx hb hB hK hown hW dX4_precedent_132 ?_
        refine lv_iload_n hx hb dX4_precedent_135 rfl (lv_at hl 2 rfl) ?_
        refine lv_iload hx hb dX4_precedent_136 (lv_at hl 0 rfl) ?_
        obtain ⟨v138, e138, hf⟩ := ob2 hf
        refine c_V (As := [.int l1_19, .int v40]) (st1 := [.int v138]) (rest := []) (p_X3_isBinding l E IsB1 x m g o e138) (kc_X4_198 hB ⟨Nat.le_of_ble_eq_true rfl, Nat.le_of_ble_eq_true rfl⟩) (Wd.rec hK hW IsB1.l0 (cB_0 IsB1) (ci := 3) rfl) hx hb hml hown hB hK hW hS ⟨Nat.zero_le _, Nat.zero_le _⟩ rfl hl.1 rfl (Nat.le_of_ble_eq_true rfl) rfl dX4_precedent_138 (fun H locs hW hS => ?_)
        refine lv_if_eq (tgt := 148) hx hb dX4_precedent_141 (by decide) (fun c141 => ?_) (fun c141 => ?_)
        · rw [if_pos c141] at hf
          refine lv_iconst (v := 0) hx hb dX4_precedent_148 (by decide) ?_
          cases hf
          exact e_i hx hb hr hlk hW hS dX4_precedent_149
        · rw [if_neg c141] at hf
          refine lv_iconst (v := 1) hx hb dX4_precedent_144 (by decide) ?_
          refine lv_goto (tgt := 149) hx hb dX4_precedent_145 (by decide) ?_
          cases hf
          exact e_i hx hb hr hlk hW hS dX4_precedent_149
      rw [if_neg c63_3] at hf
      refine lv_tableOut (tgt := 150) hx hb dX4_precedent_63 (by have h0 := lv_neT c63_0 (show (0 : Int32).toInt = 0 by decide); have h1 := lv_neT c63_1 (show (1 : Int32).toInt = 1 by decide); have h2 := lv_neT c63_2 (show (2 : Int32).toInt = 2 by decide); have h3 := lv_neT c63_3 (show (3 : Int32).toInt = 3 by decide); omega) (by decide) ?_
      refine lv_aload_n hx hb dX4_precedent_150 rfl (lv_at hl 1 rfl) ?_
      refine gf_X4_10 hx hb hB hK hown hW dX4_precedent_151 ?_
      refine gf_X4_88 hx hb hB hK hown hW IsB1 dX4_precedent_154 ?_
      refine lv_iload hx hb dX4_precedent_157 (lv_at hl 0 rfl) ?_
      obtain ⟨v159, e159, hf⟩ := ob2 hf
      refine c_V (As := [.int v40]) (st1 := [.int v159]) (rest := []) (p_X0_following l E IsB1 x m g o e159) (kc_X4_201 hB ⟨Nat.le_of_ble_eq_true rfl, Nat.le_of_ble_eq_true rfl⟩) (Wd.rec hK hW (IsB1.l8 (j := 7) (by decide)) (cB_7 IsB1) (ci := 0) rfl) hx hb hml hown hB hK hW hS ⟨Nat.zero_le _, Nat.zero_le _⟩ rfl hl.1 rfl (Nat.le_of_ble_eq_true rfl) rfl dX4_precedent_159 (fun H locs hW hS => ?_)
      cases hf
      exact e_i hx hb hr hlk hW hS dX4_precedent_162
    · rw [if_pos c57] at hf
      refine lv_iconst (v := (-1)) hx hb dX4_precedent_60 (by decide) ?_
      cases hf
      exact e_i hx hb hr hlk hW hS dX4_precedent_61
  have J18 : ∀ (l1_18 : Int32) (l2_18 : Int32) (l3_18 : Int32) (H : Heap) (locs : List Loc) (ls : Array Slot), f_X4_precedent_18 x l1_18 l2_18 l3_18 = some r → Wd E x m g o H → va_S (Ah E) s.heap H locs → lv_has ls 5 [(0, rf E 0), (1, .int l1_18), (2, .int l2_18), (3, .int l3_18)] → W p l e (rmH 4) s mi args below meth c H locs 0 0 (EQ E below args s (Wd E x m g o) (some (.int r))) (F0 mi 18 ls []) := by
    intro l1_18 l2_18 l3_18 H locs ls hf hW hS hl
    unfold f_X4_precedent_18 at hf
    refine lv_iconst (v := 0) hx hb dX4_precedent_18 (by decide) ?_
    exact J19 l1_18 l2_18 l3_18 0 _ _ _ hf hW hS (lv_sub hl [0, 1, 2, 3] rfl)
  refine lv_iload_n hx hb dX4_precedent_0 rfl (lv_at hl 1 rfl) ?_
  obtain ⟨v1, e1, hf⟩ := ob2 hf
  refine c_S (As := [.int a0]) (st1 := [.int v1]) (rest := []) (p_X4_isKind l E x m g o e1) (kc_X4_27 hB ⟨Nat.le_of_ble_eq_true rfl, Nat.le_of_ble_eq_true rfl⟩) hx hb hml hown hB hK hW hS ⟨Nat.zero_le _, Nat.zero_le _⟩ rfl hl.1 rfl (Nat.le_of_ble_eq_true rfl) rfl dX4_precedent_1 (fun H locs hW hS => ?_)
  refine lv_if_eq (tgt := 18) hx hb dX4_precedent_4 (by decide) (fun c4 => ?_) (fun c4 => ?_)
  · rw [if_pos c4] at hf
    exact J18 a0 a1 a2 _ _ _ hf hW hS (lv_sub hl [0, 1, 2, 3] rfl)
  · rw [if_neg c4] at hf
    refine lv_iload_n hx hb dX4_precedent_7 rfl (lv_at hl 2 rfl) ?_
    obtain ⟨v8, e8, hf⟩ := ob2 hf
    refine c_S (As := [.int a1]) (st1 := [.int v8]) (rest := []) (p_X4_isGroup l E x m g o e8) (kc_X4_176 hB ⟨Nat.le_of_ble_eq_true rfl, Nat.le_of_ble_eq_true rfl⟩) hx hb hml hown hB hK hW hS ⟨Nat.zero_le _, Nat.zero_le _⟩ rfl hl.1 rfl (Nat.le_of_ble_eq_true rfl) rfl dX4_precedent_8 (fun H locs hW hS => ?_)
    refine lv_if_eq (tgt := 18) hx hb dX4_precedent_11 (by decide) (fun c11 => ?_) (fun c11 => ?_)
    · rw [if_pos c11] at hf
      exact J18 a0 a1 a2 _ _ _ hf hW hS (lv_sub hl [0, 1, 2, 3] rfl)
    · rw [if_neg c11] at hf
      refine lv_iconst (v := 1) hx hb dX4_precedent_14 (by decide) ?_
      refine lv_goto (tgt := 19) hx hb dX4_precedent_15 (by decide) ?_
      exact J19 a0 a1 a2 1 _ _ _ hf hW hS (lv_sub hl [0, 1, 2, 3] rfl)
def f_X4_kind (x : XS) (a0 : Int32) (a1 : Int32) : Option (Int32) :=
    (f_X4_isKind a0).bind fun v1 =>
    (f_X4_requireIndex v1).bind fun _ =>
    (f_X4_isWithin a1 0 7).bind fun v11 =>
    (f_X4_requireArgument v11).bind fun _ =>
    if (a1 = 0 : Prop) then
      ((f_X3_baseOf 1 x a0).bind fun v65 =>
      some v65)
    else if (a1 = 1 : Prop) then
      ((f_X3_budgetOf 1 x a0).bind fun v74 =>
      some v74)
    else if (a1 = 2 : Prop) then
      ((f_X3_spentOf 1 x a0).bind fun v83 =>
      some v83)
    else if (a1 = 3 : Prop) then
      ((f_X3_leftOf 1 x a0).bind fun v92 =>
      some v92)
    else if (a1 = 4 : Prop) then
      ((f_X1_sizeOf 1 x a0).bind fun v104 =>
      some v104)
    else if (a1 = 5 : Prop) then
      ((f_X0_ofKind 1 x a0).bind fun v116 =>
      some v116)
    else if (a1 = 6 : Prop) then
      ((f_X0_gotInKind 1 x a0).bind fun v128 =>
      some v128)
    else   ((f_X3_owedInKind 1 x a0).bind fun v137 =>
      some v137)
set_option maxRecDepth 100000 in
set_option maxHeartbeats 4000000 in
theorem p_X4_kind (l : Launch) (E : TE) (x m : XS) (g o : Int64) {a0 : Int32} {a1 : Int32} {r : Int32} (hf : f_X4_kind x a0 a1 = some r) : MG l E yX4_kind cX4_kind 3 (some .int) 5 [rf E 0, .int a0, .int a1] (Wd E x m g o) (Wd E x m g o) (some (.int r)) := by
  unfold f_X4_kind at hf
  refine m_in (by decide) (Nat.le_of_ble_eq_true rfl) ?_
  intro p e s mi args below meth c H ls hx hb hr hlk hml hown hB hK hW hS hl
  have hl : lv_has ls 3 [(0, rf E 0), (1, .int a0), (2, .int a1)] := hl
  refine lv_iload_n hx hb dX4_kind_0 rfl (lv_at hl 1 rfl) ?_
  obtain ⟨v1, e1, hf⟩ := ob2 hf
  refine c_S (As := [.int a0]) (st1 := [.int v1]) (rest := []) (p_X4_isKind l E x m g o e1) (kc_X4_27 hB ⟨Nat.le_of_ble_eq_true rfl, Nat.le_of_ble_eq_true rfl⟩) hx hb hml hown hB hK hW hS ⟨Nat.zero_le _, Nat.zero_le _⟩ rfl hl.1 rfl (Nat.le_of_ble_eq_true rfl) rfl dX4_kind_1 (fun H locs hW hS => ?_)
  obtain ⟨u4, e4, hf⟩ := ob2 hf
  refine c_S (As := [.int v1]) (st1 := []) (rest := []) (p_X4_requireIndex l E x m g o e4) (kc_X4_31 hB ⟨Nat.le_of_ble_eq_true rfl, Nat.le_of_ble_eq_true rfl⟩) hx hb hml hown hB hK hW hS ⟨Nat.zero_le _, Nat.zero_le _⟩ rfl hl.1 rfl (Nat.le_of_ble_eq_true rfl) rfl dX4_kind_4 (fun H locs hW hS => ?_)
  refine lv_iload_n hx hb dX4_kind_7 rfl (lv_at hl 2 rfl) ?_
  refine lv_iconst (v := 0) hx hb dX4_kind_8 (by decide) ?_
  refine lv_bipush (v := 7) hx hb dX4_kind_9 (by decide) ?_
  obtain ⟨v11, e11, hf⟩ := ob2 hf
  refine c_S (As := [.int a1, .int 0, .int 7]) (st1 := [.int v11]) (rest := []) (p_X4_isWithin l E x m g o e11) (kc_X4_35 hB ⟨Nat.le_of_ble_eq_true rfl, Nat.le_of_ble_eq_true rfl⟩) hx hb hml hown hB hK hW hS ⟨Nat.zero_le _, Nat.zero_le _⟩ rfl hl.1 rfl (Nat.le_of_ble_eq_true rfl) rfl dX4_kind_11 (fun H locs hW hS => ?_)
  obtain ⟨u14, e14, hf⟩ := ob2 hf
  refine c_S (As := [.int v11]) (st1 := []) (rest := []) (p_X4_requireArgument l E x m g o e14) (kc_X4_39 hB ⟨Nat.le_of_ble_eq_true rfl, Nat.le_of_ble_eq_true rfl⟩) hx hb hml hown hB hK hW hS ⟨Nat.zero_le _, Nat.zero_le _⟩ rfl hl.1 rfl (Nat.le_of_ble_eq_true rfl) rfl dX4_kind_14 (fun H locs hW hS => ?_)
  refine lv_iload_n hx hb dX4_kind_17 rfl (lv_at hl 2 rfl) ?_
  by_cases c18_0 : a1 = 0
  · rw [if_pos c18_0] at hf
    refine lv_tableIn (tgt := 60) (off := 42) hx hb dX4_kind_18 (by rw [c18_0]; decide) (by rw [c18_0]; decide) (by rw [c18_0]; rfl) (by decide) ?_
    refine lv_aload_n hx hb dX4_kind_60 rfl (lv_at hl 0 rfl) ?_
    refine gf_X4_10 hx hb hB hK hown hW dX4_kind_61 ?_
    refine lv_iload_n hx hb dX4_kind_64 rfl (lv_at hl 1 rfl) ?_
    obtain ⟨v65, e65, hf⟩ := ob2 hf
    refine c_V (As := [.int a0]) (st1 := [.int v65]) (rest := []) (p_X3_baseOf l E IsB1 x m g o e65) (kc_X4_204 hB ⟨Nat.le_of_ble_eq_true rfl, Nat.le_of_ble_eq_true rfl⟩) (Wd.rec hK hW IsB1.l0 (cB_0 IsB1) (ci := 3) rfl) hx hb hml hown hB hK hW hS ⟨Nat.zero_le _, Nat.zero_le _⟩ rfl hl.1 rfl (Nat.le_of_ble_eq_true rfl) rfl dX4_kind_65 (fun H locs hW hS => ?_)
    cases hf
    exact e_i hx hb hr hlk hW hS dX4_kind_68
  rw [if_neg c18_0] at hf
  by_cases c18_1 : a1 = 1
  · rw [if_pos c18_1] at hf
    refine lv_tableIn (tgt := 69) (off := 51) hx hb dX4_kind_18 (by rw [c18_1]; decide) (by rw [c18_1]; decide) (by rw [c18_1]; rfl) (by decide) ?_
    refine lv_aload_n hx hb dX4_kind_69 rfl (lv_at hl 0 rfl) ?_
    refine gf_X4_10 hx hb hB hK hown hW dX4_kind_70 ?_
    refine lv_iload_n hx hb dX4_kind_73 rfl (lv_at hl 1 rfl) ?_
    obtain ⟨v74, e74, hf⟩ := ob2 hf
    refine c_V (As := [.int a0]) (st1 := [.int v74]) (rest := []) (p_X3_budgetOf l E IsB1 x m g o e74) (kc_X4_207 hB ⟨Nat.le_of_ble_eq_true rfl, Nat.le_of_ble_eq_true rfl⟩) (Wd.rec hK hW IsB1.l0 (cB_0 IsB1) (ci := 3) rfl) hx hb hml hown hB hK hW hS ⟨Nat.zero_le _, Nat.zero_le _⟩ rfl hl.1 rfl (Nat.le_of_ble_eq_true rfl) rfl dX4_kind_74 (fun H locs hW hS => ?_)
    cases hf
    exact e_i hx hb hr hlk hW hS dX4_kind_77
  rw [if_neg c18_1] at hf
  by_cases c18_2 : a1 = 2
  · rw [if_pos c18_2] at hf
    refine lv_tableIn (tgt := 78) (off := 60) hx hb dX4_kind_18 (by rw [c18_2]; decide) (by rw [c18_2]; decide) (by rw [c18_2]; rfl) (by decide) ?_
    refine lv_aload_n hx hb dX4_kind_78 rfl (lv_at hl 0 rfl) ?_
    refine gf_X4_10 hx hb hB hK hown hW dX4_kind_79 ?_
    refine lv_iload_n hx hb dX4_kind_82 rfl (lv_at hl 1 rfl) ?_
    obtain ⟨v83, e83, hf⟩ := ob2 hf
    refine c_V (As := [.int a0]) (st1 := [.int v83]) (rest := []) (p_X3_spentOf l E IsB1 x m g o e83) (kc_X4_210 hB ⟨Nat.le_of_ble_eq_true rfl, Nat.le_of_ble_eq_true rfl⟩) (Wd.rec hK hW IsB1.l0 (cB_0 IsB1) (ci := 3) rfl) hx hb hml hown hB hK hW hS ⟨Nat.zero_le _, Nat.zero_le _⟩ rfl hl.1 rfl (Nat.le_of_ble_eq_true rfl) rfl dX4_kind_83 (fun H locs hW hS => ?_)
    cases hf
    exact e_i hx hb hr hlk hW hS dX4_kind_86
  rw [if_neg c18_2] at hf
  by_cases c18_3 : a1 = 3
  · rw [if_pos c18_3] at hf
    refine lv_tableIn (tgt := 87) (off := 69) hx hb dX4_kind_18 (by rw [c18_3]; decide) (by rw [c18_3]; decide) (by rw [c18_3]; rfl) (by decide) ?_
    refine lv_aload_n hx hb dX4_kind_87 rfl (lv_at hl 0 rfl) ?_
    refine gf_X4_10 hx hb hB hK hown hW dX4_kind_88 ?_
    refine lv_iload_n hx hb dX4_kind_91 rfl (lv_at hl 1 rfl) ?_
    obtain ⟨v92, e92, hf⟩ := ob2 hf
    refine c_V (As := [.int a0]) (st1 := [.int v92]) (rest := []) (p_X3_leftOf l E IsB1 x m g o e92) (kc_X4_213 hB ⟨Nat.le_of_ble_eq_true rfl, Nat.le_of_ble_eq_true rfl⟩) (Wd.rec hK hW IsB1.l0 (cB_0 IsB1) (ci := 3) rfl) hx hb hml hown hB hK hW hS ⟨Nat.zero_le _, Nat.zero_le _⟩ rfl hl.1 rfl (Nat.le_of_ble_eq_true rfl) rfl dX4_kind_92 (fun H locs hW hS => ?_)
    cases hf
    exact e_i hx hb hr hlk hW hS dX4_kind_95
  rw [if_neg c18_3] at hf
  by_cases c18_4 : a1 = 4
  · rw [if_pos c18_4] at hf
    refine lv_tableIn (tgt := 96) (off := 78) hx hb dX4_kind_18 (by rw [c18_4]; decide) (by rw [c18_4]; decide) (by rw [c18_4]; rfl) (by decide) ?_
    refine lv_aload_n hx hb dX4_kind_96 rfl (lv_at hl 0 rfl) ?_
    refine gf_X4_10 hx hb hB hK hown hW dX4_kind_97 ?_
    refine gf_X4_42 hx hb hB hK hown hW IsB1 dX4_kind_100 ?_
    refine lv_iload_n hx hb dX4_kind_103 rfl (lv_at hl 1 rfl) ?_
    obtain ⟨v104, e104, hf⟩ := ob2 hf
    refine c_V (As := [.int a0]) (st1 := [.int v104]) (rest := []) (p_X1_sizeOf l E IsB1 x m g o e104) (kc_X4_46 hB ⟨Nat.le_of_ble_eq_true rfl, Nat.le_of_ble_eq_true rfl⟩) (Wd.rec hK hW (IsB1.l8 (j := 1) (by decide)) (cB_1 IsB1) (ci := 1) rfl) hx hb hml hown hB hK hW hS ⟨Nat.zero_le _, Nat.zero_le _⟩ rfl hl.1 rfl (Nat.le_of_ble_eq_true rfl) rfl dX4_kind_104 (fun H locs hW hS => ?_)
    cases hf
    exact e_i hx hb hr hlk hW hS dX4_kind_107
  rw [if_neg c18_4] at hf
  by_cases c18_5 : a1 = 5
  · rw [if_pos c18_5] at hf
    refine lv_tableIn (tgt := 108) (off := 90) hx hb dX4_kind_18 (by rw [c18_5]; decide) (by rw [c18_5]; decide) (by rw [c18_5]; rfl) (by decide) ?_
    refine lv_aload_n hx hb dX4_kind_108 rfl (lv_at hl 0 rfl) ?_
    refine gf_X4_10 hx hb hB hK hown hW dX4_kind_109 ?_
    refine gf_X4_88 hx hb hB hK hown hW IsB1 dX4_kind_112 ?_
    refine lv_iload_n hx hb dX4_kind_115 rfl (lv_at hl 1 rfl) ?_
    obtain ⟨v116, e116, hf⟩ := ob2 hf
    refine c_V (As := [.int a0]) (st1 := [.int v116]) (rest := []) (p_X0_ofKind l E IsB1 x m g o e116) (kc_X4_216 hB ⟨Nat.le_of_ble_eq_true rfl, Nat.le_of_ble_eq_true rfl⟩) (Wd.rec hK hW (IsB1.l8 (j := 7) (by decide)) (cB_7 IsB1) (ci := 0) rfl) hx hb hml hown hB hK hW hS ⟨Nat.zero_le _, Nat.zero_le _⟩ rfl hl.1 rfl (Nat.le_of_ble_eq_true rfl) rfl dX4_kind_116 (fun H locs hW hS => ?_)
    cases hf
    exact e_i hx hb hr hlk hW hS dX4_kind_119
  rw [if_neg c18_5] at hf
  by_cases c18_6 : a1 = 6
  · rw [if_pos c18_6] at hf
    refine lv_tableIn (tgt := 120) (off := 102) hx hb dX4_kind_18 (by rw [c18_6]; decide) (by rw [c18_6]; decide) (by rw [c18_6]; rfl) (by decide) ?_
    refine lv_aload_n hx hb dX4_kind_120 rfl (lv_at hl 0 rfl) ?_
    refine gf_X4_10 hx hb hB hK hown hW dX4_kind_121 ?_
    refine gf_X4_88 hx hb hB hK hown hW IsB1 dX4_kind_124 ?_
    refine lv_iload_n hx hb dX4_kind_127 rfl (lv_at hl 1 rfl) ?_
    obtain ⟨v128, e128, hf⟩ := ob2 hf
    refine c_V (As := [.int a0]) (st1 := [.int v128]) (rest := []) (p_X0_gotInKind l E IsB1 x m g o e128) (kc_X4_219 hB ⟨Nat.le_of_ble_eq_true rfl, Nat.le_of_ble_eq_true rfl⟩) (Wd.rec hK hW (IsB1.l8 (j := 7) (by decide)) (cB_7 IsB1) (ci := 0) rfl) hx hb hml hown hB hK hW hS ⟨Nat.zero_le _, Nat.zero_le _⟩ rfl hl.1 rfl (Nat.le_of_ble_eq_true rfl) rfl dX4_kind_128 (fun H locs hW hS => ?_)
    cases hf
    exact e_i hx hb hr hlk hW hS dX4_kind_131
  rw [if_neg c18_6] at hf
  refine lv_tableOut (tgt := 132) hx hb dX4_kind_18 (by have h0 := lv_neT c18_0 (show (0 : Int32).toInt = 0 by decide); have h1 := lv_neT c18_1 (show (1 : Int32).toInt = 1 by decide); have h2 := lv_neT c18_2 (show (2 : Int32).toInt = 2 by decide); have h3 := lv_neT c18_3 (show (3 : Int32).toInt = 3 by decide); have h4 := lv_neT c18_4 (show (4 : Int32).toInt = 4 by decide); have h5 := lv_neT c18_5 (show (5 : Int32).toInt = 5 by decide); have h6 := lv_neT c18_6 (show (6 : Int32).toInt = 6 by decide); omega) (by decide) ?_
  refine lv_aload_n hx hb dX4_kind_132 rfl (lv_at hl 0 rfl) ?_
  refine gf_X4_10 hx hb hB hK hown hW dX4_kind_133 ?_
  refine lv_iload_n hx hb dX4_kind_136 rfl (lv_at hl 1 rfl) ?_
  obtain ⟨v137, e137, hf⟩ := ob2 hf
  refine c_V (As := [.int a0]) (st1 := [.int v137]) (rest := []) (p_X3_owedInKind l E IsB1 x m g o e137) (kc_X4_222 hB ⟨Nat.le_of_ble_eq_true rfl, Nat.le_of_ble_eq_true rfl⟩) (Wd.rec hK hW IsB1.l0 (cB_0 IsB1) (ci := 3) rfl) hx hb hml hown hB hK hW hS ⟨Nat.zero_le _, Nat.zero_le _⟩ rfl hl.1 rfl (Nat.le_of_ble_eq_true rfl) rfl dX4_kind_137 (fun H locs hW hS => ?_)
  cases hf
  exact e_i hx hb hr hlk hW hS dX4_kind_140
def f_X4_count (x : XS) (a0 : Int32) : Option (Int32) :=
    (f_X4_isWithin a0 0 11).bind fun v4 =>
    (f_X4_requireArgument v4).bind fun _ =>
    if (a0 = 0 : Prop) then
      some (x (1 + 7) 0)
    else if (a0 = 1 : Prop) then
      ((f_X0_inStage 1 x 0).bind fun v87 =>
      some v87)
    else if (a0 = 2 : Prop) then
      ((f_X0_inStage 1 x 1).bind fun v99 =>
      some v99)
    else if (a0 = 3 : Prop) then
      ((f_X0_inStage 1 x 2).bind fun v111 =>
      some v111)
    else if (a0 = 4 : Prop) then
      ((f_X0_inStage 1 x 3).bind fun v123 =>
      some v123)
    else if (a0 = 5 : Prop) then
      some (x 1 7)
    else if (a0 = 6 : Prop) then
      ((f_X0_gotInAll 1 x).bind fun v142 =>
      some v142)
    else if (a0 = 7 : Prop) then
      ((f_X3_waiting 1 x).bind fun v150 =>
      some v150)
    else if (a0 = 8 : Prop) then
      ((f_X3_departing 1 x).bind fun v158 =>
      some v158)
    else if (a0 = 9 : Prop) then
      some (x (1 + 17) 0)
    else if (a0 = 10 : Prop) then
      ((f_X0_unequalPairs 1 x).bind fun v180 =>
      some v180)
    else   some (x 0 3)
set_option maxRecDepth 100000 in
set_option maxHeartbeats 4000000 in
theorem p_X4_count (l : Launch) (E : TE) (x m : XS) (g o : Int64) {a0 : Int32} {r : Int32} (hf : f_X4_count x a0 = some r) : MG l E yX4_count cX4_count 2 (some .int) 5 [rf E 0, .int a0] (Wd E x m g o) (Wd E x m g o) (some (.int r)) := by
  unfold f_X4_count at hf
  refine m_in (by decide) (Nat.le_of_ble_eq_true rfl) ?_
  intro p e s mi args below meth c H ls hx hb hr hlk hml hown hB hK hW hS hl
  have hl : lv_has ls 2 [(0, rf E 0), (1, .int a0)] := hl
  refine lv_iload_n hx hb dX4_count_0 rfl (lv_at hl 1 rfl) ?_
  refine lv_iconst (v := 0) hx hb dX4_count_1 (by decide) ?_
  refine lv_bipush (v := 11) hx hb dX4_count_2 (by decide) ?_
  obtain ⟨v4, e4, hf⟩ := ob2 hf
  refine c_S (As := [.int a0, .int 0, .int 11]) (st1 := [.int v4]) (rest := []) (p_X4_isWithin l E x m g o e4) (kc_X4_35 hB ⟨Nat.le_of_ble_eq_true rfl, Nat.le_of_ble_eq_true rfl⟩) hx hb hml hown hB hK hW hS ⟨Nat.zero_le _, Nat.zero_le _⟩ rfl hl.1 rfl (Nat.le_of_ble_eq_true rfl) rfl dX4_count_4 (fun H locs hW hS => ?_)
  obtain ⟨u7, e7, hf⟩ := ob2 hf
  refine c_S (As := [.int v4]) (st1 := []) (rest := []) (p_X4_requireArgument l E x m g o e7) (kc_X4_39 hB ⟨Nat.le_of_ble_eq_true rfl, Nat.le_of_ble_eq_true rfl⟩) hx hb hml hown hB hK hW hS ⟨Nat.zero_le _, Nat.zero_le _⟩ rfl hl.1 rfl (Nat.le_of_ble_eq_true rfl) rfl dX4_count_7 (fun H locs hW hS => ?_)
  refine lv_iload_n hx hb dX4_count_10 rfl (lv_at hl 1 rfl) ?_
  by_cases c11_0 : a0 = 0
  · rw [if_pos c11_0] at hf
    refine lv_tableIn (tgt := 68) (off := 57) hx hb dX4_count_11 (by rw [c11_0]; decide) (by rw [c11_0]; decide) (by rw [c11_0]; rfl) (by decide) ?_
    refine lv_aload_n hx hb dX4_count_68 rfl (lv_at hl 0 rfl) ?_
    refine gf_X4_10 hx hb hB hK hown hW dX4_count_69 ?_
    refine gf_X4_88 hx hb hB hK hown hW IsB1 dX4_count_72 ?_
    refine gf_X4_92 hx hb hB hK hown hW IsB1 dX4_count_75 ?_
    cases hf
    exact e_i hx hb hr hlk hW hS dX4_count_78
  rw [if_neg c11_0] at hf
  by_cases c11_1 : a0 = 1
  · rw [if_pos c11_1] at hf
    refine lv_tableIn (tgt := 79) (off := 68) hx hb dX4_count_11 (by rw [c11_1]; decide) (by rw [c11_1]; decide) (by rw [c11_1]; rfl) (by decide) ?_
    refine lv_aload_n hx hb dX4_count_79 rfl (lv_at hl 0 rfl) ?_
    refine gf_X4_10 hx hb hB hK hown hW dX4_count_80 ?_
    refine gf_X4_88 hx hb hB hK hown hW IsB1 dX4_count_83 ?_
    refine lv_iconst (v := 0) hx hb dX4_count_86 (by decide) ?_
    obtain ⟨v87, e87, hf⟩ := ob2 hf
    refine c_V (As := [.int 0]) (st1 := [.int v87]) (rest := []) (p_X0_inStage l E IsB1 x m g o e87) (kc_X4_116 hB ⟨Nat.le_of_ble_eq_true rfl, Nat.le_of_ble_eq_true rfl⟩) (Wd.rec hK hW (IsB1.l8 (j := 7) (by decide)) (cB_7 IsB1) (ci := 0) rfl) hx hb hml hown hB hK hW hS ⟨Nat.zero_le _, Nat.zero_le _⟩ rfl hl.1 rfl (Nat.le_of_ble_eq_true rfl) rfl dX4_count_87 (fun H locs hW hS => ?_)
    cases hf
    exact e_i hx hb hr hlk hW hS dX4_count_90
  rw [if_neg c11_1] at hf
  by_cases c11_2 : a0 = 2
  · rw [if_pos c11_2] at hf
    refine lv_tableIn (tgt := 91) (off := 80) hx hb dX4_count_11 (by rw [c11_2]; decide) (by rw [c11_2]; decide) (by rw [c11_2]; rfl) (by decide) ?_
    refine lv_aload_n hx hb dX4_count_91 rfl (lv_at hl 0 rfl) ?_
    refine gf_X4_10 hx hb hB hK hown hW dX4_count_92 ?_
    refine gf_X4_88 hx hb hB hK hown hW IsB1 dX4_count_95 ?_
    refine lv_iconst (v := 1) hx hb dX4_count_98 (by decide) ?_
    obtain ⟨v99, e99, hf⟩ := ob2 hf
    refine c_V (As := [.int 1]) (st1 := [.int v99]) (rest := []) (p_X0_inStage l E IsB1 x m g o e99) (kc_X4_116 hB ⟨Nat.le_of_ble_eq_true rfl, Nat.le_of_ble_eq_true rfl⟩) (Wd.rec hK hW (IsB1.l8 (j := 7) (by decide)) (cB_7 IsB1) (ci := 0) rfl) hx hb hml hown hB hK hW hS ⟨Nat.zero_le _, Nat.zero_le _⟩ rfl hl.1 rfl (Nat.le_of_ble_eq_true rfl) rfl dX4_count_99 (fun H locs hW hS => ?_)
    cases hf
    exact e_i hx hb hr hlk hW hS dX4_count_102
  rw [if_neg c11_2] at hf
  by_cases c11_3 : a0 = 3
  · rw [if_pos c11_3] at hf
    refine lv_tableIn (tgt := 103) (off := 92) hx hb dX4_count_11 (by rw [c11_3]; decide) (by rw [c11_3]; decide) (by rw [c11_3]; rfl) (by decide) ?_
    refine lv_aload_n hx hb dX4_count_103 rfl (lv_at hl 0 rfl) ?_
    refine gf_X4_10 hx hb hB hK hown hW dX4_count_104 ?_
    refine gf_X4_88 hx hb hB hK hown hW IsB1 dX4_count_107 ?_
    refine lv_iconst (v := 2) hx hb dX4_count_110 (by decide) ?_
    obtain ⟨v111, e111, hf⟩ := ob2 hf
    refine c_V (As := [.int 2]) (st1 := [.int v111]) (rest := []) (p_X0_inStage l E IsB1 x m g o e111) (kc_X4_116 hB ⟨Nat.le_of_ble_eq_true rfl, Nat.le_of_ble_eq_true rfl⟩) (Wd.rec hK hW (IsB1.l8 (j := 7) (by decide)) (cB_7 IsB1) (ci := 0) rfl) hx hb hml hown hB hK hW hS ⟨Nat.zero_le _, Nat.zero_le _⟩ rfl hl.1 rfl (Nat.le_of_ble_eq_true rfl) rfl dX4_count_111 (fun H locs hW hS => ?_)
    cases hf
    exact e_i hx hb hr hlk hW hS dX4_count_114
  rw [if_neg c11_3] at hf
  by_cases c11_4 : a0 = 4
  · rw [if_pos c11_4] at hf
    refine lv_tableIn (tgt := 115) (off := 104) hx hb dX4_count_11 (by rw [c11_4]; decide) (by rw [c11_4]; decide) (by rw [c11_4]; rfl) (by decide) ?_
    refine lv_aload_n hx hb dX4_count_115 rfl (lv_at hl 0 rfl) ?_
    refine gf_X4_10 hx hb hB hK hown hW dX4_count_116 ?_
    refine gf_X4_88 hx hb hB hK hown hW IsB1 dX4_count_119 ?_
    refine lv_iconst (v := 3) hx hb dX4_count_122 (by decide) ?_
    obtain ⟨v123, e123, hf⟩ := ob2 hf
    refine c_V (As := [.int 3]) (st1 := [.int v123]) (rest := []) (p_X0_inStage l E IsB1 x m g o e123) (kc_X4_116 hB ⟨Nat.le_of_ble_eq_true rfl, Nat.le_of_ble_eq_true rfl⟩) (Wd.rec hK hW (IsB1.l8 (j := 7) (by decide)) (cB_7 IsB1) (ci := 0) rfl) hx hb hml hown hB hK hW hS ⟨Nat.zero_le _, Nat.zero_le _⟩ rfl hl.1 rfl (Nat.le_of_ble_eq_true rfl) rfl dX4_count_123 (fun H locs hW hS => ?_)
    cases hf
    exact e_i hx hb hr hlk hW hS dX4_count_126
  rw [if_neg c11_4] at hf
  by_cases c11_5 : a0 = 5
  · rw [if_pos c11_5] at hf
    refine lv_tableIn (tgt := 127) (off := 116) hx hb dX4_count_11 (by rw [c11_5]; decide) (by rw [c11_5]; decide) (by rw [c11_5]; rfl) (by decide) ?_
    refine lv_aload_n hx hb dX4_count_127 rfl (lv_at hl 0 rfl) ?_
    refine gf_X4_10 hx hb hB hK hown hW dX4_count_128 ?_
    refine gf_X4_125 hx hb hB hK hown hW IsB1 dX4_count_131 ?_
    cases hf
    exact e_i hx hb hr hlk hW hS dX4_count_134
  rw [if_neg c11_5] at hf
  by_cases c11_6 : a0 = 6
  · rw [if_pos c11_6] at hf
    refine lv_tableIn (tgt := 135) (off := 124) hx hb dX4_count_11 (by rw [c11_6]; decide) (by rw [c11_6]; decide) (by rw [c11_6]; rfl) (by decide) ?_
    refine lv_aload_n hx hb dX4_count_135 rfl (lv_at hl 0 rfl) ?_
    refine gf_X4_10 hx hb hB hK hown hW dX4_count_136 ?_
    refine gf_X4_88 hx hb hB hK hown hW IsB1 dX4_count_139 ?_
    obtain ⟨v142, e142, hf⟩ := ob2 hf
    refine c_V (As := []) (st1 := [.int v142]) (rest := []) (p_X0_gotInAll l E IsB1 x m g o e142) (kc_X4_225 hB ⟨Nat.le_of_ble_eq_true rfl, Nat.le_of_ble_eq_true rfl⟩) (Wd.rec hK hW (IsB1.l8 (j := 7) (by decide)) (cB_7 IsB1) (ci := 0) rfl) hx hb hml hown hB hK hW hS ⟨Nat.zero_le _, Nat.zero_le _⟩ rfl hl.1 rfl (Nat.le_of_ble_eq_true rfl) rfl dX4_count_142 (fun H locs hW hS => ?_)
    cases hf
    exact e_i hx hb hr hlk hW hS dX4_count_145
  rw [if_neg c11_6] at hf
  by_cases c11_7 : a0 = 7
  · rw [if_pos c11_7] at hf
    refine lv_tableIn (tgt := 146) (off := 135) hx hb dX4_count_11 (by rw [c11_7]; decide) (by rw [c11_7]; decide) (by rw [c11_7]; rfl) (by decide) ?_
    refine lv_aload_n hx hb dX4_count_146 rfl (lv_at hl 0 rfl) ?_
    refine gf_X4_10 hx hb hB hK hown hW dX4_count_147 ?_
    obtain ⟨v150, e150, hf⟩ := ob2 hf
    refine c_V (As := []) (st1 := [.int v150]) (rest := []) (p_X3_waiting l E IsB1 x m g o e150) (kc_X4_228 hB ⟨Nat.le_of_ble_eq_true rfl, Nat.le_of_ble_eq_true rfl⟩) (Wd.rec hK hW IsB1.l0 (cB_0 IsB1) (ci := 3) rfl) hx hb hml hown hB hK hW hS ⟨Nat.zero_le _, Nat.zero_le _⟩ rfl hl.1 rfl (Nat.le_of_ble_eq_true rfl) rfl dX4_count_150 (fun H locs hW hS => ?_)
    cases hf
    exact e_i hx hb hr hlk hW hS dX4_count_153
  rw [if_neg c11_7] at hf
  by_cases c11_8 : a0 = 8
  · rw [if_pos c11_8] at hf
    refine lv_tableIn (tgt := 154) (off := 143) hx hb dX4_count_11 (by rw [c11_8]; decide) (by rw [c11_8]; decide) (by rw [c11_8]; rfl) (by decide) ?_
    refine lv_aload_n hx hb dX4_count_154 rfl (lv_at hl 0 rfl) ?_
    refine gf_X4_10 hx hb hB hK hown hW dX4_count_155 ?_
    obtain ⟨v158, e158, hf⟩ := ob2 hf
    refine c_V (As := []) (st1 := [.int v158]) (rest := []) (p_X3_departing l E IsB1 x m g o e158) (kc_X4_231 hB ⟨Nat.le_of_ble_eq_true rfl, Nat.le_of_ble_eq_true rfl⟩) (Wd.rec hK hW IsB1.l0 (cB_0 IsB1) (ci := 3) rfl) hx hb hml hown hB hK hW hS ⟨Nat.zero_le _, Nat.zero_le _⟩ rfl hl.1 rfl (Nat.le_of_ble_eq_true rfl) rfl dX4_count_158 (fun H locs hW hS => ?_)
    cases hf
    exact e_i hx hb hr hlk hW hS dX4_count_161
  rw [if_neg c11_8] at hf
  by_cases c11_9 : a0 = 9
  · rw [if_pos c11_9] at hf
    refine lv_tableIn (tgt := 162) (off := 151) hx hb dX4_count_11 (by rw [c11_9]; decide) (by rw [c11_9]; decide) (by rw [c11_9]; rfl) (by decide) ?_
    refine lv_aload_n hx hb dX4_count_162 rfl (lv_at hl 0 rfl) ?_
    refine gf_X4_10 hx hb hB hK hown hW dX4_count_163 ?_
    refine gf_X4_179 hx hb hB hK hown hW IsB1 dX4_count_166 ?_
    refine gf_X4_234 hx hb hB hK hown hW IsB1 dX4_count_169 ?_
    cases hf
    exact e_i hx hb hr hlk hW hS dX4_count_172
  rw [if_neg c11_9] at hf
  by_cases c11_10 : a0 = 10
  · rw [if_pos c11_10] at hf
    refine lv_tableIn (tgt := 173) (off := 162) hx hb dX4_count_11 (by rw [c11_10]; decide) (by rw [c11_10]; decide) (by rw [c11_10]; rfl) (by decide) ?_
    refine lv_aload_n hx hb dX4_count_173 rfl (lv_at hl 0 rfl) ?_
    refine gf_X4_10 hx hb hB hK hown hW dX4_count_174 ?_
    refine gf_X4_88 hx hb hB hK hown hW IsB1 dX4_count_177 ?_
    obtain ⟨v180, e180, hf⟩ := ob2 hf
    refine c_V (As := []) (st1 := [.int v180]) (rest := []) (p_X0_unequalPairs l E IsB1 x m g o e180) (kc_X4_235 hB ⟨Nat.le_of_ble_eq_true rfl, Nat.le_of_ble_eq_true rfl⟩) (Wd.rec hK hW (IsB1.l8 (j := 7) (by decide)) (cB_7 IsB1) (ci := 0) rfl) hx hb hml hown hB hK hW hS ⟨Nat.zero_le _, Nat.zero_le _⟩ rfl hl.1 rfl (Nat.le_of_ble_eq_true rfl) rfl dX4_count_180 (fun H locs hW hS => ?_)
    cases hf
    exact e_i hx hb hr hlk hW hS dX4_count_183
  rw [if_neg c11_10] at hf
  refine lv_tableOut (tgt := 184) hx hb dX4_count_11 (by have h0 := lv_neT c11_0 (show (0 : Int32).toInt = 0 by decide); have h1 := lv_neT c11_1 (show (1 : Int32).toInt = 1 by decide); have h2 := lv_neT c11_2 (show (2 : Int32).toInt = 2 by decide); have h3 := lv_neT c11_3 (show (3 : Int32).toInt = 3 by decide); have h4 := lv_neT c11_4 (show (4 : Int32).toInt = 4 by decide); have h5 := lv_neT c11_5 (show (5 : Int32).toInt = 5 by decide); have h6 := lv_neT c11_6 (show (6 : Int32).toInt = 6 by decide); have h7 := lv_neT c11_7 (show (7 : Int32).toInt = 7 by decide); have h8 := lv_neT c11_8 (show (8 : Int32).toInt = 8 by decide); have h9 := lv_neT c11_9 (show (9 : Int32).toInt = 9 by decide); have h10 := lv_neT c11_10 (show (10 : Int32).toInt = 10 by decide); omega) (by decide) ?_
  refine lv_aload_n hx hb dX4_count_184 rfl (lv_at hl 0 rfl) ?_
  refine gf_X4_147 hx hb hB hK hown hW dX4_count_185 ?_
  cases hf
  exact e_i hx hb hr hlk hW hS dX4_count_188
def f_X4_setting (x : XS) (a0 : Int32) : Option (Int32) :=
    (f_X4_isSetting a0).bind fun v1 =>
    (f_X4_requireIndex v1).bind fun _ =>
    (f_X3_settingOf 1 x a0).bind fun v12 =>
    some v12
set_option maxRecDepth 100000 in
set_option maxHeartbeats 4000000 in
theorem p_X4_setting (l : Launch) (E : TE) (x m : XS) (g o : Int64) {a0 : Int32} {r : Int32} (hf : f_X4_setting x a0 = some r) : MG l E yX4_setting cX4_setting 2 (some .int) 2 [rf E 0, .int a0] (Wd E x m g o) (Wd E x m g o) (some (.int r)) := by
  unfold f_X4_setting at hf
  refine m_in (by decide) (Nat.le_of_ble_eq_true rfl) ?_
  intro p e s mi args below meth c H ls hx hb hr hlk hml hown hB hK hW hS hl
  have hl : lv_has ls 2 [(0, rf E 0), (1, .int a0)] := hl
  refine lv_iload_n hx hb dX4_setting_0 rfl (lv_at hl 1 rfl) ?_
  obtain ⟨v1, e1, hf⟩ := ob2 hf
  refine c_S (As := [.int a0]) (st1 := [.int v1]) (rest := []) (p_X4_isSetting l E x m g o e1) (kc_X4_76 hB ⟨Nat.le_of_ble_eq_true rfl, Nat.le_of_ble_eq_true rfl⟩) hx hb hml hown hB hK hW hS ⟨Nat.zero_le _, Nat.zero_le _⟩ rfl hl.1 rfl (Nat.le_of_ble_eq_true rfl) rfl dX4_setting_1 (fun H locs hW hS => ?_)
  obtain ⟨u4, e4, hf⟩ := ob2 hf
  refine c_S (As := [.int v1]) (st1 := []) (rest := []) (p_X4_requireIndex l E x m g o e4) (kc_X4_31 hB ⟨Nat.le_of_ble_eq_true rfl, Nat.le_of_ble_eq_true rfl⟩) hx hb hml hown hB hK hW hS ⟨Nat.zero_le _, Nat.zero_le _⟩ rfl hl.1 rfl (Nat.le_of_ble_eq_true rfl) rfl dX4_setting_4 (fun H locs hW hS => ?_)
  refine lv_aload_n hx hb dX4_setting_7 rfl (lv_at hl 0 rfl) ?_
  refine gf_X4_10 hx hb hB hK hown hW dX4_setting_8 ?_
  refine lv_iload_n hx hb dX4_setting_11 rfl (lv_at hl 1 rfl) ?_
  obtain ⟨v12, e12, hf⟩ := ob2 hf
  refine c_V (As := [.int a0]) (st1 := [.int v12]) (rest := []) (p_X3_settingOf l E IsB1 x m g o e12) (kc_X4_238 hB ⟨Nat.le_of_ble_eq_true rfl, Nat.le_of_ble_eq_true rfl⟩) (Wd.rec hK hW IsB1.l0 (cB_0 IsB1) (ci := 3) rfl) hx hb hml hown hB hK hW hS ⟨Nat.zero_le _, Nat.zero_le _⟩ rfl hl.1 rfl (Nat.le_of_ble_eq_true rfl) rfl dX4_setting_12 (fun H locs hW hS => ?_)
  cases hf
  exact e_i hx hb hr hlk hW hS dX4_setting_15
def f_X4_ofCustomer (x : XS) (a0 : Int32) (a1 : Int32) : Option (Int32) :=
    (f_X4_isCustomer a0).bind fun v1 =>
    (f_X4_requireIndex v1).bind fun _ =>
    (f_X4_isWithin a1 0 23).bind fun v11 =>
    (f_X4_requireArgument v11).bind fun _ =>
    (f_X0_ofOne 1 x a0 a1).bind fun v26 =>
    some v26
set_option maxRecDepth 100000 in
set_option maxHeartbeats 4000000 in
theorem p_X4_ofCustomer (l : Launch) (E : TE) (x m : XS) (g o : Int64) {a0 : Int32} {a1 : Int32} {r : Int32} (hf : f_X4_ofCustomer x a0 a1 = some r) : MG l E yX4_ofCustomer cX4_ofCustomer 3 (some .int) 3 [rf E 0, .int a0, .int a1] (Wd E x m g o) (Wd E x m g o) (some (.int r)) := by
  unfold f_X4_ofCustomer at hf
  refine m_in (by decide) (Nat.le_of_ble_eq_true rfl) ?_
  intro p e s mi args below meth c H ls hx hb hr hlk hml hown hB hK hW hS hl
  have hl : lv_has ls 3 [(0, rf E 0), (1, .int a0), (2, .int a1)] := hl
  refine lv_iload_n hx hb dX4_ofCustomer_0 rfl (lv_at hl 1 rfl) ?_
  obtain ⟨v1, e1, hf⟩ := ob2 hf
  refine c_S (As := [.int a0]) (st1 := [.int v1]) (rest := []) (p_X4_isCustomer l E x m g o e1) (kc_X4_85 hB ⟨Nat.le_of_ble_eq_true rfl, Nat.le_of_ble_eq_true rfl⟩) hx hb hml hown hB hK hW hS ⟨Nat.zero_le _, Nat.zero_le _⟩ rfl hl.1 rfl (Nat.le_of_ble_eq_true rfl) rfl dX4_ofCustomer_1 (fun H locs hW hS => ?_)
  obtain ⟨u4, e4, hf⟩ := ob2 hf
  refine c_S (As := [.int v1]) (st1 := []) (rest := []) (p_X4_requireIndex l E x m g o e4) (kc_X4_31 hB ⟨Nat.le_of_ble_eq_true rfl, Nat.le_of_ble_eq_true rfl⟩) hx hb hml hown hB hK hW hS ⟨Nat.zero_le _, Nat.zero_le _⟩ rfl hl.1 rfl (Nat.le_of_ble_eq_true rfl) rfl dX4_ofCustomer_4 (fun H locs hW hS => ?_)
  refine lv_iload_n hx hb dX4_ofCustomer_7 rfl (lv_at hl 2 rfl) ?_
  refine lv_iconst (v := 0) hx hb dX4_ofCustomer_8 (by decide) ?_
  refine lv_bipush (v := 23) hx hb dX4_ofCustomer_9 (by decide) ?_
  obtain ⟨v11, e11, hf⟩ := ob2 hf
  refine c_S (As := [.int a1, .int 0, .int 23]) (st1 := [.int v11]) (rest := []) (p_X4_isWithin l E x m g o e11) (kc_X4_35 hB ⟨Nat.le_of_ble_eq_true rfl, Nat.le_of_ble_eq_true rfl⟩) hx hb hml hown hB hK hW hS ⟨Nat.zero_le _, Nat.zero_le _⟩ rfl hl.1 rfl (Nat.le_of_ble_eq_true rfl) rfl dX4_ofCustomer_11 (fun H locs hW hS => ?_)
  obtain ⟨u14, e14, hf⟩ := ob2 hf
  refine c_S (As := [.int v11]) (st1 := []) (rest := []) (p_X4_requireArgument l E x m g o e14) (kc_X4_39 hB ⟨Nat.le_of_ble_eq_true rfl, Nat.le_of_ble_eq_true rfl⟩) hx hb hml hown hB hK hW hS ⟨Nat.zero_le _, Nat.zero_le _⟩ rfl hl.1 rfl (Nat.le_of_ble_eq_true rfl) rfl dX4_ofCustomer_14 (fun H locs hW hS => ?_)
  refine lv_aload_n hx hb dX4_ofCustomer_17 rfl (lv_at hl 0 rfl) ?_
  refine gf_X4_10 hx hb hB hK hown hW dX4_ofCustomer_18 ?_
  refine gf_X4_88 hx hb hB hK hown hW IsB1 dX4_ofCustomer_21 ?_
  refine lv_iload_n hx hb dX4_ofCustomer_24 rfl (lv_at hl 1 rfl) ?_
  refine lv_iload_n hx hb dX4_ofCustomer_25 rfl (lv_at hl 2 rfl) ?_
  obtain ⟨v26, e26, hf⟩ := ob2 hf
  refine c_V (As := [.int a0, .int a1]) (st1 := [.int v26]) (rest := []) (p_X0_ofOne l E IsB1 x m g o e26) (kc_X4_241 hB ⟨Nat.le_of_ble_eq_true rfl, Nat.le_of_ble_eq_true rfl⟩) (Wd.rec hK hW (IsB1.l8 (j := 7) (by decide)) (cB_7 IsB1) (ci := 0) rfl) hx hb hml hown hB hK hW hS ⟨Nat.zero_le _, Nat.zero_le _⟩ rfl hl.1 rfl (Nat.le_of_ble_eq_true rfl) rfl dX4_ofCustomer_26 (fun H locs hW hS => ?_)
  cases hf
  exact e_i hx hb hr hlk hW hS dX4_ofCustomer_29
def f_X4_whyNot_33 (x : XS) (l1_33 : Int32) (l2_33 : Int32) (l3_33 : Int32) (t0_33 : Int32) : Option (Int32) :=
    (f_X4_requireArgument t0_33).bind fun _ =>
    if (l3_33 = (-1) : Prop) then
      ((f_X3_againstJudgement 1 x l1_33 l2_33).bind fun v47 =>
      some v47)
    else
      ((f_X3_againstDecision 1 x l1_33 l2_33 l3_33).bind fun v58 =>
      some v58)
def f_X4_whyNot_28 (x : XS) (l1_28 : Int32) (l2_28 : Int32) (l3_28 : Int32) : Option (Int32) :=
    f_X4_whyNot_33 x l1_28 l2_28 l3_28 1
def f_X4_whyNot (x : XS) (a0 : Int32) (a1 : Int32) (a2 : Int32) : Option (Int32) :=
    (f_X0_has 1 x a0).bind fun v8 =>
    (f_X4_requireIndex v8).bind fun _ =>
    if (a2 = (-1) : Prop) then
      f_X4_whyNot_28 x a0 a1 a2
    else
      ((f_X4_isWithin a2 0 5).bind fun v22 =>
      if (v22 = 0 : Prop) then
        f_X4_whyNot_33 x a0 a1 a2 0
      else
        f_X4_whyNot_28 x a0 a1 a2)
set_option maxRecDepth 100000 in
set_option maxHeartbeats 4000000 in
theorem p_X4_whyNot (l : Launch) (E : TE) (x m : XS) (g o : Int64) {a0 : Int32} {a1 : Int32} {a2 : Int32} {r : Int32} (hf : f_X4_whyNot x a0 a1 a2 = some r) : MG l E yX4_whyNot cX4_whyNot 4 (some .int) 6 [rf E 0, .int a0, .int a1, .int a2] (Wd E x m g o) (Wd E x m g o) (some (.int r)) := by
  unfold f_X4_whyNot at hf
  refine m_in (by decide) (Nat.le_of_ble_eq_true rfl) ?_
  intro p e s mi args below meth c H ls hx hb hr hlk hml hown hB hK hW hS hl
  have hl : lv_has ls 4 [(0, rf E 0), (1, .int a0), (2, .int a1), (3, .int a2)] := hl
  have J33 : ∀ (l1_33 : Int32) (l2_33 : Int32) (l3_33 : Int32) (t0_33 : Int32) (H : Heap) (locs : List Loc) (ls : Array Slot), f_X4_whyNot_33 x l1_33 l2_33 l3_33 t0_33 = some r → Wd E x m g o H → va_S (Ah E) s.heap H locs → lv_has ls 4 [(0, rf E 0), (1, .int l1_33), (2, .int l2_33), (3, .int l3_33)] → W p l e (rmH 6) s mi args below meth c H locs 0 0 (EQ E below args s (Wd E x m g o) (some (.int r))) (F0 mi 33 ls [.int t0_33]) := by
    intro l1_33 l2_33 l3_33 t0_33 H locs ls hf hW hS hl
    unfold f_X4_whyNot_33 at hf
    obtain ⟨u33, e33, hf⟩ := ob2 hf
    refine c_S (As := [.int t0_33]) (st1 := []) (rest := []) (p_X4_requireArgument l E x m g o e33) (kc_X4_39 hB ⟨Nat.le_of_ble_eq_true rfl, Nat.le_of_ble_eq_true rfl⟩) hx hb hml hown hB hK hW hS ⟨Nat.zero_le _, Nat.zero_le _⟩ rfl hl.1 rfl (Nat.le_of_ble_eq_true rfl) rfl dX4_whyNot_33 (fun H locs hW hS => ?_)
    refine lv_iload_n hx hb dX4_whyNot_36 rfl (lv_at hl 3 rfl) ?_
    refine lv_iconst (v := (-1)) hx hb dX4_whyNot_37 (by decide) ?_
    refine lv_icmp_ne (tgt := 51) hx hb dX4_whyNot_38 (by decide) (fun c38 => ?_) (fun c38 => ?_)
    · rw [if_neg c38] at hf
      refine lv_aload_n hx hb dX4_whyNot_51 rfl (lv_at hl 0 rfl) ?_
      refine gf_X4_10 hx hb hB hK hown hW dX4_whyNot_52 ?_
      refine lv_iload_n hx hb dX4_whyNot_55 rfl (lv_at hl 1 rfl) ?_
      refine lv_iload_n hx hb dX4_whyNot_56 rfl (lv_at hl 2 rfl) ?_
      refine lv_iload_n hx hb dX4_whyNot_57 rfl (lv_at hl 3 rfl) ?_
      obtain ⟨v58, e58, hf⟩ := ob2 hf
      refine c_V (As := [.int l1_33, .int l2_33, .int l3_33]) (st1 := [.int v58]) (rest := []) (p_X3_againstDecision l E IsB1 x m g o e58) (kc_X4_103 hB ⟨Nat.le_of_ble_eq_true rfl, Nat.le_of_ble_eq_true rfl⟩) (Wd.rec hK hW IsB1.l0 (cB_0 IsB1) (ci := 3) rfl) hx hb hml hown hB hK hW hS ⟨Nat.zero_le _, Nat.zero_le _⟩ rfl hl.1 rfl (Nat.le_of_ble_eq_true rfl) rfl dX4_whyNot_58 (fun H locs hW hS => ?_)
      cases hf
      exact e_i hx hb hr hlk hW hS dX4_whyNot_61
    · rw [if_pos c38] at hf
      refine lv_aload_n hx hb dX4_whyNot_41 rfl (lv_at hl 0 rfl) ?_
      refine gf_X4_10 hx hb hB hK hown hW dX4_whyNot_42 ?_
      refine lv_iload_n hx hb dX4_whyNot_45 rfl (lv_at hl 1 rfl) ?_
      refine lv_iload_n hx hb dX4_whyNot_46 rfl (lv_at hl 2 rfl) ?_
      obtain ⟨v47, e47, hf⟩ := ob2 hf
      refine c_V (As := [.int l1_33, .int l2_33]) (st1 := [.int v47]) (rest := []) (p_X3_againstJudgement l E IsB1 x m g o e47) (kc_X4_119 hB ⟨Nat.le_of_ble_eq_true rfl, Nat.le_of_ble_eq_true rfl⟩) (Wd.rec hK hW IsB1.l0 (cB_0 IsB1) (ci := 3) rfl) hx hb hml hown hB hK hW hS ⟨Nat.zero_le _, Nat.zero_le _⟩ rfl hl.1 rfl (Nat.le_of_ble_eq_true rfl) rfl dX4_whyNot_47 (fun H locs hW hS => ?_)
      cases hf
      exact e_i hx hb hr hlk hW hS dX4_whyNot_50
  have J28 : ∀ (l1_28 : Int32) (l2_28 : Int32) (l3_28 : Int32) (H : Heap) (locs : List Loc) (ls : Array Slot), f_X4_whyNot_28 x l1_28 l2_28 l3_28 = some r → Wd E x m g o H → va_S (Ah E) s.heap H locs → lv_has ls 4 [(0, rf E 0), (1, .int l1_28), (2, .int l2_28), (3, .int l3_28)] → W p l e (rmH 6) s mi args below meth c H locs 0 0 (EQ E below args s (Wd E x m g o) (some (.int r))) (F0 mi 28 ls []) := by
    intro l1_28 l2_28 l3_28 H locs ls hf hW hS hl
    unfold f_X4_whyNot_28 at hf
    refine lv_iconst (v := 1) hx hb dX4_whyNot_28 (by decide) ?_
    refine lv_goto (tgt := 33) hx hb dX4_whyNot_29 (by decide) ?_
    exact J33 l1_28 l2_28 l3_28 1 _ _ _ hf hW hS (lv_sub hl [0, 1, 2, 3] rfl)
  refine lv_aload_n hx hb dX4_whyNot_0 rfl (lv_at hl 0 rfl) ?_
  refine gf_X4_10 hx hb hB hK hown hW dX4_whyNot_1 ?_
  refine gf_X4_88 hx hb hB hK hown hW IsB1 dX4_whyNot_4 ?_
  refine lv_iload_n hx hb dX4_whyNot_7 rfl (lv_at hl 1 rfl) ?_
  obtain ⟨v8, e8, hf⟩ := ob2 hf
  refine c_V (As := [.int a0]) (st1 := [.int v8]) (rest := []) (p_X0_has l E IsB1 x m g o e8) (kc_X4_101 hB ⟨Nat.le_of_ble_eq_true rfl, Nat.le_of_ble_eq_true rfl⟩) (Wd.rec hK hW (IsB1.l8 (j := 7) (by decide)) (cB_7 IsB1) (ci := 0) rfl) hx hb hml hown hB hK hW hS ⟨Nat.zero_le _, Nat.zero_le _⟩ rfl hl.1 rfl (Nat.le_of_ble_eq_true rfl) rfl dX4_whyNot_8 (fun H locs hW hS => ?_)
  obtain ⟨u11, e11, hf⟩ := ob2 hf
  refine c_S (As := [.int v8]) (st1 := []) (rest := []) (p_X4_requireIndex l E x m g o e11) (kc_X4_31 hB ⟨Nat.le_of_ble_eq_true rfl, Nat.le_of_ble_eq_true rfl⟩) hx hb hml hown hB hK hW hS ⟨Nat.zero_le _, Nat.zero_le _⟩ rfl hl.1 rfl (Nat.le_of_ble_eq_true rfl) rfl dX4_whyNot_11 (fun H locs hW hS => ?_)
  refine lv_iload_n hx hb dX4_whyNot_14 rfl (lv_at hl 3 rfl) ?_
  refine lv_iconst (v := (-1)) hx hb dX4_whyNot_15 (by decide) ?_
  refine lv_icmp_eq (tgt := 28) hx hb dX4_whyNot_16 (by decide) (fun c16 => ?_) (fun c16 => ?_)
  · rw [if_pos c16] at hf
    exact J28 a0 a1 a2 _ _ _ hf hW hS (lv_sub hl [0, 1, 2, 3] rfl)
  · rw [if_neg c16] at hf
    refine lv_iload_n hx hb dX4_whyNot_19 rfl (lv_at hl 3 rfl) ?_
    refine lv_iconst (v := 0) hx hb dX4_whyNot_20 (by decide) ?_
    refine lv_iconst (v := 5) hx hb dX4_whyNot_21 (by decide) ?_
    obtain ⟨v22, e22, hf⟩ := ob2 hf
    refine c_S (As := [.int a2, .int 0, .int 5]) (st1 := [.int v22]) (rest := []) (p_X4_isWithin l E x m g o e22) (kc_X4_35 hB ⟨Nat.le_of_ble_eq_true rfl, Nat.le_of_ble_eq_true rfl⟩) hx hb hml hown hB hK hW hS ⟨Nat.zero_le _, Nat.zero_le _⟩ rfl hl.1 rfl (Nat.le_of_ble_eq_true rfl) rfl dX4_whyNot_22 (fun H locs hW hS => ?_)
    refine lv_if_eq (tgt := 32) hx hb dX4_whyNot_25 (by decide) (fun c25 => ?_) (fun c25 => ?_)
    · rw [if_pos c25] at hf
      refine lv_iconst (v := 0) hx hb dX4_whyNot_32 (by decide) ?_
      exact J33 a0 a1 a2 0 _ _ _ hf hW hS (lv_sub hl [0, 1, 2, 3] rfl)
    · rw [if_neg c25] at hf
      exact J28 a0 a1 a2 _ _ _ hf hW hS (lv_sub hl [0, 1, 2, 3] rfl)
def f_X4_fair_109 (x : XS) (k31 : Int32 → Int32 → Int32 → Int32 → Option (Int32)) (l1_109 : Int32) (l2_109 : Int32) (l3_109 : Int32) (l4_109 : Int32) : Option (Int32) :=
    (some (l4_109 + 1)).bind fun v109 =>
    k31 l1_109 l2_109 l3_109 v109
def f_X4_fair_85 (x : XS) (k31 : Int32 → Int32 → Int32 → Int32 → Option (Int32)) (l1_85 : Int32) (l2_85 : Int32) (l3_85 : Int32) (l4_85 : Int32) (t0_85 : Int32) : Option (Int32) :=
    if (t0_85 = 0 : Prop) then
      f_X4_fair_109 x k31 l1_85 l2_85 l3_85 l4_85
    else
      ((f_X3_againstDecision 1 x l1_85 l4_85 0).bind fun v100 =>
      if (v100 = 0 : Prop) then
        f_X4_fair_109 x k31 l1_85 l2_85 l4_85 l4_85
      else
        f_X4_fair_109 x k31 l1_85 l2_85 l3_85 l4_85)
def f_X4_fair_80 (x : XS) (k31 : Int32 → Int32 → Int32 → Int32 → Option (Int32)) (l1_80 : Int32) (l2_80 : Int32) (l3_80 : Int32) (l4_80 : Int32) : Option (Int32) :=
    f_X4_fair_85 x k31 l1_80 l2_80 l3_80 l4_80 1
def f_X4_fair_31 (x : XS) : Nat → Int32 → Int32 → Int32 → Int32 → Option (Int32)
  | 0, _, _, _, _ => none
  | n31 + 1, l1_31, l2_31, l3_31, l4_31 =>
    (f_X1_sizeOf 1 x l2_31).bind fun v41 =>
    if (v41 ≤ l4_31 : Prop) then
      some l3_31
    else
      (if (l3_31 = (-1) : Prop) then
        f_X4_fair_80 x (f_X4_fair_31 x n31) l1_31 l2_31 l3_31 l4_31
      else
        ((f_X1_costOf 1 x l2_31 l4_31).bind fun v62 =>
        (f_X1_costOf 1 x l2_31 l3_31).bind fun v74 =>
        if (v74 ≤ v62 : Prop) then
          f_X4_fair_85 x (f_X4_fair_31 x n31) l1_31 l2_31 l3_31 l4_31 0
        else
          f_X4_fair_80 x (f_X4_fair_31 x n31) l1_31 l2_31 l3_31 l4_31))
def f_X4_fair (x : XS) (a0 : Int32) : Option (Int32) :=
    (f_X0_has 1 x a0).bind fun v8 =>
    (f_X4_requireIndex v8).bind fun _ =>
    (f_X0_kindOf 1 x a0).bind fun v22 =>
    f_X4_fair_31 x 4096 a0 v22 (-1) 0
set_option maxRecDepth 100000 in
set_option maxHeartbeats 4000000 in
theorem p_X4_fair (l : Launch) (E : TE) (x m : XS) (g o : Int64) {a0 : Int32} {r : Int32} (hf : f_X4_fair x a0 = some r) : MG l E yX4_fair cX4_fair 6 (some .int) 6 [rf E 0, .int a0] (Wd E x m g o) (Wd E x m g o) (some (.int r)) := by
  unfold f_X4_fair at hf
  refine m_in (by decide) (Nat.le_of_ble_eq_true rfl) ?_
  intro p e s mi args below meth c H ls hx hb hr hlk hml hown hB hK hW hS hl
  have hl : lv_has ls 6 [(0, rf E 0), (1, .int a0)] := hl
  have J31 : ∀ (n31 : Nat), ∀ (l1_31 : Int32) (l2_31 : Int32) (l3_31 : Int32) (l4_31 : Int32) (H : Heap) (locs : List Loc) (ls : Array Slot), f_X4_fair_31 x n31 l1_31 l2_31 l3_31 l4_31 = some r → Wd E x m g o H → va_S (Ah E) s.heap H locs → lv_has ls 6 [(0, rf E 0), (1, .int l1_31), (2, .int l2_31), (3, .int l3_31), (4, .int l4_31)] → W p l e (rmH 6) s mi args below meth c H locs 0 0 (EQ E below args s (Wd E x m g o) (some (.int r))) (F0 mi 31 ls []) := by
    intro n31
    induction n31 with
    | zero => intro l1_31 l2_31 l3_31 l4_31 H locs ls hf; exact absurd hf (fun z => nomatch (show (none : Option (Int32)) = some _ from z))
    | succ n31 ih31 =>
      intro l1_31 l2_31 l3_31 l4_31 H locs ls hf hW hS hl
      rw [f_X4_fair_31.eq_2] at hf
      have J109 : ∀ (l1_109 : Int32) (l2_109 : Int32) (l3_109 : Int32) (l4_109 : Int32) (H : Heap) (locs : List Loc) (ls : Array Slot), f_X4_fair_109 x (f_X4_fair_31 x n31) l1_109 l2_109 l3_109 l4_109 = some r → Wd E x m g o H → va_S (Ah E) s.heap H locs → lv_has ls 6 [(0, rf E 0), (1, .int l1_109), (2, .int l2_109), (3, .int l3_109), (4, .int l4_109)] → W p l e (rmH 6) s mi args below meth c H locs 0 0 (EQ E below args s (Wd E x m g o) (some (.int r))) (F0 mi 109 ls []) := by
        intro l1_109 l2_109 l3_109 l4_109 H locs ls hf hW hS hl
        unfold f_X4_fair_109 at hf
        obtain ⟨v109, e109, hf⟩ := ob hf
        refine lv_iinc (v := v109) (lv' := [(4, .int v109), (0, rf E 0), (1, .int l1_109), (2, .int l2_109), (3, .int l3_109)]) hx hb dX4_fair_109 hl (k := 4) rfl (by rw [e109]; rfl) (by decide) rfl (fun ls hl => ?_)
        refine lv_goto (tgt := 31) hx hb dX4_fair_112 (by decide) ?_
        exact ih31 l1_109 l2_109 l3_109 v109 _ _ _ hf hW hS (lv_sub hl [1, 2, 3, 4, 0] rfl)
      have J85 : ∀ (l1_85 : Int32) (l2_85 : Int32) (l3_85 : Int32) (l4_85 : Int32) (t0_85 : Int32) (H : Heap) (locs : List Loc) (ls : Array Slot), f_X4_fair_85 x (f_X4_fair_31 x n31) l1_85 l2_85 l3_85 l4_85 t0_85 = some r → Wd E x m g o H → va_S (Ah E) s.heap H locs → lv_has ls 6 [(0, rf E 0), (1, .int l1_85), (2, .int l2_85), (3, .int l3_85), (4, .int l4_85)] → W p l e (rmH 6) s mi args below meth c H locs 0 0 (EQ E below args s (Wd E x m g o) (some (.int r))) (F0 mi 85 ls [.int t0_85]) := by
        intro l1_85 l2_85 l3_85 l4_85 t0_85 H locs ls hf hW hS hl
        unfold f_X4_fair_85 at hf
        refine lv_istore (lv' := [(5, .int t0_85), (0, rf E 0), (1, .int l1_85), (2, .int l2_85), (3, .int l3_85), (4, .int l4_85)]) hx hb dX4_fair_85 hl (by decide) rfl (fun ls hl => ?_)
        refine lv_iload hx hb dX4_fair_87 (lv_at hl 0 rfl) ?_
        refine lv_if_eq (tgt := 109) hx hb dX4_fair_89 (by decide) (fun c89 => ?_) (fun c89 => ?_)
        · rw [if_pos c89] at hf
          exact J109 l1_85 l2_85 l3_85 l4_85 _ _ _ hf hW hS (lv_sub hl [1, 2, 3, 4, 5] rfl)
        · rw [if_neg c89] at hf
          refine lv_aload_n hx hb dX4_fair_92 rfl (lv_at hl 1 rfl) ?_
          refine gf_X4_10 hx hb hB hK hown hW dX4_fair_93 ?_
          refine lv_iload_n hx hb dX4_fair_96 rfl (lv_at hl 2 rfl) ?_
          refine lv_iload hx hb dX4_fair_97 (lv_at hl 5 rfl) ?_
          refine lv_iconst (v := 0) hx hb dX4_fair_99 (by decide) ?_
          obtain ⟨v100, e100, hf⟩ := ob2 hf
          refine c_V (As := [.int l1_85, .int l4_85, .int 0]) (st1 := [.int v100]) (rest := []) (p_X3_againstDecision l E IsB1 x m g o e100) (kc_X4_103 hB ⟨Nat.le_of_ble_eq_true rfl, Nat.le_of_ble_eq_true rfl⟩) (Wd.rec hK hW IsB1.l0 (cB_0 IsB1) (ci := 3) rfl) hx hb hml hown hB hK hW hS ⟨Nat.zero_le _, Nat.zero_le _⟩ rfl hl.1 rfl (Nat.le_of_ble_eq_true rfl) rfl dX4_fair_100 (fun H locs hW hS => ?_)
          refine lv_if_ne (tgt := 109) hx hb dX4_fair_103 (by decide) (fun c103 => ?_) (fun c103 => ?_)
          · rw [if_neg c103] at hf
            exact J109 l1_85 l2_85 l3_85 l4_85 _ _ _ hf hW hS (lv_sub hl [1, 2, 3, 4, 5] rfl)
          · rw [if_pos c103] at hf
            refine lv_iload hx hb dX4_fair_106 (lv_at hl 5 rfl) ?_
            refine lv_istore_n (lv' := [(3, .int l4_85), (5, .int t0_85), (0, rf E 0), (1, .int l1_85), (2, .int l2_85), (4, .int l4_85)]) hx hb dX4_fair_108 rfl hl (by decide) rfl (fun ls hl => ?_)
            exact J109 l1_85 l2_85 l4_85 l4_85 _ _ _ hf hW hS (lv_sub hl [2, 3, 4, 0, 5] rfl)
      have J80 : ∀ (l1_80 : Int32) (l2_80 : Int32) (l3_80 : Int32) (l4_80 : Int32) (H : Heap) (locs : List Loc) (ls : Array Slot), f_X4_fair_80 x (f_X4_fair_31 x n31) l1_80 l2_80 l3_80 l4_80 = some r → Wd E x m g o H → va_S (Ah E) s.heap H locs → lv_has ls 6 [(0, rf E 0), (1, .int l1_80), (2, .int l2_80), (3, .int l3_80), (4, .int l4_80)] → W p l e (rmH 6) s mi args below meth c H locs 0 0 (EQ E below args s (Wd E x m g o) (some (.int r))) (F0 mi 80 ls []) := by
        intro l1_80 l2_80 l3_80 l4_80 H locs ls hf hW hS hl
        unfold f_X4_fair_80 at hf
        refine lv_iconst (v := 1) hx hb dX4_fair_80 (by decide) ?_
        refine lv_goto (tgt := 85) hx hb dX4_fair_81 (by decide) ?_
        exact J85 l1_80 l2_80 l3_80 l4_80 1 _ _ _ hf hW hS (lv_sub hl [0, 1, 2, 3, 4] rfl)
      refine lv_iload hx hb dX4_fair_31 (lv_at hl 4 rfl) ?_
      refine lv_aload_n hx hb dX4_fair_33 rfl (lv_at hl 0 rfl) ?_
      refine gf_X4_10 hx hb hB hK hown hW dX4_fair_34 ?_
      refine gf_X4_42 hx hb hB hK hown hW IsB1 dX4_fair_37 ?_
      refine lv_iload_n hx hb dX4_fair_40 rfl (lv_at hl 2 rfl) ?_
      obtain ⟨v41, e41, hf⟩ := ob2 hf
      refine c_V (As := [.int l2_31]) (st1 := [.int v41, .int l4_31]) (rest := [.int l4_31]) (p_X1_sizeOf l E IsB1 x m g o e41) (kc_X4_46 hB ⟨Nat.le_of_ble_eq_true rfl, Nat.le_of_ble_eq_true rfl⟩) (Wd.rec hK hW (IsB1.l8 (j := 1) (by decide)) (cB_1 IsB1) (ci := 1) rfl) hx hb hml hown hB hK hW hS ⟨Nat.zero_le _, Nat.zero_le _⟩ rfl hl.1 rfl (Nat.le_of_ble_eq_true rfl) rfl dX4_fair_41 (fun H locs hW hS => ?_)
      refine lv_icmp_ge (tgt := 115) hx hb dX4_fair_44 (by decide) (fun c44 => ?_) (fun c44 => ?_)
      · rw [if_pos c44] at hf
        refine lv_iload_n hx hb dX4_fair_115 rfl (lv_at hl 3 rfl) ?_
        cases hf
        exact e_i hx hb hr hlk hW hS dX4_fair_116
      · rw [if_neg c44] at hf
        refine lv_iload_n hx hb dX4_fair_47 rfl (lv_at hl 3 rfl) ?_
        refine lv_iconst (v := (-1)) hx hb dX4_fair_48 (by decide) ?_
        refine lv_icmp_eq (tgt := 80) hx hb dX4_fair_49 (by decide) (fun c49 => ?_) (fun c49 => ?_)
        · rw [if_pos c49] at hf
          exact J80 l1_31 l2_31 l3_31 l4_31 _ _ _ hf hW hS (lv_sub hl [0, 1, 2, 3, 4] rfl)
        · rw [if_neg c49] at hf
          refine lv_aload_n hx hb dX4_fair_52 rfl (lv_at hl 0 rfl) ?_
          refine gf_X4_10 hx hb hB hK hown hW dX4_fair_53 ?_
          refine gf_X4_42 hx hb hB hK hown hW IsB1 dX4_fair_56 ?_
          refine lv_iload_n hx hb dX4_fair_59 rfl (lv_at hl 2 rfl) ?_
          refine lv_iload hx hb dX4_fair_60 (lv_at hl 4 rfl) ?_
          obtain ⟨v62, e62, hf⟩ := ob2 hf
          refine c_V (As := [.int l2_31, .int l4_31]) (st1 := [.int v62]) (rest := []) (p_X1_costOf l E IsB1 x m g o e62) (kc_X4_164 hB ⟨Nat.le_of_ble_eq_true rfl, Nat.le_of_ble_eq_true rfl⟩) (Wd.rec hK hW (IsB1.l8 (j := 1) (by decide)) (cB_1 IsB1) (ci := 1) rfl) hx hb hml hown hB hK hW hS ⟨Nat.zero_le _, Nat.zero_le _⟩ rfl hl.1 rfl (Nat.le_of_ble_eq_true rfl) rfl dX4_fair_62 (fun H locs hW hS => ?_)
          refine lv_aload_n hx hb dX4_fair_65 rfl (lv_at hl 0 rfl) ?_
          refine gf_X4_10 hx hb hB hK hown hW dX4_fair_66 ?_
          refine gf_X4_42 hx hb hB hK hown hW IsB1 dX4_fair_69 ?_
          refine lv_iload_n hx hb dX4_fair_72 rfl (lv_at hl 2 rfl) ?_
          refine lv_iload_n hx hb dX4_fair_73 rfl (lv_at hl 3 rfl) ?_
          obtain ⟨v74, e74, hf⟩ := ob2 hf
          refine c_V (As := [.int l2_31, .int l3_31]) (st1 := [.int v74, .int v62]) (rest := [.int v62]) (p_X1_costOf l E IsB1 x m g o e74) (kc_X4_164 hB ⟨Nat.le_of_ble_eq_true rfl, Nat.le_of_ble_eq_true rfl⟩) (Wd.rec hK hW (IsB1.l8 (j := 1) (by decide)) (cB_1 IsB1) (ci := 1) rfl) hx hb hml hown hB hK hW hS ⟨Nat.zero_le _, Nat.zero_le _⟩ rfl hl.1 rfl (Nat.le_of_ble_eq_true rfl) rfl dX4_fair_74 (fun H locs hW hS => ?_)
          refine lv_icmp_ge (tgt := 84) hx hb dX4_fair_77 (by decide) (fun c77 => ?_) (fun c77 => ?_)
          · rw [if_pos c77] at hf
            refine lv_iconst (v := 0) hx hb dX4_fair_84 (by decide) ?_
            exact J85 l1_31 l2_31 l3_31 l4_31 0 _ _ _ hf hW hS (lv_sub hl [0, 1, 2, 3, 4] rfl)
          · rw [if_neg c77] at hf
            exact J80 l1_31 l2_31 l3_31 l4_31 _ _ _ hf hW hS (lv_sub hl [0, 1, 2, 3, 4] rfl)
  refine lv_aload_n hx hb dX4_fair_0 rfl (lv_at hl 0 rfl) ?_
  refine gf_X4_10 hx hb hB hK hown hW dX4_fair_1 ?_
  refine gf_X4_88 hx hb hB hK hown hW IsB1 dX4_fair_4 ?_
  refine lv_iload_n hx hb dX4_fair_7 rfl (lv_at hl 1 rfl) ?_
  obtain ⟨v8, e8, hf⟩ := ob2 hf
  refine c_V (As := [.int a0]) (st1 := [.int v8]) (rest := []) (p_X0_has l E IsB1 x m g o e8) (kc_X4_101 hB ⟨Nat.le_of_ble_eq_true rfl, Nat.le_of_ble_eq_true rfl⟩) (Wd.rec hK hW (IsB1.l8 (j := 7) (by decide)) (cB_7 IsB1) (ci := 0) rfl) hx hb hml hown hB hK hW hS ⟨Nat.zero_le _, Nat.zero_le _⟩ rfl hl.1 rfl (Nat.le_of_ble_eq_true rfl) rfl dX4_fair_8 (fun H locs hW hS => ?_)
  obtain ⟨u11, e11, hf⟩ := ob2 hf
  refine c_S (As := [.int v8]) (st1 := []) (rest := []) (p_X4_requireIndex l E x m g o e11) (kc_X4_31 hB ⟨Nat.le_of_ble_eq_true rfl, Nat.le_of_ble_eq_true rfl⟩) hx hb hml hown hB hK hW hS ⟨Nat.zero_le _, Nat.zero_le _⟩ rfl hl.1 rfl (Nat.le_of_ble_eq_true rfl) rfl dX4_fair_11 (fun H locs hW hS => ?_)
  refine lv_aload_n hx hb dX4_fair_14 rfl (lv_at hl 0 rfl) ?_
  refine gf_X4_10 hx hb hB hK hown hW dX4_fair_15 ?_
  refine gf_X4_88 hx hb hB hK hown hW IsB1 dX4_fair_18 ?_
  refine lv_iload_n hx hb dX4_fair_21 rfl (lv_at hl 1 rfl) ?_
  obtain ⟨v22, e22, hf⟩ := ob2 hf
  refine c_V (As := [.int a0]) (st1 := [.int v22]) (rest := []) (p_X0_kindOf l E IsB1 x m g o e22) (kc_X4_244 hB ⟨Nat.le_of_ble_eq_true rfl, Nat.le_of_ble_eq_true rfl⟩) (Wd.rec hK hW (IsB1.l8 (j := 7) (by decide)) (cB_7 IsB1) (ci := 0) rfl) hx hb hml hown hB hK hW hS ⟨Nat.zero_le _, Nat.zero_le _⟩ rfl hl.1 rfl (Nat.le_of_ble_eq_true rfl) rfl dX4_fair_22 (fun H locs hW hS => ?_)
  refine lv_istore_n (lv' := [(2, .int v22), (0, rf E 0), (1, .int a0)]) hx hb dX4_fair_25 rfl hl (by decide) rfl (fun ls hl => ?_)
  refine lv_iconst (v := (-1)) hx hb dX4_fair_26 (by decide) ?_
  refine lv_istore_n (lv' := [(3, .int (-1)), (2, .int v22), (0, rf E 0), (1, .int a0)]) hx hb dX4_fair_27 rfl hl (by decide) rfl (fun ls hl => ?_)
  refine lv_iconst (v := 0) hx hb dX4_fair_28 (by decide) ?_
  refine lv_istore (lv' := [(4, .int 0), (3, .int (-1)), (2, .int v22), (0, rf E 0), (1, .int a0)]) hx hb dX4_fair_29 hl (by decide) rfl (fun ls hl => ?_)
  exact J31 4096 a0 v22 (-1) 0 _ _ _ hf hW hS (lv_sub hl [3, 4, 2, 1, 0] rfl)
def f_X4_ifJudged (x : XS) (a0 : Int32) (a1 : Int32) (a2 : Int32) : Option (Int32 × XS) :=
    (f_X0_has 1 x a0).bind fun v8 =>
    (f_X4_requireIndex v8).bind fun _ =>
    (f_X4_isWithin a2 0 3).bind fun v17 =>
    (f_X4_requireArgument v17).bind fun _ =>
    (f_X3_againstJudgement 1 x a0 a1).bind fun v29 =>
    if (v29 = 0 : Prop) then
      ((f_X3_copyFrom 27 1 x).bind fun x45 =>
      (f_X3_makeJudgement 27 x45 a0 a1).bind fun q54 => (fun v54 x54 =>
      if (a2 = 0 : Prop) then
        ((f_X0_gotInAll 27 x54).bind fun v95 =>
        (f_X0_gotInAll 1 x54).bind fun v105 =>
        some ((v95 - v105), x54))
      else if (a2 = 1 : Prop) then
        some (v54, x54)
      else if (a2 = 2 : Prop) then
        ((f_X3_waiting 27 x54).bind fun v117 =>
        some (v117, x54))
      else   ((f_X3_owedInAll 27 x54).bind fun v125 =>
        some (v125, x54))) q54.1 q54.2)
    else
      some ((-1), x)
set_option maxRecDepth 100000 in
set_option maxHeartbeats 4000000 in
theorem p_X4_ifJudged (l : Launch) (E : TE) (x m : XS) (g o : Int64) {a0 : Int32} {a1 : Int32} {a2 : Int32} {r : Int32} {xr : XS} (hf : f_X4_ifJudged x a0 a1 a2 = some (r, xr)) : MG l E yX4_ifJudged cX4_ifJudged 5 (some .int) 6 [rf E 0, .int a0, .int a1, .int a2] (Wd E x m g o) (Wd E xr m g o) (some (.int r)) := by
  unfold f_X4_ifJudged at hf
  refine m_in (by decide) (Nat.le_of_ble_eq_true rfl) ?_
  intro p e s mi args below meth c H ls hx hb hr hlk hml hown hB hK hW hS hl
  have hl : lv_has ls 5 [(0, rf E 0), (1, .int a0), (2, .int a1), (3, .int a2)] := hl
  refine lv_aload_n hx hb dX4_ifJudged_0 rfl (lv_at hl 0 rfl) ?_
  refine gf_X4_10 hx hb hB hK hown hW dX4_ifJudged_1 ?_
  refine gf_X4_88 hx hb hB hK hown hW IsB1 dX4_ifJudged_4 ?_
  refine lv_iload_n hx hb dX4_ifJudged_7 rfl (lv_at hl 1 rfl) ?_
  obtain ⟨v8, e8, hf⟩ := ob2 hf
  refine c_V (As := [.int a0]) (st1 := [.int v8]) (rest := []) (p_X0_has l E IsB1 x m g o e8) (kc_X4_101 hB ⟨Nat.le_of_ble_eq_true rfl, Nat.le_of_ble_eq_true rfl⟩) (Wd.rec hK hW (IsB1.l8 (j := 7) (by decide)) (cB_7 IsB1) (ci := 0) rfl) hx hb hml hown hB hK hW hS ⟨Nat.zero_le _, Nat.zero_le _⟩ rfl hl.1 rfl (Nat.le_of_ble_eq_true rfl) rfl dX4_ifJudged_8 (fun H locs hW hS => ?_)
  obtain ⟨u11, e11, hf⟩ := ob2 hf
  refine c_S (As := [.int v8]) (st1 := []) (rest := []) (p_X4_requireIndex l E x m g o e11) (kc_X4_31 hB ⟨Nat.le_of_ble_eq_true rfl, Nat.le_of_ble_eq_true rfl⟩) hx hb hml hown hB hK hW hS ⟨Nat.zero_le _, Nat.zero_le _⟩ rfl hl.1 rfl (Nat.le_of_ble_eq_true rfl) rfl dX4_ifJudged_11 (fun H locs hW hS => ?_)
  refine lv_iload_n hx hb dX4_ifJudged_14 rfl (lv_at hl 3 rfl) ?_
  refine lv_iconst (v := 0) hx hb dX4_ifJudged_15 (by decide) ?_
  refine lv_iconst (v := 3) hx hb dX4_ifJudged_16 (by decide) ?_
  obtain ⟨v17, e17, hf⟩ := ob2 hf
  refine c_S (As := [.int a2, .int 0, .int 3]) (st1 := [.int v17]) (rest := []) (p_X4_isWithin l E x m g o e17) (kc_X4_35 hB ⟨Nat.le_of_ble_eq_true rfl, Nat.le_of_ble_eq_true rfl⟩) hx hb hml hown hB hK hW hS ⟨Nat.zero_le _, Nat.zero_le _⟩ rfl hl.1 rfl (Nat.le_of_ble_eq_true rfl) rfl dX4_ifJudged_17 (fun H locs hW hS => ?_)
  obtain ⟨u20, e20, hf⟩ := ob2 hf
  refine c_S (As := [.int v17]) (st1 := []) (rest := []) (p_X4_requireArgument l E x m g o e20) (kc_X4_39 hB ⟨Nat.le_of_ble_eq_true rfl, Nat.le_of_ble_eq_true rfl⟩) hx hb hml hown hB hK hW hS ⟨Nat.zero_le _, Nat.zero_le _⟩ rfl hl.1 rfl (Nat.le_of_ble_eq_true rfl) rfl dX4_ifJudged_20 (fun H locs hW hS => ?_)
  refine lv_aload_n hx hb dX4_ifJudged_23 rfl (lv_at hl 0 rfl) ?_
  refine gf_X4_10 hx hb hB hK hown hW dX4_ifJudged_24 ?_
  refine lv_iload_n hx hb dX4_ifJudged_27 rfl (lv_at hl 1 rfl) ?_
  refine lv_iload_n hx hb dX4_ifJudged_28 rfl (lv_at hl 2 rfl) ?_
  obtain ⟨v29, e29, hf⟩ := ob2 hf
  refine c_V (As := [.int a0, .int a1]) (st1 := [.int v29]) (rest := []) (p_X3_againstJudgement l E IsB1 x m g o e29) (kc_X4_119 hB ⟨Nat.le_of_ble_eq_true rfl, Nat.le_of_ble_eq_true rfl⟩) (Wd.rec hK hW IsB1.l0 (cB_0 IsB1) (ci := 3) rfl) hx hb hml hown hB hK hW hS ⟨Nat.zero_le _, Nat.zero_le _⟩ rfl hl.1 rfl (Nat.le_of_ble_eq_true rfl) rfl dX4_ifJudged_29 (fun H locs hW hS => ?_)
  refine lv_if_eq (tgt := 37) hx hb dX4_ifJudged_32 (by decide) (fun c32 => ?_) (fun c32 => ?_)
  · rw [if_pos c32] at hf
    refine lv_aload_n hx hb dX4_ifJudged_37 rfl (lv_at hl 0 rfl) ?_
    refine gf_X4_16 hx hb hB hK hown hW dX4_ifJudged_38 ?_
    refine lv_aload_n hx hb dX4_ifJudged_41 rfl (lv_at hl 0 rfl) ?_
    refine gf_X4_10 hx hb hB hK hown hW dX4_ifJudged_42 ?_
    obtain ⟨x45, e45, hf⟩ := ob2 hf
    refine c_V (As := [rf E 1]) (st1 := []) (rest := []) (p_X3_copyFrom l E IsB27 IsB1 x m g o e45) (kc_X4_157 hB ⟨Nat.le_of_ble_eq_true rfl, Nat.le_of_ble_eq_true rfl⟩) (Wd.rec hK hW IsB27.l0 (cB_0 IsB27) (ci := 3) rfl) hx hb hml hown hB hK hW hS ⟨Nat.zero_le _, Nat.zero_le _⟩ rfl hl.1 rfl (Nat.le_of_ble_eq_true rfl) rfl dX4_ifJudged_45 (fun H locs hW hS => ?_)
    refine lv_aload_n hx hb dX4_ifJudged_48 rfl (lv_at hl 0 rfl) ?_
    refine gf_X4_16 hx hb hB hK hown hW dX4_ifJudged_49 ?_
    refine lv_iload_n hx hb dX4_ifJudged_52 rfl (lv_at hl 1 rfl) ?_
    refine lv_iload_n hx hb dX4_ifJudged_53 rfl (lv_at hl 2 rfl) ?_
    obtain ⟨⟨v54, x54⟩, e54, hf⟩ := ob2 hf
    dsimp only at hf
    refine c_V (As := [.int a0, .int a1]) (st1 := [.int v54]) (rest := []) (p_X3_makeJudgement l E IsB27 x45 m g o e54) (kc_X4_122 hB ⟨Nat.le_of_ble_eq_true rfl, Nat.le_of_ble_eq_true rfl⟩) (Wd.rec hK hW IsB27.l0 (cB_0 IsB27) (ci := 3) rfl) hx hb hml hown hB hK hW hS ⟨Nat.zero_le _, Nat.zero_le _⟩ rfl hl.1 rfl (Nat.le_of_ble_eq_true rfl) rfl dX4_ifJudged_54 (fun H locs hW hS => ?_)
    refine lv_istore (lv' := [(4, .int v54), (0, rf E 0), (1, .int a0), (2, .int a1), (3, .int a2)]) hx hb dX4_ifJudged_57 hl (by decide) rfl (fun ls hl => ?_)
    refine lv_iload_n hx hb dX4_ifJudged_59 rfl (lv_at hl 4 rfl) ?_
    by_cases c60_0 : a2 = 0
    · rw [if_pos c60_0] at hf
      refine lv_tableIn (tgt := 88) (off := 28) hx hb dX4_ifJudged_60 (by rw [c60_0]; decide) (by rw [c60_0]; decide) (by rw [c60_0]; rfl) (by decide) ?_
      refine lv_aload_n hx hb dX4_ifJudged_88 rfl (lv_at hl 1 rfl) ?_
      refine gf_X4_16 hx hb hB hK hown hW dX4_ifJudged_89 ?_
      refine gf_X4_88 hx hb hB hK hown hW IsB27 dX4_ifJudged_92 ?_
      obtain ⟨v95, e95, hf⟩ := ob2 hf
      refine c_V (As := []) (st1 := [.int v95]) (rest := []) (p_X0_gotInAll l E IsB27 x54 m g o e95) (kc_X4_225 hB ⟨Nat.le_of_ble_eq_true rfl, Nat.le_of_ble_eq_true rfl⟩) (Wd.rec hK hW (IsB27.l8 (j := 7) (by decide)) (cB_7 IsB27) (ci := 0) rfl) hx hb hml hown hB hK hW hS ⟨Nat.zero_le _, Nat.zero_le _⟩ rfl hl.1 rfl (Nat.le_of_ble_eq_true rfl) rfl dX4_ifJudged_95 (fun H locs hW hS => ?_)
      refine lv_aload_n hx hb dX4_ifJudged_98 rfl (lv_at hl 1 rfl) ?_
      refine gf_X4_10 hx hb hB hK hown hW dX4_ifJudged_99 ?_
      refine gf_X4_88 hx hb hB hK hown hW IsB1 dX4_ifJudged_102 ?_
      obtain ⟨v105, e105, hf⟩ := ob2 hf
      refine c_V (As := []) (st1 := [.int v105, .int v95]) (rest := [.int v95]) (p_X0_gotInAll l E IsB1 x54 m g o e105) (kc_X4_225 hB ⟨Nat.le_of_ble_eq_true rfl, Nat.le_of_ble_eq_true rfl⟩) (Wd.rec hK hW (IsB1.l8 (j := 7) (by decide)) (cB_7 IsB1) (ci := 0) rfl) hx hb hml hown hB hK hW hS ⟨Nat.zero_le _, Nat.zero_le _⟩ rfl hl.1 rfl (Nat.le_of_ble_eq_true rfl) rfl dX4_ifJudged_105 (fun H locs hW hS => ?_)
      refine lv_isub hx hb dX4_ifJudged_108 ?_
      cases hf
      exact e_i hx hb hr hlk hW hS dX4_ifJudged_109
    rw [if_neg c60_0] at hf
    by_cases c60_1 : a2 = 1
    · rw [if_pos c60_1] at hf
      refine lv_tableIn (tgt := 110) (off := 50) hx hb dX4_ifJudged_60 (by rw [c60_1]; decide) (by rw [c60_1]; decide) (by rw [c60_1]; rfl) (by decide) ?_
      refine lv_iload hx hb dX4_ifJudged_110 (lv_at hl 0 rfl) ?_
      cases hf
      exact e_i hx hb hr hlk hW hS dX4_ifJudged_112
    rw [if_neg c60_1] at hf
    by_cases c60_2 : a2 = 2
    · rw [if_pos c60_2] at hf
      refine lv_tableIn (tgt := 113) (off := 53) hx hb dX4_ifJudged_60 (by rw [c60_2]; decide) (by rw [c60_2]; decide) (by rw [c60_2]; rfl) (by decide) ?_
      refine lv_aload_n hx hb dX4_ifJudged_113 rfl (lv_at hl 1 rfl) ?_
      refine gf_X4_16 hx hb hB hK hown hW dX4_ifJudged_114 ?_
      obtain ⟨v117, e117, hf⟩ := ob2 hf
      refine c_V (As := []) (st1 := [.int v117]) (rest := []) (p_X3_waiting l E IsB27 x54 m g o e117) (kc_X4_228 hB ⟨Nat.le_of_ble_eq_true rfl, Nat.le_of_ble_eq_true rfl⟩) (Wd.rec hK hW IsB27.l0 (cB_0 IsB27) (ci := 3) rfl) hx hb hml hown hB hK hW hS ⟨Nat.zero_le _, Nat.zero_le _⟩ rfl hl.1 rfl (Nat.le_of_ble_eq_true rfl) rfl dX4_ifJudged_117 (fun H locs hW hS => ?_)
      cases hf
      exact e_i hx hb hr hlk hW hS dX4_ifJudged_120
    rw [if_neg c60_2] at hf
    refine lv_tableOut (tgt := 121) hx hb dX4_ifJudged_60 (by have h0 := lv_neT c60_0 (show (0 : Int32).toInt = 0 by decide); have h1 := lv_neT c60_1 (show (1 : Int32).toInt = 1 by decide); have h2 := lv_neT c60_2 (show (2 : Int32).toInt = 2 by decide); omega) (by decide) ?_
    refine lv_aload_n hx hb dX4_ifJudged_121 rfl (lv_at hl 1 rfl) ?_
    refine gf_X4_16 hx hb hB hK hown hW dX4_ifJudged_122 ?_
    obtain ⟨v125, e125, hf⟩ := ob2 hf
    refine c_V (As := []) (st1 := [.int v125]) (rest := []) (p_X3_owedInAll l E IsB27 x54 m g o e125) (kc_X4_247 hB ⟨Nat.le_of_ble_eq_true rfl, Nat.le_of_ble_eq_true rfl⟩) (Wd.rec hK hW IsB27.l0 (cB_0 IsB27) (ci := 3) rfl) hx hb hml hown hB hK hW hS ⟨Nat.zero_le _, Nat.zero_le _⟩ rfl hl.1 rfl (Nat.le_of_ble_eq_true rfl) rfl dX4_ifJudged_125 (fun H locs hW hS => ?_)
    cases hf
    exact e_i hx hb hr hlk hW hS dX4_ifJudged_128
  · rw [if_neg c32] at hf
    refine lv_iconst (v := (-1)) hx hb dX4_ifJudged_35 (by decide) ?_
    cases hf
    exact e_i hx hb hr hlk hW hS dX4_ifJudged_36
def f_X4_monthsToEqual_25 : Nat → XS → Int32 → Option (Int32 × XS)
  | 0, _, _ => none
  | n25 + 1, x25, l1_25 =>
    if (24 < l1_25 : Prop) then
      some ((-1), x25)
    else
      ((f_X3_turnMonth 27 x25).bind fun q35 => (fun v35 x35 =>
      (f_X3_waiting 27 x35).bind fun v43 =>
      if (v43 = 0 : Prop) then
        some (l1_25, x35)
      else
        ((some (l1_25 + 1)).bind fun v51 =>
        f_X4_monthsToEqual_25 n25 x35 v51)) q35.1 q35.2)
def f_X4_monthsToEqual (x : XS) : Option (Int32 × XS) :=
    (f_X3_waiting 1 x).bind fun v4 =>
    if (v4 = 0 : Prop) then
      some (0, x)
    else
      ((f_X3_copyFrom 27 1 x).bind fun x20 =>
      f_X4_monthsToEqual_25 4096 x20 1)
set_option maxRecDepth 100000 in
set_option maxHeartbeats 4000000 in
theorem p_X4_monthsToEqual (l : Launch) (E : TE) (x m : XS) (g o : Int64) {r : Int32} {xr : XS} (hf : f_X4_monthsToEqual x = some (r, xr)) : MG l E yX4_monthsToEqual cX4_monthsToEqual 2 (some .int) 6 [rf E 0] (Wd E x m g o) (Wd E xr m g o) (some (.int r)) := by
  unfold f_X4_monthsToEqual at hf
  refine m_in (by decide) (Nat.le_of_ble_eq_true rfl) ?_
  intro p e s mi args below meth c H ls hx hb hr hlk hml hown hB hK hW hS hl
  have hl : lv_has ls 2 [(0, rf E 0)] := hl
  have J25 : ∀ (n25 : Nat), ∀ (x25 : XS) (l1_25 : Int32) (H : Heap) (locs : List Loc) (ls : Array Slot), f_X4_monthsToEqual_25 n25 x25 l1_25 = some (r, xr) → Wd E x25 m g o H → va_S (Ah E) s.heap H locs → lv_has ls 2 [(0, rf E 0), (1, .int l1_25)] → W p l e (rmH 6) s mi args below meth c H locs 0 0 (EQ E below args s (Wd E xr m g o) (some (.int r))) (F0 mi 25 ls []) := by
    intro n25
    induction n25 with
    | zero => intro x25 l1_25 H locs ls hf; exact absurd hf (fun z => nomatch (show (none : Option (Int32 × XS)) = some _ from z))
    | succ n25 ih25 =>
      intro x25 l1_25 H locs ls hf hW hS hl
      rw [f_X4_monthsToEqual_25.eq_2] at hf
      refine lv_iload_n hx hb dX4_monthsToEqual_25 rfl (lv_at hl 1 rfl) ?_
      refine lv_bipush (v := 24) hx hb dX4_monthsToEqual_26 (by decide) ?_
      refine lv_icmp_gt (tgt := 57) hx hb dX4_monthsToEqual_28 (by decide) (fun c28 => ?_) (fun c28 => ?_)
      · rw [if_pos c28] at hf
        refine lv_iconst (v := (-1)) hx hb dX4_monthsToEqual_57 (by decide) ?_
        cases hf
        exact e_i hx hb hr hlk hW hS dX4_monthsToEqual_58
      · rw [if_neg c28] at hf
        refine lv_aload_n hx hb dX4_monthsToEqual_31 rfl (lv_at hl 0 rfl) ?_
        refine gf_X4_16 hx hb hB hK hown hW dX4_monthsToEqual_32 ?_
        obtain ⟨⟨v35, x35⟩, e35, hf⟩ := ob2 hf
        dsimp only at hf
        refine c_V (As := []) (st1 := [.int v35]) (rest := []) (p_X3_turnMonth l E IsB27 x25 m g o e35) (kc_X4_128 hB ⟨Nat.le_of_ble_eq_true rfl, Nat.le_of_ble_eq_true rfl⟩) (Wd.rec hK hW IsB27.l0 (cB_0 IsB27) (ci := 3) rfl) hx hb hml hown hB hK hW hS ⟨Nat.zero_le _, Nat.zero_le _⟩ rfl hl.1 rfl (Nat.le_of_ble_eq_true rfl) rfl dX4_monthsToEqual_35 (fun H locs hW hS => ?_)
        refine lv_pop hx hb dX4_monthsToEqual_38 rfl ?_
        refine lv_aload_n hx hb dX4_monthsToEqual_39 rfl (lv_at hl 0 rfl) ?_
        refine gf_X4_16 hx hb hB hK hown hW dX4_monthsToEqual_40 ?_
        obtain ⟨v43, e43, hf⟩ := ob2 hf
        refine c_V (As := []) (st1 := [.int v43]) (rest := []) (p_X3_waiting l E IsB27 x35 m g o e43) (kc_X4_228 hB ⟨Nat.le_of_ble_eq_true rfl, Nat.le_of_ble_eq_true rfl⟩) (Wd.rec hK hW IsB27.l0 (cB_0 IsB27) (ci := 3) rfl) hx hb hml hown hB hK hW hS ⟨Nat.zero_le _, Nat.zero_le _⟩ rfl hl.1 rfl (Nat.le_of_ble_eq_true rfl) rfl dX4_monthsToEqual_43 (fun H locs hW hS => ?_)
        refine lv_if_ne (tgt := 51) hx hb dX4_monthsToEqual_46 (by decide) (fun c46 => ?_) (fun c46 => ?_)
        · rw [if_neg c46] at hf
          obtain ⟨v51, e51, hf⟩ := ob hf
          refine lv_iinc (v := v51) (lv' := [(1, .int v51), (0, rf E 0)]) hx hb dX4_monthsToEqual_51 hl (k := 1) rfl (by rw [e51]; rfl) (by decide) rfl (fun ls hl => ?_)
          refine lv_goto (tgt := 25) hx hb dX4_monthsToEqual_54 (by decide) ?_
          exact ih25 x35 v51 _ _ _ hf hW hS (lv_sub hl [1, 0] rfl)
        · rw [if_pos c46] at hf
          refine lv_iload_n hx hb dX4_monthsToEqual_49 rfl (lv_at hl 1 rfl) ?_
          cases hf
          exact e_i hx hb hr hlk hW hS dX4_monthsToEqual_50
  refine lv_aload_n hx hb dX4_monthsToEqual_0 rfl (lv_at hl 0 rfl) ?_
  refine gf_X4_10 hx hb hB hK hown hW dX4_monthsToEqual_1 ?_
  obtain ⟨v4, e4, hf⟩ := ob2 hf
  refine c_V (As := []) (st1 := [.int v4]) (rest := []) (p_X3_waiting l E IsB1 x m g o e4) (kc_X4_228 hB ⟨Nat.le_of_ble_eq_true rfl, Nat.le_of_ble_eq_true rfl⟩) (Wd.rec hK hW IsB1.l0 (cB_0 IsB1) (ci := 3) rfl) hx hb hml hown hB hK hW hS ⟨Nat.zero_le _, Nat.zero_le _⟩ rfl hl.1 rfl (Nat.le_of_ble_eq_true rfl) rfl dX4_monthsToEqual_4 (fun H locs hW hS => ?_)
  refine lv_if_ne (tgt := 12) hx hb dX4_monthsToEqual_7 (by decide) (fun c7 => ?_) (fun c7 => ?_)
  · rw [if_neg c7] at hf
    refine lv_aload_n hx hb dX4_monthsToEqual_12 rfl (lv_at hl 0 rfl) ?_
    refine gf_X4_16 hx hb hB hK hown hW dX4_monthsToEqual_13 ?_
    refine lv_aload_n hx hb dX4_monthsToEqual_16 rfl (lv_at hl 0 rfl) ?_
    refine gf_X4_10 hx hb hB hK hown hW dX4_monthsToEqual_17 ?_
    obtain ⟨x20, e20, hf⟩ := ob2 hf
    refine c_V (As := [rf E 1]) (st1 := []) (rest := []) (p_X3_copyFrom l E IsB27 IsB1 x m g o e20) (kc_X4_157 hB ⟨Nat.le_of_ble_eq_true rfl, Nat.le_of_ble_eq_true rfl⟩) (Wd.rec hK hW IsB27.l0 (cB_0 IsB27) (ci := 3) rfl) hx hb hml hown hB hK hW hS ⟨Nat.zero_le _, Nat.zero_le _⟩ rfl hl.1 rfl (Nat.le_of_ble_eq_true rfl) rfl dX4_monthsToEqual_20 (fun H locs hW hS => ?_)
    refine lv_iconst (v := 1) hx hb dX4_monthsToEqual_23 (by decide) ?_
    refine lv_istore_n (lv' := [(1, .int 1), (0, rf E 0)]) hx hb dX4_monthsToEqual_24 rfl hl (by decide) rfl (fun ls hl => ?_)
    exact J25 4096 x20 1 _ _ _ hf hW hS (lv_sub hl [1, 0] rfl)
  · rw [if_pos c7] at hf
    refine lv_iconst (v := 0) hx hb dX4_monthsToEqual_10 (by decide) ?_
    cases hf
    exact e_i hx hb hr hlk hW hS dX4_monthsToEqual_11
def f_X4_followShare (x : XS) : Option (UInt64) :=
    (f_X0_inStage 1 x 0).bind fun v18 =>
    (some (((x (1 + 7) 0) - v18))).bind fun v22 =>
    if (0 < v22 : Prop) then
      ((f_X3_departing 1 x).bind fun v34 =>
      (dok (FP.ddiv (FP.i2d (v22 - v34)) (FP.i2d v22))).bind fun v41 =>
      some v41)
    else
      some FP.dconst1
set_option maxRecDepth 100000 in
set_option maxHeartbeats 4000000 in
theorem p_X4_followShare (l : Launch) (E : TE) (x m : XS) (g o : Int64) {r : UInt64} (hf : f_X4_followShare x = some r) : MG l E yX4_followShare cX4_followShare 2 (some .double) 4 [rf E 0] (Wd E x m g o) (Wd E x m g o) (some (.double r)) := by
  unfold f_X4_followShare at hf
  refine m_in (by decide) (Nat.le_of_ble_eq_true rfl) ?_
  intro p e s mi args below meth c H ls hx hb hr hlk hml hown hB hK hW hS hl
  have hl : lv_has ls 2 [(0, rf E 0)] := hl
  refine lv_aload_n hx hb dX4_followShare_0 rfl (lv_at hl 0 rfl) ?_
  refine gf_X4_10 hx hb hB hK hown hW dX4_followShare_1 ?_
  refine gf_X4_88 hx hb hB hK hown hW IsB1 dX4_followShare_4 ?_
  refine gf_X4_92 hx hb hB hK hown hW IsB1 dX4_followShare_7 ?_
  refine lv_aload_n hx hb dX4_followShare_10 rfl (lv_at hl 0 rfl) ?_
  refine gf_X4_10 hx hb hB hK hown hW dX4_followShare_11 ?_
  refine gf_X4_88 hx hb hB hK hown hW IsB1 dX4_followShare_14 ?_
  refine lv_iconst (v := 0) hx hb dX4_followShare_17 (by decide) ?_
  obtain ⟨v18, e18, hf⟩ := ob2 hf
  refine c_V (As := [.int 0]) (st1 := [.int v18, .int (x (1 + 7) 0)]) (rest := [.int (x (1 + 7) 0)]) (p_X0_inStage l E IsB1 x m g o e18) (kc_X4_116 hB ⟨Nat.le_of_ble_eq_true rfl, Nat.le_of_ble_eq_true rfl⟩) (Wd.rec hK hW (IsB1.l8 (j := 7) (by decide)) (cB_7 IsB1) (ci := 0) rfl) hx hb hml hown hB hK hW hS ⟨Nat.zero_le _, Nat.zero_le _⟩ rfl hl.1 rfl (Nat.le_of_ble_eq_true rfl) rfl dX4_followShare_18 (fun H locs hW hS => ?_)
  refine lv_isub hx hb dX4_followShare_21 ?_
  obtain ⟨v22, e22, hf⟩ := ob hf
  refine lv_nm e22 ?_
  refine lv_istore_n (lv' := [(1, .int v22), (0, rf E 0)]) hx hb dX4_followShare_22 rfl hl (by decide) rfl (fun ls hl => ?_)
  refine lv_iload_n hx hb dX4_followShare_23 rfl (lv_at hl 0 rfl) ?_
  refine lv_if_gt (tgt := 29) hx hb dX4_followShare_24 (by decide) (fun c24 => ?_) (fun c24 => ?_)
  · rw [if_pos c24] at hf
    refine lv_iload_n hx hb dX4_followShare_29 rfl (lv_at hl 0 rfl) ?_
    refine lv_aload_n hx hb dX4_followShare_30 rfl (lv_at hl 1 rfl) ?_
    refine gf_X4_10 hx hb hB hK hown hW dX4_followShare_31 ?_
    obtain ⟨v34, e34, hf⟩ := ob2 hf
    refine c_V (As := []) (st1 := [.int v34, .int v22]) (rest := [.int v22]) (p_X3_departing l E IsB1 x m g o e34) (kc_X4_231 hB ⟨Nat.le_of_ble_eq_true rfl, Nat.le_of_ble_eq_true rfl⟩) (Wd.rec hK hW IsB1.l0 (cB_0 IsB1) (ci := 3) rfl) hx hb hml hown hB hK hW hS ⟨Nat.zero_le _, Nat.zero_le _⟩ rfl hl.1 rfl (Nat.le_of_ble_eq_true rfl) rfl dX4_followShare_34 (fun H locs hW hS => ?_)
    refine lv_isub hx hb dX4_followShare_37 ?_
    refine lv_i2d hx hb dX4_followShare_38 ?_
    refine lv_iload_n hx hb dX4_followShare_39 rfl (lv_at hl 0 rfl) ?_
    refine lv_i2d hx hb dX4_followShare_40 ?_
    obtain ⟨v41, e41, hf⟩ := ob2 hf
    obtain ⟨z41, rfl⟩ := dok_some e41
    refine lv_ddiv hx hb dX4_followShare_41 z41 ?_
    generalize FP.ddiv (FP.i2d (v22 - v34)) (FP.i2d v22) = v41 at hf ⊢
    cases hf
    exact e_d hx hb hr hlk hW hS dX4_followShare_42
  · rw [if_neg c24] at hf
    refine lv_dconst1 hx hb dX4_followShare_27 ?_
    cases hf
    exact e_d hx hb hr hlk hW hS dX4_followShare_28
def f_X4_withKind_107 (x : XS) (k98 : Int32 → Int64 → Int32 → Option (Int64)) : Nat → Int32 → Int64 → Int32 → Int32 → Option (Int64)
  | 0, _, _, _, _ => none
  | n107 + 1, l3_107, l4_107, l6_107, l7_107 =>
    if (4 < l7_107 : Prop) then
      ((some (l6_107 + 1)).bind fun v138 =>
      k98 l3_107 l4_107 v138)
    else
      ((f_X4_precedent x l3_107 l6_107 l7_107).bind fun v125 =>
      (some (((31 * l4_107) + (v125 : Int32).toInt64))).bind fun v130 =>
      (some (l7_107 + 1)).bind fun v132 =>
      f_X4_withKind_107 x k98 n107 l3_107 v130 l6_107 v132)
def f_X4_withKind_98 (x : XS) : Nat → Int32 → Int64 → Int32 → Option (Int64)
  | 0, _, _, _ => none
  | n98 + 1, l3_98, l4_98, l6_98 =>
    if (3 ≤ l6_98 : Prop) then
      some l4_98
    else
      f_X4_withKind_107 x (f_X4_withKind_98 x n98) 4096 l3_98 l4_98 l6_98 0
def f_X4_withKind_58 (x : XS) (k39 : Int32 → Int64 → Int32 → Option (Int64)) : Nat → Int32 → Int64 → Int32 → Int32 → Option (Int64)
  | 0, _, _, _, _ => none
  | n58 + 1, l3_58, l4_58, l6_58, l7_58 =>
    if (4 < l7_58 : Prop) then
      ((some (l6_58 + 1)).bind fun v89 =>
      k39 l3_58 l4_58 v89)
    else
      ((f_X4_amends x l3_58 l6_58 l7_58).bind fun v76 =>
      (some (((31 * l4_58) + (v76 : Int32).toInt64))).bind fun v81 =>
      (some (l7_58 + 1)).bind fun v83 =>
      f_X4_withKind_58 x k39 n58 l3_58 v81 l6_58 v83)
def f_X4_withKind_39 (x : XS) : Nat → Int32 → Int64 → Int32 → Option (Int64)
  | 0, _, _, _ => none
  | n39 + 1, l3_39, l4_39, l6_39 =>
    (f_X1_sizeOf 1 x l3_39).bind fun v49 =>
    if (v49 ≤ l6_39 : Prop) then
      f_X4_withKind_98 x 4096 l3_39 l4_39 0
    else
      f_X4_withKind_58 x (f_X4_withKind_39 x n39) 4096 l3_39 l4_39 l6_39 0
def f_X4_withKind_6 (x : XS) : Nat → Int32 → Int64 → Int32 → Option (Int64)
  | 0, _, _, _ => none
  | n6 + 1, l3_6, l4_6, l6_6 =>
    if (7 < l6_6 : Prop) then
      f_X4_withKind_39 x 4096 l3_6 l4_6 0
    else
      ((f_X4_kind x l3_6 l6_6).bind fun v23 =>
      (some (((31 * l4_6) + (v23 : Int32).toInt64))).bind fun v28 =>
      (some (l6_6 + 1)).bind fun v30 =>
      f_X4_withKind_6 x n6 l3_6 v28 v30)
def f_X4_withKind (x : XS) (a0 : Int64) (a1 : Int32) : Option (Int64) :=
    f_X4_withKind_6 x 4096 a1 a0 0
set_option maxRecDepth 100000 in
set_option maxHeartbeats 4000000 in
theorem p_X4_withKind (l : Launch) (E : TE) (x m : XS) (g o : Int64) {a0 : Int64} {a1 : Int32} {r : Int64} (hf : f_X4_withKind x a0 a1 = some r) : MG l E yX4_withKind cX4_withKind 8 (some .long) 6 [rf E 0, .long a0, .int a1] (Wd E x m g o) (Wd E x m g o) (some (.long r)) := by
  unfold f_X4_withKind at hf
  refine m_in (by decide) (Nat.le_of_ble_eq_true rfl) ?_
  intro p e s mi args below meth c H ls hx hb hr hlk hml hown hB hK hW hS hl
  have hl : lv_has ls 8 [(0, rf E 0), (1, .long a0), (3, .int a1)] := hl
  have J98 : ∀ (n98 : Nat), ∀ (l3_98 : Int32) (l4_98 : Int64) (l6_98 : Int32) (H : Heap) (locs : List Loc) (ls : Array Slot), f_X4_withKind_98 x n98 l3_98 l4_98 l6_98 = some r → Wd E x m g o H → va_S (Ah E) s.heap H locs → lv_has ls 8 [(0, rf E 0), (3, .int l3_98), (4, .long l4_98), (6, .int l6_98)] → W p l e (rmH 6) s mi args below meth c H locs 0 0 (EQ E below args s (Wd E x m g o) (some (.long r))) (F0 mi 98 ls []) := by
    intro n98
    induction n98 with
    | zero => intro l3_98 l4_98 l6_98 H locs ls hf; exact absurd hf (fun z => nomatch (show (none : Option (Int64)) = some _ from z))
    | succ n98 ih98 =>
      intro l3_98 l4_98 l6_98 H locs ls hf hW hS hl
      rw [f_X4_withKind_98.eq_2] at hf
      have J107 : ∀ (n107 : Nat), ∀ (l3_107 : Int32) (l4_107 : Int64) (l6_107 : Int32) (l7_107 : Int32) (H : Heap) (locs : List Loc) (ls : Array Slot), f_X4_withKind_107 x (f_X4_withKind_98 x n98) n107 l3_107 l4_107 l6_107 l7_107 = some r → Wd E x m g o H → va_S (Ah E) s.heap H locs → lv_has ls 8 [(0, rf E 0), (3, .int l3_107), (4, .long l4_107), (6, .int l6_107), (7, .int l7_107)] → W p l e (rmH 6) s mi args below meth c H locs 0 0 (EQ E below args s (Wd E x m g o) (some (.long r))) (F0 mi 107 ls []) := by
        intro n107
        induction n107 with
        | zero => intro l3_107 l4_107 l6_107 l7_107 H locs ls hf; exact absurd hf (fun z => nomatch (show (none : Option (Int64)) = some _ from z))
        | succ n107 ih107 =>
          intro l3_107 l4_107 l6_107 l7_107 H locs ls hf hW hS hl
          rw [f_X4_withKind_107.eq_2] at hf
          refine lv_iload hx hb dX4_withKind_107 (lv_at hl 4 rfl) ?_
          refine lv_iconst (v := 4) hx hb dX4_withKind_109 (by decide) ?_
          refine lv_icmp_gt (tgt := 138) hx hb dX4_withKind_110 (by decide) (fun c110 => ?_) (fun c110 => ?_)
          · rw [if_pos c110] at hf
            obtain ⟨v138, e138, hf⟩ := ob hf
            refine lv_iinc (v := v138) (lv' := [(6, .int v138), (0, rf E 0), (3, .int l3_107), (4, .long l4_107), (7, .int l7_107)]) hx hb dX4_withKind_138 hl (k := 3) rfl (by rw [e138]; rfl) (by decide) rfl (fun ls hl => ?_)
            refine lv_goto (tgt := 98) hx hb dX4_withKind_141 (by decide) ?_
            exact ih98 l3_107 l4_107 v138 _ _ _ hf hW hS (lv_sub hl [1, 2, 3, 0] rfl)
          · rw [if_neg c110] at hf
            refine lv_ldc2 (v := 31) hx hb hown (hB _ q_387) dX4_withKind_113 ?_
            refine lv_lload hx hb dX4_withKind_116 (lv_at hl 2 rfl) ?_
            refine lv_lmul hx hb dX4_withKind_118 ?_
            refine lv_aload_n hx hb dX4_withKind_119 rfl (lv_at hl 0 rfl) ?_
            refine lv_iload_n hx hb dX4_withKind_120 rfl (lv_at hl 1 rfl) ?_
            refine lv_iload hx hb dX4_withKind_121 (lv_at hl 3 rfl) ?_
            refine lv_iload hx hb dX4_withKind_123 (lv_at hl 4 rfl) ?_
            obtain ⟨v125, e125, hf⟩ := ob2 hf
            refine c_V (As := [.int l3_107, .int l6_107, .int l7_107]) (st1 := [.int v125, .long (31 * l4_107)]) (rest := [.long (31 * l4_107)]) (p_X4_precedent l E x m g o e125) (kc_X4_300 hB ⟨Nat.le_of_ble_eq_true rfl, Nat.le_of_ble_eq_true rfl⟩) (Wd.rec hK hW (by decide) cX_0 (ci := 4) rfl) hx hb hml hown hB hK hW hS ⟨Nat.zero_le _, Nat.zero_le _⟩ rfl hl.1 rfl (Nat.le_of_ble_eq_true rfl) rfl dX4_withKind_125 (fun H locs hW hS => ?_)
            refine lv_i2l hx hb dX4_withKind_128 rfl ?_
            refine lv_ladd hx hb dX4_withKind_129 ?_
            obtain ⟨v130, e130, hf⟩ := ob hf
            refine lv_nmL e130 ?_
            refine lv_lstore (lv' := [(4, .long v130), (0, rf E 0), (3, .int l3_107), (6, .int l6_107), (7, .int l7_107)]) hx hb dX4_withKind_130 hl (by decide) rfl (fun ls hl => ?_)
            obtain ⟨v132, e132, hf⟩ := ob hf
            refine lv_iinc (v := v132) (lv' := [(7, .int v132), (4, .long v130), (0, rf E 0), (3, .int l3_107), (6, .int l6_107)]) hx hb dX4_withKind_132 hl (k := 4) rfl (by rw [e132]; rfl) (by decide) rfl (fun ls hl => ?_)
            refine lv_goto (tgt := 107) hx hb dX4_withKind_135 (by decide) ?_
            exact ih107 l3_107 v130 l6_107 v132 _ _ _ hf hW hS (lv_sub hl [2, 3, 1, 4, 0] rfl)
      refine lv_iload hx hb dX4_withKind_98 (lv_at hl 3 rfl) ?_
      refine lv_iconst (v := 3) hx hb dX4_withKind_100 (by decide) ?_
      refine lv_icmp_ge (tgt := 144) hx hb dX4_withKind_101 (by decide) (fun c101 => ?_) (fun c101 => ?_)
      · rw [if_pos c101] at hf
        refine lv_lload hx hb dX4_withKind_144 (lv_at hl 2 rfl) ?_
        cases hf
        exact e_l hx hb hr hlk hW hS dX4_withKind_146
      · rw [if_neg c101] at hf
        refine lv_iconst (v := 0) hx hb dX4_withKind_104 (by decide) ?_
        refine lv_istore (lv' := [(7, .int 0), (0, rf E 0), (3, .int l3_98), (4, .long l4_98), (6, .int l6_98)]) hx hb dX4_withKind_105 hl (by decide) rfl (fun ls hl => ?_)
        exact J107 4096 l3_98 l4_98 l6_98 0 _ _ _ hf hW hS (lv_sub hl [1, 2, 3, 4, 0] rfl)
  have J39 : ∀ (n39 : Nat), ∀ (l3_39 : Int32) (l4_39 : Int64) (l6_39 : Int32) (H : Heap) (locs : List Loc) (ls : Array Slot), f_X4_withKind_39 x n39 l3_39 l4_39 l6_39 = some r → Wd E x m g o H → va_S (Ah E) s.heap H locs → lv_has ls 8 [(0, rf E 0), (3, .int l3_39), (4, .long l4_39), (6, .int l6_39)] → W p l e (rmH 6) s mi args below meth c H locs 0 0 (EQ E below args s (Wd E x m g o) (some (.long r))) (F0 mi 39 ls []) := by
    intro n39
    induction n39 with
    | zero => intro l3_39 l4_39 l6_39 H locs ls hf; exact absurd hf (fun z => nomatch (show (none : Option (Int64)) = some _ from z))
    | succ n39 ih39 =>
      intro l3_39 l4_39 l6_39 H locs ls hf hW hS hl
      rw [f_X4_withKind_39.eq_2] at hf
      have J58 : ∀ (n58 : Nat), ∀ (l3_58 : Int32) (l4_58 : Int64) (l6_58 : Int32) (l7_58 : Int32) (H : Heap) (locs : List Loc) (ls : Array Slot), f_X4_withKind_58 x (f_X4_withKind_39 x n39) n58 l3_58 l4_58 l6_58 l7_58 = some r → Wd E x m g o H → va_S (Ah E) s.heap H locs → lv_has ls 8 [(0, rf E 0), (3, .int l3_58), (4, .long l4_58), (6, .int l6_58), (7, .int l7_58)] → W p l e (rmH 6) s mi args below meth c H locs 0 0 (EQ E below args s (Wd E x m g o) (some (.long r))) (F0 mi 58 ls []) := by
        intro n58
        induction n58 with
        | zero => intro l3_58 l4_58 l6_58 l7_58 H locs ls hf; exact absurd hf (fun z => nomatch (show (none : Option (Int64)) = some _ from z))
        | succ n58 ih58 =>
          intro l3_58 l4_58 l6_58 l7_58 H locs ls hf hW hS hl
          rw [f_X4_withKind_58.eq_2] at hf
          refine lv_iload hx hb dX4_withKind_58 (lv_at hl 4 rfl) ?_
          refine lv_iconst (v := 4) hx hb dX4_withKind_60 (by decide) ?_
          refine lv_icmp_gt (tgt := 89) hx hb dX4_withKind_61 (by decide) (fun c61 => ?_) (fun c61 => ?_)
          · rw [if_pos c61] at hf
            obtain ⟨v89, e89, hf⟩ := ob hf
            refine lv_iinc (v := v89) (lv' := [(6, .int v89), (0, rf E 0), (3, .int l3_58), (4, .long l4_58), (7, .int l7_58)]) hx hb dX4_withKind_89 hl (k := 3) rfl (by rw [e89]; rfl) (by decide) rfl (fun ls hl => ?_)
            refine lv_goto (tgt := 39) hx hb dX4_withKind_92 (by decide) ?_
            exact ih39 l3_58 l4_58 v89 _ _ _ hf hW hS (lv_sub hl [1, 2, 3, 0] rfl)
          · rw [if_neg c61] at hf
            refine lv_ldc2 (v := 31) hx hb hown (hB _ q_387) dX4_withKind_64 ?_
            refine lv_lload hx hb dX4_withKind_67 (lv_at hl 2 rfl) ?_
            refine lv_lmul hx hb dX4_withKind_69 ?_
            refine lv_aload_n hx hb dX4_withKind_70 rfl (lv_at hl 0 rfl) ?_
            refine lv_iload_n hx hb dX4_withKind_71 rfl (lv_at hl 1 rfl) ?_
            refine lv_iload hx hb dX4_withKind_72 (lv_at hl 3 rfl) ?_
            refine lv_iload hx hb dX4_withKind_74 (lv_at hl 4 rfl) ?_
            obtain ⟨v76, e76, hf⟩ := ob2 hf
            refine c_V (As := [.int l3_58, .int l6_58, .int l7_58]) (st1 := [.int v76, .long (31 * l4_58)]) (rest := [.long (31 * l4_58)]) (p_X4_amends l E x m g o e76) (kc_X4_297 hB ⟨Nat.le_of_ble_eq_true rfl, Nat.le_of_ble_eq_true rfl⟩) (Wd.rec hK hW (by decide) cX_0 (ci := 4) rfl) hx hb hml hown hB hK hW hS ⟨Nat.zero_le _, Nat.zero_le _⟩ rfl hl.1 rfl (Nat.le_of_ble_eq_true rfl) rfl dX4_withKind_76 (fun H locs hW hS => ?_)
            refine lv_i2l hx hb dX4_withKind_79 rfl ?_
            refine lv_ladd hx hb dX4_withKind_80 ?_
            obtain ⟨v81, e81, hf⟩ := ob hf
            refine lv_nmL e81 ?_
            refine lv_lstore (lv' := [(4, .long v81), (0, rf E 0), (3, .int l3_58), (6, .int l6_58), (7, .int l7_58)]) hx hb dX4_withKind_81 hl (by decide) rfl (fun ls hl => ?_)
            obtain ⟨v83, e83, hf⟩ := ob hf
            refine lv_iinc (v := v83) (lv' := [(7, .int v83), (4, .long v81), (0, rf E 0), (3, .int l3_58), (6, .int l6_58)]) hx hb dX4_withKind_83 hl (k := 4) rfl (by rw [e83]; rfl) (by decide) rfl (fun ls hl => ?_)
            refine lv_goto (tgt := 58) hx hb dX4_withKind_86 (by decide) ?_
            exact ih58 l3_58 v81 l6_58 v83 _ _ _ hf hW hS (lv_sub hl [2, 3, 1, 4, 0] rfl)
      refine lv_iload hx hb dX4_withKind_39 (lv_at hl 3 rfl) ?_
      refine lv_aload_n hx hb dX4_withKind_41 rfl (lv_at hl 0 rfl) ?_
      refine gf_X4_10 hx hb hB hK hown hW dX4_withKind_42 ?_
      refine gf_X4_42 hx hb hB hK hown hW IsB1 dX4_withKind_45 ?_
      refine lv_iload_n hx hb dX4_withKind_48 rfl (lv_at hl 1 rfl) ?_
      obtain ⟨v49, e49, hf⟩ := ob2 hf
      refine c_V (As := [.int l3_39]) (st1 := [.int v49, .int l6_39]) (rest := [.int l6_39]) (p_X1_sizeOf l E IsB1 x m g o e49) (kc_X4_46 hB ⟨Nat.le_of_ble_eq_true rfl, Nat.le_of_ble_eq_true rfl⟩) (Wd.rec hK hW (IsB1.l8 (j := 1) (by decide)) (cB_1 IsB1) (ci := 1) rfl) hx hb hml hown hB hK hW hS ⟨Nat.zero_le _, Nat.zero_le _⟩ rfl hl.1 rfl (Nat.le_of_ble_eq_true rfl) rfl dX4_withKind_49 (fun H locs hW hS => ?_)
      refine lv_icmp_ge (tgt := 95) hx hb dX4_withKind_52 (by decide) (fun c52 => ?_) (fun c52 => ?_)
      · rw [if_pos c52] at hf
        refine lv_iconst (v := 0) hx hb dX4_withKind_95 (by decide) ?_
        refine lv_istore (lv' := [(6, .int 0), (0, rf E 0), (3, .int l3_39), (4, .long l4_39)]) hx hb dX4_withKind_96 hl (by decide) rfl (fun ls hl => ?_)
        exact J98 4096 l3_39 l4_39 0 _ _ _ hf hW hS (lv_sub hl [1, 2, 3, 0] rfl)
      · rw [if_neg c52] at hf
        refine lv_iconst (v := 0) hx hb dX4_withKind_55 (by decide) ?_
        refine lv_istore (lv' := [(7, .int 0), (0, rf E 0), (3, .int l3_39), (4, .long l4_39), (6, .int l6_39)]) hx hb dX4_withKind_56 hl (by decide) rfl (fun ls hl => ?_)
        exact J58 4096 l3_39 l4_39 l6_39 0 _ _ _ hf hW hS (lv_sub hl [1, 2, 3, 4, 0] rfl)
  have J6 : ∀ (n6 : Nat), ∀ (l3_6 : Int32) (l4_6 : Int64) (l6_6 : Int32) (H : Heap) (locs : List Loc) (ls : Array Slot), f_X4_withKind_6 x n6 l3_6 l4_6 l6_6 = some r → Wd E x m g o H → va_S (Ah E) s.heap H locs → lv_has ls 8 [(0, rf E 0), (3, .int l3_6), (4, .long l4_6), (6, .int l6_6)] → W p l e (rmH 6) s mi args below meth c H locs 0 0 (EQ E below args s (Wd E x m g o) (some (.long r))) (F0 mi 6 ls []) := by
    intro n6
    induction n6 with
    | zero => intro l3_6 l4_6 l6_6 H locs ls hf; exact absurd hf (fun z => nomatch (show (none : Option (Int64)) = some _ from z))
    | succ n6 ih6 =>
      intro l3_6 l4_6 l6_6 H locs ls hf hW hS hl
      rw [f_X4_withKind_6.eq_2] at hf
      refine lv_iload hx hb dX4_withKind_6 (lv_at hl 3 rfl) ?_
      refine lv_bipush (v := 7) hx hb dX4_withKind_8 (by decide) ?_
      refine lv_icmp_gt (tgt := 36) hx hb dX4_withKind_10 (by decide) (fun c10 => ?_) (fun c10 => ?_)
      · rw [if_pos c10] at hf
        refine lv_iconst (v := 0) hx hb dX4_withKind_36 (by decide) ?_
        refine lv_istore (lv' := [(6, .int 0), (0, rf E 0), (3, .int l3_6), (4, .long l4_6)]) hx hb dX4_withKind_37 hl (by decide) rfl (fun ls hl => ?_)
        exact J39 4096 l3_6 l4_6 0 _ _ _ hf hW hS (lv_sub hl [1, 2, 3, 0] rfl)
      · rw [if_neg c10] at hf
        refine lv_ldc2 (v := 31) hx hb hown (hB _ q_387) dX4_withKind_13 ?_
        refine lv_lload hx hb dX4_withKind_16 (lv_at hl 2 rfl) ?_
        refine lv_lmul hx hb dX4_withKind_18 ?_
        refine lv_aload_n hx hb dX4_withKind_19 rfl (lv_at hl 0 rfl) ?_
        refine lv_iload_n hx hb dX4_withKind_20 rfl (lv_at hl 1 rfl) ?_
        refine lv_iload hx hb dX4_withKind_21 (lv_at hl 3 rfl) ?_
        obtain ⟨v23, e23, hf⟩ := ob2 hf
        refine c_V (As := [.int l3_6, .int l6_6]) (st1 := [.int v23, .long (31 * l4_6)]) (rest := [.long (31 * l4_6)]) (p_X4_kind l E x m g o e23) (kc_X4_294 hB ⟨Nat.le_of_ble_eq_true rfl, Nat.le_of_ble_eq_true rfl⟩) (Wd.rec hK hW (by decide) cX_0 (ci := 4) rfl) hx hb hml hown hB hK hW hS ⟨Nat.zero_le _, Nat.zero_le _⟩ rfl hl.1 rfl (Nat.le_of_ble_eq_true rfl) rfl dX4_withKind_23 (fun H locs hW hS => ?_)
        refine lv_i2l hx hb dX4_withKind_26 rfl ?_
        refine lv_ladd hx hb dX4_withKind_27 ?_
        obtain ⟨v28, e28, hf⟩ := ob hf
        refine lv_nmL e28 ?_
        refine lv_lstore (lv' := [(4, .long v28), (0, rf E 0), (3, .int l3_6), (6, .int l6_6)]) hx hb dX4_withKind_28 hl (by decide) rfl (fun ls hl => ?_)
        obtain ⟨v30, e30, hf⟩ := ob hf
        refine lv_iinc (v := v30) (lv' := [(6, .int v30), (4, .long v28), (0, rf E 0), (3, .int l3_6)]) hx hb dX4_withKind_30 hl (k := 3) rfl (by rw [e30]; rfl) (by decide) rfl (fun ls hl => ?_)
        refine lv_goto (tgt := 6) hx hb dX4_withKind_33 (by decide) ?_
        exact ih6 l3_6 v28 v30 _ _ _ hf hW hS (lv_sub hl [2, 3, 1, 0] rfl)
  refine lv_lload_n hx hb dX4_withKind_0 rfl (lv_at hl 1 rfl) ?_
  refine lv_lstore (lv' := [(4, .long a0), (0, rf E 0), (1, .long a0), (3, .int a1)]) hx hb dX4_withKind_1 hl (by decide) rfl (fun ls hl => ?_)
  refine lv_iconst (v := 0) hx hb dX4_withKind_3 (by decide) ?_
  refine lv_istore (lv' := [(6, .int 0), (4, .long a0), (0, rf E 0), (1, .long a0), (3, .int a1)]) hx hb dX4_withKind_4 hl (by decide) rfl (fun ls hl => ?_)
  exact J6 4096 a1 a0 0 _ _ _ hf hW hS (lv_sub hl [2, 4, 1, 0] rfl)
def f_X4_withComplaint_6 (x : XS) : Nat → Int32 → Int64 → Int32 → Option (Int64)
  | 0, _, _, _ => none
  | n6 + 1, l3_6, l4_6, l6_6 =>
    if (10 < l6_6 : Prop) then
      some l4_6
    else
      ((f_X4_complaint x l3_6 l6_6).bind fun v23 =>
      (some (((31 * l4_6) + (v23 : Int32).toInt64))).bind fun v28 =>
      (some (l6_6 + 1)).bind fun v30 =>
      f_X4_withComplaint_6 x n6 l3_6 v28 v30)
def f_X4_withComplaint (x : XS) (a0 : Int64) (a1 : Int32) : Option (Int64) :=
    f_X4_withComplaint_6 x 4096 a1 a0 0
set_option maxRecDepth 100000 in
set_option maxHeartbeats 4000000 in
theorem p_X4_withComplaint (l : Launch) (E : TE) (x m : XS) (g o : Int64) {a0 : Int64} {a1 : Int32} {r : Int64} (hf : f_X4_withComplaint x a0 a1 = some r) : MG l E yX4_withComplaint cX4_withComplaint 7 (some .long) 6 [rf E 0, .long a0, .int a1] (Wd E x m g o) (Wd E x m g o) (some (.long r)) := by
  unfold f_X4_withComplaint at hf
  refine m_in (by decide) (Nat.le_of_ble_eq_true rfl) ?_
  intro p e s mi args below meth c H ls hx hb hr hlk hml hown hB hK hW hS hl
  have hl : lv_has ls 7 [(0, rf E 0), (1, .long a0), (3, .int a1)] := hl
  have J6 : ∀ (n6 : Nat), ∀ (l3_6 : Int32) (l4_6 : Int64) (l6_6 : Int32) (H : Heap) (locs : List Loc) (ls : Array Slot), f_X4_withComplaint_6 x n6 l3_6 l4_6 l6_6 = some r → Wd E x m g o H → va_S (Ah E) s.heap H locs → lv_has ls 7 [(0, rf E 0), (3, .int l3_6), (4, .long l4_6), (6, .int l6_6)] → W p l e (rmH 6) s mi args below meth c H locs 0 0 (EQ E below args s (Wd E x m g o) (some (.long r))) (F0 mi 6 ls []) := by
    intro n6
    induction n6 with
    | zero => intro l3_6 l4_6 l6_6 H locs ls hf; exact absurd hf (fun z => nomatch (show (none : Option (Int64)) = some _ from z))
    | succ n6 ih6 =>
      intro l3_6 l4_6 l6_6 H locs ls hf hW hS hl
      rw [f_X4_withComplaint_6.eq_2] at hf
      refine lv_iload hx hb dX4_withComplaint_6 (lv_at hl 3 rfl) ?_
      refine lv_bipush (v := 10) hx hb dX4_withComplaint_8 (by decide) ?_
      refine lv_icmp_gt (tgt := 36) hx hb dX4_withComplaint_10 (by decide) (fun c10 => ?_) (fun c10 => ?_)
      · rw [if_pos c10] at hf
        refine lv_lload hx hb dX4_withComplaint_36 (lv_at hl 2 rfl) ?_
        cases hf
        exact e_l hx hb hr hlk hW hS dX4_withComplaint_38
      · rw [if_neg c10] at hf
        refine lv_ldc2 (v := 31) hx hb hown (hB _ q_387) dX4_withComplaint_13 ?_
        refine lv_lload hx hb dX4_withComplaint_16 (lv_at hl 2 rfl) ?_
        refine lv_lmul hx hb dX4_withComplaint_18 ?_
        refine lv_aload_n hx hb dX4_withComplaint_19 rfl (lv_at hl 0 rfl) ?_
        refine lv_iload_n hx hb dX4_withComplaint_20 rfl (lv_at hl 1 rfl) ?_
        refine lv_iload hx hb dX4_withComplaint_21 (lv_at hl 3 rfl) ?_
        obtain ⟨v23, e23, hf⟩ := ob2 hf
        refine c_V (As := [.int l3_6, .int l6_6]) (st1 := [.int v23, .long (31 * l4_6)]) (rest := [.long (31 * l4_6)]) (p_X4_complaint l E x m g o e23) (kc_X4_303 hB ⟨Nat.le_of_ble_eq_true rfl, Nat.le_of_ble_eq_true rfl⟩) (Wd.rec hK hW (by decide) cX_0 (ci := 4) rfl) hx hb hml hown hB hK hW hS ⟨Nat.zero_le _, Nat.zero_le _⟩ rfl hl.1 rfl (Nat.le_of_ble_eq_true rfl) rfl dX4_withComplaint_23 (fun H locs hW hS => ?_)
        refine lv_i2l hx hb dX4_withComplaint_26 rfl ?_
        refine lv_ladd hx hb dX4_withComplaint_27 ?_
        obtain ⟨v28, e28, hf⟩ := ob hf
        refine lv_nmL e28 ?_
        refine lv_lstore (lv' := [(4, .long v28), (0, rf E 0), (3, .int l3_6), (6, .int l6_6)]) hx hb dX4_withComplaint_28 hl (by decide) rfl (fun ls hl => ?_)
        obtain ⟨v30, e30, hf⟩ := ob hf
        refine lv_iinc (v := v30) (lv' := [(6, .int v30), (4, .long v28), (0, rf E 0), (3, .int l3_6)]) hx hb dX4_withComplaint_30 hl (k := 3) rfl (by rw [e30]; rfl) (by decide) rfl (fun ls hl => ?_)
        refine lv_goto (tgt := 6) hx hb dX4_withComplaint_33 (by decide) ?_
        exact ih6 l3_6 v28 v30 _ _ _ hf hW hS (lv_sub hl [2, 3, 1, 0] rfl)
  refine lv_lload_n hx hb dX4_withComplaint_0 rfl (lv_at hl 1 rfl) ?_
  refine lv_lstore (lv' := [(4, .long a0), (0, rf E 0), (1, .long a0), (3, .int a1)]) hx hb dX4_withComplaint_1 hl (by decide) rfl (fun ls hl => ?_)
  refine lv_iconst (v := 0) hx hb dX4_withComplaint_3 (by decide) ?_
  refine lv_istore (lv' := [(6, .int 0), (4, .long a0), (0, rf E 0), (1, .long a0), (3, .int a1)]) hx hb dX4_withComplaint_4 hl (by decide) rfl (fun ls hl => ?_)
  exact J6 4096 a1 a0 0 _ _ _ hf hW hS (lv_sub hl [2, 4, 1, 0] rfl)
def f_X4_bitsOf_49 (l2_49 : UInt64) (l4_49 : Int64) : Option (Int64) :=
    (dok (FP.dsub l2_49 FP.dconst1)).bind fun v51 =>
    (dok (FP.dmul v51 4841369599423283200)).bind fun v55 =>
    some ((l4_49 <<< ((52 : Int32).toInt64 &&& 63)) ||| (FP.d2l v55))
def f_X4_bitsOf_18 : Nat → UInt64 → Int64 → Int32 → Option (Int64)
  | 0, _, _, _ => none
  | n18 + 1, l2_18, l4_18, l6_18 =>
    if (60 ≤ l6_18 : Prop) then
      f_X4_bitsOf_49 l2_18 l4_18
    else
      (if (0 ≤ (Op.cmpValue (FP.dcmp l2_18 FP.dconst1) .g) : Prop) then
        f_X4_bitsOf_49 l2_18 l4_18
      else
        ((dok (FP.dmul l2_18 4611686018427387904)).bind fun v35 =>
        (some ((l4_18 - 1))).bind fun v41 =>
        (some (l6_18 + 1)).bind fun v43 =>
        f_X4_bitsOf_18 n18 v35 v41 v43))
def f_X4_bitsOf (a0 : UInt64) : Option (Int64) :=
    if (0 < (Op.cmpValue (FP.dcmp a0 FP.dconst0) .g) : Prop) then
      f_X4_bitsOf_18 4096 a0 1023 0
    else
      some 0
set_option maxRecDepth 100000 in
set_option maxHeartbeats 4000000 in
theorem p_X4_bitsOf (l : Launch) (E : TE) (x m : XS) (g o : Int64) {a0 : UInt64} {r : Int64} (hf : f_X4_bitsOf a0 = some r) : MG l E yX4_bitsOf cX4_bitsOf 8 (some .long) 0 [.double a0] (Wd E x m g o) (Wd E x m g o) (some (.long r)) := by
  unfold f_X4_bitsOf at hf
  refine m_in (by decide) (Nat.le_of_ble_eq_true rfl) ?_
  intro p e s mi args below meth c H ls hx hb hr hlk hml hown hB hK hW hS hl
  have hl : lv_has ls 8 [(0, .double a0)] := hl
  have J49 : ∀ (l2_49 : UInt64) (l4_49 : Int64) (H : Heap) (locs : List Loc) (ls : Array Slot), f_X4_bitsOf_49 l2_49 l4_49 = some r → Wd E x m g o H → va_S (Ah E) s.heap H locs → lv_has ls 8 [(2, .double l2_49), (4, .long l4_49)] → W p l e (rmH 0) s mi args below meth c H locs 0 0 (EQ E below args s (Wd E x m g o) (some (.long r))) (F0 mi 49 ls []) := by
    intro l2_49 l4_49 H locs ls hf hW hS hl
    unfold f_X4_bitsOf_49 at hf
    refine lv_dload_n hx hb dX4_bitsOf_49 rfl (lv_at hl 0 rfl) ?_
    refine lv_dconst1 hx hb dX4_bitsOf_50 ?_
    obtain ⟨v51, e51, hf⟩ := ob2 hf
    obtain ⟨z51, rfl⟩ := dok_some e51
    refine lv_dsub hx hb dX4_bitsOf_51 z51 ?_
    generalize FP.dsub l2_49 FP.dconst1 = v51 at hf ⊢
    refine lv_ldc2d (v := 4841369599423283200) hx hb hown (hB _ q_696) dX4_bitsOf_52 ?_
    obtain ⟨v55, e55, hf⟩ := ob2 hf
    obtain ⟨z55, rfl⟩ := dok_some e55
    refine lv_dmul hx hb dX4_bitsOf_55 z55 ?_
    generalize FP.dmul v51 4841369599423283200 = v55 at hf ⊢
    refine lv_dstore (lv' := [(6, .double v55), (2, .double l2_49), (4, .long l4_49)]) hx hb dX4_bitsOf_56 hl (by decide) rfl (fun ls hl => ?_)
    refine lv_lload hx hb dX4_bitsOf_58 (lv_at hl 2 rfl) ?_
    refine lv_bipush (v := 52) hx hb dX4_bitsOf_60 (by decide) ?_
    refine lv_lshl hx hb dX4_bitsOf_62 rfl ?_
    refine lv_dload hx hb dX4_bitsOf_63 (lv_at hl 0 rfl) ?_
    refine lv_d2l hx hb dX4_bitsOf_65 ?_
    refine lv_lor hx hb dX4_bitsOf_66 ?_
    cases hf
    exact e_l hx hb hr hlk hW hS dX4_bitsOf_67
  have J18 : ∀ (n18 : Nat), ∀ (l2_18 : UInt64) (l4_18 : Int64) (l6_18 : Int32) (H : Heap) (locs : List Loc) (ls : Array Slot), f_X4_bitsOf_18 n18 l2_18 l4_18 l6_18 = some r → Wd E x m g o H → va_S (Ah E) s.heap H locs → lv_has ls 8 [(2, .double l2_18), (4, .long l4_18), (6, .int l6_18)] → W p l e (rmH 0) s mi args below meth c H locs 0 0 (EQ E below args s (Wd E x m g o) (some (.long r))) (F0 mi 18 ls []) := by
    intro n18
    induction n18 with
    | zero => intro l2_18 l4_18 l6_18 H locs ls hf; exact absurd hf (fun z => nomatch (show (none : Option (Int64)) = some _ from z))
    | succ n18 ih18 =>
      intro l2_18 l4_18 l6_18 H locs ls hf hW hS hl
      rw [f_X4_bitsOf_18.eq_2] at hf
      refine lv_iload hx hb dX4_bitsOf_18 (lv_at hl 2 rfl) ?_
      refine lv_bipush (v := 60) hx hb dX4_bitsOf_20 (by decide) ?_
      refine lv_icmp_ge (tgt := 49) hx hb dX4_bitsOf_22 (by decide) (fun c22 => ?_) (fun c22 => ?_)
      · rw [if_pos c22] at hf
        exact J49 l2_18 l4_18 _ _ _ hf hW hS (lv_sub hl [0, 1] rfl)
      · rw [if_neg c22] at hf
        refine lv_dload_n hx hb dX4_bitsOf_25 rfl (lv_at hl 0 rfl) ?_
        refine lv_dconst1 hx hb dX4_bitsOf_26 ?_
        refine lv_dcmp hx hb dX4_bitsOf_27 ?_
        refine lv_if_ge (tgt := 49) hx hb dX4_bitsOf_28 (by decide) (fun c28 => ?_) (fun c28 => ?_)
        · rw [if_pos c28] at hf
          exact J49 l2_18 l4_18 _ _ _ hf hW hS (lv_sub hl [0, 1] rfl)
        · rw [if_neg c28] at hf
          refine lv_dload_n hx hb dX4_bitsOf_31 rfl (lv_at hl 0 rfl) ?_
          refine lv_ldc2d (v := 4611686018427387904) hx hb hown (hB _ q_695) dX4_bitsOf_32 ?_
          obtain ⟨v35, e35, hf⟩ := ob2 hf
          obtain ⟨z35, rfl⟩ := dok_some e35
          refine lv_dmul hx hb dX4_bitsOf_35 z35 ?_
          generalize FP.dmul l2_18 4611686018427387904 = v35 at hf ⊢
          refine lv_dstore_n (lv' := [(2, .double v35), (4, .long l4_18), (6, .int l6_18)]) hx hb dX4_bitsOf_36 rfl hl (by decide) rfl (fun ls hl => ?_)
          refine lv_lload hx hb dX4_bitsOf_37 (lv_at hl 1 rfl) ?_
          refine lv_lconst (v := 1) hx hb dX4_bitsOf_39 (by decide) ?_
          refine lv_lsub hx hb dX4_bitsOf_40 ?_
          obtain ⟨v41, e41, hf⟩ := ob hf
          refine lv_nmL e41 ?_
          refine lv_lstore (lv' := [(4, .long v41), (2, .double v35), (6, .int l6_18)]) hx hb dX4_bitsOf_41 hl (by decide) rfl (fun ls hl => ?_)
          obtain ⟨v43, e43, hf⟩ := ob hf
          refine lv_iinc (v := v43) (lv' := [(6, .int v43), (4, .long v41), (2, .double v35)]) hx hb dX4_bitsOf_43 hl (k := 2) rfl (by rw [e43]; rfl) (by decide) rfl (fun ls hl => ?_)
          refine lv_goto (tgt := 18) hx hb dX4_bitsOf_46 (by decide) ?_
          exact ih18 v35 v41 v43 _ _ _ hf hW hS (lv_sub hl [2, 1, 0] rfl)
  refine lv_dload_n hx hb dX4_bitsOf_0 rfl (lv_at hl 0 rfl) ?_
  refine lv_dconst0 hx hb dX4_bitsOf_1 ?_
  refine lv_dcmp hx hb dX4_bitsOf_2 ?_
  refine lv_if_gt (tgt := 8) hx hb dX4_bitsOf_3 (by decide) (fun c3 => ?_) (fun c3 => ?_)
  · rw [if_pos c3] at hf
    refine lv_dload_n hx hb dX4_bitsOf_8 rfl (lv_at hl 0 rfl) ?_
    refine lv_dstore_n (lv' := [(2, .double a0), (0, .double a0)]) hx hb dX4_bitsOf_9 rfl hl (by decide) rfl (fun ls hl => ?_)
    refine lv_ldc2 (v := 1023) hx hb hown (hB _ q_694) dX4_bitsOf_10 ?_
    refine lv_lstore (lv' := [(4, .long 1023), (2, .double a0), (0, .double a0)]) hx hb dX4_bitsOf_13 hl (by decide) rfl (fun ls hl => ?_)
    refine lv_iconst (v := 0) hx hb dX4_bitsOf_15 (by decide) ?_
    refine lv_istore (lv' := [(6, .int 0), (4, .long 1023), (2, .double a0), (0, .double a0)]) hx hb dX4_bitsOf_16 hl (by decide) rfl (fun ls hl => ?_)
    exact J18 4096 a0 1023 0 _ _ _ hf hW hS (lv_sub hl [2, 1, 0] rfl)
  · rw [if_neg c3] at hf
    refine lv_lconst (v := 0) hx hb dX4_bitsOf_6 (by decide) ?_
    cases hf
    exact e_l hx hb hr hlk hW hS dX4_bitsOf_7
def f_X4_withBuffer_15 (x : XS) : Nat → Int64 → Int32 → Option (Int64)
  | 0, _, _ => none
  | n15 + 1, l3_15, l5_15 =>
    if ((x 0 6) ≤ l5_15 : Prop) then
      some l3_15
    else
      ((f_X4_codeAt x l5_15).bind fun v32 =>
      (some (((31 * l3_15) + (v32 : Int32).toInt64))).bind fun v37 =>
      (some (l5_15 + 1)).bind fun v38 =>
      f_X4_withBuffer_15 x n15 v37 v38)
def f_X4_withBuffer (x : XS) (a0 : Int64) : Option (Int64) :=
    (some (((31 * a0) + ((x 0 6) : Int32).toInt64))).bind fun v11 =>
    f_X4_withBuffer_15 x 4096 v11 0
set_option maxRecDepth 100000 in
set_option maxHeartbeats 4000000 in
theorem p_X4_withBuffer (l : Launch) (E : TE) (x m : XS) (g o : Int64) {a0 : Int64} {r : Int64} (hf : f_X4_withBuffer x a0 = some r) : MG l E yX4_withBuffer cX4_withBuffer 6 (some .long) 2 [rf E 0, .long a0] (Wd E x m g o) (Wd E x m g o) (some (.long r)) := by
  unfold f_X4_withBuffer at hf
  refine m_in (by decide) (Nat.le_of_ble_eq_true rfl) ?_
  intro p e s mi args below meth c H ls hx hb hr hlk hml hown hB hK hW hS hl
  have hl : lv_has ls 6 [(0, rf E 0), (1, .long a0)] := hl
  have J15 : ∀ (n15 : Nat), ∀ (l3_15 : Int64) (l5_15 : Int32) (H : Heap) (locs : List Loc) (ls : Array Slot), f_X4_withBuffer_15 x n15 l3_15 l5_15 = some r → Wd E x m g o H → va_S (Ah E) s.heap H locs → lv_has ls 6 [(0, rf E 0), (3, .long l3_15), (5, .int l5_15)] → W p l e (rmH 2) s mi args below meth c H locs 0 0 (EQ E below args s (Wd E x m g o) (some (.long r))) (F0 mi 15 ls []) := by
    intro n15
    induction n15 with
    | zero => intro l3_15 l5_15 H locs ls hf; exact absurd hf (fun z => nomatch (show (none : Option (Int64)) = some _ from z))
    | succ n15 ih15 =>
      intro l3_15 l5_15 H locs ls hf hW hS hl
      rw [f_X4_withBuffer_15.eq_2] at hf
      refine lv_iload hx hb dX4_withBuffer_15 (lv_at hl 2 rfl) ?_
      refine lv_aload_n hx hb dX4_withBuffer_17 rfl (lv_at hl 0 rfl) ?_
      refine gf_X4_132 hx hb hB hK hown hW dX4_withBuffer_18 ?_
      refine lv_icmp_ge (tgt := 44) hx hb dX4_withBuffer_21 (by decide) (fun c21 => ?_) (fun c21 => ?_)
      · rw [if_pos c21] at hf
        refine lv_lload_n hx hb dX4_withBuffer_44 rfl (lv_at hl 1 rfl) ?_
        cases hf
        exact e_l hx hb hr hlk hW hS dX4_withBuffer_45
      · rw [if_neg c21] at hf
        refine lv_ldc2 (v := 31) hx hb hown (hB _ q_387) dX4_withBuffer_24 ?_
        refine lv_lload_n hx hb dX4_withBuffer_27 rfl (lv_at hl 1 rfl) ?_
        refine lv_lmul hx hb dX4_withBuffer_28 ?_
        refine lv_aload_n hx hb dX4_withBuffer_29 rfl (lv_at hl 0 rfl) ?_
        refine lv_iload hx hb dX4_withBuffer_30 (lv_at hl 2 rfl) ?_
        obtain ⟨v32, e32, hf⟩ := ob2 hf
        refine c_V (As := [.int l5_15]) (st1 := [.int v32, .long (31 * l3_15)]) (rest := [.long (31 * l3_15)]) (p_X4_codeAt l E x m g o e32) (kc_X4_135 hB ⟨Nat.le_of_ble_eq_true rfl, Nat.le_of_ble_eq_true rfl⟩) (Wd.rec hK hW (by decide) cX_0 (ci := 4) rfl) hx hb hml hown hB hK hW hS ⟨Nat.zero_le _, Nat.zero_le _⟩ rfl hl.1 rfl (Nat.le_of_ble_eq_true rfl) rfl dX4_withBuffer_32 (fun H locs hW hS => ?_)
        refine lv_i2l hx hb dX4_withBuffer_35 rfl ?_
        refine lv_ladd hx hb dX4_withBuffer_36 ?_
        obtain ⟨v37, e37, hf⟩ := ob hf
        refine lv_nmL e37 ?_
        refine lv_lstore_n (lv' := [(3, .long v37), (0, rf E 0), (5, .int l5_15)]) hx hb dX4_withBuffer_37 rfl hl (by decide) rfl (fun ls hl => ?_)
        obtain ⟨v38, e38, hf⟩ := ob hf
        refine lv_iinc (v := v38) (lv' := [(5, .int v38), (3, .long v37), (0, rf E 0)]) hx hb dX4_withBuffer_38 hl (k := 2) rfl (by rw [e38]; rfl) (by decide) rfl (fun ls hl => ?_)
        refine lv_goto (tgt := 15) hx hb dX4_withBuffer_41 (by decide) ?_
        exact ih15 v37 v38 _ _ _ hf hW hS (lv_sub hl [2, 1, 0] rfl)
  refine lv_ldc2 (v := 31) hx hb hown (hB _ q_387) dX4_withBuffer_0 ?_
  refine lv_lload_n hx hb dX4_withBuffer_3 rfl (lv_at hl 1 rfl) ?_
  refine lv_lmul hx hb dX4_withBuffer_4 ?_
  refine lv_aload_n hx hb dX4_withBuffer_5 rfl (lv_at hl 0 rfl) ?_
  refine gf_X4_132 hx hb hB hK hown hW dX4_withBuffer_6 ?_
  refine lv_i2l hx hb dX4_withBuffer_9 rfl ?_
  refine lv_ladd hx hb dX4_withBuffer_10 ?_
  obtain ⟨v11, e11, hf⟩ := ob hf
  refine lv_nmL e11 ?_
  refine lv_lstore_n (lv' := [(3, .long v11), (0, rf E 0), (1, .long a0)]) hx hb dX4_withBuffer_11 rfl hl (by decide) rfl (fun ls hl => ?_)
  refine lv_iconst (v := 0) hx hb dX4_withBuffer_12 (by decide) ?_
  refine lv_istore (lv' := [(5, .int 0), (3, .long v11), (0, rf E 0), (1, .long a0)]) hx hb dX4_withBuffer_13 hl (by decide) rfl (fun ls hl => ?_)
  exact J15 4096 v11 0 _ _ _ hf hW hS (lv_sub hl [2, 1, 0] rfl)
def f_X4_digest_167 : Nat → XS → Int64 → Int32 → Option (Int64 × XS)
  | 0, _, _, _ => none
  | n167 + 1, x167, l1_167, l3_167 =>
    if (10 ≤ l3_167 : Prop) then
      ((f_X4_monthsToEqual x167).bind fun q199 => (fun v199 x199 =>
      (some (((31 * l1_167) + (v199 : Int32).toInt64))).bind fun v204 =>
      (f_X4_followShare x199).bind fun v211 =>
      (f_X4_bitsOf v211).bind fun v214 =>
      (some (((31 * v204) + v214))).bind fun v218 =>
      (f_X4_withBuffer x199 v218).bind fun v221 =>
      some (v221, x199)) q199.1 q199.2)
    else
      ((f_X4_ofCustomer x167 l3_167 0).bind fun v181 =>
      (some (((31 * l1_167) + (v181 : Int32).toInt64))).bind fun v186 =>
      (some (l3_167 + 1)).bind fun v187 =>
      f_X4_digest_167 n167 x167 v186 v187)
def f_X4_digest_131 (k79 : XS → Int64 → Int32 → Option (Int64 × XS)) : Nat → XS → Int64 → Int32 → Int32 → Option (Int64 × XS)
  | 0, _, _, _, _ => none
  | n131 + 1, x131, l1_131, l3_131, l4_131 =>
    if (3 < l4_131 : Prop) then
      ((some (l3_131 + 1)).bind fun v159 =>
      k79 x131 l1_131 v159)
    else
      ((f_X4_ifJudged x131 l3_131 1 l4_131).bind fun q147 => (fun v147 x147 =>
      (some (((31 * l1_131) + (v147 : Int32).toInt64))).bind fun v152 =>
      (some (l4_131 + 1)).bind fun v153 =>
      f_X4_digest_131 k79 n131 x147 v152 l3_131 v153) q147.1 q147.2)
def f_X4_digest_79 : Nat → XS → Int64 → Int32 → Option (Int64 × XS)
  | 0, _, _, _ => none
  | n79 + 1, x79, l1_79, l3_79 =>
    if ((x79 (1 + 7) 0) ≤ l3_79 : Prop) then
      f_X4_digest_167 4096 x79 l1_79 0
    else
      ((f_X4_withComplaint x79 l1_79 l3_79).bind fun v96 =>
      (f_X4_fair x79 l3_79).bind fun v107 =>
      (some (((31 * v96) + (v107 : Int32).toInt64))).bind fun v112 =>
      (f_X4_whyNot x79 l3_79 0 0).bind fun v122 =>
      (some (((31 * v112) + (v122 : Int32).toInt64))).bind fun v127 =>
      f_X4_digest_131 (f_X4_digest_79 n79) 4096 x79 v127 l3_79 0)
def f_X4_digest_59 : Nat → XS → Int64 → Int32 → Option (Int64 × XS)
  | 0, _, _, _ => none
  | n59 + 1, x59, l1_59, l3_59 =>
    if (4 ≤ l3_59 : Prop) then
      f_X4_digest_79 4096 x59 l1_59 0
    else
      ((f_X4_withKind x59 l1_59 l3_59).bind fun v67 =>
      (some (l3_59 + 1)).bind fun v71 =>
      f_X4_digest_59 n59 x59 v67 v71)
def f_X4_digest_33 : Nat → XS → Int64 → Int32 → Option (Int64 × XS)
  | 0, _, _, _ => none
  | n33 + 1, x33, l1_33, l3_33 =>
    if (3 ≤ l3_33 : Prop) then
      f_X4_digest_59 4096 x33 l1_33 0
    else
      ((f_X4_setting x33 l3_33).bind fun v45 =>
      (some (((31 * l1_33) + (v45 : Int32).toInt64))).bind fun v50 =>
      (some (l3_33 + 1)).bind fun v51 =>
      f_X4_digest_33 n33 x33 v50 v51)
def f_X4_digest_6 : Nat → XS → Int64 → Int32 → Option (Int64 × XS)
  | 0, _, _, _ => none
  | n6 + 1, x6, l1_6, l3_6 =>
    if (11 < l3_6 : Prop) then
      f_X4_digest_33 4096 x6 l1_6 0
    else
      ((f_X4_count x6 l3_6).bind fun v19 =>
      (some (((31 * l1_6) + (v19 : Int32).toInt64))).bind fun v24 =>
      (some (l3_6 + 1)).bind fun v25 =>
      f_X4_digest_6 n6 x6 v24 v25)
def f_X4_digest (x : XS) : Option (Int64 × XS) :=
    f_X4_digest_6 4096 x 2539 0
set_option maxRecDepth 100000 in
set_option maxHeartbeats 4000000 in
theorem p_X4_digest (l : Launch) (E : TE) (x m : XS) (g o : Int64) {r : Int64} {xr : XS} (hf : f_X4_digest x = some (r, xr)) : MG l E yX4_digest cX4_digest 5 (some .long) 7 [rf E 0] (Wd E x m g o) (Wd E xr m g o) (some (.long r)) := by
  unfold f_X4_digest at hf
  refine m_in (by decide) (Nat.le_of_ble_eq_true rfl) ?_
  intro p e s mi args below meth c H ls hx hb hr hlk hml hown hB hK hW hS hl
  have hl : lv_has ls 5 [(0, rf E 0)] := hl
  have J167 : ∀ (n167 : Nat), ∀ (x167 : XS) (l1_167 : Int64) (l3_167 : Int32) (H : Heap) (locs : List Loc) (ls : Array Slot), f_X4_digest_167 n167 x167 l1_167 l3_167 = some (r, xr) → Wd E x167 m g o H → va_S (Ah E) s.heap H locs → lv_has ls 5 [(0, rf E 0), (1, .long l1_167), (3, .int l3_167)] → W p l e (rmH 7) s mi args below meth c H locs 0 0 (EQ E below args s (Wd E xr m g o) (some (.long r))) (F0 mi 167 ls []) := by
    intro n167
    induction n167 with
    | zero => intro x167 l1_167 l3_167 H locs ls hf; exact absurd hf (fun z => nomatch (show (none : Option (Int64 × XS)) = some _ from z))
    | succ n167 ih167 =>
      intro x167 l1_167 l3_167 H locs ls hf hW hS hl
      rw [f_X4_digest_167.eq_2] at hf
      refine lv_iload_n hx hb dX4_digest_167 rfl (lv_at hl 2 rfl) ?_
      refine lv_bipush (v := 10) hx hb dX4_digest_168 (by decide) ?_
      refine lv_icmp_ge (tgt := 193) hx hb dX4_digest_170 (by decide) (fun c170 => ?_) (fun c170 => ?_)
      · rw [if_pos c170] at hf
        refine lv_ldc2 (v := 31) hx hb hown (hB _ q_387) dX4_digest_193 ?_
        refine lv_lload_n hx hb dX4_digest_196 rfl (lv_at hl 1 rfl) ?_
        refine lv_lmul hx hb dX4_digest_197 ?_
        refine lv_aload_n hx hb dX4_digest_198 rfl (lv_at hl 0 rfl) ?_
        obtain ⟨⟨v199, x199⟩, e199, hf⟩ := ob2 hf
        dsimp only at hf
        refine c_V (As := []) (st1 := [.int v199, .long (31 * l1_167)]) (rest := [.long (31 * l1_167)]) (p_X4_monthsToEqual l E x167 m g o e199) (kc_X4_279 hB ⟨Nat.le_of_ble_eq_true rfl, Nat.le_of_ble_eq_true rfl⟩) (Wd.rec hK hW (by decide) cX_0 (ci := 4) rfl) hx hb hml hown hB hK hW hS ⟨Nat.zero_le _, Nat.zero_le _⟩ rfl hl.1 rfl (Nat.le_of_ble_eq_true rfl) rfl dX4_digest_199 (fun H locs hW hS => ?_)
        refine lv_i2l hx hb dX4_digest_202 rfl ?_
        refine lv_ladd hx hb dX4_digest_203 ?_
        obtain ⟨v204, e204, hf⟩ := ob hf
        refine lv_nmL e204 ?_
        refine lv_lstore_n (lv' := [(1, .long v204), (0, rf E 0), (3, .int l3_167)]) hx hb dX4_digest_204 rfl hl (by decide) rfl (fun ls hl => ?_)
        refine lv_ldc2 (v := 31) hx hb hown (hB _ q_387) dX4_digest_205 ?_
        refine lv_lload_n hx hb dX4_digest_208 rfl (lv_at hl 0 rfl) ?_
        refine lv_lmul hx hb dX4_digest_209 ?_
        refine lv_aload_n hx hb dX4_digest_210 rfl (lv_at hl 1 rfl) ?_
        obtain ⟨v211, e211, hf⟩ := ob2 hf
        refine c_V (As := []) (st1 := [.double v211, .long (31 * v204)]) (rest := [.long (31 * v204)]) (p_X4_followShare l E x199 m g o e211) (kc_X4_282 hB ⟨Nat.le_of_ble_eq_true rfl, Nat.le_of_ble_eq_true rfl⟩) (Wd.rec hK hW (by decide) cX_0 (ci := 4) rfl) hx hb hml hown hB hK hW hS ⟨Nat.zero_le _, Nat.zero_le _⟩ rfl hl.1 rfl (Nat.le_of_ble_eq_true rfl) rfl dX4_digest_211 (fun H locs hW hS => ?_)
        obtain ⟨v214, e214, hf⟩ := ob2 hf
        refine c_S (As := [.double v211]) (st1 := [.long v214, .long (31 * v204)]) (rest := [.long (31 * v204)]) (p_X4_bitsOf l E x199 m g o e214) (kc_X4_286 hB ⟨Nat.le_of_ble_eq_true rfl, Nat.le_of_ble_eq_true rfl⟩) hx hb hml hown hB hK hW hS ⟨Nat.zero_le _, Nat.zero_le _⟩ rfl hl.1 rfl (Nat.le_of_ble_eq_true rfl) rfl dX4_digest_214 (fun H locs hW hS => ?_)
        refine lv_ladd hx hb dX4_digest_217 ?_
        obtain ⟨v218, e218, hf⟩ := ob hf
        refine lv_nmL e218 ?_
        refine lv_lstore_n (lv' := [(1, .long v218), (0, rf E 0), (3, .int l3_167)]) hx hb dX4_digest_218 rfl hl (by decide) rfl (fun ls hl => ?_)
        refine lv_aload_n hx hb dX4_digest_219 rfl (lv_at hl 1 rfl) ?_
        refine lv_lload_n hx hb dX4_digest_220 rfl (lv_at hl 0 rfl) ?_
        obtain ⟨v221, e221, hf⟩ := ob2 hf
        refine c_V (As := [.long v218]) (st1 := [.long v221]) (rest := []) (p_X4_withBuffer l E x199 m g o e221) (kc_X4_290 hB ⟨Nat.le_of_ble_eq_true rfl, Nat.le_of_ble_eq_true rfl⟩) (Wd.rec hK hW (by decide) cX_0 (ci := 4) rfl) hx hb hml hown hB hK hW hS ⟨Nat.zero_le _, Nat.zero_le _⟩ rfl hl.1 rfl (Nat.le_of_ble_eq_true rfl) rfl dX4_digest_221 (fun H locs hW hS => ?_)
        cases hf
        exact e_l hx hb hr hlk hW hS dX4_digest_224
      · rw [if_neg c170] at hf
        refine lv_ldc2 (v := 31) hx hb hown (hB _ q_387) dX4_digest_173 ?_
        refine lv_lload_n hx hb dX4_digest_176 rfl (lv_at hl 1 rfl) ?_
        refine lv_lmul hx hb dX4_digest_177 ?_
        refine lv_aload_n hx hb dX4_digest_178 rfl (lv_at hl 0 rfl) ?_
        refine lv_iload_n hx hb dX4_digest_179 rfl (lv_at hl 2 rfl) ?_
        refine lv_iconst (v := 0) hx hb dX4_digest_180 (by decide) ?_
        obtain ⟨v181, e181, hf⟩ := ob2 hf
        refine c_V (As := [.int l3_167, .int 0]) (st1 := [.int v181, .long (31 * l1_167)]) (rest := [.long (31 * l1_167)]) (p_X4_ofCustomer l E x167 m g o e181) (kc_X4_276 hB ⟨Nat.le_of_ble_eq_true rfl, Nat.le_of_ble_eq_true rfl⟩) (Wd.rec hK hW (by decide) cX_0 (ci := 4) rfl) hx hb hml hown hB hK hW hS ⟨Nat.zero_le _, Nat.zero_le _⟩ rfl hl.1 rfl (Nat.le_of_ble_eq_true rfl) rfl dX4_digest_181 (fun H locs hW hS => ?_)
        refine lv_i2l hx hb dX4_digest_184 rfl ?_
        refine lv_ladd hx hb dX4_digest_185 ?_
        obtain ⟨v186, e186, hf⟩ := ob hf
        refine lv_nmL e186 ?_
        refine lv_lstore_n (lv' := [(1, .long v186), (0, rf E 0), (3, .int l3_167)]) hx hb dX4_digest_186 rfl hl (by decide) rfl (fun ls hl => ?_)
        obtain ⟨v187, e187, hf⟩ := ob hf
        refine lv_iinc (v := v187) (lv' := [(3, .int v187), (1, .long v186), (0, rf E 0)]) hx hb dX4_digest_187 hl (k := 2) rfl (by rw [e187]; rfl) (by decide) rfl (fun ls hl => ?_)
        refine lv_goto (tgt := 167) hx hb dX4_digest_190 (by decide) ?_
        exact ih167 x167 v186 v187 _ _ _ hf hW hS (lv_sub hl [2, 1, 0] rfl)
  have J79 : ∀ (n79 : Nat), ∀ (x79 : XS) (l1_79 : Int64) (l3_79 : Int32) (H : Heap) (locs : List Loc) (ls : Array Slot), f_X4_digest_79 n79 x79 l1_79 l3_79 = some (r, xr) → Wd E x79 m g o H → va_S (Ah E) s.heap H locs → lv_has ls 5 [(0, rf E 0), (1, .long l1_79), (3, .int l3_79)] → W p l e (rmH 7) s mi args below meth c H locs 0 0 (EQ E below args s (Wd E xr m g o) (some (.long r))) (F0 mi 79 ls []) := by
    intro n79
    induction n79 with
    | zero => intro x79 l1_79 l3_79 H locs ls hf; exact absurd hf (fun z => nomatch (show (none : Option (Int64 × XS)) = some _ from z))
    | succ n79 ih79 =>
      intro x79 l1_79 l3_79 H locs ls hf hW hS hl
      rw [f_X4_digest_79.eq_2] at hf
      have J131 : ∀ (n131 : Nat), ∀ (x131 : XS) (l1_131 : Int64) (l3_131 : Int32) (l4_131 : Int32) (H : Heap) (locs : List Loc) (ls : Array Slot), f_X4_digest_131 (f_X4_digest_79 n79) n131 x131 l1_131 l3_131 l4_131 = some (r, xr) → Wd E x131 m g o H → va_S (Ah E) s.heap H locs → lv_has ls 5 [(0, rf E 0), (1, .long l1_131), (3, .int l3_131), (4, .int l4_131)] → W p l e (rmH 7) s mi args below meth c H locs 0 0 (EQ E below args s (Wd E xr m g o) (some (.long r))) (F0 mi 131 ls []) := by
        intro n131
        induction n131 with
        | zero => intro x131 l1_131 l3_131 l4_131 H locs ls hf; exact absurd hf (fun z => nomatch (show (none : Option (Int64 × XS)) = some _ from z))
        | succ n131 ih131 =>
          intro x131 l1_131 l3_131 l4_131 H locs ls hf hW hS hl
          rw [f_X4_digest_131.eq_2] at hf
          refine lv_iload hx hb dX4_digest_131 (lv_at hl 3 rfl) ?_
          refine lv_iconst (v := 3) hx hb dX4_digest_133 (by decide) ?_
          refine lv_icmp_gt (tgt := 159) hx hb dX4_digest_134 (by decide) (fun c134 => ?_) (fun c134 => ?_)
          · rw [if_pos c134] at hf
            obtain ⟨v159, e159, hf⟩ := ob hf
            refine lv_iinc (v := v159) (lv' := [(3, .int v159), (0, rf E 0), (1, .long l1_131), (4, .int l4_131)]) hx hb dX4_digest_159 hl (k := 2) rfl (by rw [e159]; rfl) (by decide) rfl (fun ls hl => ?_)
            refine lv_goto (tgt := 79) hx hb dX4_digest_162 (by decide) ?_
            exact ih79 x131 l1_131 v159 _ _ _ hf hW hS (lv_sub hl [1, 2, 0] rfl)
          · rw [if_neg c134] at hf
            refine lv_ldc2 (v := 31) hx hb hown (hB _ q_387) dX4_digest_137 ?_
            refine lv_lload_n hx hb dX4_digest_140 rfl (lv_at hl 1 rfl) ?_
            refine lv_lmul hx hb dX4_digest_141 ?_
            refine lv_aload_n hx hb dX4_digest_142 rfl (lv_at hl 0 rfl) ?_
            refine lv_iload_n hx hb dX4_digest_143 rfl (lv_at hl 2 rfl) ?_
            refine lv_iconst (v := 1) hx hb dX4_digest_144 (by decide) ?_
            refine lv_iload hx hb dX4_digest_145 (lv_at hl 3 rfl) ?_
            obtain ⟨⟨v147, x147⟩, e147, hf⟩ := ob2 hf
            dsimp only at hf
            refine c_V (As := [.int l3_131, .int 1, .int l4_131]) (st1 := [.int v147, .long (31 * l1_131)]) (rest := [.long (31 * l1_131)]) (p_X4_ifJudged l E x131 m g o e147) (kc_X4_273 hB ⟨Nat.le_of_ble_eq_true rfl, Nat.le_of_ble_eq_true rfl⟩) (Wd.rec hK hW (by decide) cX_0 (ci := 4) rfl) hx hb hml hown hB hK hW hS ⟨Nat.zero_le _, Nat.zero_le _⟩ rfl hl.1 rfl (Nat.le_of_ble_eq_true rfl) rfl dX4_digest_147 (fun H locs hW hS => ?_)
            refine lv_i2l hx hb dX4_digest_150 rfl ?_
            refine lv_ladd hx hb dX4_digest_151 ?_
            obtain ⟨v152, e152, hf⟩ := ob hf
            refine lv_nmL e152 ?_
            refine lv_lstore_n (lv' := [(1, .long v152), (0, rf E 0), (3, .int l3_131), (4, .int l4_131)]) hx hb dX4_digest_152 rfl hl (by decide) rfl (fun ls hl => ?_)
            obtain ⟨v153, e153, hf⟩ := ob hf
            refine lv_iinc (v := v153) (lv' := [(4, .int v153), (1, .long v152), (0, rf E 0), (3, .int l3_131)]) hx hb dX4_digest_153 hl (k := 3) rfl (by rw [e153]; rfl) (by decide) rfl (fun ls hl => ?_)
            refine lv_goto (tgt := 131) hx hb dX4_digest_156 (by decide) ?_
            exact ih131 x147 v152 l3_131 v153 _ _ _ hf hW hS (lv_sub hl [2, 1, 3, 0] rfl)
      refine lv_iload_n hx hb dX4_digest_79 rfl (lv_at hl 2 rfl) ?_
      refine lv_aload_n hx hb dX4_digest_80 rfl (lv_at hl 0 rfl) ?_
      refine gf_X4_10 hx hb hB hK hown hW dX4_digest_81 ?_
      refine gf_X4_88 hx hb hB hK hown hW IsB1 dX4_digest_84 ?_
      refine gf_X4_92 hx hb hB hK hown hW IsB1 dX4_digest_87 ?_
      refine lv_icmp_ge (tgt := 165) hx hb dX4_digest_90 (by decide) (fun c90 => ?_) (fun c90 => ?_)
      · rw [if_pos c90] at hf
        refine lv_iconst (v := 0) hx hb dX4_digest_165 (by decide) ?_
        refine lv_istore_n (lv' := [(3, .int 0), (0, rf E 0), (1, .long l1_79)]) hx hb dX4_digest_166 rfl hl (by decide) rfl (fun ls hl => ?_)
        exact J167 4096 x79 l1_79 0 _ _ _ hf hW hS (lv_sub hl [1, 2, 0] rfl)
      · rw [if_neg c90] at hf
        refine lv_aload_n hx hb dX4_digest_93 rfl (lv_at hl 0 rfl) ?_
        refine lv_lload_n hx hb dX4_digest_94 rfl (lv_at hl 1 rfl) ?_
        refine lv_iload_n hx hb dX4_digest_95 rfl (lv_at hl 2 rfl) ?_
        obtain ⟨v96, e96, hf⟩ := ob2 hf
        refine c_V (As := [.long l1_79, .int l3_79]) (st1 := [.long v96]) (rest := []) (p_X4_withComplaint l E x79 m g o e96) (kc_X4_264 hB ⟨Nat.le_of_ble_eq_true rfl, Nat.le_of_ble_eq_true rfl⟩) (Wd.rec hK hW (by decide) cX_0 (ci := 4) rfl) hx hb hml hown hB hK hW hS ⟨Nat.zero_le _, Nat.zero_le _⟩ rfl hl.1 rfl (Nat.le_of_ble_eq_true rfl) rfl dX4_digest_96 (fun H locs hW hS => ?_)
        refine lv_lstore_n (lv' := [(1, .long v96), (0, rf E 0), (3, .int l3_79)]) hx hb dX4_digest_99 rfl hl (by decide) rfl (fun ls hl => ?_)
        refine lv_ldc2 (v := 31) hx hb hown (hB _ q_387) dX4_digest_100 ?_
        refine lv_lload_n hx hb dX4_digest_103 rfl (lv_at hl 0 rfl) ?_
        refine lv_lmul hx hb dX4_digest_104 ?_
        refine lv_aload_n hx hb dX4_digest_105 rfl (lv_at hl 1 rfl) ?_
        refine lv_iload_n hx hb dX4_digest_106 rfl (lv_at hl 2 rfl) ?_
        obtain ⟨v107, e107, hf⟩ := ob2 hf
        refine c_V (As := [.int l3_79]) (st1 := [.int v107, .long (31 * v96)]) (rest := [.long (31 * v96)]) (p_X4_fair l E x79 m g o e107) (kc_X4_267 hB ⟨Nat.le_of_ble_eq_true rfl, Nat.le_of_ble_eq_true rfl⟩) (Wd.rec hK hW (by decide) cX_0 (ci := 4) rfl) hx hb hml hown hB hK hW hS ⟨Nat.zero_le _, Nat.zero_le _⟩ rfl hl.1 rfl (Nat.le_of_ble_eq_true rfl) rfl dX4_digest_107 (fun H locs hW hS => ?_)
        refine lv_i2l hx hb dX4_digest_110 rfl ?_
        refine lv_ladd hx hb dX4_digest_111 ?_
        obtain ⟨v112, e112, hf⟩ := ob hf
        refine lv_nmL e112 ?_
        refine lv_lstore_n (lv' := [(1, .long v112), (0, rf E 0), (3, .int l3_79)]) hx hb dX4_digest_112 rfl hl (by decide) rfl (fun ls hl => ?_)
        refine lv_ldc2 (v := 31) hx hb hown (hB _ q_387) dX4_digest_113 ?_
        refine lv_lload_n hx hb dX4_digest_116 rfl (lv_at hl 0 rfl) ?_
        refine lv_lmul hx hb dX4_digest_117 ?_
        refine lv_aload_n hx hb dX4_digest_118 rfl (lv_at hl 1 rfl) ?_
        refine lv_iload_n hx hb dX4_digest_119 rfl (lv_at hl 2 rfl) ?_
        refine lv_iconst (v := 0) hx hb dX4_digest_120 (by decide) ?_
        refine lv_iconst (v := 0) hx hb dX4_digest_121 (by decide) ?_
        obtain ⟨v122, e122, hf⟩ := ob2 hf
        refine c_V (As := [.int l3_79, .int 0, .int 0]) (st1 := [.int v122, .long (31 * v112)]) (rest := [.long (31 * v112)]) (p_X4_whyNot l E x79 m g o e122) (kc_X4_270 hB ⟨Nat.le_of_ble_eq_true rfl, Nat.le_of_ble_eq_true rfl⟩) (Wd.rec hK hW (by decide) cX_0 (ci := 4) rfl) hx hb hml hown hB hK hW hS ⟨Nat.zero_le _, Nat.zero_le _⟩ rfl hl.1 rfl (Nat.le_of_ble_eq_true rfl) rfl dX4_digest_122 (fun H locs hW hS => ?_)
        refine lv_i2l hx hb dX4_digest_125 rfl ?_
        refine lv_ladd hx hb dX4_digest_126 ?_
        obtain ⟨v127, e127, hf⟩ := ob hf
        refine lv_nmL e127 ?_
        refine lv_lstore_n (lv' := [(1, .long v127), (0, rf E 0), (3, .int l3_79)]) hx hb dX4_digest_127 rfl hl (by decide) rfl (fun ls hl => ?_)
        refine lv_iconst (v := 0) hx hb dX4_digest_128 (by decide) ?_
        refine lv_istore (lv' := [(4, .int 0), (1, .long v127), (0, rf E 0), (3, .int l3_79)]) hx hb dX4_digest_129 hl (by decide) rfl (fun ls hl => ?_)
        exact J131 4096 x79 v127 l3_79 0 _ _ _ hf hW hS (lv_sub hl [2, 1, 3, 0] rfl)
  have J59 : ∀ (n59 : Nat), ∀ (x59 : XS) (l1_59 : Int64) (l3_59 : Int32) (H : Heap) (locs : List Loc) (ls : Array Slot), f_X4_digest_59 n59 x59 l1_59 l3_59 = some (r, xr) → Wd E x59 m g o H → va_S (Ah E) s.heap H locs → lv_has ls 5 [(0, rf E 0), (1, .long l1_59), (3, .int l3_59)] → W p l e (rmH 7) s mi args below meth c H locs 0 0 (EQ E below args s (Wd E xr m g o) (some (.long r))) (F0 mi 59 ls []) := by
    intro n59
    induction n59 with
    | zero => intro x59 l1_59 l3_59 H locs ls hf; exact absurd hf (fun z => nomatch (show (none : Option (Int64 × XS)) = some _ from z))
    | succ n59 ih59 =>
      intro x59 l1_59 l3_59 H locs ls hf hW hS hl
      rw [f_X4_digest_59.eq_2] at hf
      refine lv_iload_n hx hb dX4_digest_59 rfl (lv_at hl 2 rfl) ?_
      refine lv_iconst (v := 4) hx hb dX4_digest_60 (by decide) ?_
      refine lv_icmp_ge (tgt := 77) hx hb dX4_digest_61 (by decide) (fun c61 => ?_) (fun c61 => ?_)
      · rw [if_pos c61] at hf
        refine lv_iconst (v := 0) hx hb dX4_digest_77 (by decide) ?_
        refine lv_istore_n (lv' := [(3, .int 0), (0, rf E 0), (1, .long l1_59)]) hx hb dX4_digest_78 rfl hl (by decide) rfl (fun ls hl => ?_)
        exact J79 4096 x59 l1_59 0 _ _ _ hf hW hS (lv_sub hl [1, 2, 0] rfl)
      · rw [if_neg c61] at hf
        refine lv_aload_n hx hb dX4_digest_64 rfl (lv_at hl 0 rfl) ?_
        refine lv_lload_n hx hb dX4_digest_65 rfl (lv_at hl 1 rfl) ?_
        refine lv_iload_n hx hb dX4_digest_66 rfl (lv_at hl 2 rfl) ?_
        obtain ⟨v67, e67, hf⟩ := ob2 hf
        refine c_V (As := [.long l1_59, .int l3_59]) (st1 := [.long v67]) (rest := []) (p_X4_withKind l E x59 m g o e67) (kc_X4_260 hB ⟨Nat.le_of_ble_eq_true rfl, Nat.le_of_ble_eq_true rfl⟩) (Wd.rec hK hW (by decide) cX_0 (ci := 4) rfl) hx hb hml hown hB hK hW hS ⟨Nat.zero_le _, Nat.zero_le _⟩ rfl hl.1 rfl (Nat.le_of_ble_eq_true rfl) rfl dX4_digest_67 (fun H locs hW hS => ?_)
        refine lv_lstore_n (lv' := [(1, .long v67), (0, rf E 0), (3, .int l3_59)]) hx hb dX4_digest_70 rfl hl (by decide) rfl (fun ls hl => ?_)
        obtain ⟨v71, e71, hf⟩ := ob hf
        refine lv_iinc (v := v71) (lv' := [(3, .int v71), (1, .long v67), (0, rf E 0)]) hx hb dX4_digest_71 hl (k := 2) rfl (by rw [e71]; rfl) (by decide) rfl (fun ls hl => ?_)
        refine lv_goto (tgt := 59) hx hb dX4_digest_74 (by decide) ?_
        exact ih59 x59 v67 v71 _ _ _ hf hW hS (lv_sub hl [2, 1, 0] rfl)
  have J33 : ∀ (n33 : Nat), ∀ (x33 : XS) (l1_33 : Int64) (l3_33 : Int32) (H : Heap) (locs : List Loc) (ls : Array Slot), f_X4_digest_33 n33 x33 l1_33 l3_33 = some (r, xr) → Wd E x33 m g o H → va_S (Ah E) s.heap H locs → lv_has ls 5 [(0, rf E 0), (1, .long l1_33), (3, .int l3_33)] → W p l e (rmH 7) s mi args below meth c H locs 0 0 (EQ E below args s (Wd E xr m g o) (some (.long r))) (F0 mi 33 ls []) := by
    intro n33
    induction n33 with
    | zero => intro x33 l1_33 l3_33 H locs ls hf; exact absurd hf (fun z => nomatch (show (none : Option (Int64 × XS)) = some _ from z))
    | succ n33 ih33 =>
      intro x33 l1_33 l3_33 H locs ls hf hW hS hl
      rw [f_X4_digest_33.eq_2] at hf
      refine lv_iload_n hx hb dX4_digest_33 rfl (lv_at hl 2 rfl) ?_
      refine lv_iconst (v := 3) hx hb dX4_digest_34 (by decide) ?_
      refine lv_icmp_ge (tgt := 57) hx hb dX4_digest_35 (by decide) (fun c35 => ?_) (fun c35 => ?_)
      · rw [if_pos c35] at hf
        refine lv_iconst (v := 0) hx hb dX4_digest_57 (by decide) ?_
        refine lv_istore_n (lv' := [(3, .int 0), (0, rf E 0), (1, .long l1_33)]) hx hb dX4_digest_58 rfl hl (by decide) rfl (fun ls hl => ?_)
        exact J59 4096 x33 l1_33 0 _ _ _ hf hW hS (lv_sub hl [1, 2, 0] rfl)
      · rw [if_neg c35] at hf
        refine lv_ldc2 (v := 31) hx hb hown (hB _ q_387) dX4_digest_38 ?_
        refine lv_lload_n hx hb dX4_digest_41 rfl (lv_at hl 1 rfl) ?_
        refine lv_lmul hx hb dX4_digest_42 ?_
        refine lv_aload_n hx hb dX4_digest_43 rfl (lv_at hl 0 rfl) ?_
        refine lv_iload_n hx hb dX4_digest_44 rfl (lv_at hl 2 rfl) ?_
        obtain ⟨v45, e45, hf⟩ := ob2 hf
        refine c_V (As := [.int l3_33]) (st1 := [.int v45, .long (31 * l1_33)]) (rest := [.long (31 * l1_33)]) (p_X4_setting l E x33 m g o e45) (kc_X4_257 hB ⟨Nat.le_of_ble_eq_true rfl, Nat.le_of_ble_eq_true rfl⟩) (Wd.rec hK hW (by decide) cX_0 (ci := 4) rfl) hx hb hml hown hB hK hW hS ⟨Nat.zero_le _, Nat.zero_le _⟩ rfl hl.1 rfl (Nat.le_of_ble_eq_true rfl) rfl dX4_digest_45 (fun H locs hW hS => ?_)
        refine lv_i2l hx hb dX4_digest_48 rfl ?_
        refine lv_ladd hx hb dX4_digest_49 ?_
        obtain ⟨v50, e50, hf⟩ := ob hf
        refine lv_nmL e50 ?_
        refine lv_lstore_n (lv' := [(1, .long v50), (0, rf E 0), (3, .int l3_33)]) hx hb dX4_digest_50 rfl hl (by decide) rfl (fun ls hl => ?_)
        obtain ⟨v51, e51, hf⟩ := ob hf
        refine lv_iinc (v := v51) (lv' := [(3, .int v51), (1, .long v50), (0, rf E 0)]) hx hb dX4_digest_51 hl (k := 2) rfl (by rw [e51]; rfl) (by decide) rfl (fun ls hl => ?_)
        refine lv_goto (tgt := 33) hx hb dX4_digest_54 (by decide) ?_
        exact ih33 x33 v50 v51 _ _ _ hf hW hS (lv_sub hl [2, 1, 0] rfl)
  have J6 : ∀ (n6 : Nat), ∀ (x6 : XS) (l1_6 : Int64) (l3_6 : Int32) (H : Heap) (locs : List Loc) (ls : Array Slot), f_X4_digest_6 n6 x6 l1_6 l3_6 = some (r, xr) → Wd E x6 m g o H → va_S (Ah E) s.heap H locs → lv_has ls 5 [(0, rf E 0), (1, .long l1_6), (3, .int l3_6)] → W p l e (rmH 7) s mi args below meth c H locs 0 0 (EQ E below args s (Wd E xr m g o) (some (.long r))) (F0 mi 6 ls []) := by
    intro n6
    induction n6 with
    | zero => intro x6 l1_6 l3_6 H locs ls hf; exact absurd hf (fun z => nomatch (show (none : Option (Int64 × XS)) = some _ from z))
    | succ n6 ih6 =>
      intro x6 l1_6 l3_6 H locs ls hf hW hS hl
      rw [f_X4_digest_6.eq_2] at hf
      refine lv_iload_n hx hb dX4_digest_6 rfl (lv_at hl 2 rfl) ?_
      refine lv_bipush (v := 11) hx hb dX4_digest_7 (by decide) ?_
      refine lv_icmp_gt (tgt := 31) hx hb dX4_digest_9 (by decide) (fun c9 => ?_) (fun c9 => ?_)
      · rw [if_pos c9] at hf
        refine lv_iconst (v := 0) hx hb dX4_digest_31 (by decide) ?_
        refine lv_istore_n (lv' := [(3, .int 0), (0, rf E 0), (1, .long l1_6)]) hx hb dX4_digest_32 rfl hl (by decide) rfl (fun ls hl => ?_)
        exact J33 4096 x6 l1_6 0 _ _ _ hf hW hS (lv_sub hl [1, 2, 0] rfl)
      · rw [if_neg c9] at hf
        refine lv_ldc2 (v := 31) hx hb hown (hB _ q_387) dX4_digest_12 ?_
        refine lv_lload_n hx hb dX4_digest_15 rfl (lv_at hl 1 rfl) ?_
        refine lv_lmul hx hb dX4_digest_16 ?_
        refine lv_aload_n hx hb dX4_digest_17 rfl (lv_at hl 0 rfl) ?_
        refine lv_iload_n hx hb dX4_digest_18 rfl (lv_at hl 2 rfl) ?_
        obtain ⟨v19, e19, hf⟩ := ob2 hf
        refine c_V (As := [.int l3_6]) (st1 := [.int v19, .long (31 * l1_6)]) (rest := [.long (31 * l1_6)]) (p_X4_count l E x6 m g o e19) (kc_X4_254 hB ⟨Nat.le_of_ble_eq_true rfl, Nat.le_of_ble_eq_true rfl⟩) (Wd.rec hK hW (by decide) cX_0 (ci := 4) rfl) hx hb hml hown hB hK hW hS ⟨Nat.zero_le _, Nat.zero_le _⟩ rfl hl.1 rfl (Nat.le_of_ble_eq_true rfl) rfl dX4_digest_19 (fun H locs hW hS => ?_)
        refine lv_i2l hx hb dX4_digest_22 rfl ?_
        refine lv_ladd hx hb dX4_digest_23 ?_
        obtain ⟨v24, e24, hf⟩ := ob hf
        refine lv_nmL e24 ?_
        refine lv_lstore_n (lv' := [(1, .long v24), (0, rf E 0), (3, .int l3_6)]) hx hb dX4_digest_24 rfl hl (by decide) rfl (fun ls hl => ?_)
        obtain ⟨v25, e25, hf⟩ := ob hf
        refine lv_iinc (v := v25) (lv' := [(3, .int v25), (1, .long v24), (0, rf E 0)]) hx hb dX4_digest_25 hl (k := 2) rfl (by rw [e25]; rfl) (by decide) rfl (fun ls hl => ?_)
        refine lv_goto (tgt := 6) hx hb dX4_digest_28 (by decide) ?_
        exact ih6 x6 v24 v25 _ _ _ hf hW hS (lv_sub hl [2, 1, 0] rfl)
  refine lv_ldc2 (v := 2539) hx hb hown (hB _ q_386) dX4_digest_0 ?_
  refine lv_lstore_n (lv' := [(1, .long 2539), (0, rf E 0)]) hx hb dX4_digest_3 rfl hl (by decide) rfl (fun ls hl => ?_)
  refine lv_iconst (v := 0) hx hb dX4_digest_4 (by decide) ?_
  refine lv_istore_n (lv' := [(3, .int 0), (1, .long 2539), (0, rf E 0)]) hx hb dX4_digest_5 rfl hl (by decide) rfl (fun ls hl => ?_)
  exact J6 4096 x 2539 0 _ _ _ hf hW hS (lv_sub hl [2, 1, 0] rfl)
