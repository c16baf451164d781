theorem dX3_copyFrom_0 : decode cX3_copyFrom 0 = .ok (.aload_n 1, 1) := by decide +kernel
theorem dX3_copyFrom_1 : decode cX3_copyFrom 1 = .ok (.ifnonnull 4, 3) := by decide +kernel
theorem dX3_copyFrom_4 : decode cX3_copyFrom 4 = .ok (.return_, 1) := by decide +kernel
theorem dX3_copyFrom_5 : decode cX3_copyFrom 5 = .ok (.aload_n 0, 1) := by decide +kernel
theorem dX3_copyFrom_6 : decode cX3_copyFrom 6 = .ok (.getfield 12, 3) := by decide +kernel
theorem dX3_copyFrom_9 : decode cX3_copyFrom 9 = .ok (.aload_n 1, 1) := by decide +kernel
theorem dX3_copyFrom_10 : decode cX3_copyFrom 10 = .ok (.getfield 12, 3) := by decide +kernel
theorem dX3_copyFrom_13 : decode cX3_copyFrom 13 = .ok (.invokevirtual 58, 3) := by decide +kernel
theorem dX3_copyFrom_16 : decode cX3_copyFrom 16 = .ok (.aload_n 0, 1) := by decide +kernel
theorem dX3_copyFrom_17 : decode cX3_copyFrom 17 = .ok (.getfield 21, 3) := by decide +kernel
theorem dX3_copyFrom_20 : decode cX3_copyFrom 20 = .ok (.aload_n 1, 1) := by decide +kernel
theorem dX3_copyFrom_21 : decode cX3_copyFrom 21 = .ok (.getfield 21, 3) := by decide +kernel
theorem dX3_copyFrom_24 : decode cX3_copyFrom 24 = .ok (.invokevirtual 62, 3) := by decide +kernel
theorem dX3_copyFrom_27 : decode cX3_copyFrom 27 = .ok (.aload_n 0, 1) := by decide +kernel
theorem dX3_copyFrom_28 : decode cX3_copyFrom 28 = .ok (.getfield 28, 3) := by decide +kernel
theorem dX3_copyFrom_31 : decode cX3_copyFrom 31 = .ok (.aload_n 1, 1) := by decide +kernel
theorem dX3_copyFrom_32 : decode cX3_copyFrom 32 = .ok (.getfield 28, 3) := by decide +kernel
theorem dX3_copyFrom_35 : decode cX3_copyFrom 35 = .ok (.invokevirtual 65, 3) := by decide +kernel
theorem dX3_copyFrom_38 : decode cX3_copyFrom 38 = .ok (.aload_n 1, 1) := by decide +kernel
theorem dX3_copyFrom_39 : decode cX3_copyFrom 39 = .ok (.getfield 32, 3) := by decide +kernel
theorem dX3_copyFrom_42 : decode cX3_copyFrom 42 = .ok (.aload_n 0, 1) := by decide +kernel
theorem dX3_copyFrom_43 : decode cX3_copyFrom 43 = .ok (.getfield 32, 3) := by decide +kernel
theorem dX3_copyFrom_46 : decode cX3_copyFrom 46 = .ok (.invokestatic 48, 3) := by decide +kernel
theorem dX3_copyFrom_49 : decode cX3_copyFrom 49 = .ok (.aload_n 1, 1) := by decide +kernel
theorem dX3_copyFrom_50 : decode cX3_copyFrom 50 = .ok (.getfield 36, 3) := by decide +kernel
theorem dX3_copyFrom_53 : decode cX3_copyFrom 53 = .ok (.aload_n 0, 1) := by decide +kernel
theorem dX3_copyFrom_54 : decode cX3_copyFrom 54 = .ok (.getfield 36, 3) := by decide +kernel
theorem dX3_copyFrom_57 : decode cX3_copyFrom 57 = .ok (.invokestatic 48, 3) := by decide +kernel
theorem dX3_copyFrom_60 : decode cX3_copyFrom 60 = .ok (.aload_n 1, 1) := by decide +kernel
theorem dX3_copyFrom_61 : decode cX3_copyFrom 61 = .ok (.getfield 39, 3) := by decide +kernel
theorem dX3_copyFrom_64 : decode cX3_copyFrom 64 = .ok (.aload_n 0, 1) := by decide +kernel
theorem dX3_copyFrom_65 : decode cX3_copyFrom 65 = .ok (.getfield 39, 3) := by decide +kernel
theorem dX3_copyFrom_68 : decode cX3_copyFrom 68 = .ok (.invokestatic 48, 3) := by decide +kernel
theorem dX3_copyFrom_71 : decode cX3_copyFrom 71 = .ok (.aload_n 1, 1) := by decide +kernel
theorem dX3_copyFrom_72 : decode cX3_copyFrom 72 = .ok (.getfield 42, 3) := by decide +kernel
theorem dX3_copyFrom_75 : decode cX3_copyFrom 75 = .ok (.aload_n 0, 1) := by decide +kernel
theorem dX3_copyFrom_76 : decode cX3_copyFrom 76 = .ok (.getfield 42, 3) := by decide +kernel
theorem dX3_copyFrom_79 : decode cX3_copyFrom 79 = .ok (.invokestatic 48, 3) := by decide +kernel
theorem dX3_copyFrom_82 : decode cX3_copyFrom 82 = .ok (.aload_n 0, 1) := by decide +kernel
theorem dX3_copyFrom_83 : decode cX3_copyFrom 83 = .ok (.aload_n 1, 1) := by decide +kernel
theorem dX3_copyFrom_84 : decode cX3_copyFrom 84 = .ok (.getfield 68, 3) := by decide +kernel
theorem dX3_copyFrom_87 : decode cX3_copyFrom 87 = .ok (.putfield 68, 3) := by decide +kernel
theorem dX3_copyFrom_90 : decode cX3_copyFrom 90 = .ok (.return_, 1) := by decide +kernel
theorem dX3_baseOf_0 : decode cX3_baseOf 0 = .ok (.iload_n 1, 1) := by decide +kernel
theorem dX3_baseOf_1 : decode cX3_baseOf 1 = .ok (.invokestatic 76, 3) := by decide +kernel
theorem dX3_baseOf_4 : decode cX3_baseOf 4 = .ok (.ifCond .eq 12, 3) := by decide +kernel
theorem dX3_baseOf_7 : decode cX3_baseOf 7 = .ok (.aload_n 0, 1) := by decide +kernel
theorem dX3_baseOf_8 : decode cX3_baseOf 8 = .ok (.getfield 36, 3) := by decide +kernel
theorem dX3_baseOf_11 : decode cX3_baseOf 11 = .ok (.iload_n 1, 1) := by decide +kernel
theorem dX3_baseOf_12 : decode cX3_baseOf 12 = .ok (.iaload, 1) := by decide +kernel
theorem dX3_baseOf_13 : decode cX3_baseOf 13 = .ok (.goto 4, 3) := by decide +kernel
theorem dX3_baseOf_16 : decode cX3_baseOf 16 = .ok (.iconst 0, 1) := by decide +kernel
theorem dX3_baseOf_17 : decode cX3_baseOf 17 = .ok (.ireturn, 1) := by decide +kernel
theorem dX3_changeBase_0 : decode cX3_changeBase 0 = .ok (.aload_n 0, 1) := by decide +kernel
theorem dX3_changeBase_1 : decode cX3_changeBase 1 = .ok (.iload_n 1, 1) := by decide +kernel
theorem dX3_changeBase_2 : decode cX3_changeBase 2 = .ok (.invokevirtual 83, 3) := by decide +kernel
theorem dX3_changeBase_5 : decode cX3_changeBase 5 = .ok (.istore_n 3, 1) := by decide +kernel
theorem dX3_changeBase_6 : decode cX3_changeBase 6 = .ok (.iload_n 1, 1) := by decide +kernel
theorem dX3_changeBase_7 : decode cX3_changeBase 7 = .ok (.invokestatic 76, 3) := by decide +kernel
theorem dX3_changeBase_10 : decode cX3_changeBase 10 = .ok (.ifCond .eq 10, 3) := by decide +kernel
theorem dX3_changeBase_13 : decode cX3_changeBase 13 = .ok (.aload_n 0, 1) := by decide +kernel
theorem dX3_changeBase_14 : decode cX3_changeBase 14 = .ok (.getfield 36, 3) := by decide +kernel
theorem dX3_changeBase_17 : decode cX3_changeBase 17 = .ok (.iload_n 1, 1) := by decide +kernel
theorem dX3_changeBase_18 : decode cX3_changeBase 18 = .ok (.iload_n 2, 1) := by decide +kernel
theorem dX3_changeBase_19 : decode cX3_changeBase 19 = .ok (.iastore, 1) := by decide +kernel
theorem dX3_changeBase_20 : decode cX3_changeBase 20 = .ok (.iload_n 3, 1) := by decide +kernel
theorem dX3_changeBase_21 : decode cX3_changeBase 21 = .ok (.ireturn, 1) := by decide +kernel
theorem dX3_settingOf_0 : decode cX3_settingOf 0 = .ok (.iload_n 1, 1) := by decide +kernel
theorem dX3_settingOf_1 : decode cX3_settingOf 1 = .ok (.invokestatic 72, 3) := by decide +kernel
theorem dX3_settingOf_4 : decode cX3_settingOf 4 = .ok (.ifCond .eq 12, 3) := by decide +kernel
theorem dX3_settingOf_7 : decode cX3_settingOf 7 = .ok (.aload_n 0, 1) := by decide +kernel
theorem dX3_settingOf_8 : decode cX3_settingOf 8 = .ok (.getfield 32, 3) := by decide +kernel
theorem dX3_settingOf_11 : decode cX3_settingOf 11 = .ok (.iload_n 1, 1) := by decide +kernel
theorem dX3_settingOf_12 : decode cX3_settingOf 12 = .ok (.iaload, 1) := by decide +kernel
theorem dX3_settingOf_13 : decode cX3_settingOf 13 = .ok (.goto 4, 3) := by decide +kernel
theorem dX3_settingOf_16 : decode cX3_settingOf 16 = .ok (.iconst (-1), 1) := by decide +kernel
theorem dX3_settingOf_17 : decode cX3_settingOf 17 = .ok (.ireturn, 1) := by decide +kernel
theorem dX3_changeSetting_0 : decode cX3_changeSetting 0 = .ok (.aload_n 0, 1) := by decide +kernel
theorem dX3_changeSetting_1 : decode cX3_changeSetting 1 = .ok (.iload_n 1, 1) := by decide +kernel
theorem dX3_changeSetting_2 : decode cX3_changeSetting 2 = .ok (.invokevirtual 79, 3) := by decide +kernel
theorem dX3_changeSetting_5 : decode cX3_changeSetting 5 = .ok (.istore_n 3, 1) := by decide +kernel
theorem dX3_changeSetting_6 : decode cX3_changeSetting 6 = .ok (.iload_n 1, 1) := by decide +kernel
theorem dX3_changeSetting_7 : decode cX3_changeSetting 7 = .ok (.invokestatic 72, 3) := by decide +kernel
theorem dX3_changeSetting_10 : decode cX3_changeSetting 10 = .ok (.ifCond .eq 10, 3) := by decide +kernel
theorem dX3_changeSetting_13 : decode cX3_changeSetting 13 = .ok (.aload_n 0, 1) := by decide +kernel
theorem dX3_changeSetting_14 : decode cX3_changeSetting 14 = .ok (.getfield 32, 3) := by decide +kernel
theorem dX3_changeSetting_17 : decode cX3_changeSetting 17 = .ok (.iload_n 1, 1) := by decide +kernel
theorem dX3_changeSetting_18 : decode cX3_changeSetting 18 = .ok (.iload_n 2, 1) := by decide +kernel
theorem dX3_changeSetting_19 : decode cX3_changeSetting 19 = .ok (.iastore, 1) := by decide +kernel
theorem dX3_changeSetting_20 : decode cX3_changeSetting 20 = .ok (.iload_n 3, 1) := by decide +kernel
theorem dX3_changeSetting_21 : decode cX3_changeSetting 21 = .ok (.ireturn, 1) := by decide +kernel
theorem dX3_isBinding_0 : decode cX3_isBinding 0 = .ok (.aload_n 0, 1) := by decide +kernel
theorem dX3_isBinding_1 : decode cX3_isBinding 1 = .ok (.getfield 28, 3) := by decide +kernel
theorem dX3_isBinding_4 : decode cX3_isBinding 4 = .ok (.iload_n 2, 1) := by decide +kernel
theorem dX3_isBinding_5 : decode cX3_isBinding 5 = .ok (.invokevirtual 86, 3) := by decide +kernel
theorem dX3_isBinding_8 : decode cX3_isBinding 8 = .ok (.ifCond .eq 47, 3) := by decide +kernel
theorem dX3_isBinding_11 : decode cX3_isBinding 11 = .ok (.aload_n 0, 1) := by decide +kernel
theorem dX3_isBinding_12 : decode cX3_isBinding 12 = .ok (.getfield 68, 3) := by decide +kernel
theorem dX3_isBinding_15 : decode cX3_isBinding 15 = .ok (.aload_n 0, 1) := by decide +kernel
theorem dX3_isBinding_16 : decode cX3_isBinding 16 = .ok (.getfield 28, 3) := by decide +kernel
theorem dX3_isBinding_19 : decode cX3_isBinding 19 = .ok (.iload_n 2, 1) := by decide +kernel
theorem dX3_isBinding_20 : decode cX3_isBinding 20 = .ok (.invokevirtual 89, 3) := by decide +kernel
theorem dX3_isBinding_23 : decode cX3_isBinding 23 = .ok (.isub, 1) := by decide +kernel
theorem dX3_isBinding_24 : decode cX3_isBinding 24 = .ok (.aload_n 0, 1) := by decide +kernel
theorem dX3_isBinding_25 : decode cX3_isBinding 25 = .ok (.iconst 0, 1) := by decide +kernel
theorem dX3_isBinding_26 : decode cX3_isBinding 26 = .ok (.invokevirtual 79, 3) := by decide +kernel
theorem dX3_isBinding_29 : decode cX3_isBinding 29 = .ok (.if_icmp .ge 26, 3) := by decide +kernel
theorem dX3_isBinding_32 : decode cX3_isBinding 32 = .ok (.aload_n 0, 1) := by decide +kernel
theorem dX3_isBinding_33 : decode cX3_isBinding 33 = .ok (.getfield 12, 3) := by decide +kernel
theorem dX3_isBinding_36 : decode cX3_isBinding 36 = .ok (.iload_n 1, 1) := by decide +kernel
theorem dX3_isBinding_37 : decode cX3_isBinding 37 = .ok (.aload_n 0, 1) := by decide +kernel
theorem dX3_isBinding_38 : decode cX3_isBinding 38 = .ok (.getfield 28, 3) := by decide +kernel
theorem dX3_isBinding_41 : decode cX3_isBinding 41 = .ok (.iload_n 2, 1) := by decide +kernel
theorem dX3_isBinding_42 : decode cX3_isBinding 42 = .ok (.invokevirtual 92, 3) := by decide +kernel
theorem dX3_isBinding_45 : decode cX3_isBinding 45 = .ok (.invokevirtual 95, 3) := by decide +kernel
theorem dX3_isBinding_48 : decode cX3_isBinding 48 = .ok (.ifCond .eq 7, 3) := by decide +kernel
theorem dX3_isBinding_51 : decode cX3_isBinding 51 = .ok (.iconst 1, 1) := by decide +kernel
theorem dX3_isBinding_52 : decode cX3_isBinding 52 = .ok (.goto 4, 3) := by decide +kernel
theorem dX3_isBinding_55 : decode cX3_isBinding 55 = .ok (.iconst 0, 1) := by decide +kernel
theorem dX3_isBinding_56 : decode cX3_isBinding 56 = .ok (.ireturn, 1) := by decide +kernel
theorem dX3_bindingFor_0 : decode cX3_bindingFor 0 = .ok (.aload_n 0, 1) := by decide +kernel
theorem dX3_bindingFor_1 : decode cX3_bindingFor 1 = .ok (.getfield 21, 3) := by decide +kernel
theorem dX3_bindingFor_4 : decode cX3_bindingFor 4 = .ok (.iload_n 1, 1) := by decide +kernel
theorem dX3_bindingFor_5 : decode cX3_bindingFor 5 = .ok (.invokevirtual 99, 3) := by decide +kernel
theorem dX3_bindingFor_8 : decode cX3_bindingFor 8 = .ok (.istore_n 2, 1) := by decide +kernel
theorem dX3_bindingFor_9 : decode cX3_bindingFor 9 = .ok (.aload_n 0, 1) := by decide +kernel
theorem dX3_bindingFor_10 : decode cX3_bindingFor 10 = .ok (.getfield 28, 3) := by decide +kernel
theorem dX3_bindingFor_13 : decode cX3_bindingFor 13 = .ok (.iload_n 2, 1) := by decide +kernel
theorem dX3_bindingFor_14 : decode cX3_bindingFor 14 = .ok (.aload_n 0, 1) := by decide +kernel
theorem dX3_bindingFor_15 : decode cX3_bindingFor 15 = .ok (.getfield 21, 3) := by decide +kernel
theorem dX3_bindingFor_18 : decode cX3_bindingFor 18 = .ok (.iload_n 1, 1) := by decide +kernel
theorem dX3_bindingFor_19 : decode cX3_bindingFor 19 = .ok (.invokevirtual 102, 3) := by decide +kernel
theorem dX3_bindingFor_22 : decode cX3_bindingFor 22 = .ok (.invokevirtual 105, 3) := by decide +kernel
theorem dX3_bindingFor_25 : decode cX3_bindingFor 25 = .ok (.istore_n 3, 1) := by decide +kernel
theorem dX3_bindingFor_26 : decode cX3_bindingFor 26 = .ok (.aload_n 0, 1) := by decide +kernel
theorem dX3_bindingFor_27 : decode cX3_bindingFor 27 = .ok (.iload_n 2, 1) := by decide +kernel
theorem dX3_bindingFor_28 : decode cX3_bindingFor 28 = .ok (.iload_n 3, 1) := by decide +kernel
theorem dX3_bindingFor_29 : decode cX3_bindingFor 29 = .ok (.invokevirtual 109, 3) := by decide +kernel
theorem dX3_bindingFor_32 : decode cX3_bindingFor 32 = .ok (.ifCond .eq 7, 3) := by decide +kernel
theorem dX3_bindingFor_35 : decode cX3_bindingFor 35 = .ok (.iload_n 3, 1) := by decide +kernel
theorem dX3_bindingFor_36 : decode cX3_bindingFor 36 = .ok (.goto 4, 3) := by decide +kernel
theorem dX3_bindingFor_39 : decode cX3_bindingFor 39 = .ok (.iconst (-1), 1) := by decide +kernel
theorem dX3_bindingFor_40 : decode cX3_bindingFor 40 = .ok (.ireturn, 1) := by decide +kernel
theorem dX3_leftOf_0 : decode cX3_leftOf 0 = .ok (.iload_n 1, 1) := by decide +kernel
theorem dX3_leftOf_1 : decode cX3_leftOf 1 = .ok (.invokestatic 76, 3) := by decide +kernel
theorem dX3_leftOf_4 : decode cX3_leftOf 4 = .ok (.ifCond .eq 19, 3) := by decide +kernel
theorem dX3_leftOf_7 : decode cX3_leftOf 7 = .ok (.aload_n 0, 1) := by decide +kernel
theorem dX3_leftOf_8 : decode cX3_leftOf 8 = .ok (.getfield 39, 3) := by decide +kernel
theorem dX3_leftOf_11 : decode cX3_leftOf 11 = .ok (.iload_n 1, 1) := by decide +kernel
theorem dX3_leftOf_12 : decode cX3_leftOf 12 = .ok (.iaload, 1) := by decide +kernel
theorem dX3_leftOf_13 : decode cX3_leftOf 13 = .ok (.aload_n 0, 1) := by decide +kernel
theorem dX3_leftOf_14 : decode cX3_leftOf 14 = .ok (.getfield 42, 3) := by decide +kernel
theorem dX3_leftOf_17 : decode cX3_leftOf 17 = .ok (.iload_n 1, 1) := by decide +kernel
theorem dX3_leftOf_18 : decode cX3_leftOf 18 = .ok (.iaload, 1) := by decide +kernel
theorem dX3_leftOf_19 : decode cX3_leftOf 19 = .ok (.isub, 1) := by decide +kernel
theorem dX3_leftOf_20 : decode cX3_leftOf 20 = .ok (.goto 4, 3) := by decide +kernel
theorem dX3_leftOf_23 : decode cX3_leftOf 23 = .ok (.iconst 0, 1) := by decide +kernel
theorem dX3_leftOf_24 : decode cX3_leftOf 24 = .ok (.ireturn, 1) := by decide +kernel
theorem dX3_againstDecision_0 : decode cX3_againstDecision 0 = .ok (.aload_n 0, 1) := by decide +kernel
theorem dX3_againstDecision_1 : decode cX3_againstDecision 1 = .ok (.getfield 21, 3) := by decide +kernel
theorem dX3_againstDecision_4 : decode cX3_againstDecision 4 = .ok (.iload_n 1, 1) := by decide +kernel
theorem dX3_againstDecision_5 : decode cX3_againstDecision 5 = .ok (.invokevirtual 99, 3) := by decide +kernel
theorem dX3_againstDecision_8 : decode cX3_againstDecision 8 = .ok (.istore 4, 2) := by decide +kernel
theorem dX3_againstDecision_10 : decode cX3_againstDecision 10 = .ok (.aload_n 0, 1) := by decide +kernel
theorem dX3_againstDecision_11 : decode cX3_againstDecision 11 = .ok (.getfield 21, 3) := by decide +kernel
theorem dX3_againstDecision_14 : decode cX3_againstDecision 14 = .ok (.iload_n 1, 1) := by decide +kernel
theorem dX3_againstDecision_15 : decode cX3_againstDecision 15 = .ok (.invokevirtual 112, 3) := by decide +kernel
theorem dX3_againstDecision_18 : decode cX3_againstDecision 18 = .ok (.ifCond .eq 5, 3) := by decide +kernel
theorem dX3_againstDecision_21 : decode cX3_againstDecision 21 = .ok (.iconst 1, 1) := by decide +kernel
theorem dX3_againstDecision_22 : decode cX3_againstDecision 22 = .ok (.ireturn, 1) := by decide +kernel
theorem dX3_againstDecision_23 : decode cX3_againstDecision 23 = .ok (.aload_n 0, 1) := by decide +kernel
theorem dX3_againstDecision_24 : decode cX3_againstDecision 24 = .ok (.getfield 12, 3) := by decide +kernel
theorem dX3_againstDecision_27 : decode cX3_againstDecision 27 = .ok (.iload 4, 2) := by decide +kernel
theorem dX3_againstDecision_29 : decode cX3_againstDecision 29 = .ok (.iload_n 2, 1) := by decide +kernel
theorem dX3_againstDecision_30 : decode cX3_againstDecision 30 = .ok (.invokevirtual 95, 3) := by decide +kernel
theorem dX3_againstDecision_33 : decode cX3_againstDecision 33 = .ok (.ifCond .ne 5, 3) := by decide +kernel
theorem dX3_againstDecision_36 : decode cX3_againstDecision 36 = .ok (.iconst 2, 1) := by decide +kernel
theorem dX3_againstDecision_37 : decode cX3_againstDecision 37 = .ok (.ireturn, 1) := by decide +kernel
theorem dX3_againstDecision_38 : decode cX3_againstDecision 38 = .ok (.aload_n 0, 1) := by decide +kernel
theorem dX3_againstDecision_39 : decode cX3_againstDecision 39 = .ok (.getfield 12, 3) := by decide +kernel
theorem dX3_againstDecision_42 : decode cX3_againstDecision 42 = .ok (.iload 4, 2) := by decide +kernel
theorem dX3_againstDecision_44 : decode cX3_againstDecision 44 = .ok (.iload_n 2, 1) := by decide +kernel
theorem dX3_againstDecision_45 : decode cX3_againstDecision 45 = .ok (.aload_n 0, 1) := by decide +kernel
theorem dX3_againstDecision_46 : decode cX3_againstDecision 46 = .ok (.getfield 21, 3) := by decide +kernel
theorem dX3_againstDecision_49 : decode cX3_againstDecision 49 = .ok (.iload_n 1, 1) := by decide +kernel
theorem dX3_againstDecision_50 : decode cX3_againstDecision 50 = .ok (.invokevirtual 127, 3) := by decide +kernel
theorem dX3_againstDecision_53 : decode cX3_againstDecision 53 = .ok (.invokevirtual 130, 3) := by decide +kernel
theorem dX3_againstDecision_56 : decode cX3_againstDecision 56 = .ok (.ifCond .ne 5, 3) := by decide +kernel
theorem dX3_againstDecision_59 : decode cX3_againstDecision 59 = .ok (.iconst 3, 1) := by decide +kernel
theorem dX3_againstDecision_60 : decode cX3_againstDecision 60 = .ok (.ireturn, 1) := by decide +kernel
theorem dX3_againstDecision_61 : decode cX3_againstDecision 61 = .ok (.aload_n 0, 1) := by decide +kernel
theorem dX3_againstDecision_62 : decode cX3_againstDecision 62 = .ok (.iload_n 1, 1) := by decide +kernel
theorem dX3_againstDecision_63 : decode cX3_againstDecision 63 = .ok (.invokevirtual 134, 3) := by decide +kernel
theorem dX3_againstDecision_66 : decode cX3_againstDecision 66 = .ok (.istore 5, 2) := by decide +kernel
theorem dX3_againstDecision_68 : decode cX3_againstDecision 68 = .ok (.iload 5, 2) := by decide +kernel
theorem dX3_againstDecision_70 : decode cX3_againstDecision 70 = .ok (.iconst (-1), 1) := by decide +kernel
theorem dX3_againstDecision_71 : decode cX3_againstDecision 71 = .ok (.if_icmp .eq 22, 3) := by decide +kernel
theorem dX3_againstDecision_74 : decode cX3_againstDecision 74 = .ok (.aload_n 0, 1) := by decide +kernel
theorem dX3_againstDecision_75 : decode cX3_againstDecision 75 = .ok (.getfield 28, 3) := by decide +kernel
theorem dX3_againstDecision_78 : decode cX3_againstDecision 78 = .ok (.iload 5, 2) := by decide +kernel
theorem dX3_againstDecision_80 : decode cX3_againstDecision 80 = .ok (.invokevirtual 92, 3) := by decide +kernel
theorem dX3_againstDecision_83 : decode cX3_againstDecision 83 = .ok (.iload_n 2, 1) := by decide +kernel
theorem dX3_againstDecision_84 : decode cX3_againstDecision 84 = .ok (.if_icmp .eq 9, 3) := by decide +kernel
theorem dX3_againstDecision_87 : decode cX3_againstDecision 87 = .ok (.iload_n 3, 1) := by decide +kernel
theorem dX3_againstDecision_88 : decode cX3_againstDecision 88 = .ok (.ifCond .ne 5, 3) := by decide +kernel
theorem dX3_againstDecision_91 : decode cX3_againstDecision 91 = .ok (.iconst 4, 1) := by decide +kernel
theorem dX3_againstDecision_92 : decode cX3_againstDecision 92 = .ok (.ireturn, 1) := by decide +kernel
theorem dX3_againstDecision_93 : decode cX3_againstDecision 93 = .ok (.aload_n 0, 1) := by decide +kernel
theorem dX3_againstDecision_94 : decode cX3_againstDecision 94 = .ok (.getfield 12, 3) := by decide +kernel
theorem dX3_againstDecision_97 : decode cX3_againstDecision 97 = .ok (.iload 4, 2) := by decide +kernel
theorem dX3_againstDecision_99 : decode cX3_againstDecision 99 = .ok (.iload_n 2, 1) := by decide +kernel
theorem dX3_againstDecision_100 : decode cX3_againstDecision 100 = .ok (.invokevirtual 137, 3) := by decide +kernel
theorem dX3_againstDecision_103 : decode cX3_againstDecision 103 = .ok (.aload_n 0, 1) := by decide +kernel
theorem dX3_againstDecision_104 : decode cX3_againstDecision 104 = .ok (.iload 4, 2) := by decide +kernel
theorem dX3_againstDecision_106 : decode cX3_againstDecision 106 = .ok (.invokevirtual 140, 3) := by decide +kernel
theorem dX3_againstDecision_109 : decode cX3_againstDecision 109 = .ok (.if_icmp .le 7, 3) := by decide +kernel
theorem dX3_againstDecision_112 : decode cX3_againstDecision 112 = .ok (.iconst 5, 1) := by decide +kernel
theorem dX3_againstDecision_113 : decode cX3_againstDecision 113 = .ok (.goto 4, 3) := by decide +kernel
theorem dX3_againstDecision_116 : decode cX3_againstDecision 116 = .ok (.iconst 0, 1) := by decide +kernel
theorem dX3_againstDecision_117 : decode cX3_againstDecision 117 = .ok (.ireturn, 1) := by decide +kernel
theorem dX3_hand_0 : decode cX3_hand 0 = .ok (.aload_n 0, 1) := by decide +kernel
theorem dX3_hand_1 : decode cX3_hand 1 = .ok (.getfield 21, 3) := by decide +kernel
theorem dX3_hand_4 : decode cX3_hand 4 = .ok (.iload_n 1, 1) := by decide +kernel
theorem dX3_hand_5 : decode cX3_hand 5 = .ok (.invokevirtual 99, 3) := by decide +kernel
theorem dX3_hand_8 : decode cX3_hand 8 = .ok (.istore_n 3, 1) := by decide +kernel
theorem dX3_hand_9 : decode cX3_hand 9 = .ok (.aload_n 0, 1) := by decide +kernel
theorem dX3_hand_10 : decode cX3_hand 10 = .ok (.getfield 12, 3) := by decide +kernel
theorem dX3_hand_13 : decode cX3_hand 13 = .ok (.iload_n 3, 1) := by decide +kernel
theorem dX3_hand_14 : decode cX3_hand 14 = .ok (.iload_n 2, 1) := by decide +kernel
theorem dX3_hand_15 : decode cX3_hand 15 = .ok (.invokevirtual 137, 3) := by decide +kernel
theorem dX3_hand_18 : decode cX3_hand 18 = .ok (.istore 4, 2) := by decide +kernel
theorem dX3_hand_20 : decode cX3_hand 20 = .ok (.iload_n 3, 1) := by decide +kernel
theorem dX3_hand_21 : decode cX3_hand 21 = .ok (.invokestatic 76, 3) := by decide +kernel
theorem dX3_hand_24 : decode cX3_hand 24 = .ok (.ifCond .eq 23, 3) := by decide +kernel
theorem dX3_hand_27 : decode cX3_hand 27 = .ok (.aload_n 0, 1) := by decide +kernel
theorem dX3_hand_28 : decode cX3_hand 28 = .ok (.getfield 42, 3) := by decide +kernel
theorem dX3_hand_31 : decode cX3_hand 31 = .ok (.iload_n 3, 1) := by decide +kernel
theorem dX3_hand_32 : decode cX3_hand 32 = .ok (.dup2, 1) := by decide +kernel
theorem dX3_hand_33 : decode cX3_hand 33 = .ok (.iaload, 1) := by decide +kernel
theorem dX3_hand_34 : decode cX3_hand 34 = .ok (.iload 4, 2) := by decide +kernel
theorem dX3_hand_36 : decode cX3_hand 36 = .ok (.aload_n 0, 1) := by decide +kernel
theorem dX3_hand_37 : decode cX3_hand 37 = .ok (.getfield 21, 3) := by decide +kernel
theorem dX3_hand_40 : decode cX3_hand 40 = .ok (.iload_n 1, 1) := by decide +kernel
theorem dX3_hand_41 : decode cX3_hand 41 = .ok (.invokevirtual 155, 3) := by decide +kernel
theorem dX3_hand_44 : decode cX3_hand 44 = .ok (.isub, 1) := by decide +kernel
theorem dX3_hand_45 : decode cX3_hand 45 = .ok (.iadd, 1) := by decide +kernel
theorem dX3_hand_46 : decode cX3_hand 46 = .ok (.iastore, 1) := by decide +kernel
theorem dX3_hand_47 : decode cX3_hand 47 = .ok (.aload_n 0, 1) := by decide +kernel
theorem dX3_hand_48 : decode cX3_hand 48 = .ok (.getfield 21, 3) := by decide +kernel
theorem dX3_hand_51 : decode cX3_hand 51 = .ok (.iload_n 1, 1) := by decide +kernel
theorem dX3_hand_52 : decode cX3_hand 52 = .ok (.iload_n 2, 1) := by decide +kernel
theorem dX3_hand_53 : decode cX3_hand 53 = .ok (.iload 4, 2) := by decide +kernel
theorem dX3_hand_55 : decode cX3_hand 55 = .ok (.invokevirtual 158, 3) := by decide +kernel
theorem dX3_hand_58 : decode cX3_hand 58 = .ok (.return_, 1) := by decide +kernel
theorem dX3_tieOf_0 : decode cX3_tieOf 0 = .ok (.aload_n 0, 1) := by decide +kernel
theorem dX3_tieOf_1 : decode cX3_tieOf 1 = .ok (.getfield 21, 3) := by decide +kernel
theorem dX3_tieOf_4 : decode cX3_tieOf 4 = .ok (.iload_n 1, 1) := by decide +kernel
theorem dX3_tieOf_5 : decode cX3_tieOf 5 = .ok (.invokevirtual 112, 3) := by decide +kernel
theorem dX3_tieOf_8 : decode cX3_tieOf 8 = .ok (.ifCond .ne 5, 3) := by decide +kernel
theorem dX3_tieOf_11 : decode cX3_tieOf 11 = .ok (.iconst 0, 1) := by decide +kernel
theorem dX3_tieOf_12 : decode cX3_tieOf 12 = .ok (.ireturn, 1) := by decide +kernel
theorem dX3_tieOf_13 : decode cX3_tieOf 13 = .ok (.aload_n 0, 1) := by decide +kernel
theorem dX3_tieOf_14 : decode cX3_tieOf 14 = .ok (.getfield 21, 3) := by decide +kernel
theorem dX3_tieOf_17 : decode cX3_tieOf 17 = .ok (.iload_n 1, 1) := by decide +kernel
theorem dX3_tieOf_18 : decode cX3_tieOf 18 = .ok (.invokevirtual 115, 3) := by decide +kernel
theorem dX3_tieOf_21 : decode cX3_tieOf 21 = .ok (.istore_n 2, 1) := by decide +kernel
theorem dX3_tieOf_22 : decode cX3_tieOf 22 = .ok (.iload_n 2, 1) := by decide +kernel
theorem dX3_tieOf_23 : decode cX3_tieOf 23 = .ok (.iconst (-1), 1) := by decide +kernel
theorem dX3_tieOf_24 : decode cX3_tieOf 24 = .ok (.if_icmp .ne 5, 3) := by decide +kernel
theorem dX3_tieOf_27 : decode cX3_tieOf 27 = .ok (.iconst 3, 1) := by decide +kernel
theorem dX3_tieOf_28 : decode cX3_tieOf 28 = .ok (.ireturn, 1) := by decide +kernel
theorem dX3_tieOf_29 : decode cX3_tieOf 29 = .ok (.aload_n 0, 1) := by decide +kernel
theorem dX3_tieOf_30 : decode cX3_tieOf 30 = .ok (.getfield 28, 3) := by decide +kernel
theorem dX3_tieOf_33 : decode cX3_tieOf 33 = .ok (.iload_n 2, 1) := by decide +kernel
theorem dX3_tieOf_34 : decode cX3_tieOf 34 = .ok (.invokevirtual 118, 3) := by decide +kernel
theorem dX3_tieOf_37 : decode cX3_tieOf 37 = .ok (.iload_n 1, 1) := by decide +kernel
theorem dX3_tieOf_38 : decode cX3_tieOf 38 = .ok (.if_icmp .ne 7, 3) := by decide +kernel
theorem dX3_tieOf_41 : decode cX3_tieOf 41 = .ok (.iconst 1, 1) := by decide +kernel
theorem dX3_tieOf_42 : decode cX3_tieOf 42 = .ok (.goto 4, 3) := by decide +kernel
theorem dX3_tieOf_45 : decode cX3_tieOf 45 = .ok (.iconst 2, 1) := by decide +kernel
theorem dX3_tieOf_46 : decode cX3_tieOf 46 = .ok (.ireturn, 1) := by decide +kernel
theorem dX3_makeDecision_0 : decode cX3_makeDecision 0 = .ok (.aload_n 0, 1) := by decide +kernel
theorem dX3_makeDecision_1 : decode cX3_makeDecision 1 = .ok (.getfield 21, 3) := by decide +kernel
theorem dX3_makeDecision_4 : decode cX3_makeDecision 4 = .ok (.iload_n 1, 1) := by decide +kernel
theorem dX3_makeDecision_5 : decode cX3_makeDecision 5 = .ok (.invokevirtual 99, 3) := by decide +kernel
theorem dX3_makeDecision_8 : decode cX3_makeDecision 8 = .ok (.istore 4, 2) := by decide +kernel
theorem dX3_makeDecision_10 : decode cX3_makeDecision 10 = .ok (.aload_n 0, 1) := by decide +kernel
theorem dX3_makeDecision_11 : decode cX3_makeDecision 11 = .ok (.iload_n 1, 1) := by decide +kernel
theorem dX3_makeDecision_12 : decode cX3_makeDecision 12 = .ok (.invokevirtual 134, 3) := by decide +kernel
theorem dX3_makeDecision_15 : decode cX3_makeDecision 15 = .ok (.istore 5, 2) := by decide +kernel
theorem dX3_makeDecision_17 : decode cX3_makeDecision 17 = .ok (.aload_n 0, 1) := by decide +kernel
theorem dX3_makeDecision_18 : decode cX3_makeDecision 18 = .ok (.iload_n 1, 1) := by decide +kernel
theorem dX3_makeDecision_19 : decode cX3_makeDecision 19 = .ok (.iload_n 2, 1) := by decide +kernel
theorem dX3_makeDecision_20 : decode cX3_makeDecision 20 = .ok (.invokevirtual 143, 3) := by decide +kernel
theorem dX3_makeDecision_23 : decode cX3_makeDecision 23 = .ok (.iload 5, 2) := by decide +kernel
theorem dX3_makeDecision_25 : decode cX3_makeDecision 25 = .ok (.iconst (-1), 1) := by decide +kernel
theorem dX3_makeDecision_26 : decode cX3_makeDecision 26 = .ok (.if_icmp .ne 46, 3) := by decide +kernel
theorem dX3_makeDecision_29 : decode cX3_makeDecision 29 = .ok (.aload_n 0, 1) := by decide +kernel
theorem dX3_makeDecision_30 : decode cX3_makeDecision 30 = .ok (.getfield 28, 3) := by decide +kernel
theorem dX3_makeDecision_33 : decode cX3_makeDecision 33 = .ok (.iload 4, 2) := by decide +kernel
theorem dX3_makeDecision_35 : decode cX3_makeDecision 35 = .ok (.aload_n 0, 1) := by decide +kernel
theorem dX3_makeDecision_36 : decode cX3_makeDecision 36 = .ok (.getfield 21, 3) := by decide +kernel
theorem dX3_makeDecision_39 : decode cX3_makeDecision 39 = .ok (.iload_n 1, 1) := by decide +kernel
theorem dX3_makeDecision_40 : decode cX3_makeDecision 40 = .ok (.invokevirtual 102, 3) := by decide +kernel
theorem dX3_makeDecision_43 : decode cX3_makeDecision 43 = .ok (.iload_n 2, 1) := by decide +kernel
theorem dX3_makeDecision_44 : decode cX3_makeDecision 44 = .ok (.aload_n 0, 1) := by decide +kernel
theorem dX3_makeDecision_45 : decode cX3_makeDecision 45 = .ok (.getfield 68, 3) := by decide +kernel
theorem dX3_makeDecision_48 : decode cX3_makeDecision 48 = .ok (.iload_n 1, 1) := by decide +kernel
theorem dX3_makeDecision_49 : decode cX3_makeDecision 49 = .ok (.invokevirtual 147, 3) := by decide +kernel
theorem dX3_makeDecision_52 : decode cX3_makeDecision 52 = .ok (.istore 6, 2) := by decide +kernel
theorem dX3_makeDecision_54 : decode cX3_makeDecision 54 = .ok (.aload_n 0, 1) := by decide +kernel
theorem dX3_makeDecision_55 : decode cX3_makeDecision 55 = .ok (.getfield 21, 3) := by decide +kernel
theorem dX3_makeDecision_58 : decode cX3_makeDecision 58 = .ok (.iload_n 1, 1) := by decide +kernel
theorem dX3_makeDecision_59 : decode cX3_makeDecision 59 = .ok (.aload_n 0, 1) := by decide +kernel
theorem dX3_makeDecision_60 : decode cX3_makeDecision 60 = .ok (.getfield 68, 3) := by decide +kernel
theorem dX3_makeDecision_63 : decode cX3_makeDecision 63 = .ok (.iload 6, 2) := by decide +kernel
theorem dX3_makeDecision_65 : decode cX3_makeDecision 65 = .ok (.iconst 0, 1) := by decide +kernel
theorem dX3_makeDecision_66 : decode cX3_makeDecision 66 = .ok (.invokevirtual 151, 3) := by decide +kernel
theorem dX3_makeDecision_69 : decode cX3_makeDecision 69 = .ok (.goto 48, 3) := by decide +kernel
theorem dX3_makeDecision_72 : decode cX3_makeDecision 72 = .ok (.aload_n 0, 1) := by decide +kernel
theorem dX3_makeDecision_73 : decode cX3_makeDecision 73 = .ok (.getfield 28, 3) := by decide +kernel
theorem dX3_makeDecision_76 : decode cX3_makeDecision 76 = .ok (.iload 5, 2) := by decide +kernel
theorem dX3_makeDecision_78 : decode cX3_makeDecision 78 = .ok (.invokevirtual 92, 3) := by decide +kernel
theorem dX3_makeDecision_81 : decode cX3_makeDecision 81 = .ok (.iload_n 2, 1) := by decide +kernel
theorem dX3_makeDecision_82 : decode cX3_makeDecision 82 = .ok (.if_icmp .ne 21, 3) := by decide +kernel
theorem dX3_makeDecision_85 : decode cX3_makeDecision 85 = .ok (.aload_n 0, 1) := by decide +kernel
theorem dX3_makeDecision_86 : decode cX3_makeDecision 86 = .ok (.getfield 21, 3) := by decide +kernel
theorem dX3_makeDecision_89 : decode cX3_makeDecision 89 = .ok (.iload_n 1, 1) := by decide +kernel
theorem dX3_makeDecision_90 : decode cX3_makeDecision 90 = .ok (.aload_n 0, 1) := by decide +kernel
theorem dX3_makeDecision_91 : decode cX3_makeDecision 91 = .ok (.getfield 68, 3) := by decide +kernel
theorem dX3_makeDecision_94 : decode cX3_makeDecision 94 = .ok (.iload 5, 2) := by decide +kernel
theorem dX3_makeDecision_96 : decode cX3_makeDecision 96 = .ok (.iconst 0, 1) := by decide +kernel
theorem dX3_makeDecision_97 : decode cX3_makeDecision 97 = .ok (.invokevirtual 151, 3) := by decide +kernel
theorem dX3_makeDecision_100 : decode cX3_makeDecision 100 = .ok (.goto 17, 3) := by decide +kernel
theorem dX3_makeDecision_103 : decode cX3_makeDecision 103 = .ok (.aload_n 0, 1) := by decide +kernel
theorem dX3_makeDecision_104 : decode cX3_makeDecision 104 = .ok (.getfield 21, 3) := by decide +kernel
theorem dX3_makeDecision_107 : decode cX3_makeDecision 107 = .ok (.iload_n 1, 1) := by decide +kernel
theorem dX3_makeDecision_108 : decode cX3_makeDecision 108 = .ok (.aload_n 0, 1) := by decide +kernel
theorem dX3_makeDecision_109 : decode cX3_makeDecision 109 = .ok (.getfield 68, 3) := by decide +kernel
theorem dX3_makeDecision_112 : decode cX3_makeDecision 112 = .ok (.iconst (-1), 1) := by decide +kernel
theorem dX3_makeDecision_113 : decode cX3_makeDecision 113 = .ok (.iload_n 3, 1) := by decide +kernel
theorem dX3_makeDecision_114 : decode cX3_makeDecision 114 = .ok (.invokevirtual 151, 3) := by decide +kernel
theorem dX3_makeDecision_117 : decode cX3_makeDecision 117 = .ok (.aload_n 0, 1) := by decide +kernel
theorem dX3_makeDecision_118 : decode cX3_makeDecision 118 = .ok (.iload_n 1, 1) := by decide +kernel
theorem dX3_makeDecision_119 : decode cX3_makeDecision 119 = .ok (.invokevirtual 124, 3) := by decide +kernel
theorem dX3_makeDecision_122 : decode cX3_makeDecision 122 = .ok (.ireturn, 1) := by decide +kernel
theorem dX3_canBeAppealed_0 : decode cX3_canBeAppealed 0 = .ok (.aload_n 0, 1) := by decide +kernel
theorem dX3_canBeAppealed_1 : decode cX3_canBeAppealed 1 = .ok (.getfield 21, 3) := by decide +kernel
theorem dX3_canBeAppealed_4 : decode cX3_canBeAppealed 4 = .ok (.iload_n 1, 1) := by decide +kernel
theorem dX3_canBeAppealed_5 : decode cX3_canBeAppealed 5 = .ok (.invokevirtual 112, 3) := by decide +kernel
theorem dX3_canBeAppealed_8 : decode cX3_canBeAppealed 8 = .ok (.iconst 1, 1) := by decide +kernel
theorem dX3_canBeAppealed_9 : decode cX3_canBeAppealed 9 = .ok (.if_icmp .ne 28, 3) := by decide +kernel
theorem dX3_canBeAppealed_12 : decode cX3_canBeAppealed 12 = .ok (.aload_n 0, 1) := by decide +kernel
theorem dX3_canBeAppealed_13 : decode cX3_canBeAppealed 13 = .ok (.getfield 68, 3) := by decide +kernel
theorem dX3_canBeAppealed_16 : decode cX3_canBeAppealed 16 = .ok (.aload_n 0, 1) := by decide +kernel
theorem dX3_canBeAppealed_17 : decode cX3_canBeAppealed 17 = .ok (.getfield 21, 3) := by decide +kernel
theorem dX3_canBeAppealed_20 : decode cX3_canBeAppealed 20 = .ok (.iload_n 1, 1) := by decide +kernel
theorem dX3_canBeAppealed_21 : decode cX3_canBeAppealed 21 = .ok (.invokevirtual 162, 3) := by decide +kernel
theorem dX3_canBeAppealed_24 : decode cX3_canBeAppealed 24 = .ok (.aload_n 0, 1) := by decide +kernel
theorem dX3_canBeAppealed_25 : decode cX3_canBeAppealed 25 = .ok (.iconst 1, 1) := by decide +kernel
theorem dX3_canBeAppealed_26 : decode cX3_canBeAppealed 26 = .ok (.invokevirtual 79, 3) := by decide +kernel
theorem dX3_canBeAppealed_29 : decode cX3_canBeAppealed 29 = .ok (.iadd, 1) := by decide +kernel
theorem dX3_canBeAppealed_30 : decode cX3_canBeAppealed 30 = .ok (.if_icmp .gt 7, 3) := by decide +kernel
theorem dX3_canBeAppealed_33 : decode cX3_canBeAppealed 33 = .ok (.iconst 1, 1) := by decide +kernel
theorem dX3_canBeAppealed_34 : decode cX3_canBeAppealed 34 = .ok (.goto 4, 3) := by decide +kernel
theorem dX3_canBeAppealed_37 : decode cX3_canBeAppealed 37 = .ok (.iconst 0, 1) := by decide +kernel
theorem dX3_canBeAppealed_38 : decode cX3_canBeAppealed 38 = .ok (.ireturn, 1) := by decide +kernel
theorem dX3_againstJudgement_0 : decode cX3_againstJudgement 0 = .ok (.aload_n 0, 1) := by decide +kernel
theorem dX3_againstJudgement_1 : decode cX3_againstJudgement 1 = .ok (.getfield 21, 3) := by decide +kernel
theorem dX3_againstJudgement_4 : decode cX3_againstJudgement 4 = .ok (.iload_n 1, 1) := by decide +kernel
theorem dX3_againstJudgement_5 : decode cX3_againstJudgement 5 = .ok (.invokevirtual 99, 3) := by decide +kernel
theorem dX3_againstJudgement_8 : decode cX3_againstJudgement 8 = .ok (.istore_n 3, 1) := by decide +kernel
theorem dX3_againstJudgement_9 : decode cX3_againstJudgement 9 = .ok (.aload_n 0, 1) := by decide +kernel
theorem dX3_againstJudgement_10 : decode cX3_againstJudgement 10 = .ok (.getfield 21, 3) := by decide +kernel
theorem dX3_againstJudgement_13 : decode cX3_againstJudgement 13 = .ok (.iload_n 1, 1) := by decide +kernel
theorem dX3_againstJudgement_14 : decode cX3_againstJudgement 14 = .ok (.invokevirtual 112, 3) := by decide +kernel
theorem dX3_againstJudgement_17 : decode cX3_againstJudgement 17 = .ok (.iconst 2, 1) := by decide +kernel
theorem dX3_againstJudgement_18 : decode cX3_againstJudgement 18 = .ok (.if_icmp .eq 5, 3) := by decide +kernel
theorem dX3_againstJudgement_21 : decode cX3_againstJudgement 21 = .ok (.iconst 1, 1) := by decide +kernel
theorem dX3_againstJudgement_22 : decode cX3_againstJudgement 22 = .ok (.ireturn, 1) := by decide +kernel
theorem dX3_againstJudgement_23 : decode cX3_againstJudgement 23 = .ok (.aload_n 0, 1) := by decide +kernel
theorem dX3_againstJudgement_24 : decode cX3_againstJudgement 24 = .ok (.getfield 12, 3) := by decide +kernel
theorem dX3_againstJudgement_27 : decode cX3_againstJudgement 27 = .ok (.iload_n 3, 1) := by decide +kernel
theorem dX3_againstJudgement_28 : decode cX3_againstJudgement 28 = .ok (.iload_n 2, 1) := by decide +kernel
theorem dX3_againstJudgement_29 : decode cX3_againstJudgement 29 = .ok (.invokevirtual 95, 3) := by decide +kernel
theorem dX3_againstJudgement_32 : decode cX3_againstJudgement 32 = .ok (.ifCond .ne 5, 3) := by decide +kernel
theorem dX3_againstJudgement_35 : decode cX3_againstJudgement 35 = .ok (.iconst 2, 1) := by decide +kernel
theorem dX3_againstJudgement_36 : decode cX3_againstJudgement 36 = .ok (.ireturn, 1) := by decide +kernel
theorem dX3_againstJudgement_37 : decode cX3_againstJudgement 37 = .ok (.aload_n 0, 1) := by decide +kernel
theorem dX3_againstJudgement_38 : decode cX3_againstJudgement 38 = .ok (.getfield 12, 3) := by decide +kernel
theorem dX3_againstJudgement_41 : decode cX3_againstJudgement 41 = .ok (.iload_n 3, 1) := by decide +kernel
theorem dX3_againstJudgement_42 : decode cX3_againstJudgement 42 = .ok (.iload_n 2, 1) := by decide +kernel
theorem dX3_againstJudgement_43 : decode cX3_againstJudgement 43 = .ok (.aload_n 0, 1) := by decide +kernel
theorem dX3_againstJudgement_44 : decode cX3_againstJudgement 44 = .ok (.getfield 21, 3) := by decide +kernel
theorem dX3_againstJudgement_47 : decode cX3_againstJudgement 47 = .ok (.iload_n 1, 1) := by decide +kernel
theorem dX3_againstJudgement_48 : decode cX3_againstJudgement 48 = .ok (.invokevirtual 127, 3) := by decide +kernel
theorem dX3_againstJudgement_51 : decode cX3_againstJudgement 51 = .ok (.invokevirtual 130, 3) := by decide +kernel
theorem dX3_againstJudgement_54 : decode cX3_againstJudgement 54 = .ok (.ifCond .ne 5, 3) := by decide +kernel
theorem dX3_againstJudgement_57 : decode cX3_againstJudgement 57 = .ok (.iconst 3, 1) := by decide +kernel
theorem dX3_againstJudgement_58 : decode cX3_againstJudgement 58 = .ok (.ireturn, 1) := by decide +kernel
theorem dX3_againstJudgement_59 : decode cX3_againstJudgement 59 = .ok (.aload_n 0, 1) := by decide +kernel
theorem dX3_againstJudgement_60 : decode cX3_againstJudgement 60 = .ok (.getfield 12, 3) := by decide +kernel
theorem dX3_againstJudgement_63 : decode cX3_againstJudgement 63 = .ok (.iload_n 3, 1) := by decide +kernel
theorem dX3_againstJudgement_64 : decode cX3_againstJudgement 64 = .ok (.iload_n 2, 1) := by decide +kernel
theorem dX3_againstJudgement_65 : decode cX3_againstJudgement 65 = .ok (.invokevirtual 137, 3) := by decide +kernel
theorem dX3_againstJudgement_68 : decode cX3_againstJudgement 68 = .ok (.aload_n 0, 1) := by decide +kernel
theorem dX3_againstJudgement_69 : decode cX3_againstJudgement 69 = .ok (.getfield 21, 3) := by decide +kernel
theorem dX3_againstJudgement_72 : decode cX3_againstJudgement 72 = .ok (.iload_n 1, 1) := by decide +kernel
theorem dX3_againstJudgement_73 : decode cX3_againstJudgement 73 = .ok (.invokevirtual 155, 3) := by decide +kernel
theorem dX3_againstJudgement_76 : decode cX3_againstJudgement 76 = .ok (.isub, 1) := by decide +kernel
theorem dX3_againstJudgement_77 : decode cX3_againstJudgement 77 = .ok (.istore 4, 2) := by decide +kernel
theorem dX3_againstJudgement_79 : decode cX3_againstJudgement 79 = .ok (.iload 4, 2) := by decide +kernel
theorem dX3_againstJudgement_81 : decode cX3_againstJudgement 81 = .ok (.ifCond .ge 5, 3) := by decide +kernel
theorem dX3_againstJudgement_84 : decode cX3_againstJudgement 84 = .ok (.iconst 4, 1) := by decide +kernel
theorem dX3_againstJudgement_85 : decode cX3_againstJudgement 85 = .ok (.ireturn, 1) := by decide +kernel
theorem dX3_againstJudgement_86 : decode cX3_againstJudgement 86 = .ok (.iload 4, 2) := by decide +kernel
theorem dX3_againstJudgement_88 : decode cX3_againstJudgement 88 = .ok (.aload_n 0, 1) := by decide +kernel
theorem dX3_againstJudgement_89 : decode cX3_againstJudgement 89 = .ok (.iload_n 3, 1) := by decide +kernel
theorem dX3_againstJudgement_90 : decode cX3_againstJudgement 90 = .ok (.invokevirtual 140, 3) := by decide +kernel
theorem dX3_againstJudgement_93 : decode cX3_againstJudgement 93 = .ok (.if_icmp .le 7, 3) := by decide +kernel
theorem dX3_againstJudgement_96 : decode cX3_againstJudgement 96 = .ok (.iconst 5, 1) := by decide +kernel
theorem dX3_againstJudgement_97 : decode cX3_againstJudgement 97 = .ok (.goto 4, 3) := by decide +kernel
theorem dX3_againstJudgement_100 : decode cX3_againstJudgement 100 = .ok (.iconst 0, 1) := by decide +kernel
theorem dX3_againstJudgement_101 : decode cX3_againstJudgement 101 = .ok (.ireturn, 1) := by decide +kernel
theorem dX3_owedTo_0 : decode cX3_owedTo 0 = .ok (.aload_n 0, 1) := by decide +kernel
theorem dX3_owedTo_1 : decode cX3_owedTo 1 = .ok (.getfield 21, 3) := by decide +kernel
theorem dX3_owedTo_4 : decode cX3_owedTo 4 = .ok (.iload_n 1, 1) := by decide +kernel
theorem dX3_owedTo_5 : decode cX3_owedTo 5 = .ok (.invokevirtual 115, 3) := by decide +kernel
theorem dX3_owedTo_8 : decode cX3_owedTo 8 = .ok (.istore_n 2, 1) := by decide +kernel
theorem dX3_owedTo_9 : decode cX3_owedTo 9 = .ok (.aload_n 0, 1) := by decide +kernel
theorem dX3_owedTo_10 : decode cX3_owedTo 10 = .ok (.getfield 28, 3) := by decide +kernel
theorem dX3_owedTo_13 : decode cX3_owedTo 13 = .ok (.iload_n 2, 1) := by decide +kernel
theorem dX3_owedTo_14 : decode cX3_owedTo 14 = .ok (.invokevirtual 86, 3) := by decide +kernel
theorem dX3_owedTo_17 : decode cX3_owedTo 17 = .ok (.ifCond .ne 5, 3) := by decide +kernel
theorem dX3_owedTo_20 : decode cX3_owedTo 20 = .ok (.iconst 0, 1) := by decide +kernel
theorem dX3_owedTo_21 : decode cX3_owedTo 21 = .ok (.ireturn, 1) := by decide +kernel
theorem dX3_owedTo_22 : decode cX3_owedTo 22 = .ok (.aload_n 0, 1) := by decide +kernel
theorem dX3_owedTo_23 : decode cX3_owedTo 23 = .ok (.getfield 12, 3) := by decide +kernel
theorem dX3_owedTo_26 : decode cX3_owedTo 26 = .ok (.aload_n 0, 1) := by decide +kernel
theorem dX3_owedTo_27 : decode cX3_owedTo 27 = .ok (.getfield 21, 3) := by decide +kernel
theorem dX3_owedTo_30 : decode cX3_owedTo 30 = .ok (.iload_n 1, 1) := by decide +kernel
theorem dX3_owedTo_31 : decode cX3_owedTo 31 = .ok (.invokevirtual 99, 3) := by decide +kernel
theorem dX3_owedTo_34 : decode cX3_owedTo 34 = .ok (.aload_n 0, 1) := by decide +kernel
theorem dX3_owedTo_35 : decode cX3_owedTo 35 = .ok (.getfield 28, 3) := by decide +kernel
theorem dX3_owedTo_38 : decode cX3_owedTo 38 = .ok (.iload_n 2, 1) := by decide +kernel
theorem dX3_owedTo_39 : decode cX3_owedTo 39 = .ok (.invokevirtual 92, 3) := by decide +kernel
theorem dX3_owedTo_42 : decode cX3_owedTo 42 = .ok (.invokevirtual 137, 3) := by decide +kernel
theorem dX3_owedTo_45 : decode cX3_owedTo 45 = .ok (.istore_n 3, 1) := by decide +kernel
theorem dX3_owedTo_46 : decode cX3_owedTo 46 = .ok (.iconst 0, 1) := by decide +kernel
theorem dX3_owedTo_47 : decode cX3_owedTo 47 = .ok (.iload_n 3, 1) := by decide +kernel
theorem dX3_owedTo_48 : decode cX3_owedTo 48 = .ok (.aload_n 0, 1) := by decide +kernel
theorem dX3_owedTo_49 : decode cX3_owedTo 49 = .ok (.getfield 21, 3) := by decide +kernel
theorem dX3_owedTo_52 : decode cX3_owedTo 52 = .ok (.iload_n 1, 1) := by decide +kernel
theorem dX3_owedTo_53 : decode cX3_owedTo 53 = .ok (.invokevirtual 155, 3) := by decide +kernel
theorem dX3_owedTo_56 : decode cX3_owedTo 56 = .ok (.isub, 1) := by decide +kernel
theorem dX3_owedTo_57 : decode cX3_owedTo 57 = .ok (.invokestatic 172, 3) := by decide +kernel
theorem dX3_owedTo_60 : decode cX3_owedTo 60 = .ok (.ireturn, 1) := by decide +kernel
theorem dX3_topUp_0 : decode cX3_topUp 0 = .ok (.aload_n 0, 1) := by decide +kernel
theorem dX3_topUp_1 : decode cX3_topUp 1 = .ok (.iload_n 1, 1) := by decide +kernel
theorem dX3_topUp_2 : decode cX3_topUp 2 = .ok (.invokevirtual 177, 3) := by decide +kernel
theorem dX3_topUp_5 : decode cX3_topUp 5 = .ok (.istore_n 2, 1) := by decide +kernel
theorem dX3_topUp_6 : decode cX3_topUp 6 = .ok (.iload_n 2, 1) := by decide +kernel
theorem dX3_topUp_7 : decode cX3_topUp 7 = .ok (.ifCond .eq 19, 3) := by decide +kernel
theorem dX3_topUp_10 : decode cX3_topUp 10 = .ok (.iload_n 2, 1) := by decide +kernel
theorem dX3_topUp_11 : decode cX3_topUp 11 = .ok (.aload_n 0, 1) := by decide +kernel
theorem dX3_topUp_12 : decode cX3_topUp 12 = .ok (.aload_n 0, 1) := by decide +kernel
theorem dX3_topUp_13 : decode cX3_topUp 13 = .ok (.getfield 21, 3) := by decide +kernel
theorem dX3_topUp_16 : decode cX3_topUp 16 = .ok (.iload_n 1, 1) := by decide +kernel
theorem dX3_topUp_17 : decode cX3_topUp 17 = .ok (.invokevirtual 99, 3) := by decide +kernel
theorem dX3_topUp_20 : decode cX3_topUp 20 = .ok (.invokevirtual 140, 3) := by decide +kernel
theorem dX3_topUp_23 : decode cX3_topUp 23 = .ok (.if_icmp .le 5, 3) := by decide +kernel
theorem dX3_topUp_26 : decode cX3_topUp 26 = .ok (.iconst 0, 1) := by decide +kernel
theorem dX3_topUp_27 : decode cX3_topUp 27 = .ok (.ireturn, 1) := by decide +kernel
theorem dX3_topUp_28 : decode cX3_topUp 28 = .ok (.aload_n 0, 1) := by decide +kernel
theorem dX3_topUp_29 : decode cX3_topUp 29 = .ok (.iload_n 1, 1) := by decide +kernel
theorem dX3_topUp_30 : decode cX3_topUp 30 = .ok (.aload_n 0, 1) := by decide +kernel
theorem dX3_topUp_31 : decode cX3_topUp 31 = .ok (.getfield 28, 3) := by decide +kernel
theorem dX3_topUp_34 : decode cX3_topUp 34 = .ok (.aload_n 0, 1) := by decide +kernel
theorem dX3_topUp_35 : decode cX3_topUp 35 = .ok (.getfield 21, 3) := by decide +kernel
theorem dX3_topUp_38 : decode cX3_topUp 38 = .ok (.iload_n 1, 1) := by decide +kernel
theorem dX3_topUp_39 : decode cX3_topUp 39 = .ok (.invokevirtual 115, 3) := by decide +kernel
theorem dX3_topUp_42 : decode cX3_topUp 42 = .ok (.invokevirtual 92, 3) := by decide +kernel
theorem dX3_topUp_45 : decode cX3_topUp 45 = .ok (.invokevirtual 143, 3) := by decide +kernel
theorem dX3_topUp_48 : decode cX3_topUp 48 = .ok (.iload_n 2, 1) := by decide +kernel
theorem dX3_topUp_49 : decode cX3_topUp 49 = .ok (.ireturn, 1) := by decide +kernel
theorem dX3_makeJudgement_0 : decode cX3_makeJudgement 0 = .ok (.aload_n 0, 1) := by decide +kernel
theorem dX3_makeJudgement_1 : decode cX3_makeJudgement 1 = .ok (.iload_n 1, 1) := by decide +kernel
theorem dX3_makeJudgement_2 : decode cX3_makeJudgement 2 = .ok (.iload_n 2, 1) := by decide +kernel
theorem dX3_makeJudgement_3 : decode cX3_makeJudgement 3 = .ok (.invokevirtual 143, 3) := by decide +kernel
theorem dX3_makeJudgement_6 : decode cX3_makeJudgement 6 = .ok (.aload_n 0, 1) := by decide +kernel
theorem dX3_makeJudgement_7 : decode cX3_makeJudgement 7 = .ok (.getfield 21, 3) := by decide +kernel
theorem dX3_makeJudgement_10 : decode cX3_makeJudgement 10 = .ok (.iload_n 1, 1) := by decide +kernel
theorem dX3_makeJudgement_11 : decode cX3_makeJudgement 11 = .ok (.iconst 3, 1) := by decide +kernel
theorem dX3_makeJudgement_12 : decode cX3_makeJudgement 12 = .ok (.invokevirtual 163, 3) := by decide +kernel
theorem dX3_makeJudgement_15 : decode cX3_makeJudgement 15 = .ok (.aload_n 0, 1) := by decide +kernel
theorem dX3_makeJudgement_16 : decode cX3_makeJudgement 16 = .ok (.getfield 21, 3) := by decide +kernel
theorem dX3_makeJudgement_19 : decode cX3_makeJudgement 19 = .ok (.iload_n 1, 1) := by decide +kernel
theorem dX3_makeJudgement_20 : decode cX3_makeJudgement 20 = .ok (.invokevirtual 99, 3) := by decide +kernel
theorem dX3_makeJudgement_23 : decode cX3_makeJudgement 23 = .ok (.istore_n 3, 1) := by decide +kernel
theorem dX3_makeJudgement_24 : decode cX3_makeJudgement 24 = .ok (.aload_n 0, 1) := by decide +kernel
theorem dX3_makeJudgement_25 : decode cX3_makeJudgement 25 = .ok (.getfield 21, 3) := by decide +kernel
theorem dX3_makeJudgement_28 : decode cX3_makeJudgement 28 = .ok (.iload_n 1, 1) := by decide +kernel
theorem dX3_makeJudgement_29 : decode cX3_makeJudgement 29 = .ok (.invokevirtual 115, 3) := by decide +kernel
theorem dX3_makeJudgement_32 : decode cX3_makeJudgement 32 = .ok (.istore 4, 2) := by decide +kernel
theorem dX3_makeJudgement_34 : decode cX3_makeJudgement 34 = .ok (.aload_n 0, 1) := by decide +kernel
theorem dX3_makeJudgement_35 : decode cX3_makeJudgement 35 = .ok (.getfield 12, 3) := by decide +kernel
theorem dX3_makeJudgement_38 : decode cX3_makeJudgement 38 = .ok (.iload_n 3, 1) := by decide +kernel
theorem dX3_makeJudgement_39 : decode cX3_makeJudgement 39 = .ok (.aload_n 0, 1) := by decide +kernel
theorem dX3_makeJudgement_40 : decode cX3_makeJudgement 40 = .ok (.getfield 28, 3) := by decide +kernel
theorem dX3_makeJudgement_43 : decode cX3_makeJudgement 43 = .ok (.iload 4, 2) := by decide +kernel
theorem dX3_makeJudgement_45 : decode cX3_makeJudgement 45 = .ok (.invokevirtual 92, 3) := by decide +kernel
theorem dX3_makeJudgement_48 : decode cX3_makeJudgement 48 = .ok (.invokevirtual 137, 3) := by decide +kernel
theorem dX3_makeJudgement_51 : decode cX3_makeJudgement 51 = .ok (.istore 5, 2) := by decide +kernel
theorem dX3_makeJudgement_53 : decode cX3_makeJudgement 53 = .ok (.iload 4, 2) := by decide +kernel
theorem dX3_makeJudgement_55 : decode cX3_makeJudgement 55 = .ok (.iconst (-1), 1) := by decide +kernel
theorem dX3_makeJudgement_56 : decode cX3_makeJudgement 56 = .ok (.if_icmp .eq 17, 3) := by decide +kernel
theorem dX3_makeJudgement_59 : decode cX3_makeJudgement 59 = .ok (.aload_n 0, 1) := by decide +kernel
theorem dX3_makeJudgement_60 : decode cX3_makeJudgement 60 = .ok (.getfield 12, 3) := by decide +kernel
theorem dX3_makeJudgement_63 : decode cX3_makeJudgement 63 = .ok (.iload_n 3, 1) := by decide +kernel
theorem dX3_makeJudgement_64 : decode cX3_makeJudgement 64 = .ok (.iload_n 2, 1) := by decide +kernel
theorem dX3_makeJudgement_65 : decode cX3_makeJudgement 65 = .ok (.invokevirtual 137, 3) := by decide +kernel
theorem dX3_makeJudgement_68 : decode cX3_makeJudgement 68 = .ok (.iload 5, 2) := by decide +kernel
theorem dX3_makeJudgement_70 : decode cX3_makeJudgement 70 = .ok (.if_icmp .gt 5, 3) := by decide +kernel
theorem dX3_makeJudgement_73 : decode cX3_makeJudgement 73 = .ok (.iconst 0, 1) := by decide +kernel
theorem dX3_makeJudgement_74 : decode cX3_makeJudgement 74 = .ok (.ireturn, 1) := by decide +kernel
theorem dX3_makeJudgement_75 : decode cX3_makeJudgement 75 = .ok (.aload_n 0, 1) := by decide +kernel
theorem dX3_makeJudgement_76 : decode cX3_makeJudgement 76 = .ok (.getfield 28, 3) := by decide +kernel
theorem dX3_makeJudgement_79 : decode cX3_makeJudgement 79 = .ok (.iload 4, 2) := by decide +kernel
theorem dX3_makeJudgement_81 : decode cX3_makeJudgement 81 = .ok (.iload_n 2, 1) := by decide +kernel
theorem dX3_makeJudgement_82 : decode cX3_makeJudgement 82 = .ok (.invokevirtual 166, 3) := by decide +kernel
theorem dX3_makeJudgement_85 : decode cX3_makeJudgement 85 = .ok (.iconst 0, 1) := by decide +kernel
theorem dX3_makeJudgement_86 : decode cX3_makeJudgement 86 = .ok (.istore 6, 2) := by decide +kernel
theorem dX3_makeJudgement_88 : decode cX3_makeJudgement 88 = .ok (.iconst 0, 1) := by decide +kernel
theorem dX3_makeJudgement_89 : decode cX3_makeJudgement 89 = .ok (.istore 7, 2) := by decide +kernel
theorem dX3_makeJudgement_91 : decode cX3_makeJudgement 91 = .ok (.iload 7, 2) := by decide +kernel
theorem dX3_makeJudgement_93 : decode cX3_makeJudgement 93 = .ok (.aload_n 0, 1) := by decide +kernel
theorem dX3_makeJudgement_94 : decode cX3_makeJudgement 94 = .ok (.getfield 21, 3) := by decide +kernel
theorem dX3_makeJudgement_97 : decode cX3_makeJudgement 97 = .ok (.getfield 121, 3) := by decide +kernel
theorem dX3_makeJudgement_100 : decode cX3_makeJudgement 100 = .ok (.if_icmp .ge 35, 3) := by decide +kernel
theorem dX3_makeJudgement_103 : decode cX3_makeJudgement 103 = .ok (.aload_n 0, 1) := by decide +kernel
theorem dX3_makeJudgement_104 : decode cX3_makeJudgement 104 = .ok (.getfield 21, 3) := by decide +kernel
theorem dX3_makeJudgement_107 : decode cX3_makeJudgement 107 = .ok (.iload 7, 2) := by decide +kernel
theorem dX3_makeJudgement_109 : decode cX3_makeJudgement 109 = .ok (.invokevirtual 115, 3) := by decide +kernel
theorem dX3_makeJudgement_112 : decode cX3_makeJudgement 112 = .ok (.iload 4, 2) := by decide +kernel
theorem dX3_makeJudgement_114 : decode cX3_makeJudgement 114 = .ok (.if_icmp .ne 15, 3) := by decide +kernel
theorem dX3_makeJudgement_117 : decode cX3_makeJudgement 117 = .ok (.aload_n 0, 1) := by decide +kernel
theorem dX3_makeJudgement_118 : decode cX3_makeJudgement 118 = .ok (.iload 7, 2) := by decide +kernel
theorem dX3_makeJudgement_120 : decode cX3_makeJudgement 120 = .ok (.invokevirtual 169, 3) := by decide +kernel
theorem dX3_makeJudgement_123 : decode cX3_makeJudgement 123 = .ok (.ifCond .le 6, 3) := by decide +kernel
theorem dX3_makeJudgement_126 : decode cX3_makeJudgement 126 = .ok (.iinc 6 1, 3) := by decide +kernel
theorem dX3_makeJudgement_129 : decode cX3_makeJudgement 129 = .ok (.iinc 7 1, 3) := by decide +kernel
theorem dX3_makeJudgement_132 : decode cX3_makeJudgement 132 = .ok (.goto (-41), 3) := by decide +kernel
theorem dX3_makeJudgement_135 : decode cX3_makeJudgement 135 = .ok (.iload 6, 2) := by decide +kernel
theorem dX3_makeJudgement_137 : decode cX3_makeJudgement 137 = .ok (.ireturn, 1) := by decide +kernel
theorem dX3_turnMonth_0 : decode cX3_turnMonth 0 = .ok (.aload_n 0, 1) := by decide +kernel
theorem dX3_turnMonth_1 : decode cX3_turnMonth 1 = .ok (.dup, 1) := by decide +kernel
theorem dX3_turnMonth_2 : decode cX3_turnMonth 2 = .ok (.getfield 68, 3) := by decide +kernel
theorem dX3_turnMonth_5 : decode cX3_turnMonth 5 = .ok (.iconst 1, 1) := by decide +kernel
theorem dX3_turnMonth_6 : decode cX3_turnMonth 6 = .ok (.iadd, 1) := by decide +kernel
theorem dX3_turnMonth_7 : decode cX3_turnMonth 7 = .ok (.putfield 68, 3) := by decide +kernel
theorem dX3_turnMonth_10 : decode cX3_turnMonth 10 = .ok (.iconst 0, 1) := by decide +kernel
theorem dX3_turnMonth_11 : decode cX3_turnMonth 11 = .ok (.istore_n 1, 1) := by decide +kernel
theorem dX3_turnMonth_12 : decode cX3_turnMonth 12 = .ok (.iload_n 1, 1) := by decide +kernel
theorem dX3_turnMonth_13 : decode cX3_turnMonth 13 = .ok (.iconst 4, 1) := by decide +kernel
theorem dX3_turnMonth_14 : decode cX3_turnMonth 14 = .ok (.if_icmp .ge 43, 3) := by decide +kernel
theorem dX3_turnMonth_17 : decode cX3_turnMonth 17 = .ok (.aload_n 0, 1) := by decide +kernel
theorem dX3_turnMonth_18 : decode cX3_turnMonth 18 = .ok (.getfield 39, 3) := by decide +kernel
theorem dX3_turnMonth_21 : decode cX3_turnMonth 21 = .ok (.iload_n 1, 1) := by decide +kernel
theorem dX3_turnMonth_22 : decode cX3_turnMonth 22 = .ok (.aload_n 0, 1) := by decide +kernel
theorem dX3_turnMonth_23 : decode cX3_turnMonth 23 = .ok (.getfield 36, 3) := by decide +kernel
theorem dX3_turnMonth_26 : decode cX3_turnMonth 26 = .ok (.iload_n 1, 1) := by decide +kernel
theorem dX3_turnMonth_27 : decode cX3_turnMonth 27 = .ok (.iaload, 1) := by decide +kernel
theorem dX3_turnMonth_28 : decode cX3_turnMonth 28 = .ok (.aload_n 0, 1) := by decide +kernel
theorem dX3_turnMonth_29 : decode cX3_turnMonth 29 = .ok (.iload_n 1, 1) := by decide +kernel
theorem dX3_turnMonth_30 : decode cX3_turnMonth 30 = .ok (.invokevirtual 140, 3) := by decide +kernel
theorem dX3_turnMonth_33 : decode cX3_turnMonth 33 = .ok (.aload_n 0, 1) := by decide +kernel
theorem dX3_turnMonth_34 : decode cX3_turnMonth 34 = .ok (.iconst 2, 1) := by decide +kernel
theorem dX3_turnMonth_35 : decode cX3_turnMonth 35 = .ok (.invokevirtual 79, 3) := by decide +kernel
theorem dX3_turnMonth_38 : decode cX3_turnMonth 38 = .ok (.imul, 1) := by decide +kernel
theorem dX3_turnMonth_39 : decode cX3_turnMonth 39 = .ok (.bipush 100, 2) := by decide +kernel
theorem dX3_turnMonth_41 : decode cX3_turnMonth 41 = .ok (.idiv, 1) := by decide +kernel
theorem dX3_turnMonth_42 : decode cX3_turnMonth 42 = .ok (.iadd, 1) := by decide +kernel
theorem dX3_turnMonth_43 : decode cX3_turnMonth 43 = .ok (.iastore, 1) := by decide +kernel
theorem dX3_turnMonth_44 : decode cX3_turnMonth 44 = .ok (.aload_n 0, 1) := by decide +kernel
theorem dX3_turnMonth_45 : decode cX3_turnMonth 45 = .ok (.getfield 42, 3) := by decide +kernel
theorem dX3_turnMonth_48 : decode cX3_turnMonth 48 = .ok (.iload_n 1, 1) := by decide +kernel
theorem dX3_turnMonth_49 : decode cX3_turnMonth 49 = .ok (.iconst 0, 1) := by decide +kernel
theorem dX3_turnMonth_50 : decode cX3_turnMonth 50 = .ok (.iastore, 1) := by decide +kernel
theorem dX3_turnMonth_51 : decode cX3_turnMonth 51 = .ok (.iinc 1 1, 3) := by decide +kernel
theorem dX3_turnMonth_54 : decode cX3_turnMonth 54 = .ok (.goto (-42), 3) := by decide +kernel
theorem dX3_turnMonth_57 : decode cX3_turnMonth 57 = .ok (.iconst 0, 1) := by decide +kernel
theorem dX3_turnMonth_58 : decode cX3_turnMonth 58 = .ok (.istore_n 1, 1) := by decide +kernel
theorem dX3_turnMonth_59 : decode cX3_turnMonth 59 = .ok (.iconst 0, 1) := by decide +kernel
theorem dX3_turnMonth_60 : decode cX3_turnMonth 60 = .ok (.istore_n 2, 1) := by decide +kernel
theorem dX3_turnMonth_61 : decode cX3_turnMonth 61 = .ok (.iload_n 2, 1) := by decide +kernel
theorem dX3_turnMonth_62 : decode cX3_turnMonth 62 = .ok (.aload_n 0, 1) := by decide +kernel
theorem dX3_turnMonth_63 : decode cX3_turnMonth 63 = .ok (.getfield 21, 3) := by decide +kernel
theorem dX3_turnMonth_66 : decode cX3_turnMonth 66 = .ok (.getfield 121, 3) := by decide +kernel
theorem dX3_turnMonth_69 : decode cX3_turnMonth 69 = .ok (.if_icmp .ge 17, 3) := by decide +kernel
theorem dX3_turnMonth_72 : decode cX3_turnMonth 72 = .ok (.iload_n 1, 1) := by decide +kernel
theorem dX3_turnMonth_73 : decode cX3_turnMonth 73 = .ok (.aload_n 0, 1) := by decide +kernel
theorem dX3_turnMonth_74 : decode cX3_turnMonth 74 = .ok (.iload_n 2, 1) := by decide +kernel
theorem dX3_turnMonth_75 : decode cX3_turnMonth 75 = .ok (.invokevirtual 169, 3) := by decide +kernel
theorem dX3_turnMonth_78 : decode cX3_turnMonth 78 = .ok (.iadd, 1) := by decide +kernel
theorem dX3_turnMonth_79 : decode cX3_turnMonth 79 = .ok (.istore_n 1, 1) := by decide +kernel
theorem dX3_turnMonth_80 : decode cX3_turnMonth 80 = .ok (.iinc 2 1, 3) := by decide +kernel
theorem dX3_turnMonth_83 : decode cX3_turnMonth 83 = .ok (.goto (-22), 3) := by decide +kernel
theorem dX3_turnMonth_86 : decode cX3_turnMonth 86 = .ok (.iload_n 1, 1) := by decide +kernel
theorem dX3_turnMonth_87 : decode cX3_turnMonth 87 = .ok (.ireturn, 1) := by decide +kernel
theorem dX3_ofComplaint_0 : decode cX3_ofComplaint 0 = .ok (.iload_n 2, 1) := by decide +kernel
theorem dX3_ofComplaint_1 : decode cX3_ofComplaint 1 = .ok (.tableswitch 142 0 9 #[55, 64, 73, 82, 91, 100, 109, 118, 127, 136], 55) := by decide +kernel
theorem dX3_ofComplaint_56 : decode cX3_ofComplaint 56 = .ok (.aload_n 0, 1) := by decide +kernel
theorem dX3_ofComplaint_57 : decode cX3_ofComplaint 57 = .ok (.getfield 21, 3) := by decide +kernel
theorem dX3_ofComplaint_60 : decode cX3_ofComplaint 60 = .ok (.iload_n 1, 1) := by decide +kernel
theorem dX3_ofComplaint_61 : decode cX3_ofComplaint 61 = .ok (.invokevirtual 99, 3) := by decide +kernel
theorem dX3_ofComplaint_64 : decode cX3_ofComplaint 64 = .ok (.ireturn, 1) := by decide +kernel
theorem dX3_ofComplaint_65 : decode cX3_ofComplaint 65 = .ok (.aload_n 0, 1) := by decide +kernel
theorem dX3_ofComplaint_66 : decode cX3_ofComplaint 66 = .ok (.getfield 21, 3) := by decide +kernel
theorem dX3_ofComplaint_69 : decode cX3_ofComplaint 69 = .ok (.iload_n 1, 1) := by decide +kernel
theorem dX3_ofComplaint_70 : decode cX3_ofComplaint 70 = .ok (.invokevirtual 127, 3) := by decide +kernel
theorem dX3_ofComplaint_73 : decode cX3_ofComplaint 73 = .ok (.ireturn, 1) := by decide +kernel
theorem dX3_ofComplaint_74 : decode cX3_ofComplaint 74 = .ok (.aload_n 0, 1) := by decide +kernel
theorem dX3_ofComplaint_75 : decode cX3_ofComplaint 75 = .ok (.getfield 21, 3) := by decide +kernel
theorem dX3_ofComplaint_78 : decode cX3_ofComplaint 78 = .ok (.iload_n 1, 1) := by decide +kernel
theorem dX3_ofComplaint_79 : decode cX3_ofComplaint 79 = .ok (.invokevirtual 183, 3) := by decide +kernel
theorem dX3_ofComplaint_82 : decode cX3_ofComplaint 82 = .ok (.ireturn, 1) := by decide +kernel
theorem dX3_ofComplaint_83 : decode cX3_ofComplaint 83 = .ok (.aload_n 0, 1) := by decide +kernel
theorem dX3_ofComplaint_84 : decode cX3_ofComplaint 84 = .ok (.getfield 21, 3) := by decide +kernel
theorem dX3_ofComplaint_87 : decode cX3_ofComplaint 87 = .ok (.iload_n 1, 1) := by decide +kernel
theorem dX3_ofComplaint_88 : decode cX3_ofComplaint 88 = .ok (.invokevirtual 102, 3) := by decide +kernel
theorem dX3_ofComplaint_91 : decode cX3_ofComplaint 91 = .ok (.ireturn, 1) := by decide +kernel
theorem dX3_ofComplaint_92 : decode cX3_ofComplaint 92 = .ok (.aload_n 0, 1) := by decide +kernel
theorem dX3_ofComplaint_93 : decode cX3_ofComplaint 93 = .ok (.getfield 21, 3) := by decide +kernel
theorem dX3_ofComplaint_96 : decode cX3_ofComplaint 96 = .ok (.iload_n 1, 1) := by decide +kernel
theorem dX3_ofComplaint_97 : decode cX3_ofComplaint 97 = .ok (.invokevirtual 112, 3) := by decide +kernel
theorem dX3_ofComplaint_100 : decode cX3_ofComplaint 100 = .ok (.ireturn, 1) := by decide +kernel
theorem dX3_ofComplaint_101 : decode cX3_ofComplaint 101 = .ok (.aload_n 0, 1) := by decide +kernel
theorem dX3_ofComplaint_102 : decode cX3_ofComplaint 102 = .ok (.getfield 21, 3) := by decide +kernel
theorem dX3_ofComplaint_105 : decode cX3_ofComplaint 105 = .ok (.iload_n 1, 1) := by decide +kernel
theorem dX3_ofComplaint_106 : decode cX3_ofComplaint 106 = .ok (.invokevirtual 186, 3) := by decide +kernel
theorem dX3_ofComplaint_109 : decode cX3_ofComplaint 109 = .ok (.ireturn, 1) := by decide +kernel
theorem dX3_ofComplaint_110 : decode cX3_ofComplaint 110 = .ok (.aload_n 0, 1) := by decide +kernel
theorem dX3_ofComplaint_111 : decode cX3_ofComplaint 111 = .ok (.getfield 21, 3) := by decide +kernel
theorem dX3_ofComplaint_114 : decode cX3_ofComplaint 114 = .ok (.iload_n 1, 1) := by decide +kernel
theorem dX3_ofComplaint_115 : decode cX3_ofComplaint 115 = .ok (.invokevirtual 155, 3) := by decide +kernel
theorem dX3_ofComplaint_118 : decode cX3_ofComplaint 118 = .ok (.ireturn, 1) := by decide +kernel
theorem dX3_ofComplaint_119 : decode cX3_ofComplaint 119 = .ok (.aload_n 0, 1) := by decide +kernel
theorem dX3_ofComplaint_120 : decode cX3_ofComplaint 120 = .ok (.getfield 21, 3) := by decide +kernel
theorem dX3_ofComplaint_123 : decode cX3_ofComplaint 123 = .ok (.iload_n 1, 1) := by decide +kernel
theorem dX3_ofComplaint_124 : decode cX3_ofComplaint 124 = .ok (.invokevirtual 187, 3) := by decide +kernel
theorem dX3_ofComplaint_127 : decode cX3_ofComplaint 127 = .ok (.ireturn, 1) := by decide +kernel
theorem dX3_ofComplaint_128 : decode cX3_ofComplaint 128 = .ok (.aload_n 0, 1) := by decide +kernel
theorem dX3_ofComplaint_129 : decode cX3_ofComplaint 129 = .ok (.getfield 21, 3) := by decide +kernel
theorem dX3_ofComplaint_132 : decode cX3_ofComplaint 132 = .ok (.iload_n 1, 1) := by decide +kernel
theorem dX3_ofComplaint_133 : decode cX3_ofComplaint 133 = .ok (.invokevirtual 162, 3) := by decide +kernel
theorem dX3_ofComplaint_136 : decode cX3_ofComplaint 136 = .ok (.ireturn, 1) := by decide +kernel
theorem dX3_ofComplaint_137 : decode cX3_ofComplaint 137 = .ok (.aload_n 0, 1) := by decide +kernel
theorem dX3_ofComplaint_138 : decode cX3_ofComplaint 138 = .ok (.iload_n 1, 1) := by decide +kernel
theorem dX3_ofComplaint_139 : decode cX3_ofComplaint 139 = .ok (.invokevirtual 124, 3) := by decide +kernel
theorem dX3_ofComplaint_142 : decode cX3_ofComplaint 142 = .ok (.ireturn, 1) := by decide +kernel
theorem dX3_ofComplaint_143 : decode cX3_ofComplaint 143 = .ok (.aload_n 0, 1) := by decide +kernel
theorem dX3_ofComplaint_144 : decode cX3_ofComplaint 144 = .ok (.iload_n 1, 1) := by decide +kernel
theorem dX3_ofComplaint_145 : decode cX3_ofComplaint 145 = .ok (.invokevirtual 177, 3) := by decide +kernel
theorem dX3_ofComplaint_148 : decode cX3_ofComplaint 148 = .ok (.ireturn, 1) := by decide +kernel
theorem dX3_budgetOf_0 : decode cX3_budgetOf 0 = .ok (.iload_n 1, 1) := by decide +kernel
theorem dX3_budgetOf_1 : decode cX3_budgetOf 1 = .ok (.invokestatic 76, 3) := by decide +kernel
theorem dX3_budgetOf_4 : decode cX3_budgetOf 4 = .ok (.ifCond .eq 12, 3) := by decide +kernel
theorem dX3_budgetOf_7 : decode cX3_budgetOf 7 = .ok (.aload_n 0, 1) := by decide +kernel
theorem dX3_budgetOf_8 : decode cX3_budgetOf 8 = .ok (.getfield 39, 3) := by decide +kernel
theorem dX3_budgetOf_11 : decode cX3_budgetOf 11 = .ok (.iload_n 1, 1) := by decide +kernel
theorem dX3_budgetOf_12 : decode cX3_budgetOf 12 = .ok (.iaload, 1) := by decide +kernel
theorem dX3_budgetOf_13 : decode cX3_budgetOf 13 = .ok (.goto 4, 3) := by decide +kernel
theorem dX3_budgetOf_16 : decode cX3_budgetOf 16 = .ok (.iconst 0, 1) := by decide +kernel
theorem dX3_budgetOf_17 : decode cX3_budgetOf 17 = .ok (.ireturn, 1) := by decide +kernel
theorem dX3_spentOf_0 : decode cX3_spentOf 0 = .ok (.iload_n 1, 1) := by decide +kernel
theorem dX3_spentOf_1 : decode cX3_spentOf 1 = .ok (.invokestatic 76, 3) := by decide +kernel
theorem dX3_spentOf_4 : decode cX3_spentOf 4 = .ok (.ifCond .eq 12, 3) := by decide +kernel
theorem dX3_spentOf_7 : decode cX3_spentOf 7 = .ok (.aload_n 0, 1) := by decide +kernel
theorem dX3_spentOf_8 : decode cX3_spentOf 8 = .ok (.getfield 42, 3) := by decide +kernel
theorem dX3_spentOf_11 : decode cX3_spentOf 11 = .ok (.iload_n 1, 1) := by decide +kernel
theorem dX3_spentOf_12 : decode cX3_spentOf 12 = .ok (.iaload, 1) := by decide +kernel
theorem dX3_spentOf_13 : decode cX3_spentOf 13 = .ok (.goto 4, 3) := by decide +kernel
theorem dX3_spentOf_16 : decode cX3_spentOf 16 = .ok (.iconst 0, 1) := by decide +kernel
theorem dX3_spentOf_17 : decode cX3_spentOf 17 = .ok (.ireturn, 1) := by decide +kernel
theorem dX3_owedInKind_0 : decode cX3_owedInKind 0 = .ok (.iconst 0, 1) := by decide +kernel
theorem dX3_owedInKind_1 : decode cX3_owedInKind 1 = .ok (.istore_n 2, 1) := by decide +kernel
theorem dX3_owedInKind_2 : decode cX3_owedInKind 2 = .ok (.iconst 0, 1) := by decide +kernel
theorem dX3_owedInKind_3 : decode cX3_owedInKind 3 = .ok (.istore_n 3, 1) := by decide +kernel
theorem dX3_owedInKind_4 : decode cX3_owedInKind 4 = .ok (.iload_n 3, 1) := by decide +kernel
theorem dX3_owedInKind_5 : decode cX3_owedInKind 5 = .ok (.aload_n 0, 1) := by decide +kernel
theorem dX3_owedInKind_6 : decode cX3_owedInKind 6 = .ok (.getfield 21, 3) := by decide +kernel
theorem dX3_owedInKind_9 : decode cX3_owedInKind 9 = .ok (.getfield 121, 3) := by decide +kernel
theorem dX3_owedInKind_12 : decode cX3_owedInKind 12 = .ok (.if_icmp .ge 29, 3) := by decide +kernel
theorem dX3_owedInKind_15 : decode cX3_owedInKind 15 = .ok (.aload_n 0, 1) := by decide +kernel
theorem dX3_owedInKind_16 : decode cX3_owedInKind 16 = .ok (.getfield 21, 3) := by decide +kernel
theorem dX3_owedInKind_19 : decode cX3_owedInKind 19 = .ok (.iload_n 3, 1) := by decide +kernel
theorem dX3_owedInKind_20 : decode cX3_owedInKind 20 = .ok (.invokevirtual 99, 3) := by decide +kernel
theorem dX3_owedInKind_23 : decode cX3_owedInKind 23 = .ok (.iload_n 1, 1) := by decide +kernel
theorem dX3_owedInKind_24 : decode cX3_owedInKind 24 = .ok (.if_icmp .ne 11, 3) := by decide +kernel
theorem dX3_owedInKind_27 : decode cX3_owedInKind 27 = .ok (.iload_n 2, 1) := by decide +kernel
theorem dX3_owedInKind_28 : decode cX3_owedInKind 28 = .ok (.aload_n 0, 1) := by decide +kernel
theorem dX3_owedInKind_29 : decode cX3_owedInKind 29 = .ok (.iload_n 3, 1) := by decide +kernel
theorem dX3_owedInKind_30 : decode cX3_owedInKind 30 = .ok (.invokevirtual 177, 3) := by decide +kernel
theorem dX3_owedInKind_33 : decode cX3_owedInKind 33 = .ok (.iadd, 1) := by decide +kernel
theorem dX3_owedInKind_34 : decode cX3_owedInKind 34 = .ok (.istore_n 2, 1) := by decide +kernel
theorem dX3_owedInKind_35 : decode cX3_owedInKind 35 = .ok (.iinc 3 1, 3) := by decide +kernel
theorem dX3_owedInKind_38 : decode cX3_owedInKind 38 = .ok (.goto (-34), 3) := by decide +kernel
theorem dX3_owedInKind_41 : decode cX3_owedInKind 41 = .ok (.iload_n 2, 1) := by decide +kernel
theorem dX3_owedInKind_42 : decode cX3_owedInKind 42 = .ok (.ireturn, 1) := by decide +kernel
theorem dX3_waiting_0 : decode cX3_waiting 0 = .ok (.iconst 0, 1) := by decide +kernel
theorem dX3_waiting_1 : decode cX3_waiting 1 = .ok (.istore_n 1, 1) := by decide +kernel
theorem dX3_waiting_2 : decode cX3_waiting 2 = .ok (.iconst 0, 1) := by decide +kernel
theorem dX3_waiting_3 : decode cX3_waiting 3 = .ok (.istore_n 2, 1) := by decide +kernel
theorem dX3_waiting_4 : decode cX3_waiting 4 = .ok (.iload_n 2, 1) := by decide +kernel
theorem dX3_waiting_5 : decode cX3_waiting 5 = .ok (.aload_n 0, 1) := by decide +kernel
theorem dX3_waiting_6 : decode cX3_waiting 6 = .ok (.getfield 21, 3) := by decide +kernel
theorem dX3_waiting_9 : decode cX3_waiting 9 = .ok (.getfield 121, 3) := by decide +kernel
theorem dX3_waiting_12 : decode cX3_waiting 12 = .ok (.if_icmp .ge 20, 3) := by decide +kernel
theorem dX3_waiting_15 : decode cX3_waiting 15 = .ok (.aload_n 0, 1) := by decide +kernel
theorem dX3_waiting_16 : decode cX3_waiting 16 = .ok (.iload_n 2, 1) := by decide +kernel
theorem dX3_waiting_17 : decode cX3_waiting 17 = .ok (.invokevirtual 177, 3) := by decide +kernel
theorem dX3_waiting_20 : decode cX3_waiting 20 = .ok (.ifCond .le 6, 3) := by decide +kernel
theorem dX3_waiting_23 : decode cX3_waiting 23 = .ok (.iinc 1 1, 3) := by decide +kernel
theorem dX3_waiting_26 : decode cX3_waiting 26 = .ok (.iinc 2 1, 3) := by decide +kernel
theorem dX3_waiting_29 : decode cX3_waiting 29 = .ok (.goto (-25), 3) := by decide +kernel
theorem dX3_waiting_32 : decode cX3_waiting 32 = .ok (.iload_n 1, 1) := by decide +kernel
theorem dX3_waiting_33 : decode cX3_waiting 33 = .ok (.ireturn, 1) := by decide +kernel
theorem dX3_departing_0 : decode cX3_departing 0 = .ok (.iconst 0, 1) := by decide +kernel
theorem dX3_departing_1 : decode cX3_departing 1 = .ok (.istore_n 1, 1) := by decide +kernel
theorem dX3_departing_2 : decode cX3_departing 2 = .ok (.iconst 0, 1) := by decide +kernel
theorem dX3_departing_3 : decode cX3_departing 3 = .ok (.istore_n 2, 1) := by decide +kernel
theorem dX3_departing_4 : decode cX3_departing 4 = .ok (.iload_n 2, 1) := by decide +kernel
theorem dX3_departing_5 : decode cX3_departing 5 = .ok (.aload_n 0, 1) := by decide +kernel
theorem dX3_departing_6 : decode cX3_departing 6 = .ok (.getfield 21, 3) := by decide +kernel
theorem dX3_departing_9 : decode cX3_departing 9 = .ok (.getfield 121, 3) := by decide +kernel
theorem dX3_departing_12 : decode cX3_departing 12 = .ok (.if_icmp .ge 21, 3) := by decide +kernel
theorem dX3_departing_15 : decode cX3_departing 15 = .ok (.aload_n 0, 1) := by decide +kernel
theorem dX3_departing_16 : decode cX3_departing 16 = .ok (.iload_n 2, 1) := by decide +kernel
theorem dX3_departing_17 : decode cX3_departing 17 = .ok (.invokevirtual 124, 3) := by decide +kernel
theorem dX3_departing_20 : decode cX3_departing 20 = .ok (.iconst 3, 1) := by decide +kernel
theorem dX3_departing_21 : decode cX3_departing 21 = .ok (.if_icmp .ne 6, 3) := by decide +kernel
theorem dX3_departing_24 : decode cX3_departing 24 = .ok (.iinc 1 1, 3) := by decide +kernel
theorem dX3_departing_27 : decode cX3_departing 27 = .ok (.iinc 2 1, 3) := by decide +kernel
theorem dX3_departing_30 : decode cX3_departing 30 = .ok (.goto (-26), 3) := by decide +kernel
theorem dX3_departing_33 : decode cX3_departing 33 = .ok (.iload_n 1, 1) := by decide +kernel
theorem dX3_departing_34 : decode cX3_departing 34 = .ok (.ireturn, 1) := by decide +kernel
theorem dX3_owedInAll_0 : decode cX3_owedInAll 0 = .ok (.iconst 0, 1) := by decide +kernel
theorem dX3_owedInAll_1 : decode cX3_owedInAll 1 = .ok (.istore_n 1, 1) := by decide +kernel
theorem dX3_owedInAll_2 : decode cX3_owedInAll 2 = .ok (.iconst 0, 1) := by decide +kernel
theorem dX3_owedInAll_3 : decode cX3_owedInAll 3 = .ok (.istore_n 2, 1) := by decide +kernel
theorem dX3_owedInAll_4 : decode cX3_owedInAll 4 = .ok (.iload_n 2, 1) := by decide +kernel
theorem dX3_owedInAll_5 : decode cX3_owedInAll 5 = .ok (.iconst 4, 1) := by decide +kernel
theorem dX3_owedInAll_6 : decode cX3_owedInAll 6 = .ok (.if_icmp .ge 17, 3) := by decide +kernel
theorem dX3_owedInAll_9 : decode cX3_owedInAll 9 = .ok (.iload_n 1, 1) := by decide +kernel
theorem dX3_owedInAll_10 : decode cX3_owedInAll 10 = .ok (.aload_n 0, 1) := by decide +kernel
theorem dX3_owedInAll_11 : decode cX3_owedInAll 11 = .ok (.iload_n 2, 1) := by decide +kernel
theorem dX3_owedInAll_12 : decode cX3_owedInAll 12 = .ok (.invokevirtual 180, 3) := by decide +kernel
theorem dX3_owedInAll_15 : decode cX3_owedInAll 15 = .ok (.iadd, 1) := by decide +kernel
theorem dX3_owedInAll_16 : decode cX3_owedInAll 16 = .ok (.istore_n 1, 1) := by decide +kernel
theorem dX3_owedInAll_17 : decode cX3_owedInAll 17 = .ok (.iinc 2 1, 3) := by decide +kernel
theorem dX3_owedInAll_20 : decode cX3_owedInAll 20 = .ok (.goto (-16), 3) := by decide +kernel
theorem dX3_owedInAll_23 : decode cX3_owedInAll 23 = .ok (.iload_n 1, 1) := by decide +kernel
theorem dX3_owedInAll_24 : decode cX3_owedInAll 24 = .ok (.ireturn, 1) := by decide +kernel
def f_X3_copyFrom (b : Nat) (b2 : Nat) (x : XS) : Option (XS) :=
    (f_X1_copyFrom b b2 x).bind fun x13 =>
    (f_X0_copyFrom b b2 x13).bind fun x24 =>
    (f_X2_copyFrom b b2 x24).bind fun x35 =>
    (some (cpA x35 (b2 + 22) (b + 22) 3)).bind fun x46 =>
    (some (cpA x46 (b2 + 23) (b + 23) 4)).bind fun x57 =>
    (some (cpA x57 (b2 + 24) (b + 24) 4)).bind fun x68 =>
    (some (cpA x68 (b2 + 25) (b + 25) 4)).bind fun x79 =>
    (some (ux x79 b 7 (x79 b2 7))).bind fun x87 =>
    some x87
set_option maxRecDepth 100000 in
set_option maxHeartbeats 4000000 in
theorem p_X3_copyFrom (l : Launch) (E : TE) {b : Nat} (hB_b : IsB b) {b2 : Nat} (hB_b2 : IsB b2) (x m : XS) (g o : Int64) {xr : XS} (hf : f_X3_copyFrom b b2 x = some xr) : MG l E yX3_copyFrom cX3_copyFrom 2 none 4 [rf E b, rf E b2] (Wd E x m g o) (Wd E xr m g o) none := by
  unfold f_X3_copyFrom at hf
  refine m_in (by decide) (Nat.le_of_ble_eq_true rfl) ?_
  intro p e s mi args below meth c H ls hx hb hr hlk hml hown hB hK hW hS hl
  have hl : lv_has ls 2 [(0, rf E b), (1, rf E b2)] := hl
  refine lv_aload_n hx hb dX3_copyFrom_0 rfl (lv_at hl 1 rfl) ?_
  refine lv_ifnonnull (tgt := 5) hx hb dX3_copyFrom_1 (by decide) ?_
  refine lv_aload_n hx hb dX3_copyFrom_5 rfl (lv_at hl 0 rfl) ?_
  refine gf_X3_12 hx hb hB hK hown hW hB_b dX3_copyFrom_6 ?_
  refine lv_aload_n hx hb dX3_copyFrom_9 rfl (lv_at hl 1 rfl) ?_
  refine gf_X3_12 hx hb hB hK hown hW hB_b2 dX3_copyFrom_10 ?_
  obtain ⟨x13, e13, hf⟩ := ob2 hf
  refine c_V (As := [rf E (b2 + 1)]) (st1 := []) (rest := []) (p_X1_copyFrom l E hB_b hB_b2 x m g o e13) (kc_X3_58 hB ⟨Nat.le_of_ble_eq_true rfl, Nat.le_of_ble_eq_true rfl⟩) (Wd.rec hK hW (hB_b.l8 (j := 1) (by decide)) (cB_1 hB_b) (ci := 1) rfl) hx hb hml hown hB hK hW hS ⟨Nat.zero_le _, Nat.zero_le _⟩ rfl hl.1 rfl (Nat.le_of_ble_eq_true rfl) rfl dX3_copyFrom_13 (fun H locs hW hS => ?_)
  refine lv_aload_n hx hb dX3_copyFrom_16 rfl (lv_at hl 0 rfl) ?_
  refine gf_X3_21 hx hb hB hK hown hW hB_b dX3_copyFrom_17 ?_
  refine lv_aload_n hx hb dX3_copyFrom_20 rfl (lv_at hl 1 rfl) ?_
  refine gf_X3_21 hx hb hB hK hown hW hB_b2 dX3_copyFrom_21 ?_
  obtain ⟨x24, e24, hf⟩ := ob2 hf
  refine c_V (As := [rf E (b2 + 7)]) (st1 := []) (rest := []) (p_X0_copyFrom l E hB_b hB_b2 x13 m g o e24) (kc_X3_62 hB ⟨Nat.le_of_ble_eq_true rfl, Nat.le_of_ble_eq_true rfl⟩) (Wd.rec hK hW (hB_b.l8 (j := 7) (by decide)) (cB_7 hB_b) (ci := 0) rfl) hx hb hml hown hB hK hW hS ⟨Nat.zero_le _, Nat.zero_le _⟩ rfl hl.1 rfl (Nat.le_of_ble_eq_true rfl) rfl dX3_copyFrom_24 (fun H locs hW hS => ?_)
  refine lv_aload_n hx hb dX3_copyFrom_27 rfl (lv_at hl 0 rfl) ?_
  refine gf_X3_28 hx hb hB hK hown hW hB_b dX3_copyFrom_28 ?_
  refine lv_aload_n hx hb dX3_copyFrom_31 rfl (lv_at hl 1 rfl) ?_
  refine gf_X3_28 hx hb hB hK hown hW hB_b2 dX3_copyFrom_32 ?_
  obtain ⟨x35, e35, hf⟩ := ob2 hf
  refine c_V (As := [rf E (b2 + 17)]) (st1 := []) (rest := []) (p_X2_copyFrom l E hB_b hB_b2 x24 m g o e35) (kc_X3_65 hB ⟨Nat.le_of_ble_eq_true rfl, Nat.le_of_ble_eq_true rfl⟩) (Wd.rec hK hW (hB_b.l8 (j := 17) (by decide)) (cB_17 hB_b) (ci := 2) rfl) hx hb hml hown hB hK hW hS ⟨Nat.zero_le _, Nat.zero_le _⟩ rfl hl.1 rfl (Nat.le_of_ble_eq_true rfl) rfl dX3_copyFrom_35 (fun H locs hW hS => ?_)
  refine lv_aload_n hx hb dX3_copyFrom_38 rfl (lv_at hl 1 rfl) ?_
  refine gf_X3_32 hx hb hB hK hown hW hB_b2 dX3_copyFrom_39 ?_
  refine lv_aload_n hx hb dX3_copyFrom_42 rfl (lv_at hl 0 rfl) ?_
  refine gf_X3_32 hx hb hB hK hown hW hB_b dX3_copyFrom_43 ?_
  obtain ⟨x46, e46, hf⟩ := ob hf
  have p46 := p_X4_copyAll l E (k1 := (b2 + 22)) (k2 := (b + 22)) (N := 3) (by decide) (hB_b2.lt (by decide)) (hB_b.lt (by decide)) (m := m) (g := g) (o := o) (fun _ => cB_22 hB_b2) (fun _ => cB_22 hB_b) x35
  rw [← e46] at p46
  refine c_SN (As := [rf E (b2 + 22), rf E (b + 22)]) (st1 := []) (rest := []) (p46) (kc_X3_48 hB hK ⟨Nat.le_of_ble_eq_true rfl, Nat.le_of_ble_eq_true rfl⟩) hx hb hml hown hB hK hW hS ⟨Nat.zero_le _, Nat.zero_le _⟩ rfl hl.1 rfl (Nat.le_of_ble_eq_true rfl) rfl dX3_copyFrom_46 (fun H locs hW hS => ?_)
  refine lv_aload_n hx hb dX3_copyFrom_49 rfl (lv_at hl 1 rfl) ?_
  refine gf_X3_36 hx hb hB hK hown hW hB_b2 dX3_copyFrom_50 ?_
  refine lv_aload_n hx hb dX3_copyFrom_53 rfl (lv_at hl 0 rfl) ?_
  refine gf_X3_36 hx hb hB hK hown hW hB_b dX3_copyFrom_54 ?_
  obtain ⟨x57, e57, hf⟩ := ob hf
  have p57 := p_X4_copyAll l E (k1 := (b2 + 23)) (k2 := (b + 23)) (N := 4) (by decide) (hB_b2.lt (by decide)) (hB_b.lt (by decide)) (m := m) (g := g) (o := o) (fun _ => cB_23 hB_b2) (fun _ => cB_23 hB_b) x46
  rw [← e57] at p57
  refine c_SN (As := [rf E (b2 + 23), rf E (b + 23)]) (st1 := []) (rest := []) (p57) (kc_X3_48 hB hK ⟨Nat.le_of_ble_eq_true rfl, Nat.le_of_ble_eq_true rfl⟩) hx hb hml hown hB hK hW hS ⟨Nat.zero_le _, Nat.zero_le _⟩ rfl hl.1 rfl (Nat.le_of_ble_eq_true rfl) rfl dX3_copyFrom_57 (fun H locs hW hS => ?_)
  refine lv_aload_n hx hb dX3_copyFrom_60 rfl (lv_at hl 1 rfl) ?_
  refine gf_X3_39 hx hb hB hK hown hW hB_b2 dX3_copyFrom_61 ?_
  refine lv_aload_n hx hb dX3_copyFrom_64 rfl (lv_at hl 0 rfl) ?_
  refine gf_X3_39 hx hb hB hK hown hW hB_b dX3_copyFrom_65 ?_
  obtain ⟨x68, e68, hf⟩ := ob hf
  have p68 := p_X4_copyAll l E (k1 := (b2 + 24)) (k2 := (b + 24)) (N := 4) (by decide) (hB_b2.lt (by decide)) (hB_b.lt (by decide)) (m := m) (g := g) (o := o) (fun _ => cB_24 hB_b2) (fun _ => cB_24 hB_b) x57
  rw [← e68] at p68
  refine c_SN (As := [rf E (b2 + 24), rf E (b + 24)]) (st1 := []) (rest := []) (p68) (kc_X3_48 hB hK ⟨Nat.le_of_ble_eq_true rfl, Nat.le_of_ble_eq_true rfl⟩) hx hb hml hown hB hK hW hS ⟨Nat.zero_le _, Nat.zero_le _⟩ rfl hl.1 rfl (Nat.le_of_ble_eq_true rfl) rfl dX3_copyFrom_68 (fun H locs hW hS => ?_)
  refine lv_aload_n hx hb dX3_copyFrom_71 rfl (lv_at hl 1 rfl) ?_
  refine gf_X3_42 hx hb hB hK hown hW hB_b2 dX3_copyFrom_72 ?_
  refine lv_aload_n hx hb dX3_copyFrom_75 rfl (lv_at hl 0 rfl) ?_
  refine gf_X3_42 hx hb hB hK hown hW hB_b dX3_copyFrom_76 ?_
  obtain ⟨x79, e79, hf⟩ := ob hf
  have p79 := p_X4_copyAll l E (k1 := (b2 + 25)) (k2 := (b + 25)) (N := 4) (by decide) (hB_b2.lt (by decide)) (hB_b.lt (by decide)) (m := m) (g := g) (o := o) (fun _ => cB_25 hB_b2) (fun _ => cB_25 hB_b) x68
  rw [← e79] at p79
  refine c_SN (As := [rf E (b2 + 25), rf E (b + 25)]) (st1 := []) (rest := []) (p79) (kc_X3_48 hB hK ⟨Nat.le_of_ble_eq_true rfl, Nat.le_of_ble_eq_true rfl⟩) hx hb hml hown hB hK hW hS ⟨Nat.zero_le _, Nat.zero_le _⟩ rfl hl.1 rfl (Nat.le_of_ble_eq_true rfl) rfl dX3_copyFrom_79 (fun H locs hW hS => ?_)
  refine lv_aload_n hx hb dX3_copyFrom_82 rfl (lv_at hl 0 rfl) ?_
  refine lv_aload_n hx hb dX3_copyFrom_83 rfl (lv_at hl 1 rfl) ?_
  refine gf_X3_68 hx hb hB hK hown hW hB_b2 dX3_copyFrom_84 ?_
  obtain ⟨x87, e87, hf⟩ := ob hf
  refine pf_X3_68 hx hb hB hK hown hW hS hB_b e87 dX3_copyFrom_87 (fun H locs hW hS => ?_)
  cases hf
  exact e_v hx hb hr hlk hW hS dX3_copyFrom_90
def f_X3_baseOf (b : Nat) (x : XS) (a0 : Int32) : Option (Int32) :=
    (f_X4_isKind a0).bind fun v1 =>
    if (v1 = 0 : Prop) then
      some 0
    else
      ((aget 4 (x (b + 23)) a0).bind fun v12 =>
      some v12)
set_option maxRecDepth 100000 in
set_option maxHeartbeats 4000000 in
theorem p_X3_baseOf (l : Launch) (E : TE) {b : Nat} (hB_b : IsB b) (x m : XS) (g o : Int64) {a0 : Int32} {r : Int32} (hf : f_X3_baseOf b x a0 = some r) : MG l E yX3_baseOf cX3_baseOf 2 (some .int) 1 [rf E b, .int a0] (Wd E x m g o) (Wd E x m g o) (some (.int r)) := by
  unfold f_X3_baseOf at hf
  refine m_in (by decide) (Nat.le_of_ble_eq_true rfl) ?_
  intro p e s mi args below meth c H ls hx hb hr hlk hml hown hB hK hW hS hl
  have hl : lv_has ls 2 [(0, rf E b), (1, .int a0)] := hl
  refine lv_iload_n hx hb dX3_baseOf_0 rfl (lv_at hl 1 rfl) ?_
  obtain ⟨v1, e1, hf⟩ := ob2 hf
  refine c_SN (As := [.int a0]) (st1 := [.int v1]) (rest := []) (p_X4_isKind l E x m g o e1) (kc_X3_76 hB hK ⟨Nat.le_of_ble_eq_true rfl, Nat.le_of_ble_eq_true rfl⟩) hx hb hml hown hB hK hW hS ⟨Nat.zero_le _, Nat.zero_le _⟩ rfl hl.1 rfl (Nat.le_of_ble_eq_true rfl) rfl dX3_baseOf_1 (fun H locs hW hS => ?_)
  refine lv_if_eq (tgt := 16) hx hb dX3_baseOf_4 (by decide) (fun c4 => ?_) (fun c4 => ?_)
  · rw [if_pos c4] at hf
    refine lv_iconst (v := 0) hx hb dX3_baseOf_16 (by decide) ?_
    cases hf
    exact e_i hx hb hr hlk hW hS dX3_baseOf_17
  · rw [if_neg c4] at hf
    refine lv_aload_n hx hb dX3_baseOf_7 rfl (lv_at hl 0 rfl) ?_
    refine gf_X3_36 hx hb hB hK hown hW hB_b dX3_baseOf_8 ?_
    refine lv_iload_n hx hb dX3_baseOf_11 rfl (lv_at hl 1 rfl) ?_
    obtain ⟨v12, e12, hf⟩ := ob2 hf
    refine r_iald hx hb hK hW (hB_b.l8 (by decide)) (cB_23 hB_b) e12 dX3_baseOf_12 ?_
    refine lv_goto (tgt := 17) hx hb dX3_baseOf_13 (by decide) ?_
    cases hf
    exact e_i hx hb hr hlk hW hS dX3_baseOf_17
def f_X3_changeBase (b : Nat) (x : XS) (a0 : Int32) (a1 : Int32) : Option (Int32 × XS) :=
    (f_X3_baseOf b x a0).bind fun v2 =>
    (f_X4_isKind a0).bind fun v7 =>
    if (v7 = 0 : Prop) then
      some (v2, x)
    else
      ((aset x (b + 23) 4 a0 a1).bind fun x19 =>
      some (v2, x19))
set_option maxRecDepth 100000 in
set_option maxHeartbeats 4000000 in
theorem p_X3_changeBase (l : Launch) (E : TE) {b : Nat} (hB_b : IsB b) (x m : XS) (g o : Int64) {a0 : Int32} {a1 : Int32} {r : Int32} {xr : XS} (hf : f_X3_changeBase b x a0 a1 = some (r, xr)) : MG l E yX3_changeBase cX3_changeBase 4 (some .int) 2 [rf E b, .int a0, .int a1] (Wd E x m g o) (Wd E xr m g o) (some (.int r)) := by
  unfold f_X3_changeBase at hf
  refine m_in (by decide) (Nat.le_of_ble_eq_true rfl) ?_
  intro p e s mi args below meth c H ls hx hb hr hlk hml hown hB hK hW hS hl
  have hl : lv_has ls 4 [(0, rf E b), (1, .int a0), (2, .int a1)] := hl
  refine lv_aload_n hx hb dX3_changeBase_0 rfl (lv_at hl 0 rfl) ?_
  refine lv_iload_n hx hb dX3_changeBase_1 rfl (lv_at hl 1 rfl) ?_
  obtain ⟨v2, e2, hf⟩ := ob2 hf
  refine c_V (As := [.int a0]) (st1 := [.int v2]) (rest := []) (p_X3_baseOf l E hB_b x m g o e2) (kc_X3_83 hB ⟨Nat.le_of_ble_eq_true rfl, Nat.le_of_ble_eq_true rfl⟩) (Wd.rec hK hW hB_b.l0 (cB_0 hB_b) (ci := 3) rfl) hx hb hml hown hB hK hW hS ⟨Nat.zero_le _, Nat.zero_le _⟩ rfl hl.1 rfl (Nat.le_of_ble_eq_true rfl) rfl dX3_changeBase_2 (fun H locs hW hS => ?_)
  refine lv_istore_n (lv' := [(3, .int v2), (0, rf E b), (1, .int a0), (2, .int a1)]) hx hb dX3_changeBase_5 rfl hl (by decide) rfl (fun ls hl => ?_)
  refine lv_iload_n hx hb dX3_changeBase_6 rfl (lv_at hl 2 rfl) ?_
  obtain ⟨v7, e7, hf⟩ := ob2 hf
  refine c_SN (As := [.int a0]) (st1 := [.int v7]) (rest := []) (p_X4_isKind l E x m g o e7) (kc_X3_76 hB hK ⟨Nat.le_of_ble_eq_true rfl, Nat.le_of_ble_eq_true rfl⟩) hx hb hml hown hB hK hW hS ⟨Nat.zero_le _, Nat.zero_le _⟩ rfl hl.1 rfl (Nat.le_of_ble_eq_true rfl) rfl dX3_changeBase_7 (fun H locs hW hS => ?_)
  refine lv_if_eq (tgt := 20) hx hb dX3_changeBase_10 (by decide) (fun c10 => ?_) (fun c10 => ?_)
  · rw [if_pos c10] at hf
    refine lv_iload_n hx hb dX3_changeBase_20 rfl (lv_at hl 0 rfl) ?_
    cases hf
    exact e_i hx hb hr hlk hW hS dX3_changeBase_21
  · rw [if_neg c10] at hf
    refine lv_aload_n hx hb dX3_changeBase_13 rfl (lv_at hl 1 rfl) ?_
    refine gf_X3_36 hx hb hB hK hown hW hB_b dX3_changeBase_14 ?_
    refine lv_iload_n hx hb dX3_changeBase_17 rfl (lv_at hl 2 rfl) ?_
    refine lv_iload_n hx hb dX3_changeBase_18 rfl (lv_at hl 3 rfl) ?_
    obtain ⟨x19, e19, hf⟩ := ob2 hf
    refine r_iastX hx hb hK hW hS (hB_b.lt (by decide)) (fun _ => cB_23 hB_b) e19 dX3_changeBase_19 (fun H locs hW hS => ?_)
    refine lv_iload_n hx hb dX3_changeBase_20 rfl (lv_at hl 0 rfl) ?_
    cases hf
    exact e_i hx hb hr hlk hW hS dX3_changeBase_21
def f_X3_settingOf (b : Nat) (x : XS) (a0 : Int32) : Option (Int32) :=
    (f_X4_isSetting a0).bind fun v1 =>
    if (v1 = 0 : Prop) then
      some (-1)
    else
      ((aget 3 (x (b + 22)) a0).bind fun v12 =>
      some v12)
set_option maxRecDepth 100000 in
set_option maxHeartbeats 4000000 in
theorem p_X3_settingOf (l : Launch) (E : TE) {b : Nat} (hB_b : IsB b) (x m : XS) (g o : Int64) {a0 : Int32} {r : Int32} (hf : f_X3_settingOf b x a0 = some r) : MG l E yX3_settingOf cX3_settingOf 2 (some .int) 1 [rf E b, .int a0] (Wd E x m g o) (Wd E x m g o) (some (.int r)) := by
  unfold f_X3_settingOf at hf
  refine m_in (by decide) (Nat.le_of_ble_eq_true rfl) ?_
  intro p e s mi args below meth c H ls hx hb hr hlk hml hown hB hK hW hS hl
  have hl : lv_has ls 2 [(0, rf E b), (1, .int a0)] := hl
  refine lv_iload_n hx hb dX3_settingOf_0 rfl (lv_at hl 1 rfl) ?_
  obtain ⟨v1, e1, hf⟩ := ob2 hf
  refine c_SN (As := [.int a0]) (st1 := [.int v1]) (rest := []) (p_X4_isSetting l E x m g o e1) (kc_X3_72 hB hK ⟨Nat.le_of_ble_eq_true rfl, Nat.le_of_ble_eq_true rfl⟩) hx hb hml hown hB hK hW hS ⟨Nat.zero_le _, Nat.zero_le _⟩ rfl hl.1 rfl (Nat.le_of_ble_eq_true rfl) rfl dX3_settingOf_1 (fun H locs hW hS => ?_)
  refine lv_if_eq (tgt := 16) hx hb dX3_settingOf_4 (by decide) (fun c4 => ?_) (fun c4 => ?_)
  · rw [if_pos c4] at hf
    refine lv_iconst (v := (-1)) hx hb dX3_settingOf_16 (by decide) ?_
    cases hf
    exact e_i hx hb hr hlk hW hS dX3_settingOf_17
  · rw [if_neg c4] at hf
    refine lv_aload_n hx hb dX3_settingOf_7 rfl (lv_at hl 0 rfl) ?_
    refine gf_X3_32 hx hb hB hK hown hW hB_b dX3_settingOf_8 ?_
    refine lv_iload_n hx hb dX3_settingOf_11 rfl (lv_at hl 1 rfl) ?_
    obtain ⟨v12, e12, hf⟩ := ob2 hf
    refine r_iald hx hb hK hW (hB_b.l8 (by decide)) (cB_22 hB_b) e12 dX3_settingOf_12 ?_
    refine lv_goto (tgt := 17) hx hb dX3_settingOf_13 (by decide) ?_
    cases hf
    exact e_i hx hb hr hlk hW hS dX3_settingOf_17
def f_X3_changeSetting (b : Nat) (x : XS) (a0 : Int32) (a1 : Int32) : Option (Int32 × XS) :=
    (f_X3_settingOf b x a0).bind fun v2 =>
    (f_X4_isSetting a0).bind fun v7 =>
    if (v7 = 0 : Prop) then
      some (v2, x)
    else
      ((aset x (b + 22) 3 a0 a1).bind fun x19 =>
      some (v2, x19))
set_option maxRecDepth 100000 in
set_option maxHeartbeats 4000000 in
theorem p_X3_changeSetting (l : Launch) (E : TE) {b : Nat} (hB_b : IsB b) (x m : XS) (g o : Int64) {a0 : Int32} {a1 : Int32} {r : Int32} {xr : XS} (hf : f_X3_changeSetting b x a0 a1 = some (r, xr)) : MG l E yX3_changeSetting cX3_changeSetting 4 (some .int) 2 [rf E b, .int a0, .int a1] (Wd E x m g o) (Wd E xr m g o) (some (.int r)) := by
  unfold f_X3_changeSetting at hf
  refine m_in (by decide) (Nat.le_of_ble_eq_true rfl) ?_
  intro p e s mi args below meth c H ls hx hb hr hlk hml hown hB hK hW hS hl
  have hl : lv_has ls 4 [(0, rf E b), (1, .int a0), (2, .int a1)] := hl
  refine lv_aload_n hx hb dX3_changeSetting_0 rfl (lv_at hl 0 rfl) ?_
  refine lv_iload_n hx hb dX3_changeSetting_1 rfl (lv_at hl 1 rfl) ?_
  obtain ⟨v2, e2, hf⟩ := ob2 hf
  refine c_V (As := [.int a0]) (st1 := [.int v2]) (rest := []) (p_X3_settingOf l E hB_b x m g o e2) (kc_X3_79 hB ⟨Nat.le_of_ble_eq_true rfl, Nat.le_of_ble_eq_true rfl⟩) (Wd.rec hK hW hB_b.l0 (cB_0 hB_b) (ci := 3) rfl) hx hb hml hown hB hK hW hS ⟨Nat.zero_le _, Nat.zero_le _⟩ rfl hl.1 rfl (Nat.le_of_ble_eq_true rfl) rfl dX3_changeSetting_2 (fun H locs hW hS => ?_)
  refine lv_istore_n (lv' := [(3, .int v2), (0, rf E b), (1, .int a0), (2, .int a1)]) hx hb dX3_changeSetting_5 rfl hl (by decide) rfl (fun ls hl => ?_)
  refine lv_iload_n hx hb dX3_changeSetting_6 rfl (lv_at hl 2 rfl) ?_
  obtain ⟨v7, e7, hf⟩ := ob2 hf
  refine c_SN (As := [.int a0]) (st1 := [.int v7]) (rest := []) (p_X4_isSetting l E x m g o e7) (kc_X3_72 hB hK ⟨Nat.le_of_ble_eq_true rfl, Nat.le_of_ble_eq_true rfl⟩) hx hb hml hown hB hK hW hS ⟨Nat.zero_le _, Nat.zero_le _⟩ rfl hl.1 rfl (Nat.le_of_ble_eq_true rfl) rfl dX3_changeSetting_7 (fun H locs hW hS => ?_)
  refine lv_if_eq (tgt := 20) hx hb dX3_changeSetting_10 (by decide) (fun c10 => ?_) (fun c10 => ?_)
  · rw [if_pos c10] at hf
    refine lv_iload_n hx hb dX3_changeSetting_20 rfl (lv_at hl 0 rfl) ?_
    cases hf
    exact e_i hx hb hr hlk hW hS dX3_changeSetting_21
  · rw [if_neg c10] at hf
    refine lv_aload_n hx hb dX3_changeSetting_13 rfl (lv_at hl 1 rfl) ?_
    refine gf_X3_32 hx hb hB hK hown hW hB_b dX3_changeSetting_14 ?_
    refine lv_iload_n hx hb dX3_changeSetting_17 rfl (lv_at hl 2 rfl) ?_
    refine lv_iload_n hx hb dX3_changeSetting_18 rfl (lv_at hl 3 rfl) ?_
    obtain ⟨x19, e19, hf⟩ := ob2 hf
    refine r_iastX hx hb hK hW hS (hB_b.lt (by decide)) (fun _ => cB_22 hB_b) e19 dX3_changeSetting_19 (fun H locs hW hS => ?_)
    refine lv_iload_n hx hb dX3_changeSetting_20 rfl (lv_at hl 0 rfl) ?_
    cases hf
    exact e_i hx hb hr hlk hW hS dX3_changeSetting_21
def f_X3_isBinding (b : Nat) (x : XS) (a0 : Int32) (a1 : Int32) : Option (Int32) :=
    (f_X2_has b x a1).bind fun v5 =>
    if (v5 = 0 : Prop) then
      some 0
    else
      ((f_X2_monthOf b x a1).bind fun v20 =>
      (f_X3_settingOf b x 0).bind fun v26 =>
      if (v26 ≤ ((x b 7) - v20) : Prop) then
        some 0
      else
        ((f_X2_amendsOf b x a1).bind fun v42 =>
        (f_X1_isOffered b x a0 v42).bind fun v45 =>
        if (v45 = 0 : Prop) then
          some 0
        else
          some 1))
set_option maxRecDepth 100000 in
set_option maxHeartbeats 4000000 in
theorem p_X3_isBinding (l : Launch) (E : TE) {b : Nat} (hB_b : IsB b) (x m : XS) (g o : Int64) {a0 : Int32} {a1 : Int32} {r : Int32} (hf : f_X3_isBinding b x a0 a1 = some r) : MG l E yX3_isBinding cX3_isBinding 3 (some .boolean) 3 [rf E b, .int a0, .int a1] (Wd E x m g o) (Wd E x m g o) (some (.int r)) := by
  unfold f_X3_isBinding at hf
  refine m_in (by decide) (Nat.le_of_ble_eq_true rfl) ?_
  intro p e s mi args below meth c H ls hx hb hr hlk hml hown hB hK hW hS hl
  have hl : lv_has ls 3 [(0, rf E b), (1, .int a0), (2, .int a1)] := hl
  refine lv_aload_n hx hb dX3_isBinding_0 rfl (lv_at hl 0 rfl) ?_
  refine gf_X3_28 hx hb hB hK hown hW hB_b dX3_isBinding_1 ?_
  refine lv_iload_n hx hb dX3_isBinding_4 rfl (lv_at hl 2 rfl) ?_
  obtain ⟨v5, e5, hf⟩ := ob2 hf
  refine c_V (As := [.int a1]) (st1 := [.int v5]) (rest := []) (p_X2_has l E hB_b x m g o e5) (kc_X3_86 hB ⟨Nat.le_of_ble_eq_true rfl, Nat.le_of_ble_eq_true rfl⟩) (Wd.rec hK hW (hB_b.l8 (j := 17) (by decide)) (cB_17 hB_b) (ci := 2) rfl) hx hb hml hown hB hK hW hS ⟨Nat.zero_le _, Nat.zero_le _⟩ rfl hl.1 rfl (Nat.le_of_ble_eq_true rfl) rfl dX3_isBinding_5 (fun H locs hW hS => ?_)
  refine lv_if_eq (tgt := 55) hx hb dX3_isBinding_8 (by decide) (fun c8 => ?_) (fun c8 => ?_)
  · rw [if_pos c8] at hf
    refine lv_iconst (v := 0) hx hb dX3_isBinding_55 (by decide) ?_
    cases hf
    exact e_z hx hb hr hlk (Or.inl rfl) hW hS dX3_isBinding_56
  · rw [if_neg c8] at hf
    refine lv_aload_n hx hb dX3_isBinding_11 rfl (lv_at hl 0 rfl) ?_
    refine gf_X3_68 hx hb hB hK hown hW hB_b dX3_isBinding_12 ?_
    refine lv_aload_n hx hb dX3_isBinding_15 rfl (lv_at hl 0 rfl) ?_
    refine gf_X3_28 hx hb hB hK hown hW hB_b dX3_isBinding_16 ?_
    refine lv_iload_n hx hb dX3_isBinding_19 rfl (lv_at hl 2 rfl) ?_
    obtain ⟨v20, e20, hf⟩ := ob2 hf
    refine c_V (As := [.int a1]) (st1 := [.int v20, .int (x b 7)]) (rest := [.int (x b 7)]) (p_X2_monthOf l E hB_b x m g o e20) (kc_X3_89 hB ⟨Nat.le_of_ble_eq_true rfl, Nat.le_of_ble_eq_true rfl⟩) (Wd.rec hK hW (hB_b.l8 (j := 17) (by decide)) (cB_17 hB_b) (ci := 2) rfl) hx hb hml hown hB hK hW hS ⟨Nat.zero_le _, Nat.zero_le _⟩ rfl hl.1 rfl (Nat.le_of_ble_eq_true rfl) rfl dX3_isBinding_20 (fun H locs hW hS => ?_)
    refine lv_isub hx hb dX3_isBinding_23 ?_
    refine lv_aload_n hx hb dX3_isBinding_24 rfl (lv_at hl 0 rfl) ?_
    refine lv_iconst (v := 0) hx hb dX3_isBinding_25 (by decide) ?_
    obtain ⟨v26, e26, hf⟩ := ob2 hf
    refine c_V (As := [.int 0]) (st1 := [.int v26, .int ((x b 7) - v20)]) (rest := [.int ((x b 7) - v20)]) (p_X3_settingOf l E hB_b x m g o e26) (kc_X3_79 hB ⟨Nat.le_of_ble_eq_true rfl, Nat.le_of_ble_eq_true rfl⟩) (Wd.rec hK hW hB_b.l0 (cB_0 hB_b) (ci := 3) rfl) hx hb hml hown hB hK hW hS ⟨Nat.zero_le _, Nat.zero_le _⟩ rfl hl.1 rfl (Nat.le_of_ble_eq_true rfl) rfl dX3_isBinding_26 (fun H locs hW hS => ?_)
    refine lv_icmp_ge (tgt := 55) hx hb dX3_isBinding_29 (by decide) (fun c29 => ?_) (fun c29 => ?_)
    · rw [if_pos c29] at hf
      refine lv_iconst (v := 0) hx hb dX3_isBinding_55 (by decide) ?_
      cases hf
      exact e_z hx hb hr hlk (Or.inl rfl) hW hS dX3_isBinding_56
    · rw [if_neg c29] at hf
      refine lv_aload_n hx hb dX3_isBinding_32 rfl (lv_at hl 0 rfl) ?_
      refine gf_X3_12 hx hb hB hK hown hW hB_b dX3_isBinding_33 ?_
      refine lv_iload_n hx hb dX3_isBinding_36 rfl (lv_at hl 1 rfl) ?_
      refine lv_aload_n hx hb dX3_isBinding_37 rfl (lv_at hl 0 rfl) ?_
      refine gf_X3_28 hx hb hB hK hown hW hB_b dX3_isBinding_38 ?_
      refine lv_iload_n hx hb dX3_isBinding_41 rfl (lv_at hl 2 rfl) ?_
      obtain ⟨v42, e42, hf⟩ := ob2 hf
      refine c_V (As := [.int a1]) (st1 := [.int v42, .int a0, rf E (b + 1)]) (rest := [.int a0, rf E (b + 1)]) (p_X2_amendsOf l E hB_b x m g o e42) (kc_X3_92 hB ⟨Nat.le_of_ble_eq_true rfl, Nat.le_of_ble_eq_true rfl⟩) (Wd.rec hK hW (hB_b.l8 (j := 17) (by decide)) (cB_17 hB_b) (ci := 2) rfl) hx hb hml hown hB hK hW hS ⟨Nat.zero_le _, Nat.zero_le _⟩ rfl hl.1 rfl (Nat.le_of_ble_eq_true rfl) rfl dX3_isBinding_42 (fun H locs hW hS => ?_)
      obtain ⟨v45, e45, hf⟩ := ob2 hf
      refine c_V (As := [.int a0, .int v42]) (st1 := [.int v45]) (rest := []) (p_X1_isOffered l E hB_b x m g o e45) (kc_X3_95 hB ⟨Nat.le_of_ble_eq_true rfl, Nat.le_of_ble_eq_true rfl⟩) (Wd.rec hK hW (hB_b.l8 (j := 1) (by decide)) (cB_1 hB_b) (ci := 1) rfl) hx hb hml hown hB hK hW hS ⟨Nat.zero_le _, Nat.zero_le _⟩ rfl hl.1 rfl (Nat.le_of_ble_eq_true rfl) rfl dX3_isBinding_45 (fun H locs hW hS => ?_)
      refine lv_if_eq (tgt := 55) hx hb dX3_isBinding_48 (by decide) (fun c48 => ?_) (fun c48 => ?_)
      · rw [if_pos c48] at hf
        refine lv_iconst (v := 0) hx hb dX3_isBinding_55 (by decide) ?_
        cases hf
        exact e_z hx hb hr hlk (Or.inl rfl) hW hS dX3_isBinding_56
      · rw [if_neg c48] at hf
        refine lv_iconst (v := 1) hx hb dX3_isBinding_51 (by decide) ?_
        refine lv_goto (tgt := 56) hx hb dX3_isBinding_52 (by decide) ?_
        cases hf
        exact e_z hx hb hr hlk (Or.inr rfl) hW hS dX3_isBinding_56
def f_X3_bindingFor (b : Nat) (x : XS) (a0 : Int32) : Option (Int32) :=
    (f_X0_kindOf b x a0).bind fun v5 =>
    (f_X0_groupOf b x a0).bind fun v19 =>
    (f_X2_latestOf b x v5 v19).bind fun v22 =>
    (f_X3_isBinding b x v5 v22).bind fun v29 =>
    if (v29 = 0 : Prop) then
      some (-1)
    else
      some v22
set_option maxRecDepth 100000 in
set_option maxHeartbeats 4000000 in
theorem p_X3_bindingFor (l : Launch) (E : TE) {b : Nat} (hB_b : IsB b) (x m : XS) (g o : Int64) {a0 : Int32} {r : Int32} (hf : f_X3_bindingFor b x a0 = some r) : MG l E yX3_bindingFor cX3_bindingFor 4 (some .int) 4 [rf E b, .int a0] (Wd E x m g o) (Wd E x m g o) (some (.int r)) := by
  unfold f_X3_bindingFor at hf
  refine m_in (by decide) (Nat.le_of_ble_eq_true rfl) ?_
  intro p e s mi args below meth c H ls hx hb hr hlk hml hown hB hK hW hS hl
  have hl : lv_has ls 4 [(0, rf E b), (1, .int a0)] := hl
  refine lv_aload_n hx hb dX3_bindingFor_0 rfl (lv_at hl 0 rfl) ?_
  refine gf_X3_21 hx hb hB hK hown hW hB_b dX3_bindingFor_1 ?_
  refine lv_iload_n hx hb dX3_bindingFor_4 rfl (lv_at hl 1 rfl) ?_
  obtain ⟨v5, e5, hf⟩ := ob2 hf
  refine c_V (As := [.int a0]) (st1 := [.int v5]) (rest := []) (p_X0_kindOf l E hB_b x m g o e5) (kc_X3_99 hB ⟨Nat.le_of_ble_eq_true rfl, Nat.le_of_ble_eq_true rfl⟩) (Wd.rec hK hW (hB_b.l8 (j := 7) (by decide)) (cB_7 hB_b) (ci := 0) rfl) hx hb hml hown hB hK hW hS ⟨Nat.zero_le _, Nat.zero_le _⟩ rfl hl.1 rfl (Nat.le_of_ble_eq_true rfl) rfl dX3_bindingFor_5 (fun H locs hW hS => ?_)
  refine lv_istore_n (lv' := [(2, .int v5), (0, rf E b), (1, .int a0)]) hx hb dX3_bindingFor_8 rfl hl (by decide) rfl (fun ls hl => ?_)
  refine lv_aload_n hx hb dX3_bindingFor_9 rfl (lv_at hl 1 rfl) ?_
  refine gf_X3_28 hx hb hB hK hown hW hB_b dX3_bindingFor_10 ?_
  refine lv_iload_n hx hb dX3_bindingFor_13 rfl (lv_at hl 0 rfl) ?_
  refine lv_aload_n hx hb dX3_bindingFor_14 rfl (lv_at hl 1 rfl) ?_
  refine gf_X3_21 hx hb hB hK hown hW hB_b dX3_bindingFor_15 ?_
  refine lv_iload_n hx hb dX3_bindingFor_18 rfl (lv_at hl 2 rfl) ?_
  obtain ⟨v19, e19, hf⟩ := ob2 hf
  refine c_V (As := [.int a0]) (st1 := [.int v19, .int v5, rf E (b + 17)]) (rest := [.int v5, rf E (b + 17)]) (p_X0_groupOf l E hB_b x m g o e19) (kc_X3_102 hB ⟨Nat.le_of_ble_eq_true rfl, Nat.le_of_ble_eq_true rfl⟩) (Wd.rec hK hW (hB_b.l8 (j := 7) (by decide)) (cB_7 hB_b) (ci := 0) rfl) hx hb hml hown hB hK hW hS ⟨Nat.zero_le _, Nat.zero_le _⟩ rfl hl.1 rfl (Nat.le_of_ble_eq_true rfl) rfl dX3_bindingFor_19 (fun H locs hW hS => ?_)
  obtain ⟨v22, e22, hf⟩ := ob2 hf
  refine c_V (As := [.int v5, .int v19]) (st1 := [.int v22]) (rest := []) (p_X2_latestOf l E hB_b x m g o e22) (kc_X3_105 hB ⟨Nat.le_of_ble_eq_true rfl, Nat.le_of_ble_eq_true rfl⟩) (Wd.rec hK hW (hB_b.l8 (j := 17) (by decide)) (cB_17 hB_b) (ci := 2) rfl) hx hb hml hown hB hK hW hS ⟨Nat.zero_le _, Nat.zero_le _⟩ rfl hl.1 rfl (Nat.le_of_ble_eq_true rfl) rfl dX3_bindingFor_22 (fun H locs hW hS => ?_)
  refine lv_istore_n (lv' := [(3, .int v22), (2, .int v5), (0, rf E b), (1, .int a0)]) hx hb dX3_bindingFor_25 rfl hl (by decide) rfl (fun ls hl => ?_)
  refine lv_aload_n hx hb dX3_bindingFor_26 rfl (lv_at hl 2 rfl) ?_
  refine lv_iload_n hx hb dX3_bindingFor_27 rfl (lv_at hl 1 rfl) ?_
  refine lv_iload_n hx hb dX3_bindingFor_28 rfl (lv_at hl 0 rfl) ?_
  obtain ⟨v29, e29, hf⟩ := ob2 hf
  refine c_V (As := [.int v5, .int v22]) (st1 := [.int v29]) (rest := []) (p_X3_isBinding l E hB_b x m g o e29) (kc_X3_109 hB ⟨Nat.le_of_ble_eq_true rfl, Nat.le_of_ble_eq_true rfl⟩) (Wd.rec hK hW hB_b.l0 (cB_0 hB_b) (ci := 3) rfl) hx hb hml hown hB hK hW hS ⟨Nat.zero_le _, Nat.zero_le _⟩ rfl hl.1 rfl (Nat.le_of_ble_eq_true rfl) rfl dX3_bindingFor_29 (fun H locs hW hS => ?_)
  refine lv_if_eq (tgt := 39) hx hb dX3_bindingFor_32 (by decide) (fun c32 => ?_) (fun c32 => ?_)
  · rw [if_pos c32] at hf
    refine lv_iconst (v := (-1)) hx hb dX3_bindingFor_39 (by decide) ?_
    cases hf
    exact e_i hx hb hr hlk hW hS dX3_bindingFor_40
  · rw [if_neg c32] at hf
    refine lv_iload_n hx hb dX3_bindingFor_35 rfl (lv_at hl 0 rfl) ?_
    refine lv_goto (tgt := 40) hx hb dX3_bindingFor_36 (by decide) ?_
    cases hf
    exact e_i hx hb hr hlk hW hS dX3_bindingFor_40
def f_X3_leftOf (b : Nat) (x : XS) (a0 : Int32) : Option (Int32) :=
    (f_X4_isKind a0).bind fun v1 =>
    if (v1 = 0 : Prop) then
      some 0
    else
      ((aget 4 (x (b + 24)) a0).bind fun v12 =>
      (aget 4 (x (b + 25)) a0).bind fun v18 =>
      some (v12 - v18))
set_option maxRecDepth 100000 in
set_option maxHeartbeats 4000000 in
theorem p_X3_leftOf (l : Launch) (E : TE) {b : Nat} (hB_b : IsB b) (x m : XS) (g o : Int64) {a0 : Int32} {r : Int32} (hf : f_X3_leftOf b x a0 = some r) : MG l E yX3_leftOf cX3_leftOf 2 (some .int) 1 [rf E b, .int a0] (Wd E x m g o) (Wd E x m g o) (some (.int r)) := by
  unfold f_X3_leftOf at hf
  refine m_in (by decide) (Nat.le_of_ble_eq_true rfl) ?_
  intro p e s mi args below meth c H ls hx hb hr hlk hml hown hB hK hW hS hl
  have hl : lv_has ls 2 [(0, rf E b), (1, .int a0)] := hl
  refine lv_iload_n hx hb dX3_leftOf_0 rfl (lv_at hl 1 rfl) ?_
  obtain ⟨v1, e1, hf⟩ := ob2 hf
  refine c_SN (As := [.int a0]) (st1 := [.int v1]) (rest := []) (p_X4_isKind l E x m g o e1) (kc_X3_76 hB hK ⟨Nat.le_of_ble_eq_true rfl, Nat.le_of_ble_eq_true rfl⟩) hx hb hml hown hB hK hW hS ⟨Nat.zero_le _, Nat.zero_le _⟩ rfl hl.1 rfl (Nat.le_of_ble_eq_true rfl) rfl dX3_leftOf_1 (fun H locs hW hS => ?_)
  refine lv_if_eq (tgt := 23) hx hb dX3_leftOf_4 (by decide) (fun c4 => ?_) (fun c4 => ?_)
  · rw [if_pos c4] at hf
    refine lv_iconst (v := 0) hx hb dX3_leftOf_23 (by decide) ?_
    cases hf
    exact e_i hx hb hr hlk hW hS dX3_leftOf_24
  · rw [if_neg c4] at hf
    refine lv_aload_n hx hb dX3_leftOf_7 rfl (lv_at hl 0 rfl) ?_
    refine gf_X3_39 hx hb hB hK hown hW hB_b dX3_leftOf_8 ?_
    refine lv_iload_n hx hb dX3_leftOf_11 rfl (lv_at hl 1 rfl) ?_
    obtain ⟨v12, e12, hf⟩ := ob2 hf
    refine r_iald hx hb hK hW (hB_b.l8 (by decide)) (cB_24 hB_b) e12 dX3_leftOf_12 ?_
    refine lv_aload_n hx hb dX3_leftOf_13 rfl (lv_at hl 0 rfl) ?_
    refine gf_X3_42 hx hb hB hK hown hW hB_b dX3_leftOf_14 ?_
    refine lv_iload_n hx hb dX3_leftOf_17 rfl (lv_at hl 1 rfl) ?_
    obtain ⟨v18, e18, hf⟩ := ob2 hf
    refine r_iald hx hb hK hW (hB_b.l8 (by decide)) (cB_25 hB_b) e18 dX3_leftOf_18 ?_
    refine lv_isub hx hb dX3_leftOf_19 ?_
    refine lv_goto (tgt := 24) hx hb dX3_leftOf_20 (by decide) ?_
    cases hf
    exact e_i hx hb hr hlk hW hS dX3_leftOf_24
def f_X3_againstDecision_93 (b : Nat) (x : XS) (l2_93 : Int32) (l4_93 : Int32) : Option (Int32) :=
    (f_X1_costOf b x l4_93 l2_93).bind fun v100 =>
    (f_X3_leftOf b x l4_93).bind fun v106 =>
    if (v100 ≤ v106 : Prop) then
      some 0
    else
      some 5
def f_X3_againstDecision (b : Nat) (x : XS) (a0 : Int32) (a1 : Int32) (a2 : Int32) : Option (Int32) :=
    (f_X0_kindOf b x a0).bind fun v5 =>
    (f_X0_stageOf b x a0).bind fun v15 =>
    if (v15 = 0 : Prop) then
      ((f_X1_isOffered b x v5 a1).bind fun v30 =>
      if (v30 = 0 : Prop) then
        some 2
      else
        ((f_X0_severityOf b x a0).bind fun v50 =>
        (f_X1_covers b x v5 a1 v50).bind fun v53 =>
        if (v53 = 0 : Prop) then
          some 3
        else
          ((f_X3_bindingFor b x a0).bind fun v63 =>
          if (v63 = (-1) : Prop) then
            f_X3_againstDecision_93 b x a1 v5
          else
            ((f_X2_amendsOf b x v63).bind fun v80 =>
            if (v80 = a1 : Prop) then
              f_X3_againstDecision_93 b x a1 v5
            else
              (if (a2 = 0 : Prop) then
                some 4
              else
                f_X3_againstDecision_93 b x a1 v5)))))
    else
      some 1
set_option maxRecDepth 100000 in
set_option maxHeartbeats 4000000 in
theorem p_X3_againstDecision (l : Launch) (E : TE) {b : Nat} (hB_b : IsB b) (x m : XS) (g o : Int64) {a0 : Int32} {a1 : Int32} {a2 : Int32} {r : Int32} (hf : f_X3_againstDecision b x a0 a1 a2 = some r) : MG l E yX3_againstDecision cX3_againstDecision 6 (some .int) 5 [rf E b, .int a0, .int a1, .int a2] (Wd E x m g o) (Wd E x m g o) (some (.int r)) := by
  unfold f_X3_againstDecision at hf
  refine m_in (by decide) (Nat.le_of_ble_eq_true rfl) ?_
  intro p e s mi args below meth c H ls hx hb hr hlk hml hown hB hK hW hS hl
  have hl : lv_has ls 6 [(0, rf E b), (1, .int a0), (2, .int a1), (3, .int a2)] := hl
  have J93 : ∀ (l2_93 : Int32) (l4_93 : Int32) (H : Heap) (locs : List Loc) (ls : Array Slot), f_X3_againstDecision_93 b x l2_93 l4_93 = some r → Wd E x m g o H → va_S (Ah E) s.heap H locs → lv_has ls 6 [(0, rf E b), (2, .int l2_93), (4, .int l4_93)] → W p l e (rmH 5) s mi args below meth c H locs 0 0 (EQ E below args s (Wd E x m g o) (some (.int r))) (F0 mi 93 ls []) := by
    intro l2_93 l4_93 H locs ls hf hW hS hl
    unfold f_X3_againstDecision_93 at hf
    refine lv_aload_n hx hb dX3_againstDecision_93 rfl (lv_at hl 0 rfl) ?_
    refine gf_X3_12 hx hb hB hK hown hW hB_b dX3_againstDecision_94 ?_
    refine lv_iload hx hb dX3_againstDecision_97 (lv_at hl 2 rfl) ?_
    refine lv_iload_n hx hb dX3_againstDecision_99 rfl (lv_at hl 1 rfl) ?_
    obtain ⟨v100, e100, hf⟩ := ob2 hf
    refine c_V (As := [.int l4_93, .int l2_93]) (st1 := [.int v100]) (rest := []) (p_X1_costOf l E hB_b x m g o e100) (kc_X3_137 hB ⟨Nat.le_of_ble_eq_true rfl, Nat.le_of_ble_eq_true rfl⟩) (Wd.rec hK hW (hB_b.l8 (j := 1) (by decide)) (cB_1 hB_b) (ci := 1) rfl) hx hb hml hown hB hK hW hS ⟨Nat.zero_le _, Nat.zero_le _⟩ rfl hl.1 rfl (Nat.le_of_ble_eq_true rfl) rfl dX3_againstDecision_100 (fun H locs hW hS => ?_)
    refine lv_aload_n hx hb dX3_againstDecision_103 rfl (lv_at hl 0 rfl) ?_
    refine lv_iload hx hb dX3_againstDecision_104 (lv_at hl 2 rfl) ?_
    obtain ⟨v106, e106, hf⟩ := ob2 hf
    refine c_V (As := [.int l4_93]) (st1 := [.int v106, .int v100]) (rest := [.int v100]) (p_X3_leftOf l E hB_b x m g o e106) (kc_X3_140 hB ⟨Nat.le_of_ble_eq_true rfl, Nat.le_of_ble_eq_true rfl⟩) (Wd.rec hK hW hB_b.l0 (cB_0 hB_b) (ci := 3) rfl) hx hb hml hown hB hK hW hS ⟨Nat.zero_le _, Nat.zero_le _⟩ rfl hl.1 rfl (Nat.le_of_ble_eq_true rfl) rfl dX3_againstDecision_106 (fun H locs hW hS => ?_)
    refine lv_icmp_le (tgt := 116) hx hb dX3_againstDecision_109 (by decide) (fun c109 => ?_) (fun c109 => ?_)
    · rw [if_pos c109] at hf
      refine lv_iconst (v := 0) hx hb dX3_againstDecision_116 (by decide) ?_
      cases hf
      exact e_i hx hb hr hlk hW hS dX3_againstDecision_117
    · rw [if_neg c109] at hf
      refine lv_iconst (v := 5) hx hb dX3_againstDecision_112 (by decide) ?_
      refine lv_goto (tgt := 117) hx hb dX3_againstDecision_113 (by decide) ?_
      cases hf
      exact e_i hx hb hr hlk hW hS dX3_againstDecision_117
  refine lv_aload_n hx hb dX3_againstDecision_0 rfl (lv_at hl 0 rfl) ?_
  refine gf_X3_21 hx hb hB hK hown hW hB_b dX3_againstDecision_1 ?_
  refine lv_iload_n hx hb dX3_againstDecision_4 rfl (lv_at hl 1 rfl) ?_
  obtain ⟨v5, e5, hf⟩ := ob2 hf
  refine c_V (As := [.int a0]) (st1 := [.int v5]) (rest := []) (p_X0_kindOf l E hB_b x m g o e5) (kc_X3_99 hB ⟨Nat.le_of_ble_eq_true rfl, Nat.le_of_ble_eq_true rfl⟩) (Wd.rec hK hW (hB_b.l8 (j := 7) (by decide)) (cB_7 hB_b) (ci := 0) rfl) hx hb hml hown hB hK hW hS ⟨Nat.zero_le _, Nat.zero_le _⟩ rfl hl.1 rfl (Nat.le_of_ble_eq_true rfl) rfl dX3_againstDecision_5 (fun H locs hW hS => ?_)
  refine lv_istore (lv' := [(4, .int v5), (0, rf E b), (1, .int a0), (2, .int a1), (3, .int a2)]) hx hb dX3_againstDecision_8 hl (by decide) rfl (fun ls hl => ?_)
  refine lv_aload_n hx hb dX3_againstDecision_10 rfl (lv_at hl 1 rfl) ?_
  refine gf_X3_21 hx hb hB hK hown hW hB_b dX3_againstDecision_11 ?_
  refine lv_iload_n hx hb dX3_againstDecision_14 rfl (lv_at hl 2 rfl) ?_
  obtain ⟨v15, e15, hf⟩ := ob2 hf
  refine c_V (As := [.int a0]) (st1 := [.int v15]) (rest := []) (p_X0_stageOf l E hB_b x m g o e15) (kc_X3_112 hB ⟨Nat.le_of_ble_eq_true rfl, Nat.le_of_ble_eq_true rfl⟩) (Wd.rec hK hW (hB_b.l8 (j := 7) (by decide)) (cB_7 hB_b) (ci := 0) rfl) hx hb hml hown hB hK hW hS ⟨Nat.zero_le _, Nat.zero_le _⟩ rfl hl.1 rfl (Nat.le_of_ble_eq_true rfl) rfl dX3_againstDecision_15 (fun H locs hW hS => ?_)
  refine lv_if_eq (tgt := 23) hx hb dX3_againstDecision_18 (by decide) (fun c18 => ?_) (fun c18 => ?_)
  · rw [if_pos c18] at hf
    refine lv_aload_n hx hb dX3_againstDecision_23 rfl (lv_at hl 1 rfl) ?_
    refine gf_X3_12 hx hb hB hK hown hW hB_b dX3_againstDecision_24 ?_
    refine lv_iload hx hb dX3_againstDecision_27 (lv_at hl 0 rfl) ?_
    refine lv_iload_n hx hb dX3_againstDecision_29 rfl (lv_at hl 3 rfl) ?_
    obtain ⟨v30, e30, hf⟩ := ob2 hf
    refine c_V (As := [.int v5, .int a1]) (st1 := [.int v30]) (rest := []) (p_X1_isOffered l E hB_b x m g o e30) (kc_X3_95 hB ⟨Nat.le_of_ble_eq_true rfl, Nat.le_of_ble_eq_true rfl⟩) (Wd.rec hK hW (hB_b.l8 (j := 1) (by decide)) (cB_1 hB_b) (ci := 1) rfl) hx hb hml hown hB hK hW hS ⟨Nat.zero_le _, Nat.zero_le _⟩ rfl hl.1 rfl (Nat.le_of_ble_eq_true rfl) rfl dX3_againstDecision_30 (fun H locs hW hS => ?_)
    refine lv_if_ne (tgt := 38) hx hb dX3_againstDecision_33 (by decide) (fun c33 => ?_) (fun c33 => ?_)
    · rw [if_neg c33] at hf
      refine lv_aload_n hx hb dX3_againstDecision_38 rfl (lv_at hl 1 rfl) ?_
      refine gf_X3_12 hx hb hB hK hown hW hB_b dX3_againstDecision_39 ?_
      refine lv_iload hx hb dX3_againstDecision_42 (lv_at hl 0 rfl) ?_
      refine lv_iload_n hx hb dX3_againstDecision_44 rfl (lv_at hl 3 rfl) ?_
      refine lv_aload_n hx hb dX3_againstDecision_45 rfl (lv_at hl 1 rfl) ?_
      refine gf_X3_21 hx hb hB hK hown hW hB_b dX3_againstDecision_46 ?_
      refine lv_iload_n hx hb dX3_againstDecision_49 rfl (lv_at hl 2 rfl) ?_
      obtain ⟨v50, e50, hf⟩ := ob2 hf
      refine c_V (As := [.int a0]) (st1 := [.int v50, .int a1, .int v5, rf E (b + 1)]) (rest := [.int a1, .int v5, rf E (b + 1)]) (p_X0_severityOf l E hB_b x m g o e50) (kc_X3_127 hB ⟨Nat.le_of_ble_eq_true rfl, Nat.le_of_ble_eq_true rfl⟩) (Wd.rec hK hW (hB_b.l8 (j := 7) (by decide)) (cB_7 hB_b) (ci := 0) rfl) hx hb hml hown hB hK hW hS ⟨Nat.zero_le _, Nat.zero_le _⟩ rfl hl.1 rfl (Nat.le_of_ble_eq_true rfl) rfl dX3_againstDecision_50 (fun H locs hW hS => ?_)
      obtain ⟨v53, e53, hf⟩ := ob2 hf
      refine c_V (As := [.int v5, .int a1, .int v50]) (st1 := [.int v53]) (rest := []) (p_X1_covers l E hB_b x m g o e53) (kc_X3_130 hB ⟨Nat.le_of_ble_eq_true rfl, Nat.le_of_ble_eq_true rfl⟩) (Wd.rec hK hW (hB_b.l8 (j := 1) (by decide)) (cB_1 hB_b) (ci := 1) rfl) hx hb hml hown hB hK hW hS ⟨Nat.zero_le _, Nat.zero_le _⟩ rfl hl.1 rfl (Nat.le_of_ble_eq_true rfl) rfl dX3_againstDecision_53 (fun H locs hW hS => ?_)
      refine lv_if_ne (tgt := 61) hx hb dX3_againstDecision_56 (by decide) (fun c56 => ?_) (fun c56 => ?_)
      · rw [if_neg c56] at hf
        refine lv_aload_n hx hb dX3_againstDecision_61 rfl (lv_at hl 1 rfl) ?_
        refine lv_iload_n hx hb dX3_againstDecision_62 rfl (lv_at hl 2 rfl) ?_
        obtain ⟨v63, e63, hf⟩ := ob2 hf
        refine c_V (As := [.int a0]) (st1 := [.int v63]) (rest := []) (p_X3_bindingFor l E hB_b x m g o e63) (kc_X3_134 hB ⟨Nat.le_of_ble_eq_true rfl, Nat.le_of_ble_eq_true rfl⟩) (Wd.rec hK hW hB_b.l0 (cB_0 hB_b) (ci := 3) rfl) hx hb hml hown hB hK hW hS ⟨Nat.zero_le _, Nat.zero_le _⟩ rfl hl.1 rfl (Nat.le_of_ble_eq_true rfl) rfl dX3_againstDecision_63 (fun H locs hW hS => ?_)
        refine lv_istore (lv' := [(5, .int v63), (4, .int v5), (0, rf E b), (1, .int a0), (2, .int a1), (3, .int a2)]) hx hb dX3_againstDecision_66 hl (by decide) rfl (fun ls hl => ?_)
        refine lv_iload hx hb dX3_againstDecision_68 (lv_at hl 0 rfl) ?_
        refine lv_iconst (v := (-1)) hx hb dX3_againstDecision_70 (by decide) ?_
        refine lv_icmp_eq (tgt := 93) hx hb dX3_againstDecision_71 (by decide) (fun c71 => ?_) (fun c71 => ?_)
        · rw [if_pos c71] at hf
          exact J93 a1 v5 _ _ _ hf hW hS (lv_sub hl [2, 4, 1] rfl)
        · rw [if_neg c71] at hf
          refine lv_aload_n hx hb dX3_againstDecision_74 rfl (lv_at hl 2 rfl) ?_
          refine gf_X3_28 hx hb hB hK hown hW hB_b dX3_againstDecision_75 ?_
          refine lv_iload hx hb dX3_againstDecision_78 (lv_at hl 0 rfl) ?_
          obtain ⟨v80, e80, hf⟩ := ob2 hf
          refine c_V (As := [.int v63]) (st1 := [.int v80]) (rest := []) (p_X2_amendsOf l E hB_b x m g o e80) (kc_X3_92 hB ⟨Nat.le_of_ble_eq_true rfl, Nat.le_of_ble_eq_true rfl⟩) (Wd.rec hK hW (hB_b.l8 (j := 17) (by decide)) (cB_17 hB_b) (ci := 2) rfl) hx hb hml hown hB hK hW hS ⟨Nat.zero_le _, Nat.zero_le _⟩ rfl hl.1 rfl (Nat.le_of_ble_eq_true rfl) rfl dX3_againstDecision_80 (fun H locs hW hS => ?_)
          refine lv_iload_n hx hb dX3_againstDecision_83 rfl (lv_at hl 4 rfl) ?_
          refine lv_icmp_eq (tgt := 93) hx hb dX3_againstDecision_84 (by decide) (fun c84 => ?_) (fun c84 => ?_)
          · rw [if_pos c84] at hf
            exact J93 a1 v5 _ _ _ hf hW hS (lv_sub hl [2, 4, 1] rfl)
          · rw [if_neg c84] at hf
            refine lv_iload_n hx hb dX3_againstDecision_87 rfl (lv_at hl 5 rfl) ?_
            refine lv_if_ne (tgt := 93) hx hb dX3_againstDecision_88 (by decide) (fun c88 => ?_) (fun c88 => ?_)
            · rw [if_neg c88] at hf
              exact J93 a1 v5 _ _ _ hf hW hS (lv_sub hl [2, 4, 1] rfl)
            · rw [if_pos c88] at hf
              refine lv_iconst (v := 4) hx hb dX3_againstDecision_91 (by decide) ?_
              cases hf
              exact e_i hx hb hr hlk hW hS dX3_againstDecision_92
      · rw [if_pos c56] at hf
        refine lv_iconst (v := 3) hx hb dX3_againstDecision_59 (by decide) ?_
        cases hf
        exact e_i hx hb hr hlk hW hS dX3_againstDecision_60
    · rw [if_pos c33] at hf
      refine lv_iconst (v := 2) hx hb dX3_againstDecision_36 (by decide) ?_
      cases hf
      exact e_i hx hb hr hlk hW hS dX3_againstDecision_37
  · rw [if_neg c18] at hf
    refine lv_iconst (v := 1) hx hb dX3_againstDecision_21 (by decide) ?_
    cases hf
    exact e_i hx hb hr hlk hW hS dX3_againstDecision_22
def f_X3_hand_47 (b : Nat) (x47 : XS) (l1_47 : Int32) (l2_47 : Int32) (l4_47 : Int32) : Option (XS) :=
    (f_X0_give b x47 l1_47 l2_47 l4_47).bind fun x55 =>
    some x55
def f_X3_hand (b : Nat) (x : XS) (a0 : Int32) (a1 : Int32) : Option (XS) :=
    (f_X0_kindOf b x a0).bind fun v5 =>
    (f_X1_costOf b x v5 a1).bind fun v15 =>
    (f_X4_isKind v5).bind fun v21 =>
    if (v21 = 0 : Prop) then
      f_X3_hand_47 b x a0 a1 v15
    else
      ((aget 4 (x (b + 25)) v5).bind fun v33 =>
      (f_X0_gotOf b x a0).bind fun v41 =>
      (aset x (b + 25) 4 v5 (v33 + (v15 - v41))).bind fun x46 =>
      f_X3_hand_47 b x46 a0 a1 v15)
set_option maxRecDepth 100000 in
set_option maxHeartbeats 4000000 in
theorem p_X3_hand (l : Launch) (E : TE) {b : Nat} (hB_b : IsB b) (x m : XS) (g o : Int64) {a0 : Int32} {a1 : Int32} {xr : XS} (hf : f_X3_hand b x a0 a1 = some xr) : MG l E yX3_hand cX3_hand 5 none 3 [rf E b, .int a0, .int a1] (Wd E x m g o) (Wd E xr m g o) none := by
  unfold f_X3_hand at hf
  refine m_in (by decide) (Nat.le_of_ble_eq_true rfl) ?_
  intro p e s mi args below meth c H ls hx hb hr hlk hml hown hB hK hW hS hl
  have hl : lv_has ls 5 [(0, rf E b), (1, .int a0), (2, .int a1)] := hl
  have J47 : ∀ (x47 : XS) (l1_47 : Int32) (l2_47 : Int32) (l4_47 : Int32) (H : Heap) (locs : List Loc) (ls : Array Slot), f_X3_hand_47 b x47 l1_47 l2_47 l4_47 = some xr → Wd E x47 m g o H → va_S (Ah E) s.heap H locs → lv_has ls 5 [(0, rf E b), (1, .int l1_47), (2, .int l2_47), (4, .int l4_47)] → W p l e (rmH 3) s mi args below meth c H locs 0 0 (EQ E below args s (Wd E xr m g o) none) (F0 mi 47 ls []) := by
    intro x47 l1_47 l2_47 l4_47 H locs ls hf hW hS hl
    unfold f_X3_hand_47 at hf
    refine lv_aload_n hx hb dX3_hand_47 rfl (lv_at hl 0 rfl) ?_
    refine gf_X3_21 hx hb hB hK hown hW hB_b dX3_hand_48 ?_
    refine lv_iload_n hx hb dX3_hand_51 rfl (lv_at hl 1 rfl) ?_
    refine lv_iload_n hx hb dX3_hand_52 rfl (lv_at hl 2 rfl) ?_
    refine lv_iload hx hb dX3_hand_53 (lv_at hl 3 rfl) ?_
    obtain ⟨x55, e55, hf⟩ := ob2 hf
    refine c_V (As := [.int l1_47, .int l2_47, .int l4_47]) (st1 := []) (rest := []) (p_X0_give l E hB_b x47 m g o e55) (kc_X3_158 hB ⟨Nat.le_of_ble_eq_true rfl, Nat.le_of_ble_eq_true rfl⟩) (Wd.rec hK hW (hB_b.l8 (j := 7) (by decide)) (cB_7 hB_b) (ci := 0) rfl) hx hb hml hown hB hK hW hS ⟨Nat.zero_le _, Nat.zero_le _⟩ rfl hl.1 rfl (Nat.le_of_ble_eq_true rfl) rfl dX3_hand_55 (fun H locs hW hS => ?_)
    cases hf
    exact e_v hx hb hr hlk hW hS dX3_hand_58
  refine lv_aload_n hx hb dX3_hand_0 rfl (lv_at hl 0 rfl) ?_
  refine gf_X3_21 hx hb hB hK hown hW hB_b dX3_hand_1 ?_
  refine lv_iload_n hx hb dX3_hand_4 rfl (lv_at hl 1 rfl) ?_
  obtain ⟨v5, e5, hf⟩ := ob2 hf
  refine c_V (As := [.int a0]) (st1 := [.int v5]) (rest := []) (p_X0_kindOf l E hB_b x m g o e5) (kc_X3_99 hB ⟨Nat.le_of_ble_eq_true rfl, Nat.le_of_ble_eq_true rfl⟩) (Wd.rec hK hW (hB_b.l8 (j := 7) (by decide)) (cB_7 hB_b) (ci := 0) rfl) hx hb hml hown hB hK hW hS ⟨Nat.zero_le _, Nat.zero_le _⟩ rfl hl.1 rfl (Nat.le_of_ble_eq_true rfl) rfl dX3_hand_5 (fun H locs hW hS => ?_)
  refine lv_istore_n (lv' := [(3, .int v5), (0, rf E b), (1, .int a0), (2, .int a1)]) hx hb dX3_hand_8 rfl hl (by decide) rfl (fun ls hl => ?_)
  refine lv_aload_n hx hb dX3_hand_9 rfl (lv_at hl 1 rfl) ?_
  refine gf_X3_12 hx hb hB hK hown hW hB_b dX3_hand_10 ?_
  refine lv_iload_n hx hb dX3_hand_13 rfl (lv_at hl 0 rfl) ?_
  refine lv_iload_n hx hb dX3_hand_14 rfl (lv_at hl 3 rfl) ?_
  obtain ⟨v15, e15, hf⟩ := ob2 hf
  refine c_V (As := [.int v5, .int a1]) (st1 := [.int v15]) (rest := []) (p_X1_costOf l E hB_b x m g o e15) (kc_X3_137 hB ⟨Nat.le_of_ble_eq_true rfl, Nat.le_of_ble_eq_true rfl⟩) (Wd.rec hK hW (hB_b.l8 (j := 1) (by decide)) (cB_1 hB_b) (ci := 1) rfl) hx hb hml hown hB hK hW hS ⟨Nat.zero_le _, Nat.zero_le _⟩ rfl hl.1 rfl (Nat.le_of_ble_eq_true rfl) rfl dX3_hand_15 (fun H locs hW hS => ?_)
  refine lv_istore (lv' := [(4, .int v15), (3, .int v5), (0, rf E b), (1, .int a0), (2, .int a1)]) hx hb dX3_hand_18 hl (by decide) rfl (fun ls hl => ?_)
  refine lv_iload_n hx hb dX3_hand_20 rfl (lv_at hl 1 rfl) ?_
  obtain ⟨v21, e21, hf⟩ := ob2 hf
  refine c_SN (As := [.int v5]) (st1 := [.int v21]) (rest := []) (p_X4_isKind l E x m g o e21) (kc_X3_76 hB hK ⟨Nat.le_of_ble_eq_true rfl, Nat.le_of_ble_eq_true rfl⟩) hx hb hml hown hB hK hW hS ⟨Nat.zero_le _, Nat.zero_le _⟩ rfl hl.1 rfl (Nat.le_of_ble_eq_true rfl) rfl dX3_hand_21 (fun H locs hW hS => ?_)
  refine lv_if_eq (tgt := 47) hx hb dX3_hand_24 (by decide) (fun c24 => ?_) (fun c24 => ?_)
  · rw [if_pos c24] at hf
    exact J47 x a0 a1 v15 _ _ _ hf hW hS (lv_sub hl [2, 3, 4, 0] rfl)
  · rw [if_neg c24] at hf
    refine lv_aload_n hx hb dX3_hand_27 rfl (lv_at hl 2 rfl) ?_
    refine gf_X3_42 hx hb hB hK hown hW hB_b dX3_hand_28 ?_
    refine lv_iload_n hx hb dX3_hand_31 rfl (lv_at hl 1 rfl) ?_
    refine lv_dup2_11 hx hb dX3_hand_32 rfl rfl ?_
    obtain ⟨v33, e33, hf⟩ := ob2 hf
    refine r_iald hx hb hK hW (hB_b.l8 (by decide)) (cB_25 hB_b) e33 dX3_hand_33 ?_
    refine lv_iload hx hb dX3_hand_34 (lv_at hl 0 rfl) ?_
    refine lv_aload_n hx hb dX3_hand_36 rfl (lv_at hl 2 rfl) ?_
    refine gf_X3_21 hx hb hB hK hown hW hB_b dX3_hand_37 ?_
    refine lv_iload_n hx hb dX3_hand_40 rfl (lv_at hl 3 rfl) ?_
    obtain ⟨v41, e41, hf⟩ := ob2 hf
    refine c_V (As := [.int a0]) (st1 := [.int v41, .int v15, .int v33, .int v5, rf E (b + 25)]) (rest := [.int v15, .int v33, .int v5, rf E (b + 25)]) (p_X0_gotOf l E hB_b x m g o e41) (kc_X3_155 hB ⟨Nat.le_of_ble_eq_true rfl, Nat.le_of_ble_eq_true rfl⟩) (Wd.rec hK hW (hB_b.l8 (j := 7) (by decide)) (cB_7 hB_b) (ci := 0) rfl) hx hb hml hown hB hK hW hS ⟨Nat.zero_le _, Nat.zero_le _⟩ rfl hl.1 rfl (Nat.le_of_ble_eq_true rfl) rfl dX3_hand_41 (fun H locs hW hS => ?_)
    refine lv_isub hx hb dX3_hand_44 ?_
    refine lv_iadd hx hb dX3_hand_45 ?_
    obtain ⟨x46, e46, hf⟩ := ob2 hf
    refine r_iastX hx hb hK hW hS (hB_b.lt (by decide)) (fun _ => cB_25 hB_b) e46 dX3_hand_46 (fun H locs hW hS => ?_)
    exact J47 x46 a0 a1 v15 _ _ _ hf hW hS (lv_sub hl [2, 3, 4, 0] rfl)
def f_X3_tieOf (b : Nat) (x : XS) (a0 : Int32) : Option (Int32) :=
    (f_X0_stageOf b x a0).bind fun v5 =>
    if (v5 = 0 : Prop) then
      some 0
    else
      ((f_X0_followedBy b x a0).bind fun v18 =>
      if (v18 = (-1) : Prop) then
        some 3
      else
        ((f_X2_setterOf b x v18).bind fun v34 =>
        if (v34 = a0 : Prop) then
          some 1
        else
          some 2))
set_option maxRecDepth 100000 in
set_option maxHeartbeats 4000000 in
theorem p_X3_tieOf (l : Launch) (E : TE) {b : Nat} (hB_b : IsB b) (x m : XS) (g o : Int64) {a0 : Int32} {r : Int32} (hf : f_X3_tieOf b x a0 = some r) : MG l E yX3_tieOf cX3_tieOf 3 (some .int) 2 [rf E b, .int a0] (Wd E x m g o) (Wd E x m g o) (some (.int r)) := by
  unfold f_X3_tieOf at hf
  refine m_in (by decide) (Nat.le_of_ble_eq_true rfl) ?_
  intro p e s mi args below meth c H ls hx hb hr hlk hml hown hB hK hW hS hl
  have hl : lv_has ls 3 [(0, rf E b), (1, .int a0)] := hl
  refine lv_aload_n hx hb dX3_tieOf_0 rfl (lv_at hl 0 rfl) ?_
  refine gf_X3_21 hx hb hB hK hown hW hB_b dX3_tieOf_1 ?_
  refine lv_iload_n hx hb dX3_tieOf_4 rfl (lv_at hl 1 rfl) ?_
  obtain ⟨v5, e5, hf⟩ := ob2 hf
  refine c_V (As := [.int a0]) (st1 := [.int v5]) (rest := []) (p_X0_stageOf l E hB_b x m g o e5) (kc_X3_112 hB ⟨Nat.le_of_ble_eq_true rfl, Nat.le_of_ble_eq_true rfl⟩) (Wd.rec hK hW (hB_b.l8 (j := 7) (by decide)) (cB_7 hB_b) (ci := 0) rfl) hx hb hml hown hB hK hW hS ⟨Nat.zero_le _, Nat.zero_le _⟩ rfl hl.1 rfl (Nat.le_of_ble_eq_true rfl) rfl dX3_tieOf_5 (fun H locs hW hS => ?_)
  refine lv_if_ne (tgt := 13) hx hb dX3_tieOf_8 (by decide) (fun c8 => ?_) (fun c8 => ?_)
  · rw [if_neg c8] at hf
    refine lv_aload_n hx hb dX3_tieOf_13 rfl (lv_at hl 0 rfl) ?_
    refine gf_X3_21 hx hb hB hK hown hW hB_b dX3_tieOf_14 ?_
    refine lv_iload_n hx hb dX3_tieOf_17 rfl (lv_at hl 1 rfl) ?_
    obtain ⟨v18, e18, hf⟩ := ob2 hf
    refine c_V (As := [.int a0]) (st1 := [.int v18]) (rest := []) (p_X0_followedBy l E hB_b x m g o e18) (kc_X3_115 hB ⟨Nat.le_of_ble_eq_true rfl, Nat.le_of_ble_eq_true rfl⟩) (Wd.rec hK hW (hB_b.l8 (j := 7) (by decide)) (cB_7 hB_b) (ci := 0) rfl) hx hb hml hown hB hK hW hS ⟨Nat.zero_le _, Nat.zero_le _⟩ rfl hl.1 rfl (Nat.le_of_ble_eq_true rfl) rfl dX3_tieOf_18 (fun H locs hW hS => ?_)
    refine lv_istore_n (lv' := [(2, .int v18), (0, rf E b), (1, .int a0)]) hx hb dX3_tieOf_21 rfl hl (by decide) rfl (fun ls hl => ?_)
    refine lv_iload_n hx hb dX3_tieOf_22 rfl (lv_at hl 0 rfl) ?_
    refine lv_iconst (v := (-1)) hx hb dX3_tieOf_23 (by decide) ?_
    refine lv_icmp_ne (tgt := 29) hx hb dX3_tieOf_24 (by decide) (fun c24 => ?_) (fun c24 => ?_)
    · rw [if_neg c24] at hf
      refine lv_aload_n hx hb dX3_tieOf_29 rfl (lv_at hl 1 rfl) ?_
      refine gf_X3_28 hx hb hB hK hown hW hB_b dX3_tieOf_30 ?_
      refine lv_iload_n hx hb dX3_tieOf_33 rfl (lv_at hl 0 rfl) ?_
      obtain ⟨v34, e34, hf⟩ := ob2 hf
      refine c_V (As := [.int v18]) (st1 := [.int v34]) (rest := []) (p_X2_setterOf l E hB_b x m g o e34) (kc_X3_118 hB ⟨Nat.le_of_ble_eq_true rfl, Nat.le_of_ble_eq_true rfl⟩) (Wd.rec hK hW (hB_b.l8 (j := 17) (by decide)) (cB_17 hB_b) (ci := 2) rfl) hx hb hml hown hB hK hW hS ⟨Nat.zero_le _, Nat.zero_le _⟩ rfl hl.1 rfl (Nat.le_of_ble_eq_true rfl) rfl dX3_tieOf_34 (fun H locs hW hS => ?_)
      refine lv_iload_n hx hb dX3_tieOf_37 rfl (lv_at hl 2 rfl) ?_
      refine lv_icmp_ne (tgt := 45) hx hb dX3_tieOf_38 (by decide) (fun c38 => ?_) (fun c38 => ?_)
      · rw [if_neg c38] at hf
        refine lv_iconst (v := 2) hx hb dX3_tieOf_45 (by decide) ?_
        cases hf
        exact e_i hx hb hr hlk hW hS dX3_tieOf_46
      · rw [if_pos c38] at hf
        refine lv_iconst (v := 1) hx hb dX3_tieOf_41 (by decide) ?_
        refine lv_goto (tgt := 46) hx hb dX3_tieOf_42 (by decide) ?_
        cases hf
        exact e_i hx hb hr hlk hW hS dX3_tieOf_46
    · rw [if_pos c24] at hf
      refine lv_iconst (v := 3) hx hb dX3_tieOf_27 (by decide) ?_
      cases hf
      exact e_i hx hb hr hlk hW hS dX3_tieOf_28
  · rw [if_pos c8] at hf
    refine lv_iconst (v := 0) hx hb dX3_tieOf_11 (by decide) ?_
    cases hf
    exact e_i hx hb hr hlk hW hS dX3_tieOf_12
def f_X3_makeDecision_117 (b : Nat) (x117 : XS) (l1_117 : Int32) : Option (Int32 × XS) :=
    (f_X3_tieOf b x117 l1_117).bind fun v119 =>
    some (v119, x117)
def f_X3_makeDecision (b : Nat) (x : XS) (a0 : Int32) (a1 : Int32) (a2 : Int32) : Option (Int32 × XS) :=
    (f_X0_kindOf b x a0).bind fun v5 =>
    (f_X3_bindingFor b x a0).bind fun v12 =>
    (f_X3_hand b x a0 a1).bind fun x20 =>
    if (v12 = (-1) : Prop) then
      ((f_X0_groupOf b x20 a0).bind fun v40 =>
      (f_X2_add b x20 v5 v40 a1 (x20 b 7) a0).bind fun q49 => (fun v49 x49 =>
      (f_X0_noteDecision b x49 a0 (x49 b 7) v49 0).bind fun x66 =>
      f_X3_makeDecision_117 b x66 a0) q49.1 q49.2)
    else
      ((f_X2_amendsOf b x20 v12).bind fun v78 =>
      if (v78 = a1 : Prop) then
        ((f_X0_noteDecision b x20 a0 (x20 b 7) v12 0).bind fun x97 =>
        f_X3_makeDecision_117 b x97 a0)
      else
        ((f_X0_noteDecision b x20 a0 (x20 b 7) (-1) a2).bind fun x114 =>
        f_X3_makeDecision_117 b x114 a0))
set_option maxRecDepth 100000 in
set_option maxHeartbeats 4000000 in
theorem p_X3_makeDecision (l : Launch) (E : TE) {b : Nat} (hB_b : IsB b) (x m : XS) (g o : Int64) {a0 : Int32} {a1 : Int32} {a2 : Int32} {r : Int32} {xr : XS} (hf : f_X3_makeDecision b x a0 a1 a2 = some (r, xr)) : MG l E yX3_makeDecision cX3_makeDecision 7 (some .int) 5 [rf E b, .int a0, .int a1, .int a2] (Wd E x m g o) (Wd E xr m g o) (some (.int r)) := by
  unfold f_X3_makeDecision at hf
  refine m_in (by decide) (Nat.le_of_ble_eq_true rfl) ?_
  intro p e s mi args below meth c H ls hx hb hr hlk hml hown hB hK hW hS hl
  have hl : lv_has ls 7 [(0, rf E b), (1, .int a0), (2, .int a1), (3, .int a2)] := hl
  have J117 : ∀ (x117 : XS) (l1_117 : Int32) (H : Heap) (locs : List Loc) (ls : Array Slot), f_X3_makeDecision_117 b x117 l1_117 = some (r, xr) → Wd E x117 m g o H → va_S (Ah E) s.heap H locs → lv_has ls 7 [(0, rf E b), (1, .int l1_117)] → W p l e (rmH 5) s mi args below meth c H locs 0 0 (EQ E below args s (Wd E xr m g o) (some (.int r))) (F0 mi 117 ls []) := by
    intro x117 l1_117 H locs ls hf hW hS hl
    unfold f_X3_makeDecision_117 at hf
    refine lv_aload_n hx hb dX3_makeDecision_117 rfl (lv_at hl 0 rfl) ?_
    refine lv_iload_n hx hb dX3_makeDecision_118 rfl (lv_at hl 1 rfl) ?_
    obtain ⟨v119, e119, hf⟩ := ob2 hf
    refine c_V (As := [.int l1_117]) (st1 := [.int v119]) (rest := []) (p_X3_tieOf l E hB_b x117 m g o e119) (kc_X3_124 hB ⟨Nat.le_of_ble_eq_true rfl, Nat.le_of_ble_eq_true rfl⟩) (Wd.rec hK hW hB_b.l0 (cB_0 hB_b) (ci := 3) rfl) hx hb hml hown hB hK hW hS ⟨Nat.zero_le _, Nat.zero_le _⟩ rfl hl.1 rfl (Nat.le_of_ble_eq_true rfl) rfl dX3_makeDecision_119 (fun H locs hW hS => ?_)
    cases hf
    exact e_i hx hb hr hlk hW hS dX3_makeDecision_122
  refine lv_aload_n hx hb dX3_makeDecision_0 rfl (lv_at hl 0 rfl) ?_
  refine gf_X3_21 hx hb hB hK hown hW hB_b dX3_makeDecision_1 ?_
  refine lv_iload_n hx hb dX3_makeDecision_4 rfl (lv_at hl 1 rfl) ?_
  obtain ⟨v5, e5, hf⟩ := ob2 hf
  refine c_V (As := [.int a0]) (st1 := [.int v5]) (rest := []) (p_X0_kindOf l E hB_b x m g o e5) (kc_X3_99 hB ⟨Nat.le_of_ble_eq_true rfl, Nat.le_of_ble_eq_true rfl⟩) (Wd.rec hK hW (hB_b.l8 (j := 7) (by decide)) (cB_7 hB_b) (ci := 0) rfl) hx hb hml hown hB hK hW hS ⟨Nat.zero_le _, Nat.zero_le _⟩ rfl hl.1 rfl (Nat.le_of_ble_eq_true rfl) rfl dX3_makeDecision_5 (fun H locs hW hS => ?_)
  refine lv_istore (lv' := [(4, .int v5), (0, rf E b), (1, .int a0), (2, .int a1), (3, .int a2)]) hx hb dX3_makeDecision_8 hl (by decide) rfl (fun ls hl => ?_)
  refine lv_aload_n hx hb dX3_makeDecision_10 rfl (lv_at hl 1 rfl) ?_
  refine lv_iload_n hx hb dX3_makeDecision_11 rfl (lv_at hl 2 rfl) ?_
  obtain ⟨v12, e12, hf⟩ := ob2 hf
  refine c_V (As := [.int a0]) (st1 := [.int v12]) (rest := []) (p_X3_bindingFor l E hB_b x m g o e12) (kc_X3_134 hB ⟨Nat.le_of_ble_eq_true rfl, Nat.le_of_ble_eq_true rfl⟩) (Wd.rec hK hW hB_b.l0 (cB_0 hB_b) (ci := 3) rfl) hx hb hml hown hB hK hW hS ⟨Nat.zero_le _, Nat.zero_le _⟩ rfl hl.1 rfl (Nat.le_of_ble_eq_true rfl) rfl dX3_makeDecision_12 (fun H locs hW hS => ?_)
  refine lv_istore (lv' := [(5, .int v12), (4, .int v5), (0, rf E b), (1, .int a0), (2, .int a1), (3, .int a2)]) hx hb dX3_makeDecision_15 hl (by decide) rfl (fun ls hl => ?_)
  refine lv_aload_n hx hb dX3_makeDecision_17 rfl (lv_at hl 2 rfl) ?_
  refine lv_iload_n hx hb dX3_makeDecision_18 rfl (lv_at hl 3 rfl) ?_
  refine lv_iload_n hx hb dX3_makeDecision_19 rfl (lv_at hl 4 rfl) ?_
  obtain ⟨x20, e20, hf⟩ := ob2 hf
  refine c_V (As := [.int a0, .int a1]) (st1 := []) (rest := []) (p_X3_hand l E hB_b x m g o e20) (kc_X3_143 hB ⟨Nat.le_of_ble_eq_true rfl, Nat.le_of_ble_eq_true rfl⟩) (Wd.rec hK hW hB_b.l0 (cB_0 hB_b) (ci := 3) rfl) hx hb hml hown hB hK hW hS ⟨Nat.zero_le _, Nat.zero_le _⟩ rfl hl.1 rfl (Nat.le_of_ble_eq_true rfl) rfl dX3_makeDecision_20 (fun H locs hW hS => ?_)
  refine lv_iload hx hb dX3_makeDecision_23 (lv_at hl 0 rfl) ?_
  refine lv_iconst (v := (-1)) hx hb dX3_makeDecision_25 (by decide) ?_
  refine lv_icmp_ne (tgt := 72) hx hb dX3_makeDecision_26 (by decide) (fun c26 => ?_) (fun c26 => ?_)
  · rw [if_neg c26] at hf
    refine lv_aload_n hx hb dX3_makeDecision_72 rfl (lv_at hl 2 rfl) ?_
    refine gf_X3_28 hx hb hB hK hown hW hB_b dX3_makeDecision_73 ?_
    refine lv_iload hx hb dX3_makeDecision_76 (lv_at hl 0 rfl) ?_
    obtain ⟨v78, e78, hf⟩ := ob2 hf
    refine c_V (As := [.int v12]) (st1 := [.int v78]) (rest := []) (p_X2_amendsOf l E hB_b x20 m g o e78) (kc_X3_92 hB ⟨Nat.le_of_ble_eq_true rfl, Nat.le_of_ble_eq_true rfl⟩) (Wd.rec hK hW (hB_b.l8 (j := 17) (by decide)) (cB_17 hB_b) (ci := 2) rfl) hx hb hml hown hB hK hW hS ⟨Nat.zero_le _, Nat.zero_le _⟩ rfl hl.1 rfl (Nat.le_of_ble_eq_true rfl) rfl dX3_makeDecision_78 (fun H locs hW hS => ?_)
    refine lv_iload_n hx hb dX3_makeDecision_81 rfl (lv_at hl 4 rfl) ?_
    refine lv_icmp_ne (tgt := 103) hx hb dX3_makeDecision_82 (by decide) (fun c82 => ?_) (fun c82 => ?_)
    · rw [if_neg c82] at hf
      refine lv_aload_n hx hb dX3_makeDecision_103 rfl (lv_at hl 2 rfl) ?_
      refine gf_X3_21 hx hb hB hK hown hW hB_b dX3_makeDecision_104 ?_
      refine lv_iload_n hx hb dX3_makeDecision_107 rfl (lv_at hl 3 rfl) ?_
      refine lv_aload_n hx hb dX3_makeDecision_108 rfl (lv_at hl 2 rfl) ?_
      refine gf_X3_68 hx hb hB hK hown hW hB_b dX3_makeDecision_109 ?_
      refine lv_iconst (v := (-1)) hx hb dX3_makeDecision_112 (by decide) ?_
      refine lv_iload_n hx hb dX3_makeDecision_113 rfl (lv_at hl 5 rfl) ?_
      obtain ⟨x114, e114, hf⟩ := ob2 hf
      refine c_V (As := [.int a0, .int (x20 b 7), .int (-1), .int a2]) (st1 := []) (rest := []) (p_X0_noteDecision l E hB_b x20 m g o e114) (kc_X3_151 hB ⟨Nat.le_of_ble_eq_true rfl, Nat.le_of_ble_eq_true rfl⟩) (Wd.rec hK hW (hB_b.l8 (j := 7) (by decide)) (cB_7 hB_b) (ci := 0) rfl) hx hb hml hown hB hK hW hS ⟨Nat.zero_le _, Nat.zero_le _⟩ rfl hl.1 rfl (Nat.le_of_ble_eq_true rfl) rfl dX3_makeDecision_114 (fun H locs hW hS => ?_)
      exact J117 x114 a0 _ _ _ hf hW hS (lv_sub hl [2, 3] rfl)
    · rw [if_pos c82] at hf
      refine lv_aload_n hx hb dX3_makeDecision_85 rfl (lv_at hl 2 rfl) ?_
      refine gf_X3_21 hx hb hB hK hown hW hB_b dX3_makeDecision_86 ?_
      refine lv_iload_n hx hb dX3_makeDecision_89 rfl (lv_at hl 3 rfl) ?_
      refine lv_aload_n hx hb dX3_makeDecision_90 rfl (lv_at hl 2 rfl) ?_
      refine gf_X3_68 hx hb hB hK hown hW hB_b dX3_makeDecision_91 ?_
      refine lv_iload hx hb dX3_makeDecision_94 (lv_at hl 0 rfl) ?_
      refine lv_iconst (v := 0) hx hb dX3_makeDecision_96 (by decide) ?_
      obtain ⟨x97, e97, hf⟩ := ob2 hf
      refine c_V (As := [.int a0, .int (x20 b 7), .int v12, .int 0]) (st1 := []) (rest := []) (p_X0_noteDecision l E hB_b x20 m g o e97) (kc_X3_151 hB ⟨Nat.le_of_ble_eq_true rfl, Nat.le_of_ble_eq_true rfl⟩) (Wd.rec hK hW (hB_b.l8 (j := 7) (by decide)) (cB_7 hB_b) (ci := 0) rfl) hx hb hml hown hB hK hW hS ⟨Nat.zero_le _, Nat.zero_le _⟩ rfl hl.1 rfl (Nat.le_of_ble_eq_true rfl) rfl dX3_makeDecision_97 (fun H locs hW hS => ?_)
      refine lv_goto (tgt := 117) hx hb dX3_makeDecision_100 (by decide) ?_
      exact J117 x97 a0 _ _ _ hf hW hS (lv_sub hl [2, 3] rfl)
  · rw [if_pos c26] at hf
    refine lv_aload_n hx hb dX3_makeDecision_29 rfl (lv_at hl 2 rfl) ?_
    refine gf_X3_28 hx hb hB hK hown hW hB_b dX3_makeDecision_30 ?_
    refine lv_iload hx hb dX3_makeDecision_33 (lv_at hl 1 rfl) ?_
    refine lv_aload_n hx hb dX3_makeDecision_35 rfl (lv_at hl 2 rfl) ?_
    refine gf_X3_21 hx hb hB hK hown hW hB_b dX3_makeDecision_36 ?_
    refine lv_iload_n hx hb dX3_makeDecision_39 rfl (lv_at hl 3 rfl) ?_
    obtain ⟨v40, e40, hf⟩ := ob2 hf
    refine c_V (As := [.int a0]) (st1 := [.int v40, .int v5, rf E (b + 17)]) (rest := [.int v5, rf E (b + 17)]) (p_X0_groupOf l E hB_b x20 m g o e40) (kc_X3_102 hB ⟨Nat.le_of_ble_eq_true rfl, Nat.le_of_ble_eq_true rfl⟩) (Wd.rec hK hW (hB_b.l8 (j := 7) (by decide)) (cB_7 hB_b) (ci := 0) rfl) hx hb hml hown hB hK hW hS ⟨Nat.zero_le _, Nat.zero_le _⟩ rfl hl.1 rfl (Nat.le_of_ble_eq_true rfl) rfl dX3_makeDecision_40 (fun H locs hW hS => ?_)
    refine lv_iload_n hx hb dX3_makeDecision_43 rfl (lv_at hl 4 rfl) ?_
    refine lv_aload_n hx hb dX3_makeDecision_44 rfl (lv_at hl 2 rfl) ?_
    refine gf_X3_68 hx hb hB hK hown hW hB_b dX3_makeDecision_45 ?_
    refine lv_iload_n hx hb dX3_makeDecision_48 rfl (lv_at hl 3 rfl) ?_
    obtain ⟨⟨v49, x49⟩, e49, hf⟩ := ob2 hf
    dsimp only at hf
    refine c_V (As := [.int v5, .int v40, .int a1, .int (x20 b 7), .int a0]) (st1 := [.int v49]) (rest := []) (p_X2_add l E hB_b x20 m g o e49) (kc_X3_147 hB ⟨Nat.le_of_ble_eq_true rfl, Nat.le_of_ble_eq_true rfl⟩) (Wd.rec hK hW (hB_b.l8 (j := 17) (by decide)) (cB_17 hB_b) (ci := 2) rfl) hx hb hml hown hB hK hW hS ⟨Nat.zero_le _, Nat.zero_le _⟩ rfl hl.1 rfl (Nat.le_of_ble_eq_true rfl) rfl dX3_makeDecision_49 (fun H locs hW hS => ?_)
    refine lv_istore (lv' := [(6, .int v49), (5, .int v12), (4, .int v5), (0, rf E b), (1, .int a0), (2, .int a1), (3, .int a2)]) hx hb dX3_makeDecision_52 hl (by decide) rfl (fun ls hl => ?_)
    refine lv_aload_n hx hb dX3_makeDecision_54 rfl (lv_at hl 3 rfl) ?_
    refine gf_X3_21 hx hb hB hK hown hW hB_b dX3_makeDecision_55 ?_
    refine lv_iload_n hx hb dX3_makeDecision_58 rfl (lv_at hl 4 rfl) ?_
    refine lv_aload_n hx hb dX3_makeDecision_59 rfl (lv_at hl 3 rfl) ?_
    refine gf_X3_68 hx hb hB hK hown hW hB_b dX3_makeDecision_60 ?_
    refine lv_iload hx hb dX3_makeDecision_63 (lv_at hl 0 rfl) ?_
    refine lv_iconst (v := 0) hx hb dX3_makeDecision_65 (by decide) ?_
    obtain ⟨x66, e66, hf⟩ := ob2 hf
    refine c_V (As := [.int a0, .int (x49 b 7), .int v49, .int 0]) (st1 := []) (rest := []) (p_X0_noteDecision l E hB_b x49 m g o e66) (kc_X3_151 hB ⟨Nat.le_of_ble_eq_true rfl, Nat.le_of_ble_eq_true rfl⟩) (Wd.rec hK hW (hB_b.l8 (j := 7) (by decide)) (cB_7 hB_b) (ci := 0) rfl) hx hb hml hown hB hK hW hS ⟨Nat.zero_le _, Nat.zero_le _⟩ rfl hl.1 rfl (Nat.le_of_ble_eq_true rfl) rfl dX3_makeDecision_66 (fun H locs hW hS => ?_)
    refine lv_goto (tgt := 117) hx hb dX3_makeDecision_69 (by decide) ?_
    exact J117 x66 a0 _ _ _ hf hW hS (lv_sub hl [3, 4] rfl)
def f_X3_canBeAppealed (b : Nat) (x : XS) (a0 : Int32) : Option (Int32) :=
    (f_X0_stageOf b x a0).bind fun v5 =>
    if (v5 = 1 : Prop) then
      ((f_X0_monthOf b x a0).bind fun v21 =>
      (f_X3_settingOf b x 1).bind fun v26 =>
      if ((v21 + v26) < (x b 7) : Prop) then
        some 0
      else
        some 1)
    else
      some 0
set_option maxRecDepth 100000 in
set_option maxHeartbeats 4000000 in
theorem p_X3_canBeAppealed (l : Launch) (E : TE) {b : Nat} (hB_b : IsB b) (x m : XS) (g o : Int64) {a0 : Int32} {r : Int32} (hf : f_X3_canBeAppealed b x a0 = some r) : MG l E yX3_canBeAppealed cX3_canBeAppealed 2 (some .boolean) 2 [rf E b, .int a0] (Wd E x m g o) (Wd E x m g o) (some (.int r)) := by
  unfold f_X3_canBeAppealed at hf
  refine m_in (by decide) (Nat.le_of_ble_eq_true rfl) ?_
  intro p e s mi args below meth c H ls hx hb hr hlk hml hown hB hK hW hS hl
  have hl : lv_has ls 2 [(0, rf E b), (1, .int a0)] := hl
  refine lv_aload_n hx hb dX3_canBeAppealed_0 rfl (lv_at hl 0 rfl) ?_
  refine gf_X3_21 hx hb hB hK hown hW hB_b dX3_canBeAppealed_1 ?_
  refine lv_iload_n hx hb dX3_canBeAppealed_4 rfl (lv_at hl 1 rfl) ?_
  obtain ⟨v5, e5, hf⟩ := ob2 hf
  refine c_V (As := [.int a0]) (st1 := [.int v5]) (rest := []) (p_X0_stageOf l E hB_b x m g o e5) (kc_X3_112 hB ⟨Nat.le_of_ble_eq_true rfl, Nat.le_of_ble_eq_true rfl⟩) (Wd.rec hK hW (hB_b.l8 (j := 7) (by decide)) (cB_7 hB_b) (ci := 0) rfl) hx hb hml hown hB hK hW hS ⟨Nat.zero_le _, Nat.zero_le _⟩ rfl hl.1 rfl (Nat.le_of_ble_eq_true rfl) rfl dX3_canBeAppealed_5 (fun H locs hW hS => ?_)
  refine lv_iconst (v := 1) hx hb dX3_canBeAppealed_8 (by decide) ?_
  refine lv_icmp_ne (tgt := 37) hx hb dX3_canBeAppealed_9 (by decide) (fun c9 => ?_) (fun c9 => ?_)
  · rw [if_neg c9] at hf
    refine lv_iconst (v := 0) hx hb dX3_canBeAppealed_37 (by decide) ?_
    cases hf
    exact e_z hx hb hr hlk (Or.inl rfl) hW hS dX3_canBeAppealed_38
  · rw [if_pos c9] at hf
    refine lv_aload_n hx hb dX3_canBeAppealed_12 rfl (lv_at hl 0 rfl) ?_
    refine gf_X3_68 hx hb hB hK hown hW hB_b dX3_canBeAppealed_13 ?_
    refine lv_aload_n hx hb dX3_canBeAppealed_16 rfl (lv_at hl 0 rfl) ?_
    refine gf_X3_21 hx hb hB hK hown hW hB_b dX3_canBeAppealed_17 ?_
    refine lv_iload_n hx hb dX3_canBeAppealed_20 rfl (lv_at hl 1 rfl) ?_
    obtain ⟨v21, e21, hf⟩ := ob2 hf
    refine c_V (As := [.int a0]) (st1 := [.int v21, .int (x b 7)]) (rest := [.int (x b 7)]) (p_X0_monthOf l E hB_b x m g o e21) (kc_X3_162 hB ⟨Nat.le_of_ble_eq_true rfl, Nat.le_of_ble_eq_true rfl⟩) (Wd.rec hK hW (hB_b.l8 (j := 7) (by decide)) (cB_7 hB_b) (ci := 0) rfl) hx hb hml hown hB hK hW hS ⟨Nat.zero_le _, Nat.zero_le _⟩ rfl hl.1 rfl (Nat.le_of_ble_eq_true rfl) rfl dX3_canBeAppealed_21 (fun H locs hW hS => ?_)
    refine lv_aload_n hx hb dX3_canBeAppealed_24 rfl (lv_at hl 0 rfl) ?_
    refine lv_iconst (v := 1) hx hb dX3_canBeAppealed_25 (by decide) ?_
    obtain ⟨v26, e26, hf⟩ := ob2 hf
    refine c_V (As := [.int 1]) (st1 := [.int v26, .int v21, .int (x b 7)]) (rest := [.int v21, .int (x b 7)]) (p_X3_settingOf l E hB_b x m g o e26) (kc_X3_79 hB ⟨Nat.le_of_ble_eq_true rfl, Nat.le_of_ble_eq_true rfl⟩) (Wd.rec hK hW hB_b.l0 (cB_0 hB_b) (ci := 3) rfl) hx hb hml hown hB hK hW hS ⟨Nat.zero_le _, Nat.zero_le _⟩ rfl hl.1 rfl (Nat.le_of_ble_eq_true rfl) rfl dX3_canBeAppealed_26 (fun H locs hW hS => ?_)
    refine lv_iadd hx hb dX3_canBeAppealed_29 ?_
    refine lv_icmp_gt (tgt := 37) hx hb dX3_canBeAppealed_30 (by decide) (fun c30 => ?_) (fun c30 => ?_)
    · rw [if_pos c30] at hf
      refine lv_iconst (v := 0) hx hb dX3_canBeAppealed_37 (by decide) ?_
      cases hf
      exact e_z hx hb hr hlk (Or.inl rfl) hW hS dX3_canBeAppealed_38
    · rw [if_neg c30] at hf
      refine lv_iconst (v := 1) hx hb dX3_canBeAppealed_33 (by decide) ?_
      refine lv_goto (tgt := 38) hx hb dX3_canBeAppealed_34 (by decide) ?_
      cases hf
      exact e_z hx hb hr hlk (Or.inr rfl) hW hS dX3_canBeAppealed_38
def f_X3_againstJudgement (b : Nat) (x : XS) (a0 : Int32) (a1 : Int32) : Option (Int32) :=
    (f_X0_kindOf b x a0).bind fun v5 =>
    (f_X0_stageOf b x a0).bind fun v14 =>
    if (v14 = 2 : Prop) then
      ((f_X1_isOffered b x v5 a1).bind fun v29 =>
      if (v29 = 0 : Prop) then
        some 2
      else
        ((f_X0_severityOf b x a0).bind fun v48 =>
        (f_X1_covers b x v5 a1 v48).bind fun v51 =>
        if (v51 = 0 : Prop) then
          some 3
        else
          ((f_X1_costOf b x v5 a1).bind fun v65 =>
          (f_X0_gotOf b x a0).bind fun v73 =>
          (some ((v65 - v73))).bind fun v77 =>
          if (0 ≤ v77 : Prop) then
            ((f_X3_leftOf b x v5).bind fun v90 =>
            if (v77 ≤ v90 : Prop) then
              some 0
            else
              some 5)
          else
            some 4)))
    else
      some 1
set_option maxRecDepth 100000 in
set_option maxHeartbeats 4000000 in
theorem p_X3_againstJudgement (l : Launch) (E : TE) {b : Nat} (hB_b : IsB b) (x m : XS) (g o : Int64) {a0 : Int32} {a1 : Int32} {r : Int32} (hf : f_X3_againstJudgement b x a0 a1 = some r) : MG l E yX3_againstJudgement cX3_againstJudgement 5 (some .int) 4 [rf E b, .int a0, .int a1] (Wd E x m g o) (Wd E x m g o) (some (.int r)) := by
  unfold f_X3_againstJudgement at hf
  refine m_in (by decide) (Nat.le_of_ble_eq_true rfl) ?_
  intro p e s mi args below meth c H ls hx hb hr hlk hml hown hB hK hW hS hl
  have hl : lv_has ls 5 [(0, rf E b), (1, .int a0), (2, .int a1)] := hl
  refine lv_aload_n hx hb dX3_againstJudgement_0 rfl (lv_at hl 0 rfl) ?_
  refine gf_X3_21 hx hb hB hK hown hW hB_b dX3_againstJudgement_1 ?_
  refine lv_iload_n hx hb dX3_againstJudgement_4 rfl (lv_at hl 1 rfl) ?_
  obtain ⟨v5, e5, hf⟩ := ob2 hf
  refine c_V (As := [.int a0]) (st1 := [.int v5]) (rest := []) (p_X0_kindOf l E hB_b x m g o e5) (kc_X3_99 hB ⟨Nat.le_of_ble_eq_true rfl, Nat.le_of_ble_eq_true rfl⟩) (Wd.rec hK hW (hB_b.l8 (j := 7) (by decide)) (cB_7 hB_b) (ci := 0) rfl) hx hb hml hown hB hK hW hS ⟨Nat.zero_le _, Nat.zero_le _⟩ rfl hl.1 rfl (Nat.le_of_ble_eq_true rfl) rfl dX3_againstJudgement_5 (fun H locs hW hS => ?_)
  refine lv_istore_n (lv' := [(3, .int v5), (0, rf E b), (1, .int a0), (2, .int a1)]) hx hb dX3_againstJudgement_8 rfl hl (by decide) rfl (fun ls hl => ?_)
  refine lv_aload_n hx hb dX3_againstJudgement_9 rfl (lv_at hl 1 rfl) ?_
  refine gf_X3_21 hx hb hB hK hown hW hB_b dX3_againstJudgement_10 ?_
  refine lv_iload_n hx hb dX3_againstJudgement_13 rfl (lv_at hl 2 rfl) ?_
  obtain ⟨v14, e14, hf⟩ := ob2 hf
  refine c_V (As := [.int a0]) (st1 := [.int v14]) (rest := []) (p_X0_stageOf l E hB_b x m g o e14) (kc_X3_112 hB ⟨Nat.le_of_ble_eq_true rfl, Nat.le_of_ble_eq_true rfl⟩) (Wd.rec hK hW (hB_b.l8 (j := 7) (by decide)) (cB_7 hB_b) (ci := 0) rfl) hx hb hml hown hB hK hW hS ⟨Nat.zero_le _, Nat.zero_le _⟩ rfl hl.1 rfl (Nat.le_of_ble_eq_true rfl) rfl dX3_againstJudgement_14 (fun H locs hW hS => ?_)
  refine lv_iconst (v := 2) hx hb dX3_againstJudgement_17 (by decide) ?_
  refine lv_icmp_eq (tgt := 23) hx hb dX3_againstJudgement_18 (by decide) (fun c18 => ?_) (fun c18 => ?_)
  · rw [if_pos c18] at hf
    refine lv_aload_n hx hb dX3_againstJudgement_23 rfl (lv_at hl 1 rfl) ?_
    refine gf_X3_12 hx hb hB hK hown hW hB_b dX3_againstJudgement_24 ?_
    refine lv_iload_n hx hb dX3_againstJudgement_27 rfl (lv_at hl 0 rfl) ?_
    refine lv_iload_n hx hb dX3_againstJudgement_28 rfl (lv_at hl 3 rfl) ?_
    obtain ⟨v29, e29, hf⟩ := ob2 hf
    refine c_V (As := [.int v5, .int a1]) (st1 := [.int v29]) (rest := []) (p_X1_isOffered l E hB_b x m g o e29) (kc_X3_95 hB ⟨Nat.le_of_ble_eq_true rfl, Nat.le_of_ble_eq_true rfl⟩) (Wd.rec hK hW (hB_b.l8 (j := 1) (by decide)) (cB_1 hB_b) (ci := 1) rfl) hx hb hml hown hB hK hW hS ⟨Nat.zero_le _, Nat.zero_le _⟩ rfl hl.1 rfl (Nat.le_of_ble_eq_true rfl) rfl dX3_againstJudgement_29 (fun H locs hW hS => ?_)
    refine lv_if_ne (tgt := 37) hx hb dX3_againstJudgement_32 (by decide) (fun c32 => ?_) (fun c32 => ?_)
    · rw [if_neg c32] at hf
      refine lv_aload_n hx hb dX3_againstJudgement_37 rfl (lv_at hl 1 rfl) ?_
      refine gf_X3_12 hx hb hB hK hown hW hB_b dX3_againstJudgement_38 ?_
      refine lv_iload_n hx hb dX3_againstJudgement_41 rfl (lv_at hl 0 rfl) ?_
      refine lv_iload_n hx hb dX3_againstJudgement_42 rfl (lv_at hl 3 rfl) ?_
      refine lv_aload_n hx hb dX3_againstJudgement_43 rfl (lv_at hl 1 rfl) ?_
      refine gf_X3_21 hx hb hB hK hown hW hB_b dX3_againstJudgement_44 ?_
      refine lv_iload_n hx hb dX3_againstJudgement_47 rfl (lv_at hl 2 rfl) ?_
      obtain ⟨v48, e48, hf⟩ := ob2 hf
      refine c_V (As := [.int a0]) (st1 := [.int v48, .int a1, .int v5, rf E (b + 1)]) (rest := [.int a1, .int v5, rf E (b + 1)]) (p_X0_severityOf l E hB_b x m g o e48) (kc_X3_127 hB ⟨Nat.le_of_ble_eq_true rfl, Nat.le_of_ble_eq_true rfl⟩) (Wd.rec hK hW (hB_b.l8 (j := 7) (by decide)) (cB_7 hB_b) (ci := 0) rfl) hx hb hml hown hB hK hW hS ⟨Nat.zero_le _, Nat.zero_le _⟩ rfl hl.1 rfl (Nat.le_of_ble_eq_true rfl) rfl dX3_againstJudgement_48 (fun H locs hW hS => ?_)
      obtain ⟨v51, e51, hf⟩ := ob2 hf
      refine c_V (As := [.int v5, .int a1, .int v48]) (st1 := [.int v51]) (rest := []) (p_X1_covers l E hB_b x m g o e51) (kc_X3_130 hB ⟨Nat.le_of_ble_eq_true rfl, Nat.le_of_ble_eq_true rfl⟩) (Wd.rec hK hW (hB_b.l8 (j := 1) (by decide)) (cB_1 hB_b) (ci := 1) rfl) hx hb hml hown hB hK hW hS ⟨Nat.zero_le _, Nat.zero_le _⟩ rfl hl.1 rfl (Nat.le_of_ble_eq_true rfl) rfl dX3_againstJudgement_51 (fun H locs hW hS => ?_)
      refine lv_if_ne (tgt := 59) hx hb dX3_againstJudgement_54 (by decide) (fun c54 => ?_) (fun c54 => ?_)
      · rw [if_neg c54] at hf
        refine lv_aload_n hx hb dX3_againstJudgement_59 rfl (lv_at hl 1 rfl) ?_
        refine gf_X3_12 hx hb hB hK hown hW hB_b dX3_againstJudgement_60 ?_
        refine lv_iload_n hx hb dX3_againstJudgement_63 rfl (lv_at hl 0 rfl) ?_
        refine lv_iload_n hx hb dX3_againstJudgement_64 rfl (lv_at hl 3 rfl) ?_
        obtain ⟨v65, e65, hf⟩ := ob2 hf
        refine c_V (As := [.int v5, .int a1]) (st1 := [.int v65]) (rest := []) (p_X1_costOf l E hB_b x m g o e65) (kc_X3_137 hB ⟨Nat.le_of_ble_eq_true rfl, Nat.le_of_ble_eq_true rfl⟩) (Wd.rec hK hW (hB_b.l8 (j := 1) (by decide)) (cB_1 hB_b) (ci := 1) rfl) hx hb hml hown hB hK hW hS ⟨Nat.zero_le _, Nat.zero_le _⟩ rfl hl.1 rfl (Nat.le_of_ble_eq_true rfl) rfl dX3_againstJudgement_65 (fun H locs hW hS => ?_)
        refine lv_aload_n hx hb dX3_againstJudgement_68 rfl (lv_at hl 1 rfl) ?_
        refine gf_X3_21 hx hb hB hK hown hW hB_b dX3_againstJudgement_69 ?_
        refine lv_iload_n hx hb dX3_againstJudgement_72 rfl (lv_at hl 2 rfl) ?_
        obtain ⟨v73, e73, hf⟩ := ob2 hf
        refine c_V (As := [.int a0]) (st1 := [.int v73, .int v65]) (rest := [.int v65]) (p_X0_gotOf l E hB_b x m g o e73) (kc_X3_155 hB ⟨Nat.le_of_ble_eq_true rfl, Nat.le_of_ble_eq_true rfl⟩) (Wd.rec hK hW (hB_b.l8 (j := 7) (by decide)) (cB_7 hB_b) (ci := 0) rfl) hx hb hml hown hB hK hW hS ⟨Nat.zero_le _, Nat.zero_le _⟩ rfl hl.1 rfl (Nat.le_of_ble_eq_true rfl) rfl dX3_againstJudgement_73 (fun H locs hW hS => ?_)
        refine lv_isub hx hb dX3_againstJudgement_76 ?_
        obtain ⟨v77, e77, hf⟩ := ob hf
        refine lv_nm e77 ?_
        refine lv_istore (lv' := [(4, .int v77), (3, .int v5), (0, rf E b), (1, .int a0), (2, .int a1)]) hx hb dX3_againstJudgement_77 hl (by decide) rfl (fun ls hl => ?_)
        refine lv_iload hx hb dX3_againstJudgement_79 (lv_at hl 0 rfl) ?_
        refine lv_if_ge (tgt := 86) hx hb dX3_againstJudgement_81 (by decide) (fun c81 => ?_) (fun c81 => ?_)
        · rw [if_pos c81] at hf
          refine lv_iload hx hb dX3_againstJudgement_86 (lv_at hl 0 rfl) ?_
          refine lv_aload_n hx hb dX3_againstJudgement_88 rfl (lv_at hl 2 rfl) ?_
          refine lv_iload_n hx hb dX3_againstJudgement_89 rfl (lv_at hl 1 rfl) ?_
          obtain ⟨v90, e90, hf⟩ := ob2 hf
          refine c_V (As := [.int v5]) (st1 := [.int v90, .int v77]) (rest := [.int v77]) (p_X3_leftOf l E hB_b x m g o e90) (kc_X3_140 hB ⟨Nat.le_of_ble_eq_true rfl, Nat.le_of_ble_eq_true rfl⟩) (Wd.rec hK hW hB_b.l0 (cB_0 hB_b) (ci := 3) rfl) hx hb hml hown hB hK hW hS ⟨Nat.zero_le _, Nat.zero_le _⟩ rfl hl.1 rfl (Nat.le_of_ble_eq_true rfl) rfl dX3_againstJudgement_90 (fun H locs hW hS => ?_)
          refine lv_icmp_le (tgt := 100) hx hb dX3_againstJudgement_93 (by decide) (fun c93 => ?_) (fun c93 => ?_)
          · rw [if_pos c93] at hf
            refine lv_iconst (v := 0) hx hb dX3_againstJudgement_100 (by decide) ?_
            cases hf
            exact e_i hx hb hr hlk hW hS dX3_againstJudgement_101
          · rw [if_neg c93] at hf
            refine lv_iconst (v := 5) hx hb dX3_againstJudgement_96 (by decide) ?_
            refine lv_goto (tgt := 101) hx hb dX3_againstJudgement_97 (by decide) ?_
            cases hf
            exact e_i hx hb hr hlk hW hS dX3_againstJudgement_101
        · rw [if_neg c81] at hf
          refine lv_iconst (v := 4) hx hb dX3_againstJudgement_84 (by decide) ?_
          cases hf
          exact e_i hx hb hr hlk hW hS dX3_againstJudgement_85
      · rw [if_pos c54] at hf
        refine lv_iconst (v := 3) hx hb dX3_againstJudgement_57 (by decide) ?_
        cases hf
        exact e_i hx hb hr hlk hW hS dX3_againstJudgement_58
    · rw [if_pos c32] at hf
      refine lv_iconst (v := 2) hx hb dX3_againstJudgement_35 (by decide) ?_
      cases hf
      exact e_i hx hb hr hlk hW hS dX3_againstJudgement_36
  · rw [if_neg c18] at hf
    refine lv_iconst (v := 1) hx hb dX3_againstJudgement_21 (by decide) ?_
    cases hf
    exact e_i hx hb hr hlk hW hS dX3_againstJudgement_22
def f_X3_owedTo (b : Nat) (x : XS) (a0 : Int32) : Option (Int32) :=
    (f_X0_followedBy b x a0).bind fun v5 =>
    (f_X2_has b x v5).bind fun v14 =>
    if (v14 = 0 : Prop) then
      some 0
    else
      ((f_X0_kindOf b x a0).bind fun v31 =>
      (f_X2_amendsOf b x v5).bind fun v39 =>
      (f_X1_costOf b x v31 v39).bind fun v42 =>
      (f_X0_gotOf b x a0).bind fun v53 =>
      (some (if (0 < (v42 - v53) : Prop) then (v42 - v53) else 0)).bind fun v57 =>
      some v57)
set_option maxRecDepth 100000 in
set_option maxHeartbeats 4000000 in
theorem p_X3_owedTo (l : Launch) (E : TE) {b : Nat} (hB_b : IsB b) (x m : XS) (g o : Int64) {a0 : Int32} {r : Int32} (hf : f_X3_owedTo b x a0 = some r) : MG l E yX3_owedTo cX3_owedTo 4 (some .int) 3 [rf E b, .int a0] (Wd E x m g o) (Wd E x m g o) (some (.int r)) := by
  unfold f_X3_owedTo at hf
  refine m_in (by decide) (Nat.le_of_ble_eq_true rfl) ?_
  intro p e s mi args below meth c H ls hx hb hr hlk hml hown hB hK hW hS hl
  have hl : lv_has ls 4 [(0, rf E b), (1, .int a0)] := hl
  refine lv_aload_n hx hb dX3_owedTo_0 rfl (lv_at hl 0 rfl) ?_
  refine gf_X3_21 hx hb hB hK hown hW hB_b dX3_owedTo_1 ?_
  refine lv_iload_n hx hb dX3_owedTo_4 rfl (lv_at hl 1 rfl) ?_
  obtain ⟨v5, e5, hf⟩ := ob2 hf
  refine c_V (As := [.int a0]) (st1 := [.int v5]) (rest := []) (p_X0_followedBy l E hB_b x m g o e5) (kc_X3_115 hB ⟨Nat.le_of_ble_eq_true rfl, Nat.le_of_ble_eq_true rfl⟩) (Wd.rec hK hW (hB_b.l8 (j := 7) (by decide)) (cB_7 hB_b) (ci := 0) rfl) hx hb hml hown hB hK hW hS ⟨Nat.zero_le _, Nat.zero_le _⟩ rfl hl.1 rfl (Nat.le_of_ble_eq_true rfl) rfl dX3_owedTo_5 (fun H locs hW hS => ?_)
  refine lv_istore_n (lv' := [(2, .int v5), (0, rf E b), (1, .int a0)]) hx hb dX3_owedTo_8 rfl hl (by decide) rfl (fun ls hl => ?_)
  refine lv_aload_n hx hb dX3_owedTo_9 rfl (lv_at hl 1 rfl) ?_
  refine gf_X3_28 hx hb hB hK hown hW hB_b dX3_owedTo_10 ?_
  refine lv_iload_n hx hb dX3_owedTo_13 rfl (lv_at hl 0 rfl) ?_
  obtain ⟨v14, e14, hf⟩ := ob2 hf
  refine c_V (As := [.int v5]) (st1 := [.int v14]) (rest := []) (p_X2_has l E hB_b x m g o e14) (kc_X3_86 hB ⟨Nat.le_of_ble_eq_true rfl, Nat.le_of_ble_eq_true rfl⟩) (Wd.rec hK hW (hB_b.l8 (j := 17) (by decide)) (cB_17 hB_b) (ci := 2) rfl) hx hb hml hown hB hK hW hS ⟨Nat.zero_le _, Nat.zero_le _⟩ rfl hl.1 rfl (Nat.le_of_ble_eq_true rfl) rfl dX3_owedTo_14 (fun H locs hW hS => ?_)
  refine lv_if_ne (tgt := 22) hx hb dX3_owedTo_17 (by decide) (fun c17 => ?_) (fun c17 => ?_)
  · rw [if_neg c17] at hf
    refine lv_aload_n hx hb dX3_owedTo_22 rfl (lv_at hl 1 rfl) ?_
    refine gf_X3_12 hx hb hB hK hown hW hB_b dX3_owedTo_23 ?_
    refine lv_aload_n hx hb dX3_owedTo_26 rfl (lv_at hl 1 rfl) ?_
    refine gf_X3_21 hx hb hB hK hown hW hB_b dX3_owedTo_27 ?_
    refine lv_iload_n hx hb dX3_owedTo_30 rfl (lv_at hl 2 rfl) ?_
    obtain ⟨v31, e31, hf⟩ := ob2 hf
    refine c_V (As := [.int a0]) (st1 := [.int v31, rf E (b + 1)]) (rest := [rf E (b + 1)]) (p_X0_kindOf l E hB_b x m g o e31) (kc_X3_99 hB ⟨Nat.le_of_ble_eq_true rfl, Nat.le_of_ble_eq_true rfl⟩) (Wd.rec hK hW (hB_b.l8 (j := 7) (by decide)) (cB_7 hB_b) (ci := 0) rfl) hx hb hml hown hB hK hW hS ⟨Nat.zero_le _, Nat.zero_le _⟩ rfl hl.1 rfl (Nat.le_of_ble_eq_true rfl) rfl dX3_owedTo_31 (fun H locs hW hS => ?_)
    refine lv_aload_n hx hb dX3_owedTo_34 rfl (lv_at hl 1 rfl) ?_
    refine gf_X3_28 hx hb hB hK hown hW hB_b dX3_owedTo_35 ?_
    refine lv_iload_n hx hb dX3_owedTo_38 rfl (lv_at hl 0 rfl) ?_
    obtain ⟨v39, e39, hf⟩ := ob2 hf
    refine c_V (As := [.int v5]) (st1 := [.int v39, .int v31, rf E (b + 1)]) (rest := [.int v31, rf E (b + 1)]) (p_X2_amendsOf l E hB_b x m g o e39) (kc_X3_92 hB ⟨Nat.le_of_ble_eq_true rfl, Nat.le_of_ble_eq_true rfl⟩) (Wd.rec hK hW (hB_b.l8 (j := 17) (by decide)) (cB_17 hB_b) (ci := 2) rfl) hx hb hml hown hB hK hW hS ⟨Nat.zero_le _, Nat.zero_le _⟩ rfl hl.1 rfl (Nat.le_of_ble_eq_true rfl) rfl dX3_owedTo_39 (fun H locs hW hS => ?_)
    obtain ⟨v42, e42, hf⟩ := ob2 hf
    refine c_V (As := [.int v31, .int v39]) (st1 := [.int v42]) (rest := []) (p_X1_costOf l E hB_b x m g o e42) (kc_X3_137 hB ⟨Nat.le_of_ble_eq_true rfl, Nat.le_of_ble_eq_true rfl⟩) (Wd.rec hK hW (hB_b.l8 (j := 1) (by decide)) (cB_1 hB_b) (ci := 1) rfl) hx hb hml hown hB hK hW hS ⟨Nat.zero_le _, Nat.zero_le _⟩ rfl hl.1 rfl (Nat.le_of_ble_eq_true rfl) rfl dX3_owedTo_42 (fun H locs hW hS => ?_)
    refine lv_istore_n (lv' := [(3, .int v42), (2, .int v5), (0, rf E b), (1, .int a0)]) hx hb dX3_owedTo_45 rfl hl (by decide) rfl (fun ls hl => ?_)
    refine lv_iconst (v := 0) hx hb dX3_owedTo_46 (by decide) ?_
    refine lv_iload_n hx hb dX3_owedTo_47 rfl (lv_at hl 0 rfl) ?_
    refine lv_aload_n hx hb dX3_owedTo_48 rfl (lv_at hl 2 rfl) ?_
    refine gf_X3_21 hx hb hB hK hown hW hB_b dX3_owedTo_49 ?_
    refine lv_iload_n hx hb dX3_owedTo_52 rfl (lv_at hl 3 rfl) ?_
    obtain ⟨v53, e53, hf⟩ := ob2 hf
    refine c_V (As := [.int a0]) (st1 := [.int v53, .int v42, .int 0]) (rest := [.int v42, .int 0]) (p_X0_gotOf l E hB_b x m g o e53) (kc_X3_155 hB ⟨Nat.le_of_ble_eq_true rfl, Nat.le_of_ble_eq_true rfl⟩) (Wd.rec hK hW (hB_b.l8 (j := 7) (by decide)) (cB_7 hB_b) (ci := 0) rfl) hx hb hml hown hB hK hW hS ⟨Nat.zero_le _, Nat.zero_le _⟩ rfl hl.1 rfl (Nat.le_of_ble_eq_true rfl) rfl dX3_owedTo_53 (fun H locs hW hS => ?_)
    refine lv_isub hx hb dX3_owedTo_56 ?_
    obtain ⟨v57, e57, hf⟩ := ob hf
    refine va_mmax hx hb (hml.trans hl.1.symm) hown (hB _ q_307) (hB _ q_308) (hB _ q_64) (hB _ q_309) (Nat.le_of_ble_eq_true rfl) (Nat.le_of_ble_eq_true rfl) (Nat.le_refl 0) (Nat.le_refl 0) dX3_owedTo_57 ?_
    refine lv_nm e57 ?_
    cases hf
    exact e_i hx hb hr hlk hW hS dX3_owedTo_60
  · rw [if_pos c17] at hf
    refine lv_iconst (v := 0) hx hb dX3_owedTo_20 (by decide) ?_
    cases hf
    exact e_i hx hb hr hlk hW hS dX3_owedTo_21
def f_X3_topUp (b : Nat) (x : XS) (a0 : Int32) : Option (Int32 × XS) :=
    (f_X3_owedTo b x a0).bind fun v2 =>
    if (v2 = 0 : Prop) then
      some (0, x)
    else
      ((f_X0_kindOf b x a0).bind fun v17 =>
      (f_X3_leftOf b x v17).bind fun v20 =>
      if (v2 ≤ v20 : Prop) then
        ((f_X0_followedBy b x a0).bind fun v39 =>
        (f_X2_amendsOf b x v39).bind fun v42 =>
        (f_X3_hand b x a0 v42).bind fun x45 =>
        some (v2, x45))
      else
        some (0, x))
set_option maxRecDepth 100000 in
set_option maxHeartbeats 4000000 in
theorem p_X3_topUp (l : Launch) (E : TE) {b : Nat} (hB_b : IsB b) (x m : XS) (g o : Int64) {a0 : Int32} {r : Int32} {xr : XS} (hf : f_X3_topUp b x a0 = some (r, xr)) : MG l E yX3_topUp cX3_topUp 3 (some .int) 4 [rf E b, .int a0] (Wd E x m g o) (Wd E xr m g o) (some (.int r)) := by
  unfold f_X3_topUp at hf
  refine m_in (by decide) (Nat.le_of_ble_eq_true rfl) ?_
  intro p e s mi args below meth c H ls hx hb hr hlk hml hown hB hK hW hS hl
  have hl : lv_has ls 3 [(0, rf E b), (1, .int a0)] := hl
  refine lv_aload_n hx hb dX3_topUp_0 rfl (lv_at hl 0 rfl) ?_
  refine lv_iload_n hx hb dX3_topUp_1 rfl (lv_at hl 1 rfl) ?_
  obtain ⟨v2, e2, hf⟩ := ob2 hf
  refine c_V (As := [.int a0]) (st1 := [.int v2]) (rest := []) (p_X3_owedTo l E hB_b x m g o e2) (kc_X3_177 hB ⟨Nat.le_of_ble_eq_true rfl, Nat.le_of_ble_eq_true rfl⟩) (Wd.rec hK hW hB_b.l0 (cB_0 hB_b) (ci := 3) rfl) hx hb hml hown hB hK hW hS ⟨Nat.zero_le _, Nat.zero_le _⟩ rfl hl.1 rfl (Nat.le_of_ble_eq_true rfl) rfl dX3_topUp_2 (fun H locs hW hS => ?_)
  refine lv_istore_n (lv' := [(2, .int v2), (0, rf E b), (1, .int a0)]) hx hb dX3_topUp_5 rfl hl (by decide) rfl (fun ls hl => ?_)
  refine lv_iload_n hx hb dX3_topUp_6 rfl (lv_at hl 0 rfl) ?_
  refine lv_if_eq (tgt := 26) hx hb dX3_topUp_7 (by decide) (fun c7 => ?_) (fun c7 => ?_)
  · rw [if_pos c7] at hf
    refine lv_iconst (v := 0) hx hb dX3_topUp_26 (by decide) ?_
    cases hf
    exact e_i hx hb hr hlk hW hS dX3_topUp_27
  · rw [if_neg c7] at hf
    refine lv_iload_n hx hb dX3_topUp_10 rfl (lv_at hl 0 rfl) ?_
    refine lv_aload_n hx hb dX3_topUp_11 rfl (lv_at hl 1 rfl) ?_
    refine lv_aload_n hx hb dX3_topUp_12 rfl (lv_at hl 1 rfl) ?_
    refine gf_X3_21 hx hb hB hK hown hW hB_b dX3_topUp_13 ?_
    refine lv_iload_n hx hb dX3_topUp_16 rfl (lv_at hl 2 rfl) ?_
    obtain ⟨v17, e17, hf⟩ := ob2 hf
    refine c_V (As := [.int a0]) (st1 := [.int v17, rf E b, .int v2]) (rest := [rf E b, .int v2]) (p_X0_kindOf l E hB_b x m g o e17) (kc_X3_99 hB ⟨Nat.le_of_ble_eq_true rfl, Nat.le_of_ble_eq_true rfl⟩) (Wd.rec hK hW (hB_b.l8 (j := 7) (by decide)) (cB_7 hB_b) (ci := 0) rfl) hx hb hml hown hB hK hW hS ⟨Nat.zero_le _, Nat.zero_le _⟩ rfl hl.1 rfl (Nat.le_of_ble_eq_true rfl) rfl dX3_topUp_17 (fun H locs hW hS => ?_)
    obtain ⟨v20, e20, hf⟩ := ob2 hf
    refine c_V (As := [.int v17]) (st1 := [.int v20, .int v2]) (rest := [.int v2]) (p_X3_leftOf l E hB_b x m g o e20) (kc_X3_140 hB ⟨Nat.le_of_ble_eq_true rfl, Nat.le_of_ble_eq_true rfl⟩) (Wd.rec hK hW hB_b.l0 (cB_0 hB_b) (ci := 3) rfl) hx hb hml hown hB hK hW hS ⟨Nat.zero_le _, Nat.zero_le _⟩ rfl hl.1 rfl (Nat.le_of_ble_eq_true rfl) rfl dX3_topUp_20 (fun H locs hW hS => ?_)
    refine lv_icmp_le (tgt := 28) hx hb dX3_topUp_23 (by decide) (fun c23 => ?_) (fun c23 => ?_)
    · rw [if_pos c23] at hf
      refine lv_aload_n hx hb dX3_topUp_28 rfl (lv_at hl 1 rfl) ?_
      refine lv_iload_n hx hb dX3_topUp_29 rfl (lv_at hl 2 rfl) ?_
      refine lv_aload_n hx hb dX3_topUp_30 rfl (lv_at hl 1 rfl) ?_
      refine gf_X3_28 hx hb hB hK hown hW hB_b dX3_topUp_31 ?_
      refine lv_aload_n hx hb dX3_topUp_34 rfl (lv_at hl 1 rfl) ?_
      refine gf_X3_21 hx hb hB hK hown hW hB_b dX3_topUp_35 ?_
      refine lv_iload_n hx hb dX3_topUp_38 rfl (lv_at hl 2 rfl) ?_
      obtain ⟨v39, e39, hf⟩ := ob2 hf
      refine c_V (As := [.int a0]) (st1 := [.int v39, rf E (b + 17), .int a0, rf E b]) (rest := [rf E (b + 17), .int a0, rf E b]) (p_X0_followedBy l E hB_b x m g o e39) (kc_X3_115 hB ⟨Nat.le_of_ble_eq_true rfl, Nat.le_of_ble_eq_true rfl⟩) (Wd.rec hK hW (hB_b.l8 (j := 7) (by decide)) (cB_7 hB_b) (ci := 0) rfl) hx hb hml hown hB hK hW hS ⟨Nat.zero_le _, Nat.zero_le _⟩ rfl hl.1 rfl (Nat.le_of_ble_eq_true rfl) rfl dX3_topUp_39 (fun H locs hW hS => ?_)
      obtain ⟨v42, e42, hf⟩ := ob2 hf
      refine c_V (As := [.int v39]) (st1 := [.int v42, .int a0, rf E b]) (rest := [.int a0, rf E b]) (p_X2_amendsOf l E hB_b x m g o e42) (kc_X3_92 hB ⟨Nat.le_of_ble_eq_true rfl, Nat.le_of_ble_eq_true rfl⟩) (Wd.rec hK hW (hB_b.l8 (j := 17) (by decide)) (cB_17 hB_b) (ci := 2) rfl) hx hb hml hown hB hK hW hS ⟨Nat.zero_le _, Nat.zero_le _⟩ rfl hl.1 rfl (Nat.le_of_ble_eq_true rfl) rfl dX3_topUp_42 (fun H locs hW hS => ?_)
      obtain ⟨x45, e45, hf⟩ := ob2 hf
      refine c_V (As := [.int a0, .int v42]) (st1 := []) (rest := []) (p_X3_hand l E hB_b x m g o e45) (kc_X3_143 hB ⟨Nat.le_of_ble_eq_true rfl, Nat.le_of_ble_eq_true rfl⟩) (Wd.rec hK hW hB_b.l0 (cB_0 hB_b) (ci := 3) rfl) hx hb hml hown hB hK hW hS ⟨Nat.zero_le _, Nat.zero_le _⟩ rfl hl.1 rfl (Nat.le_of_ble_eq_true rfl) rfl dX3_topUp_45 (fun H locs hW hS => ?_)
      refine lv_iload_n hx hb dX3_topUp_48 rfl (lv_at hl 0 rfl) ?_
      cases hf
      exact e_i hx hb hr hlk hW hS dX3_topUp_49
    · rw [if_neg c23] at hf
      refine lv_iconst (v := 0) hx hb dX3_topUp_26 (by decide) ?_
      cases hf
      exact e_i hx hb hr hlk hW hS dX3_topUp_27
def f_X3_makeJudgement_129 (b : Nat) (k91 : XS → Int32 → Int32 → Int32 → Option (Int32 × XS)) (x129 : XS) (l4_129 : Int32) (l6_129 : Int32) (l7_129 : Int32) : Option (Int32 × XS) :=
    (some (l7_129 + 1)).bind fun v129 =>
    k91 x129 l4_129 l6_129 v129
def f_X3_makeJudgement_91 (b : Nat) : Nat → XS → Int32 → Int32 → Int32 → Option (Int32 × XS)
  | 0, _, _, _, _ => none
  | n91 + 1, x91, l4_91, l6_91, l7_91 =>
    if ((x91 (b + 7) 0) ≤ l7_91 : Prop) then
      some (l6_91, x91)
    else
      ((f_X0_followedBy b x91 l7_91).bind fun v109 =>
      if (v109 = l4_91 : Prop) then
        ((f_X3_topUp b x91 l7_91).bind fun q120 => (fun v120 x120 =>
        if (v120 ≤ 0 : Prop) then
          f_X3_makeJudgement_129 b (f_X3_makeJudgement_91 b n91) x120 l4_91 l6_91 l7_91
        else
          ((some (l6_91 + 1)).bind fun v126 =>
          f_X3_makeJudgement_129 b (f_X3_makeJudgement_91 b n91) x120 l4_91 v126 l7_91)) q120.1 q120.2)
      else
        f_X3_makeJudgement_129 b (f_X3_makeJudgement_91 b n91) x91 l4_91 l6_91 l7_91)
def f_X3_makeJudgement (b : Nat) (x : XS) (a0 : Int32) (a1 : Int32) : Option (Int32 × XS) :=
    (f_X3_hand b x a0 a1).bind fun x3 =>
    (f_X0_changeStage b x3 a0 3).bind fun x12 =>
    (f_X0_kindOf b x12 a0).bind fun v20 =>
    (f_X0_followedBy b x12 a0).bind fun v29 =>
    (f_X2_amendsOf b x12 v29).bind fun v45 =>
    (f_X1_costOf b x12 v20 v45).bind fun v48 =>
    if (v29 = (-1) : Prop) then
      some (0, x12)
    else
      ((f_X1_costOf b x12 v20 a1).bind fun v65 =>
      if (v48 < v65 : Prop) then
        ((f_X2_raise b x12 v29 a1).bind fun x82 =>
        f_X3_makeJudgement_91 b 4096 x82 v29 0 0)
      else
        some (0, x12))
set_option maxRecDepth 100000 in
set_option maxHeartbeats 4000000 in
theorem p_X3_makeJudgement (l : Launch) (E : TE) {b : Nat} (hB_b : IsB b) (x m : XS) (g o : Int64) {a0 : Int32} {a1 : Int32} {r : Int32} {xr : XS} (hf : f_X3_makeJudgement b x a0 a1 = some (r, xr)) : MG l E yX3_makeJudgement cX3_makeJudgement 8 (some .int) 5 [rf E b, .int a0, .int a1] (Wd E x m g o) (Wd E xr m g o) (some (.int r)) := by
  unfold f_X3_makeJudgement at hf
  refine m_in (by decide) (Nat.le_of_ble_eq_true rfl) ?_
  intro p e s mi args below meth c H ls hx hb hr hlk hml hown hB hK hW hS hl
  have hl : lv_has ls 8 [(0, rf E b), (1, .int a0), (2, .int a1)] := hl
  have J91 : ∀ (n91 : Nat), ∀ (x91 : XS) (l4_91 : Int32) (l6_91 : Int32) (l7_91 : Int32) (H : Heap) (locs : List Loc) (ls : Array Slot), f_X3_makeJudgement_91 b n91 x91 l4_91 l6_91 l7_91 = some (r, xr) → Wd E x91 m g o H → va_S (Ah E) s.heap H locs → lv_has ls 8 [(0, rf E b), (4, .int l4_91), (6, .int l6_91), (7, .int l7_91)] → W p l e (rmH 5) s mi args below meth c H locs 0 0 (EQ E below args s (Wd E xr m g o) (some (.int r))) (F0 mi 91 ls []) := by
    intro n91
    induction n91 with
    | zero => intro x91 l4_91 l6_91 l7_91 H locs ls hf; exact absurd hf (fun z => nomatch (show (none : Option (Int32 × XS)) = some _ from z))
    | succ n91 ih91 =>
      intro x91 l4_91 l6_91 l7_91 H locs ls hf hW hS hl
      rw [f_X3_makeJudgement_91.eq_2] at hf
      have J129 : ∀ (x129 : XS) (l4_129 : Int32) (l6_129 : Int32) (l7_129 : Int32) (H : Heap) (locs : List Loc) (ls : Array Slot), f_X3_makeJudgement_129 b (f_X3_makeJudgement_91 b n91) x129 l4_129 l6_129 l7_129 = some (r, xr) → Wd E x129 m g o H → va_S (Ah E) s.heap H locs → lv_has ls 8 [(0, rf E b), (4, .int l4_129), (6, .int l6_129), (7, .int l7_129)] → W p l e (rmH 5) s mi args below meth c H locs 0 0 (EQ E below args s (Wd E xr m g o) (some (.int r))) (F0 mi 129 ls []) := by
        intro x129 l4_129 l6_129 l7_129 H locs ls hf hW hS hl
        unfold f_X3_makeJudgement_129 at hf
        obtain ⟨v129, e129, hf⟩ := ob hf
        refine lv_iinc (v := v129) (lv' := [(7, .int v129), (0, rf E b), (4, .int l4_129), (6, .int l6_129)]) hx hb dX3_makeJudgement_129 hl (k := 3) rfl (by rw [e129]; rfl) (by decide) rfl (fun ls hl => ?_)
        refine lv_goto (tgt := 91) hx hb dX3_makeJudgement_132 (by decide) ?_
        exact ih91 x129 l4_129 l6_129 v129 _ _ _ hf hW hS (lv_sub hl [1, 2, 3, 0] rfl)
      refine lv_iload hx hb dX3_makeJudgement_91 (lv_at hl 3 rfl) ?_
      refine lv_aload_n hx hb dX3_makeJudgement_93 rfl (lv_at hl 0 rfl) ?_
      refine gf_X3_21 hx hb hB hK hown hW hB_b dX3_makeJudgement_94 ?_
      refine gf_X3_121 hx hb hB hK hown hW hB_b dX3_makeJudgement_97 ?_
      refine lv_icmp_ge (tgt := 135) hx hb dX3_makeJudgement_100 (by decide) (fun c100 => ?_) (fun c100 => ?_)
      · rw [if_pos c100] at hf
        refine lv_iload hx hb dX3_makeJudgement_135 (lv_at hl 2 rfl) ?_
        cases hf
        exact e_i hx hb hr hlk hW hS dX3_makeJudgement_137
      · rw [if_neg c100] at hf
        refine lv_aload_n hx hb dX3_makeJudgement_103 rfl (lv_at hl 0 rfl) ?_
        refine gf_X3_21 hx hb hB hK hown hW hB_b dX3_makeJudgement_104 ?_
        refine lv_iload hx hb dX3_makeJudgement_107 (lv_at hl 3 rfl) ?_
        obtain ⟨v109, e109, hf⟩ := ob2 hf
        refine c_V (As := [.int l7_91]) (st1 := [.int v109]) (rest := []) (p_X0_followedBy l E hB_b x91 m g o e109) (kc_X3_115 hB ⟨Nat.le_of_ble_eq_true rfl, Nat.le_of_ble_eq_true rfl⟩) (Wd.rec hK hW (hB_b.l8 (j := 7) (by decide)) (cB_7 hB_b) (ci := 0) rfl) hx hb hml hown hB hK hW hS ⟨Nat.zero_le _, Nat.zero_le _⟩ rfl hl.1 rfl (Nat.le_of_ble_eq_true rfl) rfl dX3_makeJudgement_109 (fun H locs hW hS => ?_)
        refine lv_iload hx hb dX3_makeJudgement_112 (lv_at hl 1 rfl) ?_
        refine lv_icmp_ne (tgt := 129) hx hb dX3_makeJudgement_114 (by decide) (fun c114 => ?_) (fun c114 => ?_)
        · rw [if_neg c114] at hf
          exact J129 x91 l4_91 l6_91 l7_91 _ _ _ hf hW hS (lv_sub hl [0, 1, 2, 3] rfl)
        · rw [if_pos c114] at hf
          refine lv_aload_n hx hb dX3_makeJudgement_117 rfl (lv_at hl 0 rfl) ?_
          refine lv_iload hx hb dX3_makeJudgement_118 (lv_at hl 3 rfl) ?_
          obtain ⟨⟨v120, x120⟩, e120, hf⟩ := ob2 hf
          dsimp only at hf
          refine c_V (As := [.int l7_91]) (st1 := [.int v120]) (rest := []) (p_X3_topUp l E hB_b x91 m g o e120) (kc_X3_169 hB ⟨Nat.le_of_ble_eq_true rfl, Nat.le_of_ble_eq_true rfl⟩) (Wd.rec hK hW hB_b.l0 (cB_0 hB_b) (ci := 3) rfl) hx hb hml hown hB hK hW hS ⟨Nat.zero_le _, Nat.zero_le _⟩ rfl hl.1 rfl (Nat.le_of_ble_eq_true rfl) rfl dX3_makeJudgement_120 (fun H locs hW hS => ?_)
          refine lv_if_le (tgt := 129) hx hb dX3_makeJudgement_123 (by decide) (fun c123 => ?_) (fun c123 => ?_)
          · rw [if_pos c123] at hf
            exact J129 x120 l4_91 l6_91 l7_91 _ _ _ hf hW hS (lv_sub hl [0, 1, 2, 3] rfl)
          · rw [if_neg c123] at hf
            obtain ⟨v126, e126, hf⟩ := ob hf
            refine lv_iinc (v := v126) (lv' := [(6, .int v126), (0, rf E b), (4, .int l4_91), (7, .int l7_91)]) hx hb dX3_makeJudgement_126 hl (k := 2) rfl (by rw [e126]; rfl) (by decide) rfl (fun ls hl => ?_)
            exact J129 x120 l4_91 v126 l7_91 _ _ _ hf hW hS (lv_sub hl [1, 2, 0, 3] rfl)
  refine lv_aload_n hx hb dX3_makeJudgement_0 rfl (lv_at hl 0 rfl) ?_
  refine lv_iload_n hx hb dX3_makeJudgement_1 rfl (lv_at hl 1 rfl) ?_
  refine lv_iload_n hx hb dX3_makeJudgement_2 rfl (lv_at hl 2 rfl) ?_
  obtain ⟨x3, e3, hf⟩ := ob2 hf
  refine c_V (As := [.int a0, .int a1]) (st1 := []) (rest := []) (p_X3_hand l E hB_b x m g o e3) (kc_X3_143 hB ⟨Nat.le_of_ble_eq_true rfl, Nat.le_of_ble_eq_true rfl⟩) (Wd.rec hK hW hB_b.l0 (cB_0 hB_b) (ci := 3) rfl) hx hb hml hown hB hK hW hS ⟨Nat.zero_le _, Nat.zero_le _⟩ rfl hl.1 rfl (Nat.le_of_ble_eq_true rfl) rfl dX3_makeJudgement_3 (fun H locs hW hS => ?_)
  refine lv_aload_n hx hb dX3_makeJudgement_6 rfl (lv_at hl 0 rfl) ?_
  refine gf_X3_21 hx hb hB hK hown hW hB_b dX3_makeJudgement_7 ?_
  refine lv_iload_n hx hb dX3_makeJudgement_10 rfl (lv_at hl 1 rfl) ?_
  refine lv_iconst (v := 3) hx hb dX3_makeJudgement_11 (by decide) ?_
  obtain ⟨x12, e12, hf⟩ := ob2 hf
  refine c_V (As := [.int a0, .int 3]) (st1 := []) (rest := []) (p_X0_changeStage l E hB_b x3 m g o e12) (kc_X3_163 hB ⟨Nat.le_of_ble_eq_true rfl, Nat.le_of_ble_eq_true rfl⟩) (Wd.rec hK hW (hB_b.l8 (j := 7) (by decide)) (cB_7 hB_b) (ci := 0) rfl) hx hb hml hown hB hK hW hS ⟨Nat.zero_le _, Nat.zero_le _⟩ rfl hl.1 rfl (Nat.le_of_ble_eq_true rfl) rfl dX3_makeJudgement_12 (fun H locs hW hS => ?_)
  refine lv_aload_n hx hb dX3_makeJudgement_15 rfl (lv_at hl 0 rfl) ?_
  refine gf_X3_21 hx hb hB hK hown hW hB_b dX3_makeJudgement_16 ?_
  refine lv_iload_n hx hb dX3_makeJudgement_19 rfl (lv_at hl 1 rfl) ?_
  obtain ⟨v20, e20, hf⟩ := ob2 hf
  refine c_V (As := [.int a0]) (st1 := [.int v20]) (rest := []) (p_X0_kindOf l E hB_b x12 m g o e20) (kc_X3_99 hB ⟨Nat.le_of_ble_eq_true rfl, Nat.le_of_ble_eq_true rfl⟩) (Wd.rec hK hW (hB_b.l8 (j := 7) (by decide)) (cB_7 hB_b) (ci := 0) rfl) hx hb hml hown hB hK hW hS ⟨Nat.zero_le _, Nat.zero_le _⟩ rfl hl.1 rfl (Nat.le_of_ble_eq_true rfl) rfl dX3_makeJudgement_20 (fun H locs hW hS => ?_)
  refine lv_istore_n (lv' := [(3, .int v20), (0, rf E b), (1, .int a0), (2, .int a1)]) hx hb dX3_makeJudgement_23 rfl hl (by decide) rfl (fun ls hl => ?_)
  refine lv_aload_n hx hb dX3_makeJudgement_24 rfl (lv_at hl 1 rfl) ?_
  refine gf_X3_21 hx hb hB hK hown hW hB_b dX3_makeJudgement_25 ?_
  refine lv_iload_n hx hb dX3_makeJudgement_28 rfl (lv_at hl 2 rfl) ?_
  obtain ⟨v29, e29, hf⟩ := ob2 hf
  refine c_V (As := [.int a0]) (st1 := [.int v29]) (rest := []) (p_X0_followedBy l E hB_b x12 m g o e29) (kc_X3_115 hB ⟨Nat.le_of_ble_eq_true rfl, Nat.le_of_ble_eq_true rfl⟩) (Wd.rec hK hW (hB_b.l8 (j := 7) (by decide)) (cB_7 hB_b) (ci := 0) rfl) hx hb hml hown hB hK hW hS ⟨Nat.zero_le _, Nat.zero_le _⟩ rfl hl.1 rfl (Nat.le_of_ble_eq_true rfl) rfl dX3_makeJudgement_29 (fun H locs hW hS => ?_)
  refine lv_istore (lv' := [(4, .int v29), (3, .int v20), (0, rf E b), (1, .int a0), (2, .int a1)]) hx hb dX3_makeJudgement_32 hl (by decide) rfl (fun ls hl => ?_)
  refine lv_aload_n hx hb dX3_makeJudgement_34 rfl (lv_at hl 2 rfl) ?_
  refine gf_X3_12 hx hb hB hK hown hW hB_b dX3_makeJudgement_35 ?_
  refine lv_iload_n hx hb dX3_makeJudgement_38 rfl (lv_at hl 1 rfl) ?_
  refine lv_aload_n hx hb dX3_makeJudgement_39 rfl (lv_at hl 2 rfl) ?_
  refine gf_X3_28 hx hb hB hK hown hW hB_b dX3_makeJudgement_40 ?_
  refine lv_iload hx hb dX3_makeJudgement_43 (lv_at hl 0 rfl) ?_
  obtain ⟨v45, e45, hf⟩ := ob2 hf
  refine c_V (As := [.int v29]) (st1 := [.int v45, .int v20, rf E (b + 1)]) (rest := [.int v20, rf E (b + 1)]) (p_X2_amendsOf l E hB_b x12 m g o e45) (kc_X3_92 hB ⟨Nat.le_of_ble_eq_true rfl, Nat.le_of_ble_eq_true rfl⟩) (Wd.rec hK hW (hB_b.l8 (j := 17) (by decide)) (cB_17 hB_b) (ci := 2) rfl) hx hb hml hown hB hK hW hS ⟨Nat.zero_le _, Nat.zero_le _⟩ rfl hl.1 rfl (Nat.le_of_ble_eq_true rfl) rfl dX3_makeJudgement_45 (fun H locs hW hS => ?_)
  obtain ⟨v48, e48, hf⟩ := ob2 hf
  refine c_V (As := [.int v20, .int v45]) (st1 := [.int v48]) (rest := []) (p_X1_costOf l E hB_b x12 m g o e48) (kc_X3_137 hB ⟨Nat.le_of_ble_eq_true rfl, Nat.le_of_ble_eq_true rfl⟩) (Wd.rec hK hW (hB_b.l8 (j := 1) (by decide)) (cB_1 hB_b) (ci := 1) rfl) hx hb hml hown hB hK hW hS ⟨Nat.zero_le _, Nat.zero_le _⟩ rfl hl.1 rfl (Nat.le_of_ble_eq_true rfl) rfl dX3_makeJudgement_48 (fun H locs hW hS => ?_)
  refine lv_istore (lv' := [(5, .int v48), (4, .int v29), (3, .int v20), (0, rf E b), (1, .int a0), (2, .int a1)]) hx hb dX3_makeJudgement_51 hl (by decide) rfl (fun ls hl => ?_)
  refine lv_iload hx hb dX3_makeJudgement_53 (lv_at hl 1 rfl) ?_
  refine lv_iconst (v := (-1)) hx hb dX3_makeJudgement_55 (by decide) ?_
  refine lv_icmp_eq (tgt := 73) hx hb dX3_makeJudgement_56 (by decide) (fun c56 => ?_) (fun c56 => ?_)
  · rw [if_pos c56] at hf
    refine lv_iconst (v := 0) hx hb dX3_makeJudgement_73 (by decide) ?_
    cases hf
    exact e_i hx hb hr hlk hW hS dX3_makeJudgement_74
  · rw [if_neg c56] at hf
    refine lv_aload_n hx hb dX3_makeJudgement_59 rfl (lv_at hl 3 rfl) ?_
    refine gf_X3_12 hx hb hB hK hown hW hB_b dX3_makeJudgement_60 ?_
    refine lv_iload_n hx hb dX3_makeJudgement_63 rfl (lv_at hl 2 rfl) ?_
    refine lv_iload_n hx hb dX3_makeJudgement_64 rfl (lv_at hl 5 rfl) ?_
    obtain ⟨v65, e65, hf⟩ := ob2 hf
    refine c_V (As := [.int v20, .int a1]) (st1 := [.int v65]) (rest := []) (p_X1_costOf l E hB_b x12 m g o e65) (kc_X3_137 hB ⟨Nat.le_of_ble_eq_true rfl, Nat.le_of_ble_eq_true rfl⟩) (Wd.rec hK hW (hB_b.l8 (j := 1) (by decide)) (cB_1 hB_b) (ci := 1) rfl) hx hb hml hown hB hK hW hS ⟨Nat.zero_le _, Nat.zero_le _⟩ rfl hl.1 rfl (Nat.le_of_ble_eq_true rfl) rfl dX3_makeJudgement_65 (fun H locs hW hS => ?_)
    refine lv_iload hx hb dX3_makeJudgement_68 (lv_at hl 0 rfl) ?_
    refine lv_icmp_gt (tgt := 75) hx hb dX3_makeJudgement_70 (by decide) (fun c70 => ?_) (fun c70 => ?_)
    · rw [if_pos c70] at hf
      refine lv_aload_n hx hb dX3_makeJudgement_75 rfl (lv_at hl 3 rfl) ?_
      refine gf_X3_28 hx hb hB hK hown hW hB_b dX3_makeJudgement_76 ?_
      refine lv_iload hx hb dX3_makeJudgement_79 (lv_at hl 1 rfl) ?_
      refine lv_iload_n hx hb dX3_makeJudgement_81 rfl (lv_at hl 5 rfl) ?_
      obtain ⟨x82, e82, hf⟩ := ob2 hf
      refine c_V (As := [.int v29, .int a1]) (st1 := []) (rest := []) (p_X2_raise l E hB_b x12 m g o e82) (kc_X3_166 hB ⟨Nat.le_of_ble_eq_true rfl, Nat.le_of_ble_eq_true rfl⟩) (Wd.rec hK hW (hB_b.l8 (j := 17) (by decide)) (cB_17 hB_b) (ci := 2) rfl) hx hb hml hown hB hK hW hS ⟨Nat.zero_le _, Nat.zero_le _⟩ rfl hl.1 rfl (Nat.le_of_ble_eq_true rfl) rfl dX3_makeJudgement_82 (fun H locs hW hS => ?_)
      refine lv_iconst (v := 0) hx hb dX3_makeJudgement_85 (by decide) ?_
      refine lv_istore (lv' := [(6, .int 0), (5, .int v48), (4, .int v29), (3, .int v20), (0, rf E b), (1, .int a0), (2, .int a1)]) hx hb dX3_makeJudgement_86 hl (by decide) rfl (fun ls hl => ?_)
      refine lv_iconst (v := 0) hx hb dX3_makeJudgement_88 (by decide) ?_
      refine lv_istore (lv' := [(7, .int 0), (6, .int 0), (5, .int v48), (4, .int v29), (3, .int v20), (0, rf E b), (1, .int a0), (2, .int a1)]) hx hb dX3_makeJudgement_89 hl (by decide) rfl (fun ls hl => ?_)
      exact J91 4096 x82 v29 0 0 _ _ _ hf hW hS (lv_sub hl [5, 3, 1, 0] rfl)
    · rw [if_neg c70] at hf
      refine lv_iconst (v := 0) hx hb dX3_makeJudgement_73 (by decide) ?_
      cases hf
      exact e_i hx hb hr hlk hW hS dX3_makeJudgement_74
def f_X3_turnMonth_61 (b : Nat) : Nat → XS → Int32 → Int32 → Option (Int32 × XS)
  | 0, _, _, _ => none
  | n61 + 1, x61, l1_61, l2_61 =>
    if ((x61 (b + 7) 0) ≤ l2_61 : Prop) then
      some (l1_61, x61)
    else
      ((f_X3_topUp b x61 l2_61).bind fun q75 => (fun v75 x75 =>
      (some ((l1_61 + v75))).bind fun v79 =>
      (some (l2_61 + 1)).bind fun v80 =>
      f_X3_turnMonth_61 b n61 x75 v79 v80) q75.1 q75.2)
def f_X3_turnMonth_12 (b : Nat) : Nat → XS → Int32 → Option (Int32 × XS)
  | 0, _, _ => none
  | n12 + 1, x12, l1_12 =>
    if (4 ≤ l1_12 : Prop) then
      f_X3_turnMonth_61 b 4096 x12 0 0
    else
      ((aget 4 (x12 (b + 23)) l1_12).bind fun v27 =>
      (f_X3_leftOf b x12 l1_12).bind fun v30 =>
      (f_X3_settingOf b x12 2).bind fun v35 =>
      (aset x12 (b + 24) 4 l1_12 (v27 + ((v30 * v35) / 100))).bind fun x43 =>
      (aset x43 (b + 25) 4 l1_12 0).bind fun x50 =>
      (some (l1_12 + 1)).bind fun v51 =>
      f_X3_turnMonth_12 b n12 x50 v51)
def f_X3_turnMonth (b : Nat) (x : XS) : Option (Int32 × XS) :=
    (some (ux x b 7 ((x b 7) + 1))).bind fun x7 =>
    f_X3_turnMonth_12 b 4096 x7 0
set_option maxRecDepth 100000 in
set_option maxHeartbeats 4000000 in
theorem p_X3_turnMonth (l : Launch) (E : TE) {b : Nat} (hB_b : IsB b) (x m : XS) (g o : Int64) {r : Int32} {xr : XS} (hf : f_X3_turnMonth b x = some (r, xr)) : MG l E yX3_turnMonth cX3_turnMonth 3 (some .int) 5 [rf E b] (Wd E x m g o) (Wd E xr m g o) (some (.int r)) := by
  unfold f_X3_turnMonth at hf
  refine m_in (by decide) (Nat.le_of_ble_eq_true rfl) ?_
  intro p e s mi args below meth c H ls hx hb hr hlk hml hown hB hK hW hS hl
  have hl : lv_has ls 3 [(0, rf E b)] := hl
  have J61 : ∀ (n61 : Nat), ∀ (x61 : XS) (l1_61 : Int32) (l2_61 : Int32) (H : Heap) (locs : List Loc) (ls : Array Slot), f_X3_turnMonth_61 b n61 x61 l1_61 l2_61 = some (r, xr) → Wd E x61 m g o H → va_S (Ah E) s.heap H locs → lv_has ls 3 [(0, rf E b), (1, .int l1_61), (2, .int l2_61)] → W p l e (rmH 5) s mi args below meth c H locs 0 0 (EQ E below args s (Wd E xr m g o) (some (.int r))) (F0 mi 61 ls []) := by
    intro n61
    induction n61 with
    | zero => intro x61 l1_61 l2_61 H locs ls hf; exact absurd hf (fun z => nomatch (show (none : Option (Int32 × XS)) = some _ from z))
    | succ n61 ih61 =>
      intro x61 l1_61 l2_61 H locs ls hf hW hS hl
      rw [f_X3_turnMonth_61.eq_2] at hf
      refine lv_iload_n hx hb dX3_turnMonth_61 rfl (lv_at hl 2 rfl) ?_
      refine lv_aload_n hx hb dX3_turnMonth_62 rfl (lv_at hl 0 rfl) ?_
      refine gf_X3_21 hx hb hB hK hown hW hB_b dX3_turnMonth_63 ?_
      refine gf_X3_121 hx hb hB hK hown hW hB_b dX3_turnMonth_66 ?_
      refine lv_icmp_ge (tgt := 86) hx hb dX3_turnMonth_69 (by decide) (fun c69 => ?_) (fun c69 => ?_)
      · rw [if_pos c69] at hf
        refine lv_iload_n hx hb dX3_turnMonth_86 rfl (lv_at hl 1 rfl) ?_
        cases hf
        exact e_i hx hb hr hlk hW hS dX3_turnMonth_87
      · rw [if_neg c69] at hf
        refine lv_iload_n hx hb dX3_turnMonth_72 rfl (lv_at hl 1 rfl) ?_
        refine lv_aload_n hx hb dX3_turnMonth_73 rfl (lv_at hl 0 rfl) ?_
        refine lv_iload_n hx hb dX3_turnMonth_74 rfl (lv_at hl 2 rfl) ?_
        obtain ⟨⟨v75, x75⟩, e75, hf⟩ := ob2 hf
        dsimp only at hf
        refine c_V (As := [.int l2_61]) (st1 := [.int v75, .int l1_61]) (rest := [.int l1_61]) (p_X3_topUp l E hB_b x61 m g o e75) (kc_X3_169 hB ⟨Nat.le_of_ble_eq_true rfl, Nat.le_of_ble_eq_true rfl⟩) (Wd.rec hK hW hB_b.l0 (cB_0 hB_b) (ci := 3) rfl) hx hb hml hown hB hK hW hS ⟨Nat.zero_le _, Nat.zero_le _⟩ rfl hl.1 rfl (Nat.le_of_ble_eq_true rfl) rfl dX3_turnMonth_75 (fun H locs hW hS => ?_)
        refine lv_iadd hx hb dX3_turnMonth_78 ?_
        obtain ⟨v79, e79, hf⟩ := ob hf
        refine lv_nm e79 ?_
        refine lv_istore_n (lv' := [(1, .int v79), (0, rf E b), (2, .int l2_61)]) hx hb dX3_turnMonth_79 rfl hl (by decide) rfl (fun ls hl => ?_)
        obtain ⟨v80, e80, hf⟩ := ob hf
        refine lv_iinc (v := v80) (lv' := [(2, .int v80), (1, .int v79), (0, rf E b)]) hx hb dX3_turnMonth_80 hl (k := 2) rfl (by rw [e80]; rfl) (by decide) rfl (fun ls hl => ?_)
        refine lv_goto (tgt := 61) hx hb dX3_turnMonth_83 (by decide) ?_
        exact ih61 x75 v79 v80 _ _ _ hf hW hS (lv_sub hl [2, 1, 0] rfl)
  have J12 : ∀ (n12 : Nat), ∀ (x12 : XS) (l1_12 : Int32) (H : Heap) (locs : List Loc) (ls : Array Slot), f_X3_turnMonth_12 b n12 x12 l1_12 = some (r, xr) → Wd E x12 m g o H → va_S (Ah E) s.heap H locs → lv_has ls 3 [(0, rf E b), (1, .int l1_12)] → W p l e (rmH 5) s mi args below meth c H locs 0 0 (EQ E below args s (Wd E xr m g o) (some (.int r))) (F0 mi 12 ls []) := by
    intro n12
    induction n12 with
    | zero => intro x12 l1_12 H locs ls hf; exact absurd hf (fun z => nomatch (show (none : Option (Int32 × XS)) = some _ from z))
    | succ n12 ih12 =>
      intro x12 l1_12 H locs ls hf hW hS hl
      rw [f_X3_turnMonth_12.eq_2] at hf
      refine lv_iload_n hx hb dX3_turnMonth_12 rfl (lv_at hl 1 rfl) ?_
      refine lv_iconst (v := 4) hx hb dX3_turnMonth_13 (by decide) ?_
      refine lv_icmp_ge (tgt := 57) hx hb dX3_turnMonth_14 (by decide) (fun c14 => ?_) (fun c14 => ?_)
      · rw [if_pos c14] at hf
        refine lv_iconst (v := 0) hx hb dX3_turnMonth_57 (by decide) ?_
        refine lv_istore_n (lv' := [(1, .int 0), (0, rf E b)]) hx hb dX3_turnMonth_58 rfl hl (by decide) rfl (fun ls hl => ?_)
        refine lv_iconst (v := 0) hx hb dX3_turnMonth_59 (by decide) ?_
        refine lv_istore_n (lv' := [(2, .int 0), (1, .int 0), (0, rf E b)]) hx hb dX3_turnMonth_60 rfl hl (by decide) rfl (fun ls hl => ?_)
        exact J61 4096 x12 0 0 _ _ _ hf hW hS (lv_sub hl [2, 1, 0] rfl)
      · rw [if_neg c14] at hf
        refine lv_aload_n hx hb dX3_turnMonth_17 rfl (lv_at hl 0 rfl) ?_
        refine gf_X3_39 hx hb hB hK hown hW hB_b dX3_turnMonth_18 ?_
        refine lv_iload_n hx hb dX3_turnMonth_21 rfl (lv_at hl 1 rfl) ?_
        refine lv_aload_n hx hb dX3_turnMonth_22 rfl (lv_at hl 0 rfl) ?_
        refine gf_X3_36 hx hb hB hK hown hW hB_b dX3_turnMonth_23 ?_
        refine lv_iload_n hx hb dX3_turnMonth_26 rfl (lv_at hl 1 rfl) ?_
        obtain ⟨v27, e27, hf⟩ := ob2 hf
        refine r_iald hx hb hK hW (hB_b.l8 (by decide)) (cB_23 hB_b) e27 dX3_turnMonth_27 ?_
        refine lv_aload_n hx hb dX3_turnMonth_28 rfl (lv_at hl 0 rfl) ?_
        refine lv_iload_n hx hb dX3_turnMonth_29 rfl (lv_at hl 1 rfl) ?_
        obtain ⟨v30, e30, hf⟩ := ob2 hf
        refine c_V (As := [.int l1_12]) (st1 := [.int v30, .int v27, .int l1_12, rf E (b + 24)]) (rest := [.int v27, .int l1_12, rf E (b + 24)]) (p_X3_leftOf l E hB_b x12 m g o e30) (kc_X3_140 hB ⟨Nat.le_of_ble_eq_true rfl, Nat.le_of_ble_eq_true rfl⟩) (Wd.rec hK hW hB_b.l0 (cB_0 hB_b) (ci := 3) rfl) hx hb hml hown hB hK hW hS ⟨Nat.zero_le _, Nat.zero_le _⟩ rfl hl.1 rfl (Nat.le_of_ble_eq_true rfl) rfl dX3_turnMonth_30 (fun H locs hW hS => ?_)
        refine lv_aload_n hx hb dX3_turnMonth_33 rfl (lv_at hl 0 rfl) ?_
        refine lv_iconst (v := 2) hx hb dX3_turnMonth_34 (by decide) ?_
        obtain ⟨v35, e35, hf⟩ := ob2 hf
        refine c_V (As := [.int 2]) (st1 := [.int v35, .int v30, .int v27, .int l1_12, rf E (b + 24)]) (rest := [.int v30, .int v27, .int l1_12, rf E (b + 24)]) (p_X3_settingOf l E hB_b x12 m g o e35) (kc_X3_79 hB ⟨Nat.le_of_ble_eq_true rfl, Nat.le_of_ble_eq_true rfl⟩) (Wd.rec hK hW hB_b.l0 (cB_0 hB_b) (ci := 3) rfl) hx hb hml hown hB hK hW hS ⟨Nat.zero_le _, Nat.zero_le _⟩ rfl hl.1 rfl (Nat.le_of_ble_eq_true rfl) rfl dX3_turnMonth_35 (fun H locs hW hS => ?_)
        refine lv_imul hx hb dX3_turnMonth_38 ?_
        refine lv_bipush (v := 100) hx hb dX3_turnMonth_39 (by decide) ?_
        refine lv_idiv hx hb dX3_turnMonth_41 (by decide) ?_
        refine lv_iadd hx hb dX3_turnMonth_42 ?_
        obtain ⟨x43, e43, hf⟩ := ob2 hf
        refine r_iastX hx hb hK hW hS (hB_b.lt (by decide)) (fun _ => cB_24 hB_b) e43 dX3_turnMonth_43 (fun H locs hW hS => ?_)
        refine lv_aload_n hx hb dX3_turnMonth_44 rfl (lv_at hl 0 rfl) ?_
        refine gf_X3_42 hx hb hB hK hown hW hB_b dX3_turnMonth_45 ?_
        refine lv_iload_n hx hb dX3_turnMonth_48 rfl (lv_at hl 1 rfl) ?_
        refine lv_iconst (v := 0) hx hb dX3_turnMonth_49 (by decide) ?_
        obtain ⟨x50, e50, hf⟩ := ob2 hf
        refine r_iastX hx hb hK hW hS (hB_b.lt (by decide)) (fun _ => cB_25 hB_b) e50 dX3_turnMonth_50 (fun H locs hW hS => ?_)
        obtain ⟨v51, e51, hf⟩ := ob hf
        refine lv_iinc (v := v51) (lv' := [(1, .int v51), (0, rf E b)]) hx hb dX3_turnMonth_51 hl (k := 1) rfl (by rw [e51]; rfl) (by decide) rfl (fun ls hl => ?_)
        refine lv_goto (tgt := 12) hx hb dX3_turnMonth_54 (by decide) ?_
        exact ih12 x50 v51 _ _ _ hf hW hS (lv_sub hl [1, 0] rfl)
  refine lv_aload_n hx hb dX3_turnMonth_0 rfl (lv_at hl 0 rfl) ?_
  refine lv_dup hx hb dX3_turnMonth_1 rfl ?_
  refine gf_X3_68 hx hb hB hK hown hW hB_b dX3_turnMonth_2 ?_
  refine lv_iconst (v := 1) hx hb dX3_turnMonth_5 (by decide) ?_
  refine lv_iadd hx hb dX3_turnMonth_6 ?_
  obtain ⟨x7, e7, hf⟩ := ob hf
  refine pf_X3_68 hx hb hB hK hown hW hS hB_b e7 dX3_turnMonth_7 (fun H locs hW hS => ?_)
  refine lv_iconst (v := 0) hx hb dX3_turnMonth_10 (by decide) ?_
  refine lv_istore_n (lv' := [(1, .int 0), (0, rf E b)]) hx hb dX3_turnMonth_11 rfl hl (by decide) rfl (fun ls hl => ?_)
  exact J12 4096 x7 0 _ _ _ hf hW hS (lv_sub hl [1, 0] rfl)
def f_X3_ofComplaint (b : Nat) (x : XS) (a0 : Int32) (a1 : Int32) : Option (Int32) :=
    if (a1 = 0 : Prop) then
      ((f_X0_kindOf b x a0).bind fun v61 =>
      some v61)
    else if (a1 = 1 : Prop) then
      ((f_X0_severityOf b x a0).bind fun v70 =>
      some v70)
    else if (a1 = 2 : Prop) then
      ((f_X0_customerOf b x a0).bind fun v79 =>
      some v79)
    else if (a1 = 3 : Prop) then
      ((f_X0_groupOf b x a0).bind fun v88 =>
      some v88)
    else if (a1 = 4 : Prop) then
      ((f_X0_stageOf b x a0).bind fun v97 =>
      some v97)
    else if (a1 = 5 : Prop) then
      ((f_X0_amendsOf b x a0).bind fun v106 =>
      some v106)
    else if (a1 = 6 : Prop) then
      ((f_X0_gotOf b x a0).bind fun v115 =>
      some v115)
    else if (a1 = 7 : Prop) then
      ((f_X0_reasonOf b x a0).bind fun v124 =>
      some v124)
    else if (a1 = 8 : Prop) then
      ((f_X0_monthOf b x a0).bind fun v133 =>
      some v133)
    else if (a1 = 9 : Prop) then
      ((f_X3_tieOf b x a0).bind fun v139 =>
      some v139)
    else   ((f_X3_owedTo b x a0).bind fun v145 =>
      some v145)
set_option maxRecDepth 100000 in
set_option maxHeartbeats 4000000 in
theorem p_X3_ofComplaint (l : Launch) (E : TE) {b : Nat} (hB_b : IsB b) (x m : XS) (g o : Int64) {a0 : Int32} {a1 : Int32} {r : Int32} (hf : f_X3_ofComplaint b x a0 a1 = some r) : MG l E yX3_ofComplaint cX3_ofComplaint 3 (some .int) 4 [rf E b, .int a0, .int a1] (Wd E x m g o) (Wd E x m g o) (some (.int r)) := by
  unfold f_X3_ofComplaint at hf
  refine m_in (by decide) (Nat.le_of_ble_eq_true rfl) ?_
  intro p e s mi args below meth c H ls hx hb hr hlk hml hown hB hK hW hS hl
  have hl : lv_has ls 3 [(0, rf E b), (1, .int a0), (2, .int a1)] := hl
  refine lv_iload_n hx hb dX3_ofComplaint_0 rfl (lv_at hl 2 rfl) ?_
  by_cases c1_0 : a1 = 0
  · rw [if_pos c1_0] at hf
    refine lv_tableIn (tgt := 56) (off := 55) hx hb dX3_ofComplaint_1 (by rw [c1_0]; decide) (by rw [c1_0]; decide) (by rw [c1_0]; rfl) (by decide) ?_
    refine lv_aload_n hx hb dX3_ofComplaint_56 rfl (lv_at hl 0 rfl) ?_
    refine gf_X3_21 hx hb hB hK hown hW hB_b dX3_ofComplaint_57 ?_
    refine lv_iload_n hx hb dX3_ofComplaint_60 rfl (lv_at hl 1 rfl) ?_
    obtain ⟨v61, e61, hf⟩ := ob2 hf
    refine c_V (As := [.int a0]) (st1 := [.int v61]) (rest := []) (p_X0_kindOf l E hB_b x m g o e61) (kc_X3_99 hB ⟨Nat.le_of_ble_eq_true rfl, Nat.le_of_ble_eq_true rfl⟩) (Wd.rec hK hW (hB_b.l8 (j := 7) (by decide)) (cB_7 hB_b) (ci := 0) rfl) hx hb hml hown hB hK hW hS ⟨Nat.zero_le _, Nat.zero_le _⟩ rfl hl.1 rfl (Nat.le_of_ble_eq_true rfl) rfl dX3_ofComplaint_61 (fun H locs hW hS => ?_)
    cases hf
    exact e_i hx hb hr hlk hW hS dX3_ofComplaint_64
  rw [if_neg c1_0] at hf
  by_cases c1_1 : a1 = 1
  · rw [if_pos c1_1] at hf
    refine lv_tableIn (tgt := 65) (off := 64) hx hb dX3_ofComplaint_1 (by rw [c1_1]; decide) (by rw [c1_1]; decide) (by rw [c1_1]; rfl) (by decide) ?_
    refine lv_aload_n hx hb dX3_ofComplaint_65 rfl (lv_at hl 0 rfl) ?_
    refine gf_X3_21 hx hb hB hK hown hW hB_b dX3_ofComplaint_66 ?_
    refine lv_iload_n hx hb dX3_ofComplaint_69 rfl (lv_at hl 1 rfl) ?_
    obtain ⟨v70, e70, hf⟩ := ob2 hf
    refine c_V (As := [.int a0]) (st1 := [.int v70]) (rest := []) (p_X0_severityOf l E hB_b x m g o e70) (kc_X3_127 hB ⟨Nat.le_of_ble_eq_true rfl, Nat.le_of_ble_eq_true rfl⟩) (Wd.rec hK hW (hB_b.l8 (j := 7) (by decide)) (cB_7 hB_b) (ci := 0) rfl) hx hb hml hown hB hK hW hS ⟨Nat.zero_le _, Nat.zero_le _⟩ rfl hl.1 rfl (Nat.le_of_ble_eq_true rfl) rfl dX3_ofComplaint_70 (fun H locs hW hS => ?_)
    cases hf
    exact e_i hx hb hr hlk hW hS dX3_ofComplaint_73
  rw [if_neg c1_1] at hf
  by_cases c1_2 : a1 = 2
  · rw [if_pos c1_2] at hf
    refine lv_tableIn (tgt := 74) (off := 73) hx hb dX3_ofComplaint_1 (by rw [c1_2]; decide) (by rw [c1_2]; decide) (by rw [c1_2]; rfl) (by decide) ?_
    refine lv_aload_n hx hb dX3_ofComplaint_74 rfl (lv_at hl 0 rfl) ?_
    refine gf_X3_21 hx hb hB hK hown hW hB_b dX3_ofComplaint_75 ?_
    refine lv_iload_n hx hb dX3_ofComplaint_78 rfl (lv_at hl 1 rfl) ?_
    obtain ⟨v79, e79, hf⟩ := ob2 hf
    refine c_V (As := [.int a0]) (st1 := [.int v79]) (rest := []) (p_X0_customerOf l E hB_b x m g o e79) (kc_X3_183 hB ⟨Nat.le_of_ble_eq_true rfl, Nat.le_of_ble_eq_true rfl⟩) (Wd.rec hK hW (hB_b.l8 (j := 7) (by decide)) (cB_7 hB_b) (ci := 0) rfl) hx hb hml hown hB hK hW hS ⟨Nat.zero_le _, Nat.zero_le _⟩ rfl hl.1 rfl (Nat.le_of_ble_eq_true rfl) rfl dX3_ofComplaint_79 (fun H locs hW hS => ?_)
    cases hf
    exact e_i hx hb hr hlk hW hS dX3_ofComplaint_82
  rw [if_neg c1_2] at hf
  by_cases c1_3 : a1 = 3
  · rw [if_pos c1_3] at hf
    refine lv_tableIn (tgt := 83) (off := 82) hx hb dX3_ofComplaint_1 (by rw [c1_3]; decide) (by rw [c1_3]; decide) (by rw [c1_3]; rfl) (by decide) ?_
    refine lv_aload_n hx hb dX3_ofComplaint_83 rfl (lv_at hl 0 rfl) ?_
    refine gf_X3_21 hx hb hB hK hown hW hB_b dX3_ofComplaint_84 ?_
    refine lv_iload_n hx hb dX3_ofComplaint_87 rfl (lv_at hl 1 rfl) ?_
    obtain ⟨v88, e88, hf⟩ := ob2 hf
    refine c_V (As := [.int a0]) (st1 := [.int v88]) (rest := []) (p_X0_groupOf l E hB_b x m g o e88) (kc_X3_102 hB ⟨Nat.le_of_ble_eq_true rfl, Nat.le_of_ble_eq_true rfl⟩) (Wd.rec hK hW (hB_b.l8 (j := 7) (by decide)) (cB_7 hB_b) (ci := 0) rfl) hx hb hml hown hB hK hW hS ⟨Nat.zero_le _, Nat.zero_le _⟩ rfl hl.1 rfl (Nat.le_of_ble_eq_true rfl) rfl dX3_ofComplaint_88 (fun H locs hW hS => ?_)
    cases hf
    exact e_i hx hb hr hlk hW hS dX3_ofComplaint_91
  rw [if_neg c1_3] at hf
  by_cases c1_4 : a1 = 4
  · rw [if_pos c1_4] at hf
    refine lv_tableIn (tgt := 92) (off := 91) hx hb dX3_ofComplaint_1 (by rw [c1_4]; decide) (by rw [c1_4]; decide) (by rw [c1_4]; rfl) (by decide) ?_
    refine lv_aload_n hx hb dX3_ofComplaint_92 rfl (lv_at hl 0 rfl) ?_
    refine gf_X3_21 hx hb hB hK hown hW hB_b dX3_ofComplaint_93 ?_
    refine lv_iload_n hx hb dX3_ofComplaint_96 rfl (lv_at hl 1 rfl) ?_
    obtain ⟨v97, e97, hf⟩ := ob2 hf
    refine c_V (As := [.int a0]) (st1 := [.int v97]) (rest := []) (p_X0_stageOf l E hB_b x m g o e97) (kc_X3_112 hB ⟨Nat.le_of_ble_eq_true rfl, Nat.le_of_ble_eq_true rfl⟩) (Wd.rec hK hW (hB_b.l8 (j := 7) (by decide)) (cB_7 hB_b) (ci := 0) rfl) hx hb hml hown hB hK hW hS ⟨Nat.zero_le _, Nat.zero_le _⟩ rfl hl.1 rfl (Nat.le_of_ble_eq_true rfl) rfl dX3_ofComplaint_97 (fun H locs hW hS => ?_)
    cases hf
    exact e_i hx hb hr hlk hW hS dX3_ofComplaint_100
  rw [if_neg c1_4] at hf
  by_cases c1_5 : a1 = 5
  · rw [if_pos c1_5] at hf
    refine lv_tableIn (tgt := 101) (off := 100) hx hb dX3_ofComplaint_1 (by rw [c1_5]; decide) (by rw [c1_5]; decide) (by rw [c1_5]; rfl) (by decide) ?_
    refine lv_aload_n hx hb dX3_ofComplaint_101 rfl (lv_at hl 0 rfl) ?_
    refine gf_X3_21 hx hb hB hK hown hW hB_b dX3_ofComplaint_102 ?_
    refine lv_iload_n hx hb dX3_ofComplaint_105 rfl (lv_at hl 1 rfl) ?_
    obtain ⟨v106, e106, hf⟩ := ob2 hf
    refine c_V (As := [.int a0]) (st1 := [.int v106]) (rest := []) (p_X0_amendsOf l E hB_b x m g o e106) (kc_X3_186 hB ⟨Nat.le_of_ble_eq_true rfl, Nat.le_of_ble_eq_true rfl⟩) (Wd.rec hK hW (hB_b.l8 (j := 7) (by decide)) (cB_7 hB_b) (ci := 0) rfl) hx hb hml hown hB hK hW hS ⟨Nat.zero_le _, Nat.zero_le _⟩ rfl hl.1 rfl (Nat.le_of_ble_eq_true rfl) rfl dX3_ofComplaint_106 (fun H locs hW hS => ?_)
    cases hf
    exact e_i hx hb hr hlk hW hS dX3_ofComplaint_109
  rw [if_neg c1_5] at hf
  by_cases c1_6 : a1 = 6
  · rw [if_pos c1_6] at hf
    refine lv_tableIn (tgt := 110) (off := 109) hx hb dX3_ofComplaint_1 (by rw [c1_6]; decide) (by rw [c1_6]; decide) (by rw [c1_6]; rfl) (by decide) ?_
    refine lv_aload_n hx hb dX3_ofComplaint_110 rfl (lv_at hl 0 rfl) ?_
    refine gf_X3_21 hx hb hB hK hown hW hB_b dX3_ofComplaint_111 ?_
    refine lv_iload_n hx hb dX3_ofComplaint_114 rfl (lv_at hl 1 rfl) ?_
    obtain ⟨v115, e115, hf⟩ := ob2 hf
    refine c_V (As := [.int a0]) (st1 := [.int v115]) (rest := []) (p_X0_gotOf l E hB_b x m g o e115) (kc_X3_155 hB ⟨Nat.le_of_ble_eq_true rfl, Nat.le_of_ble_eq_true rfl⟩) (Wd.rec hK hW (hB_b.l8 (j := 7) (by decide)) (cB_7 hB_b) (ci := 0) rfl) hx hb hml hown hB hK hW hS ⟨Nat.zero_le _, Nat.zero_le _⟩ rfl hl.1 rfl (Nat.le_of_ble_eq_true rfl) rfl dX3_ofComplaint_115 (fun H locs hW hS => ?_)
    cases hf
    exact e_i hx hb hr hlk hW hS dX3_ofComplaint_118
  rw [if_neg c1_6] at hf
  by_cases c1_7 : a1 = 7
  · rw [if_pos c1_7] at hf
    refine lv_tableIn (tgt := 119) (off := 118) hx hb dX3_ofComplaint_1 (by rw [c1_7]; decide) (by rw [c1_7]; decide) (by rw [c1_7]; rfl) (by decide) ?_
    refine lv_aload_n hx hb dX3_ofComplaint_119 rfl (lv_at hl 0 rfl) ?_
    refine gf_X3_21 hx hb hB hK hown hW hB_b dX3_ofComplaint_120 ?_
    refine lv_iload_n hx hb dX3_ofComplaint_123 rfl (lv_at hl 1 rfl) ?_
    obtain ⟨v124, e124, hf⟩ := ob2 hf
    refine c_V (As := [.int a0]) (st1 := [.int v124]) (rest := []) (p_X0_reasonOf l E hB_b x m g o e124) (kc_X3_187 hB ⟨Nat.le_of_ble_eq_true rfl, Nat.le_of_ble_eq_true rfl⟩) (Wd.rec hK hW (hB_b.l8 (j := 7) (by decide)) (cB_7 hB_b) (ci := 0) rfl) hx hb hml hown hB hK hW hS ⟨Nat.zero_le _, Nat.zero_le _⟩ rfl hl.1 rfl (Nat.le_of_ble_eq_true rfl) rfl dX3_ofComplaint_124 (fun H locs hW hS => ?_)
    cases hf
    exact e_i hx hb hr hlk hW hS dX3_ofComplaint_127
  rw [if_neg c1_7] at hf
  by_cases c1_8 : a1 = 8
  · rw [if_pos c1_8] at hf
    refine lv_tableIn (tgt := 128) (off := 127) hx hb dX3_ofComplaint_1 (by rw [c1_8]; decide) (by rw [c1_8]; decide) (by rw [c1_8]; rfl) (by decide) ?_
    refine lv_aload_n hx hb dX3_ofComplaint_128 rfl (lv_at hl 0 rfl) ?_
    refine gf_X3_21 hx hb hB hK hown hW hB_b dX3_ofComplaint_129 ?_
    refine lv_iload_n hx hb dX3_ofComplaint_132 rfl (lv_at hl 1 rfl) ?_
    obtain ⟨v133, e133, hf⟩ := ob2 hf
    refine c_V (As := [.int a0]) (st1 := [.int v133]) (rest := []) (p_X0_monthOf l E hB_b x m g o e133) (kc_X3_162 hB ⟨Nat.le_of_ble_eq_true rfl, Nat.le_of_ble_eq_true rfl⟩) (Wd.rec hK hW (hB_b.l8 (j := 7) (by decide)) (cB_7 hB_b) (ci := 0) rfl) hx hb hml hown hB hK hW hS ⟨Nat.zero_le _, Nat.zero_le _⟩ rfl hl.1 rfl (Nat.le_of_ble_eq_true rfl) rfl dX3_ofComplaint_133 (fun H locs hW hS => ?_)
    cases hf
    exact e_i hx hb hr hlk hW hS dX3_ofComplaint_136
  rw [if_neg c1_8] at hf
  by_cases c1_9 : a1 = 9
  · rw [if_pos c1_9] at hf
    refine lv_tableIn (tgt := 137) (off := 136) hx hb dX3_ofComplaint_1 (by rw [c1_9]; decide) (by rw [c1_9]; decide) (by rw [c1_9]; rfl) (by decide) ?_
    refine lv_aload_n hx hb dX3_ofComplaint_137 rfl (lv_at hl 0 rfl) ?_
    refine lv_iload_n hx hb dX3_ofComplaint_138 rfl (lv_at hl 1 rfl) ?_
    obtain ⟨v139, e139, hf⟩ := ob2 hf
    refine c_V (As := [.int a0]) (st1 := [.int v139]) (rest := []) (p_X3_tieOf l E hB_b x m g o e139) (kc_X3_124 hB ⟨Nat.le_of_ble_eq_true rfl, Nat.le_of_ble_eq_true rfl⟩) (Wd.rec hK hW hB_b.l0 (cB_0 hB_b) (ci := 3) rfl) hx hb hml hown hB hK hW hS ⟨Nat.zero_le _, Nat.zero_le _⟩ rfl hl.1 rfl (Nat.le_of_ble_eq_true rfl) rfl dX3_ofComplaint_139 (fun H locs hW hS => ?_)
    cases hf
    exact e_i hx hb hr hlk hW hS dX3_ofComplaint_142
  rw [if_neg c1_9] at hf
  refine lv_tableOut (tgt := 143) hx hb dX3_ofComplaint_1 (by have h0 := lv_neT c1_0 (show (0 : Int32).toInt = 0 by decide); have h1 := lv_neT c1_1 (show (1 : Int32).toInt = 1 by decide); have h2 := lv_neT c1_2 (show (2 : Int32).toInt = 2 by decide); have h3 := lv_neT c1_3 (show (3 : Int32).toInt = 3 by decide); have h4 := lv_neT c1_4 (show (4 : Int32).toInt = 4 by decide); have h5 := lv_neT c1_5 (show (5 : Int32).toInt = 5 by decide); have h6 := lv_neT c1_6 (show (6 : Int32).toInt = 6 by decide); have h7 := lv_neT c1_7 (show (7 : Int32).toInt = 7 by decide); have h8 := lv_neT c1_8 (show (8 : Int32).toInt = 8 by decide); have h9 := lv_neT c1_9 (show (9 : Int32).toInt = 9 by decide); omega) (by decide) ?_
  refine lv_aload_n hx hb dX3_ofComplaint_143 rfl (lv_at hl 0 rfl) ?_
  refine lv_iload_n hx hb dX3_ofComplaint_144 rfl (lv_at hl 1 rfl) ?_
  obtain ⟨v145, e145, hf⟩ := ob2 hf
  refine c_V (As := [.int a0]) (st1 := [.int v145]) (rest := []) (p_X3_owedTo l E hB_b x m g o e145) (kc_X3_177 hB ⟨Nat.le_of_ble_eq_true rfl, Nat.le_of_ble_eq_true rfl⟩) (Wd.rec hK hW hB_b.l0 (cB_0 hB_b) (ci := 3) rfl) hx hb hml hown hB hK hW hS ⟨Nat.zero_le _, Nat.zero_le _⟩ rfl hl.1 rfl (Nat.le_of_ble_eq_true rfl) rfl dX3_ofComplaint_145 (fun H locs hW hS => ?_)
  cases hf
  exact e_i hx hb hr hlk hW hS dX3_ofComplaint_148
def f_X3_budgetOf (b : Nat) (x : XS) (a0 : Int32) : Option (Int32) :=
    (f_X4_isKind a0).bind fun v1 =>
    if (v1 = 0 : Prop) then
      some 0
    else
      ((aget 4 (x (b + 24)) a0).bind fun v12 =>
      some v12)
set_option maxRecDepth 100000 in
set_option maxHeartbeats 4000000 in
theorem p_X3_budgetOf (l : Launch) (E : TE) {b : Nat} (hB_b : IsB b) (x m : XS) (g o : Int64) {a0 : Int32} {r : Int32} (hf : f_X3_budgetOf b x a0 = some r) : MG l E yX3_budgetOf cX3_budgetOf 2 (some .int) 1 [rf E b, .int a0] (Wd E x m g o) (Wd E x m g o) (some (.int r)) := by
  unfold f_X3_budgetOf at hf
  refine m_in (by decide) (Nat.le_of_ble_eq_true rfl) ?_
  intro p e s mi args below meth c H ls hx hb hr hlk hml hown hB hK hW hS hl
  have hl : lv_has ls 2 [(0, rf E b), (1, .int a0)] := hl
  refine lv_iload_n hx hb dX3_budgetOf_0 rfl (lv_at hl 1 rfl) ?_
  obtain ⟨v1, e1, hf⟩ := ob2 hf
  refine c_SN (As := [.int a0]) (st1 := [.int v1]) (rest := []) (p_X4_isKind l E x m g o e1) (kc_X3_76 hB hK ⟨Nat.le_of_ble_eq_true rfl, Nat.le_of_ble_eq_true rfl⟩) hx hb hml hown hB hK hW hS ⟨Nat.zero_le _, Nat.zero_le _⟩ rfl hl.1 rfl (Nat.le_of_ble_eq_true rfl) rfl dX3_budgetOf_1 (fun H locs hW hS => ?_)
  refine lv_if_eq (tgt := 16) hx hb dX3_budgetOf_4 (by decide) (fun c4 => ?_) (fun c4 => ?_)
  · rw [if_pos c4] at hf
    refine lv_iconst (v := 0) hx hb dX3_budgetOf_16 (by decide) ?_
    cases hf
    exact e_i hx hb hr hlk hW hS dX3_budgetOf_17
  · rw [if_neg c4] at hf
    refine lv_aload_n hx hb dX3_budgetOf_7 rfl (lv_at hl 0 rfl) ?_
    refine gf_X3_39 hx hb hB hK hown hW hB_b dX3_budgetOf_8 ?_
    refine lv_iload_n hx hb dX3_budgetOf_11 rfl (lv_at hl 1 rfl) ?_
    obtain ⟨v12, e12, hf⟩ := ob2 hf
    refine r_iald hx hb hK hW (hB_b.l8 (by decide)) (cB_24 hB_b) e12 dX3_budgetOf_12 ?_
    refine lv_goto (tgt := 17) hx hb dX3_budgetOf_13 (by decide) ?_
    cases hf
    exact e_i hx hb hr hlk hW hS dX3_budgetOf_17
def f_X3_spentOf (b : Nat) (x : XS) (a0 : Int32) : Option (Int32) :=
    (f_X4_isKind a0).bind fun v1 =>
    if (v1 = 0 : Prop) then
      some 0
    else
      ((aget 4 (x (b + 25)) a0).bind fun v12 =>
      some v12)
set_option maxRecDepth 100000 in
set_option maxHeartbeats 4000000 in
theorem p_X3_spentOf (l : Launch) (E : TE) {b : Nat} (hB_b : IsB b) (x m : XS) (g o : Int64) {a0 : Int32} {r : Int32} (hf : f_X3_spentOf b x a0 = some r) : MG l E yX3_spentOf cX3_spentOf 2 (some .int) 1 [rf E b, .int a0] (Wd E x m g o) (Wd E x m g o) (some (.int r)) := by
  unfold f_X3_spentOf at hf
  refine m_in (by decide) (Nat.le_of_ble_eq_true rfl) ?_
  intro p e s mi args below meth c H ls hx hb hr hlk hml hown hB hK hW hS hl
  have hl : lv_has ls 2 [(0, rf E b), (1, .int a0)] := hl
  refine lv_iload_n hx hb dX3_spentOf_0 rfl (lv_at hl 1 rfl) ?_
  obtain ⟨v1, e1, hf⟩ := ob2 hf
  refine c_SN (As := [.int a0]) (st1 := [.int v1]) (rest := []) (p_X4_isKind l E x m g o e1) (kc_X3_76 hB hK ⟨Nat.le_of_ble_eq_true rfl, Nat.le_of_ble_eq_true rfl⟩) hx hb hml hown hB hK hW hS ⟨Nat.zero_le _, Nat.zero_le _⟩ rfl hl.1 rfl (Nat.le_of_ble_eq_true rfl) rfl dX3_spentOf_1 (fun H locs hW hS => ?_)
  refine lv_if_eq (tgt := 16) hx hb dX3_spentOf_4 (by decide) (fun c4 => ?_) (fun c4 => ?_)
  · rw [if_pos c4] at hf
    refine lv_iconst (v := 0) hx hb dX3_spentOf_16 (by decide) ?_
    cases hf
    exact e_i hx hb hr hlk hW hS dX3_spentOf_17
  · rw [if_neg c4] at hf
    refine lv_aload_n hx hb dX3_spentOf_7 rfl (lv_at hl 0 rfl) ?_
    refine gf_X3_42 hx hb hB hK hown hW hB_b dX3_spentOf_8 ?_
    refine lv_iload_n hx hb dX3_spentOf_11 rfl (lv_at hl 1 rfl) ?_
    obtain ⟨v12, e12, hf⟩ := ob2 hf
    refine r_iald hx hb hK hW (hB_b.l8 (by decide)) (cB_25 hB_b) e12 dX3_spentOf_12 ?_
    refine lv_goto (tgt := 17) hx hb dX3_spentOf_13 (by decide) ?_
    cases hf
    exact e_i hx hb hr hlk hW hS dX3_spentOf_17
def f_X3_owedInKind_35 (b : Nat) (x : XS) (k4 : Int32 → Int32 → Int32 → Option (Int32)) (l1_35 : Int32) (l2_35 : Int32) (l3_35 : Int32) : Option (Int32) :=
    (some (l3_35 + 1)).bind fun v35 =>
    k4 l1_35 l2_35 v35
def f_X3_owedInKind_4 (b : Nat) (x : XS) : Nat → Int32 → Int32 → Int32 → Option (Int32)
  | 0, _, _, _ => none
  | n4 + 1, l1_4, l2_4, l3_4 =>
    if ((x (b + 7) 0) ≤ l3_4 : Prop) then
      some l2_4
    else
      ((f_X0_kindOf b x l3_4).bind fun v20 =>
      if (v20 = l1_4 : Prop) then
        ((f_X3_owedTo b x l3_4).bind fun v30 =>
        (some ((l2_4 + v30))).bind fun v34 =>
        f_X3_owedInKind_35 b x (f_X3_owedInKind_4 b x n4) l1_4 v34 l3_4)
      else
        f_X3_owedInKind_35 b x (f_X3_owedInKind_4 b x n4) l1_4 l2_4 l3_4)
def f_X3_owedInKind (b : Nat) (x : XS) (a0 : Int32) : Option (Int32) :=
    f_X3_owedInKind_4 b x 4096 a0 0 0
set_option maxRecDepth 100000 in
set_option maxHeartbeats 4000000 in
theorem p_X3_owedInKind (l : Launch) (E : TE) {b : Nat} (hB_b : IsB b) (x m : XS) (g o : Int64) {a0 : Int32} {r : Int32} (hf : f_X3_owedInKind b x a0 = some r) : MG l E yX3_owedInKind cX3_owedInKind 4 (some .int) 4 [rf E b, .int a0] (Wd E x m g o) (Wd E x m g o) (some (.int r)) := by
  unfold f_X3_owedInKind at hf
  refine m_in (by decide) (Nat.le_of_ble_eq_true rfl) ?_
  intro p e s mi args below meth c H ls hx hb hr hlk hml hown hB hK hW hS hl
  have hl : lv_has ls 4 [(0, rf E b), (1, .int a0)] := hl
  have J4 : ∀ (n4 : Nat), ∀ (l1_4 : Int32) (l2_4 : Int32) (l3_4 : Int32) (H : Heap) (locs : List Loc) (ls : Array Slot), f_X3_owedInKind_4 b x n4 l1_4 l2_4 l3_4 = some r → Wd E x m g o H → va_S (Ah E) s.heap H locs → lv_has ls 4 [(0, rf E b), (1, .int l1_4), (2, .int l2_4), (3, .int l3_4)] → W p l e (rmH 4) s mi args below meth c H locs 0 0 (EQ E below args s (Wd E x m g o) (some (.int r))) (F0 mi 4 ls []) := by
    intro n4
    induction n4 with
    | zero => intro l1_4 l2_4 l3_4 H locs ls hf; exact absurd hf (fun z => nomatch (show (none : Option (Int32)) = some _ from z))
    | succ n4 ih4 =>
      intro l1_4 l2_4 l3_4 H locs ls hf hW hS hl
      rw [f_X3_owedInKind_4.eq_2] at hf
      have J35 : ∀ (l1_35 : Int32) (l2_35 : Int32) (l3_35 : Int32) (H : Heap) (locs : List Loc) (ls : Array Slot), f_X3_owedInKind_35 b x (f_X3_owedInKind_4 b x n4) l1_35 l2_35 l3_35 = some r → Wd E x m g o H → va_S (Ah E) s.heap H locs → lv_has ls 4 [(0, rf E b), (1, .int l1_35), (2, .int l2_35), (3, .int l3_35)] → W p l e (rmH 4) s mi args below meth c H locs 0 0 (EQ E below args s (Wd E x m g o) (some (.int r))) (F0 mi 35 ls []) := by
        intro l1_35 l2_35 l3_35 H locs ls hf hW hS hl
        unfold f_X3_owedInKind_35 at hf
        obtain ⟨v35, e35, hf⟩ := ob hf
        refine lv_iinc (v := v35) (lv' := [(3, .int v35), (0, rf E b), (1, .int l1_35), (2, .int l2_35)]) hx hb dX3_owedInKind_35 hl (k := 3) rfl (by rw [e35]; rfl) (by decide) rfl (fun ls hl => ?_)
        refine lv_goto (tgt := 4) hx hb dX3_owedInKind_38 (by decide) ?_
        exact ih4 l1_35 l2_35 v35 _ _ _ hf hW hS (lv_sub hl [1, 2, 3, 0] rfl)
      refine lv_iload_n hx hb dX3_owedInKind_4 rfl (lv_at hl 3 rfl) ?_
      refine lv_aload_n hx hb dX3_owedInKind_5 rfl (lv_at hl 0 rfl) ?_
      refine gf_X3_21 hx hb hB hK hown hW hB_b dX3_owedInKind_6 ?_
      refine gf_X3_121 hx hb hB hK hown hW hB_b dX3_owedInKind_9 ?_
      refine lv_icmp_ge (tgt := 41) hx hb dX3_owedInKind_12 (by decide) (fun c12 => ?_) (fun c12 => ?_)
      · rw [if_pos c12] at hf
        refine lv_iload_n hx hb dX3_owedInKind_41 rfl (lv_at hl 2 rfl) ?_
        cases hf
        exact e_i hx hb hr hlk hW hS dX3_owedInKind_42
      · rw [if_neg c12] at hf
        refine lv_aload_n hx hb dX3_owedInKind_15 rfl (lv_at hl 0 rfl) ?_
        refine gf_X3_21 hx hb hB hK hown hW hB_b dX3_owedInKind_16 ?_
        refine lv_iload_n hx hb dX3_owedInKind_19 rfl (lv_at hl 3 rfl) ?_
        obtain ⟨v20, e20, hf⟩ := ob2 hf
        refine c_V (As := [.int l3_4]) (st1 := [.int v20]) (rest := []) (p_X0_kindOf l E hB_b x m g o e20) (kc_X3_99 hB ⟨Nat.le_of_ble_eq_true rfl, Nat.le_of_ble_eq_true rfl⟩) (Wd.rec hK hW (hB_b.l8 (j := 7) (by decide)) (cB_7 hB_b) (ci := 0) rfl) hx hb hml hown hB hK hW hS ⟨Nat.zero_le _, Nat.zero_le _⟩ rfl hl.1 rfl (Nat.le_of_ble_eq_true rfl) rfl dX3_owedInKind_20 (fun H locs hW hS => ?_)
        refine lv_iload_n hx hb dX3_owedInKind_23 rfl (lv_at hl 1 rfl) ?_
        refine lv_icmp_ne (tgt := 35) hx hb dX3_owedInKind_24 (by decide) (fun c24 => ?_) (fun c24 => ?_)
        · rw [if_neg c24] at hf
          exact J35 l1_4 l2_4 l3_4 _ _ _ hf hW hS (lv_sub hl [0, 1, 2, 3] rfl)
        · rw [if_pos c24] at hf
          refine lv_iload_n hx hb dX3_owedInKind_27 rfl (lv_at hl 2 rfl) ?_
          refine lv_aload_n hx hb dX3_owedInKind_28 rfl (lv_at hl 0 rfl) ?_
          refine lv_iload_n hx hb dX3_owedInKind_29 rfl (lv_at hl 3 rfl) ?_
          obtain ⟨v30, e30, hf⟩ := ob2 hf
          refine c_V (As := [.int l3_4]) (st1 := [.int v30, .int l2_4]) (rest := [.int l2_4]) (p_X3_owedTo l E hB_b x m g o e30) (kc_X3_177 hB ⟨Nat.le_of_ble_eq_true rfl, Nat.le_of_ble_eq_true rfl⟩) (Wd.rec hK hW hB_b.l0 (cB_0 hB_b) (ci := 3) rfl) hx hb hml hown hB hK hW hS ⟨Nat.zero_le _, Nat.zero_le _⟩ rfl hl.1 rfl (Nat.le_of_ble_eq_true rfl) rfl dX3_owedInKind_30 (fun H locs hW hS => ?_)
          refine lv_iadd hx hb dX3_owedInKind_33 ?_
          obtain ⟨v34, e34, hf⟩ := ob hf
          refine lv_nm e34 ?_
          refine lv_istore_n (lv' := [(2, .int v34), (0, rf E b), (1, .int l1_4), (3, .int l3_4)]) hx hb dX3_owedInKind_34 rfl hl (by decide) rfl (fun ls hl => ?_)
          exact J35 l1_4 v34 l3_4 _ _ _ hf hW hS (lv_sub hl [1, 2, 0, 3] rfl)
  refine lv_iconst (v := 0) hx hb dX3_owedInKind_0 (by decide) ?_
  refine lv_istore_n (lv' := [(2, .int 0), (0, rf E b), (1, .int a0)]) hx hb dX3_owedInKind_1 rfl hl (by decide) rfl (fun ls hl => ?_)
  refine lv_iconst (v := 0) hx hb dX3_owedInKind_2 (by decide) ?_
  refine lv_istore_n (lv' := [(3, .int 0), (2, .int 0), (0, rf E b), (1, .int a0)]) hx hb dX3_owedInKind_3 rfl hl (by decide) rfl (fun ls hl => ?_)
  exact J4 4096 a0 0 0 _ _ _ hf hW hS (lv_sub hl [2, 3, 1, 0] rfl)
def f_X3_waiting_26 (b : Nat) (x : XS) (k4 : Int32 → Int32 → Option (Int32)) (l1_26 : Int32) (l2_26 : Int32) : Option (Int32) :=
    (some (l2_26 + 1)).bind fun v26 =>
    k4 l1_26 v26
def f_X3_waiting_4 (b : Nat) (x : XS) : Nat → Int32 → Int32 → Option (Int32)
  | 0, _, _ => none
  | n4 + 1, l1_4, l2_4 =>
    if ((x (b + 7) 0) ≤ l2_4 : Prop) then
      some l1_4
    else
      ((f_X3_owedTo b x l2_4).bind fun v17 =>
      if (v17 ≤ 0 : Prop) then
        f_X3_waiting_26 b x (f_X3_waiting_4 b x n4) l1_4 l2_4
      else
        ((some (l1_4 + 1)).bind fun v23 =>
        f_X3_waiting_26 b x (f_X3_waiting_4 b x n4) v23 l2_4))
def f_X3_waiting (b : Nat) (x : XS) : Option (Int32) :=
    f_X3_waiting_4 b x 4096 0 0
set_option maxRecDepth 100000 in
set_option maxHeartbeats 4000000 in
theorem p_X3_waiting (l : Launch) (E : TE) {b : Nat} (hB_b : IsB b) (x m : XS) (g o : Int64) {r : Int32} (hf : f_X3_waiting b x = some r) : MG l E yX3_waiting cX3_waiting 3 (some .int) 4 [rf E b] (Wd E x m g o) (Wd E x m g o) (some (.int r)) := by
  unfold f_X3_waiting at hf
  refine m_in (by decide) (Nat.le_of_ble_eq_true rfl) ?_
  intro p e s mi args below meth c H ls hx hb hr hlk hml hown hB hK hW hS hl
  have hl : lv_has ls 3 [(0, rf E b)] := hl
  have J4 : ∀ (n4 : Nat), ∀ (l1_4 : Int32) (l2_4 : Int32) (H : Heap) (locs : List Loc) (ls : Array Slot), f_X3_waiting_4 b x n4 l1_4 l2_4 = some r → Wd E x m g o H → va_S (Ah E) s.heap H locs → lv_has ls 3 [(0, rf E b), (1, .int l1_4), (2, .int l2_4)] → W p l e (rmH 4) s mi args below meth c H locs 0 0 (EQ E below args s (Wd E x m g o) (some (.int r))) (F0 mi 4 ls []) := by
    intro n4
    induction n4 with
    | zero => intro l1_4 l2_4 H locs ls hf; exact absurd hf (fun z => nomatch (show (none : Option (Int32)) = some _ from z))
    | succ n4 ih4 =>
      intro l1_4 l2_4 H locs ls hf hW hS hl
      rw [f_X3_waiting_4.eq_2] at hf
      have J26 : ∀ (l1_26 : Int32) (l2_26 : Int32) (H : Heap) (locs : List Loc) (ls : Array Slot), f_X3_waiting_26 b x (f_X3_waiting_4 b x n4) l1_26 l2_26 = some r → Wd E x m g o H → va_S (Ah E) s.heap H locs → lv_has ls 3 [(0, rf E b), (1, .int l1_26), (2, .int l2_26)] → W p l e (rmH 4) s mi args below meth c H locs 0 0 (EQ E below args s (Wd E x m g o) (some (.int r))) (F0 mi 26 ls []) := by
        intro l1_26 l2_26 H locs ls hf hW hS hl
        unfold f_X3_waiting_26 at hf
        obtain ⟨v26, e26, hf⟩ := ob hf
        refine lv_iinc (v := v26) (lv' := [(2, .int v26), (0, rf E b), (1, .int l1_26)]) hx hb dX3_waiting_26 hl (k := 2) rfl (by rw [e26]; rfl) (by decide) rfl (fun ls hl => ?_)
        refine lv_goto (tgt := 4) hx hb dX3_waiting_29 (by decide) ?_
        exact ih4 l1_26 v26 _ _ _ hf hW hS (lv_sub hl [1, 2, 0] rfl)
      refine lv_iload_n hx hb dX3_waiting_4 rfl (lv_at hl 2 rfl) ?_
      refine lv_aload_n hx hb dX3_waiting_5 rfl (lv_at hl 0 rfl) ?_
      refine gf_X3_21 hx hb hB hK hown hW hB_b dX3_waiting_6 ?_
      refine gf_X3_121 hx hb hB hK hown hW hB_b dX3_waiting_9 ?_
      refine lv_icmp_ge (tgt := 32) hx hb dX3_waiting_12 (by decide) (fun c12 => ?_) (fun c12 => ?_)
      · rw [if_pos c12] at hf
        refine lv_iload_n hx hb dX3_waiting_32 rfl (lv_at hl 1 rfl) ?_
        cases hf
        exact e_i hx hb hr hlk hW hS dX3_waiting_33
      · rw [if_neg c12] at hf
        refine lv_aload_n hx hb dX3_waiting_15 rfl (lv_at hl 0 rfl) ?_
        refine lv_iload_n hx hb dX3_waiting_16 rfl (lv_at hl 2 rfl) ?_
        obtain ⟨v17, e17, hf⟩ := ob2 hf
        refine c_V (As := [.int l2_4]) (st1 := [.int v17]) (rest := []) (p_X3_owedTo l E hB_b x m g o e17) (kc_X3_177 hB ⟨Nat.le_of_ble_eq_true rfl, Nat.le_of_ble_eq_true rfl⟩) (Wd.rec hK hW hB_b.l0 (cB_0 hB_b) (ci := 3) rfl) hx hb hml hown hB hK hW hS ⟨Nat.zero_le _, Nat.zero_le _⟩ rfl hl.1 rfl (Nat.le_of_ble_eq_true rfl) rfl dX3_waiting_17 (fun H locs hW hS => ?_)
        refine lv_if_le (tgt := 26) hx hb dX3_waiting_20 (by decide) (fun c20 => ?_) (fun c20 => ?_)
        · rw [if_pos c20] at hf
          exact J26 l1_4 l2_4 _ _ _ hf hW hS (lv_sub hl [0, 1, 2] rfl)
        · rw [if_neg c20] at hf
          obtain ⟨v23, e23, hf⟩ := ob hf
          refine lv_iinc (v := v23) (lv' := [(1, .int v23), (0, rf E b), (2, .int l2_4)]) hx hb dX3_waiting_23 hl (k := 1) rfl (by rw [e23]; rfl) (by decide) rfl (fun ls hl => ?_)
          exact J26 v23 l2_4 _ _ _ hf hW hS (lv_sub hl [1, 0, 2] rfl)
  refine lv_iconst (v := 0) hx hb dX3_waiting_0 (by decide) ?_
  refine lv_istore_n (lv' := [(1, .int 0), (0, rf E b)]) hx hb dX3_waiting_1 rfl hl (by decide) rfl (fun ls hl => ?_)
  refine lv_iconst (v := 0) hx hb dX3_waiting_2 (by decide) ?_
  refine lv_istore_n (lv' := [(2, .int 0), (1, .int 0), (0, rf E b)]) hx hb dX3_waiting_3 rfl hl (by decide) rfl (fun ls hl => ?_)
  exact J4 4096 0 0 _ _ _ hf hW hS (lv_sub hl [2, 1, 0] rfl)
def f_X3_departing_27 (b : Nat) (x : XS) (k4 : Int32 → Int32 → Option (Int32)) (l1_27 : Int32) (l2_27 : Int32) : Option (Int32) :=
    (some (l2_27 + 1)).bind fun v27 =>
    k4 l1_27 v27
def f_X3_departing_4 (b : Nat) (x : XS) : Nat → Int32 → Int32 → Option (Int32)
  | 0, _, _ => none
  | n4 + 1, l1_4, l2_4 =>
    if ((x (b + 7) 0) ≤ l2_4 : Prop) then
      some l1_4
    else
      ((f_X3_tieOf b x l2_4).bind fun v17 =>
      if (v17 = 3 : Prop) then
        ((some (l1_4 + 1)).bind fun v24 =>
        f_X3_departing_27 b x (f_X3_departing_4 b x n4) v24 l2_4)
      else
        f_X3_departing_27 b x (f_X3_departing_4 b x n4) l1_4 l2_4)
def f_X3_departing (b : Nat) (x : XS) : Option (Int32) :=
    f_X3_departing_4 b x 4096 0 0
set_option maxRecDepth 100000 in
set_option maxHeartbeats 4000000 in
theorem p_X3_departing (l : Launch) (E : TE) {b : Nat} (hB_b : IsB b) (x m : XS) (g o : Int64) {r : Int32} (hf : f_X3_departing b x = some r) : MG l E yX3_departing cX3_departing 3 (some .int) 3 [rf E b] (Wd E x m g o) (Wd E x m g o) (some (.int r)) := by
  unfold f_X3_departing at hf
  refine m_in (by decide) (Nat.le_of_ble_eq_true rfl) ?_
  intro p e s mi args below meth c H ls hx hb hr hlk hml hown hB hK hW hS hl
  have hl : lv_has ls 3 [(0, rf E b)] := hl
  have J4 : ∀ (n4 : Nat), ∀ (l1_4 : Int32) (l2_4 : Int32) (H : Heap) (locs : List Loc) (ls : Array Slot), f_X3_departing_4 b x n4 l1_4 l2_4 = some r → Wd E x m g o H → va_S (Ah E) s.heap H locs → lv_has ls 3 [(0, rf E b), (1, .int l1_4), (2, .int l2_4)] → W p l e (rmH 3) s mi args below meth c H locs 0 0 (EQ E below args s (Wd E x m g o) (some (.int r))) (F0 mi 4 ls []) := by
    intro n4
    induction n4 with
    | zero => intro l1_4 l2_4 H locs ls hf; exact absurd hf (fun z => nomatch (show (none : Option (Int32)) = some _ from z))
    | succ n4 ih4 =>
      intro l1_4 l2_4 H locs ls hf hW hS hl
      rw [f_X3_departing_4.eq_2] at hf
      have J27 : ∀ (l1_27 : Int32) (l2_27 : Int32) (H : Heap) (locs : List Loc) (ls : Array Slot), f_X3_departing_27 b x (f_X3_departing_4 b x n4) l1_27 l2_27 = some r → Wd E x m g o H → va_S (Ah E) s.heap H locs → lv_has ls 3 [(0, rf E b), (1, .int l1_27), (2, .int l2_27)] → W p l e (rmH 3) s mi args below meth c H locs 0 0 (EQ E below args s (Wd E x m g o) (some (.int r))) (F0 mi 27 ls []) := by
        intro l1_27 l2_27 H locs ls hf hW hS hl
        unfold f_X3_departing_27 at hf
        obtain ⟨v27, e27, hf⟩ := ob hf
        refine lv_iinc (v := v27) (lv' := [(2, .int v27), (0, rf E b), (1, .int l1_27)]) hx hb dX3_departing_27 hl (k := 2) rfl (by rw [e27]; rfl) (by decide) rfl (fun ls hl => ?_)
        refine lv_goto (tgt := 4) hx hb dX3_departing_30 (by decide) ?_
        exact ih4 l1_27 v27 _ _ _ hf hW hS (lv_sub hl [1, 2, 0] rfl)
      refine lv_iload_n hx hb dX3_departing_4 rfl (lv_at hl 2 rfl) ?_
      refine lv_aload_n hx hb dX3_departing_5 rfl (lv_at hl 0 rfl) ?_
      refine gf_X3_21 hx hb hB hK hown hW hB_b dX3_departing_6 ?_
      refine gf_X3_121 hx hb hB hK hown hW hB_b dX3_departing_9 ?_
      refine lv_icmp_ge (tgt := 33) hx hb dX3_departing_12 (by decide) (fun c12 => ?_) (fun c12 => ?_)
      · rw [if_pos c12] at hf
        refine lv_iload_n hx hb dX3_departing_33 rfl (lv_at hl 1 rfl) ?_
        cases hf
        exact e_i hx hb hr hlk hW hS dX3_departing_34
      · rw [if_neg c12] at hf
        refine lv_aload_n hx hb dX3_departing_15 rfl (lv_at hl 0 rfl) ?_
        refine lv_iload_n hx hb dX3_departing_16 rfl (lv_at hl 2 rfl) ?_
        obtain ⟨v17, e17, hf⟩ := ob2 hf
        refine c_V (As := [.int l2_4]) (st1 := [.int v17]) (rest := []) (p_X3_tieOf l E hB_b x m g o e17) (kc_X3_124 hB ⟨Nat.le_of_ble_eq_true rfl, Nat.le_of_ble_eq_true rfl⟩) (Wd.rec hK hW hB_b.l0 (cB_0 hB_b) (ci := 3) rfl) hx hb hml hown hB hK hW hS ⟨Nat.zero_le _, Nat.zero_le _⟩ rfl hl.1 rfl (Nat.le_of_ble_eq_true rfl) rfl dX3_departing_17 (fun H locs hW hS => ?_)
        refine lv_iconst (v := 3) hx hb dX3_departing_20 (by decide) ?_
        refine lv_icmp_ne (tgt := 27) hx hb dX3_departing_21 (by decide) (fun c21 => ?_) (fun c21 => ?_)
        · rw [if_neg c21] at hf
          exact J27 l1_4 l2_4 _ _ _ hf hW hS (lv_sub hl [0, 1, 2] rfl)
        · rw [if_pos c21] at hf
          obtain ⟨v24, e24, hf⟩ := ob hf
          refine lv_iinc (v := v24) (lv' := [(1, .int v24), (0, rf E b), (2, .int l2_4)]) hx hb dX3_departing_24 hl (k := 1) rfl (by rw [e24]; rfl) (by decide) rfl (fun ls hl => ?_)
          exact J27 v24 l2_4 _ _ _ hf hW hS (lv_sub hl [1, 0, 2] rfl)
  refine lv_iconst (v := 0) hx hb dX3_departing_0 (by decide) ?_
  refine lv_istore_n (lv' := [(1, .int 0), (0, rf E b)]) hx hb dX3_departing_1 rfl hl (by decide) rfl (fun ls hl => ?_)
  refine lv_iconst (v := 0) hx hb dX3_departing_2 (by decide) ?_
  refine lv_istore_n (lv' := [(2, .int 0), (1, .int 0), (0, rf E b)]) hx hb dX3_departing_3 rfl hl (by decide) rfl (fun ls hl => ?_)
  exact J4 4096 0 0 _ _ _ hf hW hS (lv_sub hl [2, 1, 0] rfl)
def f_X3_owedInAll_4 (b : Nat) (x : XS) : Nat → Int32 → Int32 → Option (Int32)
  | 0, _, _ => none
  | n4 + 1, l1_4, l2_4 =>
    if (4 ≤ l2_4 : Prop) then
      some l1_4
    else
      ((f_X3_owedInKind b x l2_4).bind fun v12 =>
      (some ((l1_4 + v12))).bind fun v16 =>
      (some (l2_4 + 1)).bind fun v17 =>
      f_X3_owedInAll_4 b x n4 v16 v17)
def f_X3_owedInAll (b : Nat) (x : XS) : Option (Int32) :=
    f_X3_owedInAll_4 b x 4096 0 0
set_option maxRecDepth 100000 in
set_option maxHeartbeats 4000000 in
theorem p_X3_owedInAll (l : Launch) (E : TE) {b : Nat} (hB_b : IsB b) (x m : XS) (g o : Int64) {r : Int32} (hf : f_X3_owedInAll b x = some r) : MG l E yX3_owedInAll cX3_owedInAll 3 (some .int) 5 [rf E b] (Wd E x m g o) (Wd E x m g o) (some (.int r)) := by
  unfold f_X3_owedInAll at hf
  refine m_in (by decide) (Nat.le_of_ble_eq_true rfl) ?_
  intro p e s mi args below meth c H ls hx hb hr hlk hml hown hB hK hW hS hl
  have hl : lv_has ls 3 [(0, rf E b)] := hl
  have J4 : ∀ (n4 : Nat), ∀ (l1_4 : Int32) (l2_4 : Int32) (H : Heap) (locs : List Loc) (ls : Array Slot), f_X3_owedInAll_4 b x n4 l1_4 l2_4 = some r → Wd E x m g o H → va_S (Ah E) s.heap H locs → lv_has ls 3 [(0, rf E b), (1, .int l1_4), (2, .int l2_4)] → W p l e (rmH 5) s mi args below meth c H locs 0 0 (EQ E below args s (Wd E x m g o) (some (.int r))) (F0 mi 4 ls []) := by
    intro n4
    induction n4 with
    | zero => intro l1_4 l2_4 H locs ls hf; exact absurd hf (fun z => nomatch (show (none : Option (Int32)) = some _ from z))
    | succ n4 ih4 =>
      intro l1_4 l2_4 H locs ls hf hW hS hl
      rw [f_X3_owedInAll_4.eq_2] at hf
      refine lv_iload_n hx hb dX3_owedInAll_4 rfl (lv_at hl 2 rfl) ?_
      refine lv_iconst (v := 4) hx hb dX3_owedInAll_5 (by decide) ?_
      refine lv_icmp_ge (tgt := 23) hx hb dX3_owedInAll_6 (by decide) (fun c6 => ?_) (fun c6 => ?_)
      · rw [if_pos c6] at hf
        refine lv_iload_n hx hb dX3_owedInAll_23 rfl (lv_at hl 1 rfl) ?_
        cases hf
        exact e_i hx hb hr hlk hW hS dX3_owedInAll_24
      · rw [if_neg c6] at hf
        refine lv_iload_n hx hb dX3_owedInAll_9 rfl (lv_at hl 1 rfl) ?_
        refine lv_aload_n hx hb dX3_owedInAll_10 rfl (lv_at hl 0 rfl) ?_
        refine lv_iload_n hx hb dX3_owedInAll_11 rfl (lv_at hl 2 rfl) ?_
        obtain ⟨v12, e12, hf⟩ := ob2 hf
        refine c_V (As := [.int l2_4]) (st1 := [.int v12, .int l1_4]) (rest := [.int l1_4]) (p_X3_owedInKind l E hB_b x m g o e12) (kc_X3_180 hB ⟨Nat.le_of_ble_eq_true rfl, Nat.le_of_ble_eq_true rfl⟩) (Wd.rec hK hW hB_b.l0 (cB_0 hB_b) (ci := 3) rfl) hx hb hml hown hB hK hW hS ⟨Nat.zero_le _, Nat.zero_le _⟩ rfl hl.1 rfl (Nat.le_of_ble_eq_true rfl) rfl dX3_owedInAll_12 (fun H locs hW hS => ?_)
        refine lv_iadd hx hb dX3_owedInAll_15 ?_
        obtain ⟨v16, e16, hf⟩ := ob hf
        refine lv_nm e16 ?_
        refine lv_istore_n (lv' := [(1, .int v16), (0, rf E b), (2, .int l2_4)]) hx hb dX3_owedInAll_16 rfl hl (by decide) rfl (fun ls hl => ?_)
        obtain ⟨v17, e17, hf⟩ := ob hf
        refine lv_iinc (v := v17) (lv' := [(2, .int v17), (1, .int v16), (0, rf E b)]) hx hb dX3_owedInAll_17 hl (k := 2) rfl (by rw [e17]; rfl) (by decide) rfl (fun ls hl => ?_)
        refine lv_goto (tgt := 4) hx hb dX3_owedInAll_20 (by decide) ?_
        exact ih4 v16 v17 _ _ _ hf hW hS (lv_sub hl [2, 1, 0] rfl)
  refine lv_iconst (v := 0) hx hb dX3_owedInAll_0 (by decide) ?_
  refine lv_istore_n (lv' := [(1, .int 0), (0, rf E b)]) hx hb dX3_owedInAll_1 rfl hl (by decide) rfl (fun ls hl => ?_)
  refine lv_iconst (v := 0) hx hb dX3_owedInAll_2 (by decide) ?_
  refine lv_istore_n (lv' := [(2, .int 0), (1, .int 0), (0, rf E b)]) hx hb dX3_owedInAll_3 rfl hl (by decide) rfl (fun ls hl => ?_)
  exact J4 4096 0 0 _ _ _ hf hW hS (lv_sub hl [2, 1, 0] rfl)
