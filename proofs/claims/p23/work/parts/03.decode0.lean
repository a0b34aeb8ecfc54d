theorem dX0_init_0 : decode cX0_init 0 = .ok (.aload_n 0, 1) := by decide +kernel
theorem dX0_init_1 : decode cX0_init 1 = .ok (.invokespecial 3, 3) := by decide +kernel
theorem dX0_init_4 : decode cX0_init 4 = .ok (.aload_n 0, 1) := by decide +kernel
theorem dX0_init_5 : decode cX0_init 5 = .ok (.new 9, 3) := by decide +kernel
theorem dX0_init_8 : decode cX0_init 8 = .ok (.dup, 1) := by decide +kernel
theorem dX0_init_9 : decode cX0_init 9 = .ok (.invokespecial 11, 3) := by decide +kernel
theorem dX0_init_12 : decode cX0_init 12 = .ok (.putfield 12, 3) := by decide +kernel
theorem dX0_init_15 : decode cX0_init 15 = .ok (.aload_n 0, 1) := by decide +kernel
theorem dX0_init_16 : decode cX0_init 16 = .ok (.iload_n 1, 1) := by decide +kernel
theorem dX0_init_17 : decode cX0_init 17 = .ok (.putfield 18, 3) := by decide +kernel
theorem dX0_init_20 : decode cX0_init 20 = .ok (.aload_n 0, 1) := by decide +kernel
theorem dX0_init_21 : decode cX0_init 21 = .ok (.aload_n 2, 1) := by decide +kernel
theorem dX0_init_22 : decode cX0_init 22 = .ok (.putfield 22, 3) := by decide +kernel
theorem dX0_init_25 : decode cX0_init 25 = .ok (.aload_n 0, 1) := by decide +kernel
theorem dX0_init_26 : decode cX0_init 26 = .ok (.getfield 12, 3) := by decide +kernel
theorem dX0_init_29 : decode cX0_init 29 = .ok (.aload_n 2, 1) := by decide +kernel
theorem dX0_init_30 : decode cX0_init 30 = .ok (.invokevirtual 26, 3) := by decide +kernel
theorem dX0_init_33 : decode cX0_init 33 = .ok (.pop, 1) := by decide +kernel
theorem dX0_init_34 : decode cX0_init 34 = .ok (.return_, 1) := by decide +kernel
theorem dX0_isFull_0 : decode cX0_isFull 0 = .ok (.aload_n 0, 1) := by decide +kernel
theorem dX0_isFull_1 : decode cX0_isFull 1 = .ok (.getfield 12, 3) := by decide +kernel
theorem dX0_isFull_4 : decode cX0_isFull 4 = .ok (.invokevirtual 30, 3) := by decide +kernel
theorem dX0_isFull_7 : decode cX0_isFull 7 = .ok (.bipush 10, 2) := by decide +kernel
theorem dX0_isFull_9 : decode cX0_isFull 9 = .ok (.if_icmp .lt 7, 3) := by decide +kernel
theorem dX0_isFull_12 : decode cX0_isFull 12 = .ok (.iconst 1, 1) := by decide +kernel
theorem dX0_isFull_13 : decode cX0_isFull 13 = .ok (.goto 4, 3) := by decide +kernel
theorem dX0_isFull_16 : decode cX0_isFull 16 = .ok (.iconst 0, 1) := by decide +kernel
theorem dX0_isFull_17 : decode cX0_isFull 17 = .ok (.ireturn, 1) := by decide +kernel
theorem dX0_add_0 : decode cX0_add 0 = .ok (.aload_n 0, 1) := by decide +kernel
theorem dX0_add_1 : decode cX0_add 1 = .ok (.getfield 12, 3) := by decide +kernel
theorem dX0_add_4 : decode cX0_add 4 = .ok (.aload_n 1, 1) := by decide +kernel
theorem dX0_add_5 : decode cX0_add 5 = .ok (.invokevirtual 26, 3) := by decide +kernel
theorem dX0_add_8 : decode cX0_add 8 = .ok (.pop, 1) := by decide +kernel
theorem dX0_add_9 : decode cX0_add 9 = .ok (.aload_n 0, 1) := by decide +kernel
theorem dX0_add_10 : decode cX0_add 10 = .ok (.getfield 12, 3) := by decide +kernel
theorem dX0_add_13 : decode cX0_add 13 = .ok (.invokevirtual 30, 3) := by decide +kernel
theorem dX0_add_16 : decode cX0_add 16 = .ok (.iconst 1, 1) := by decide +kernel
theorem dX0_add_17 : decode cX0_add 17 = .ok (.isub, 1) := by decide +kernel
theorem dX0_add_18 : decode cX0_add 18 = .ok (.ireturn, 1) := by decide +kernel
theorem dX0_find_0 : decode cX0_find 0 = .ok (.iload_n 1, 1) := by decide +kernel
theorem dX0_find_1 : decode cX0_find 1 = .ok (.ifCond .lt 14, 3) := by decide +kernel
theorem dX0_find_4 : decode cX0_find 4 = .ok (.iload_n 1, 1) := by decide +kernel
theorem dX0_find_5 : decode cX0_find 5 = .ok (.aload_n 0, 1) := by decide +kernel
theorem dX0_find_6 : decode cX0_find 6 = .ok (.getfield 12, 3) := by decide +kernel
theorem dX0_find_9 : decode cX0_find 9 = .ok (.invokevirtual 30, 3) := by decide +kernel
theorem dX0_find_12 : decode cX0_find 12 = .ok (.if_icmp .lt 5, 3) := by decide +kernel
theorem dX0_find_15 : decode cX0_find 15 = .ok (.aconst_null, 1) := by decide +kernel
theorem dX0_find_16 : decode cX0_find 16 = .ok (.areturn, 1) := by decide +kernel
theorem dX0_find_17 : decode cX0_find 17 = .ok (.aload_n 0, 1) := by decide +kernel
theorem dX0_find_18 : decode cX0_find 18 = .ok (.getfield 12, 3) := by decide +kernel
theorem dX0_find_21 : decode cX0_find 21 = .ok (.iload_n 1, 1) := by decide +kernel
theorem dX0_find_22 : decode cX0_find 22 = .ok (.invokevirtual 34, 3) := by decide +kernel
theorem dX0_find_25 : decode cX0_find 25 = .ok (.checkcast 38, 3) := by decide +kernel
theorem dX0_find_28 : decode cX0_find 28 = .ok (.astore_n 2, 1) := by decide +kernel
theorem dX0_find_29 : decode cX0_find 29 = .ok (.aload_n 2, 1) := by decide +kernel
theorem dX0_find_30 : decode cX0_find 30 = .ok (.getfield 40, 3) := by decide +kernel
theorem dX0_find_33 : decode cX0_find 33 = .ok (.ifCond .eq 7, 3) := by decide +kernel
theorem dX0_find_36 : decode cX0_find 36 = .ok (.aload_n 2, 1) := by decide +kernel
theorem dX0_find_37 : decode cX0_find 37 = .ok (.goto 4, 3) := by decide +kernel
theorem dX0_find_40 : decode cX0_find 40 = .ok (.aconst_null, 1) := by decide +kernel
theorem dX0_find_41 : decode cX0_find 41 = .ok (.areturn, 1) := by decide +kernel
theorem dX0_latest_0 : decode cX0_latest 0 = .ok (.aload_n 0, 1) := by decide +kernel
theorem dX0_latest_1 : decode cX0_latest 1 = .ok (.getfield 22, 3) := by decide +kernel
theorem dX0_latest_4 : decode cX0_latest 4 = .ok (.astore_n 1, 1) := by decide +kernel
theorem dX0_latest_5 : decode cX0_latest 5 = .ok (.iconst 0, 1) := by decide +kernel
theorem dX0_latest_6 : decode cX0_latest 6 = .ok (.istore_n 2, 1) := by decide +kernel
theorem dX0_latest_7 : decode cX0_latest 7 = .ok (.iload_n 2, 1) := by decide +kernel
theorem dX0_latest_8 : decode cX0_latest 8 = .ok (.aload_n 0, 1) := by decide +kernel
theorem dX0_latest_9 : decode cX0_latest 9 = .ok (.getfield 12, 3) := by decide +kernel
theorem dX0_latest_12 : decode cX0_latest 12 = .ok (.invokevirtual 30, 3) := by decide +kernel
theorem dX0_latest_15 : decode cX0_latest 15 = .ok (.if_icmp .ge 30, 3) := by decide +kernel
theorem dX0_latest_18 : decode cX0_latest 18 = .ok (.aload_n 0, 1) := by decide +kernel
theorem dX0_latest_19 : decode cX0_latest 19 = .ok (.getfield 12, 3) := by decide +kernel
theorem dX0_latest_22 : decode cX0_latest 22 = .ok (.iload_n 2, 1) := by decide +kernel
theorem dX0_latest_23 : decode cX0_latest 23 = .ok (.invokevirtual 34, 3) := by decide +kernel
theorem dX0_latest_26 : decode cX0_latest 26 = .ok (.checkcast 38, 3) := by decide +kernel
theorem dX0_latest_29 : decode cX0_latest 29 = .ok (.astore_n 3, 1) := by decide +kernel
theorem dX0_latest_30 : decode cX0_latest 30 = .ok (.aload_n 3, 1) := by decide +kernel
theorem dX0_latest_31 : decode cX0_latest 31 = .ok (.getfield 40, 3) := by decide +kernel
theorem dX0_latest_34 : decode cX0_latest 34 = .ok (.ifCond .eq 5, 3) := by decide +kernel
theorem dX0_latest_37 : decode cX0_latest 37 = .ok (.aload_n 3, 1) := by decide +kernel
theorem dX0_latest_38 : decode cX0_latest 38 = .ok (.astore_n 1, 1) := by decide +kernel
theorem dX0_latest_39 : decode cX0_latest 39 = .ok (.iinc 2 1, 3) := by decide +kernel
theorem dX0_latest_42 : decode cX0_latest 42 = .ok (.goto (-35), 3) := by decide +kernel
theorem dX0_latest_45 : decode cX0_latest 45 = .ok (.aload_n 1, 1) := by decide +kernel
theorem dX0_latest_46 : decode cX0_latest 46 = .ok (.areturn, 1) := by decide +kernel
theorem dX0_versionSet_0 : decode cX0_versionSet 0 = .ok (.iconst 0, 1) := by decide +kernel
theorem dX0_versionSet_1 : decode cX0_versionSet 1 = .ok (.istore_n 1, 1) := by decide +kernel
theorem dX0_versionSet_2 : decode cX0_versionSet 2 = .ok (.iconst 0, 1) := by decide +kernel
theorem dX0_versionSet_3 : decode cX0_versionSet 3 = .ok (.istore_n 2, 1) := by decide +kernel
theorem dX0_versionSet_4 : decode cX0_versionSet 4 = .ok (.iload_n 2, 1) := by decide +kernel
theorem dX0_versionSet_5 : decode cX0_versionSet 5 = .ok (.aload_n 0, 1) := by decide +kernel
theorem dX0_versionSet_6 : decode cX0_versionSet 6 = .ok (.getfield 12, 3) := by decide +kernel
theorem dX0_versionSet_9 : decode cX0_versionSet 9 = .ok (.invokevirtual 30, 3) := by decide +kernel
theorem dX0_versionSet_12 : decode cX0_versionSet 12 = .ok (.if_icmp .ge 32, 3) := by decide +kernel
theorem dX0_versionSet_15 : decode cX0_versionSet 15 = .ok (.aload_n 0, 1) := by decide +kernel
theorem dX0_versionSet_16 : decode cX0_versionSet 16 = .ok (.getfield 12, 3) := by decide +kernel
theorem dX0_versionSet_19 : decode cX0_versionSet 19 = .ok (.iload_n 2, 1) := by decide +kernel
theorem dX0_versionSet_20 : decode cX0_versionSet 20 = .ok (.invokevirtual 34, 3) := by decide +kernel
theorem dX0_versionSet_23 : decode cX0_versionSet 23 = .ok (.checkcast 38, 3) := by decide +kernel
theorem dX0_versionSet_26 : decode cX0_versionSet 26 = .ok (.getfield 40, 3) := by decide +kernel
theorem dX0_versionSet_29 : decode cX0_versionSet 29 = .ok (.ifCond .eq 9, 3) := by decide +kernel
theorem dX0_versionSet_32 : decode cX0_versionSet 32 = .ok (.iload_n 1, 1) := by decide +kernel
theorem dX0_versionSet_33 : decode cX0_versionSet 33 = .ok (.iconst 1, 1) := by decide +kernel
theorem dX0_versionSet_34 : decode cX0_versionSet 34 = .ok (.iload_n 2, 1) := by decide +kernel
theorem dX0_versionSet_35 : decode cX0_versionSet 35 = .ok (.ishl, 1) := by decide +kernel
theorem dX0_versionSet_36 : decode cX0_versionSet 36 = .ok (.ior, 1) := by decide +kernel
theorem dX0_versionSet_37 : decode cX0_versionSet 37 = .ok (.istore_n 1, 1) := by decide +kernel
theorem dX0_versionSet_38 : decode cX0_versionSet 38 = .ok (.iinc 2 1, 3) := by decide +kernel
theorem dX0_versionSet_41 : decode cX0_versionSet 41 = .ok (.goto (-37), 3) := by decide +kernel
theorem dX0_versionSet_44 : decode cX0_versionSet 44 = .ok (.iload_n 1, 1) := by decide +kernel
theorem dX0_versionSet_45 : decode cX0_versionSet 45 = .ok (.ireturn, 1) := by decide +kernel
theorem dX0_countThere_0 : decode cX0_countThere 0 = .ok (.aload_n 0, 1) := by decide +kernel
theorem dX0_countThere_1 : decode cX0_countThere 1 = .ok (.invokevirtual 44, 3) := by decide +kernel
theorem dX0_countThere_4 : decode cX0_countThere 4 = .ok (.invokestatic 47, 3) := by decide +kernel
theorem dX0_countThere_7 : decode cX0_countThere 7 = .ok (.ireturn, 1) := by decide +kernel
theorem dX1_init_0 : decode cX1_init 0 = .ok (.aload_n 0, 1) := by decide +kernel
theorem dX1_init_1 : decode cX1_init 1 = .ok (.invokespecial 3, 3) := by decide +kernel
theorem dX1_init_4 : decode cX1_init 4 = .ok (.aload_n 0, 1) := by decide +kernel
theorem dX1_init_5 : decode cX1_init 5 = .ok (.bipush 8, 2) := by decide +kernel
theorem dX1_init_7 : decode cX1_init 7 = .ok (.newarray .int, 2) := by decide +kernel
theorem dX1_init_9 : decode cX1_init 9 = .ok (.putfield 9, 3) := by decide +kernel
theorem dX1_init_12 : decode cX1_init 12 = .ok (.aload_n 0, 1) := by decide +kernel
theorem dX1_init_13 : decode cX1_init 13 = .ok (.bipush 8, 2) := by decide +kernel
theorem dX1_init_15 : decode cX1_init 15 = .ok (.bipush 8, 2) := by decide +kernel
theorem dX1_init_17 : decode cX1_init 17 = .ok (.multianewarray 15 2, 4) := by decide +kernel
theorem dX1_init_21 : decode cX1_init 21 = .ok (.putfield 17, 3) := by decide +kernel
theorem dX1_init_24 : decode cX1_init 24 = .ok (.aload_n 0, 1) := by decide +kernel
theorem dX1_init_25 : decode cX1_init 25 = .ok (.bipush 8, 2) := by decide +kernel
theorem dX1_init_27 : decode cX1_init 27 = .ok (.newarray .int, 2) := by decide +kernel
theorem dX1_init_29 : decode cX1_init 29 = .ok (.putfield 20, 3) := by decide +kernel
theorem dX1_init_32 : decode cX1_init 32 = .ok (.return_, 1) := by decide +kernel
theorem dX1_lossOf_0 : decode cX1_lossOf 0 = .ok (.iload_n 0, 1) := by decide +kernel
theorem dX1_lossOf_1 : decode cX1_lossOf 1 = .ok (.bipush 100, 2) := by decide +kernel
theorem dX1_lossOf_3 : decode cX1_lossOf 3 = .ok (.idiv, 1) := by decide +kernel
theorem dX1_lossOf_4 : decode cX1_lossOf 4 = .ok (.ireturn, 1) := by decide +kernel
theorem dX1_has_0 : decode cX1_has 0 = .ok (.iload_n 1, 1) := by decide +kernel
theorem dX1_has_1 : decode cX1_has 1 = .ok (.ifCond .lt 21, 3) := by decide +kernel
theorem dX1_has_4 : decode cX1_has 4 = .ok (.iload_n 1, 1) := by decide +kernel
theorem dX1_has_5 : decode cX1_has 5 = .ok (.aload_n 0, 1) := by decide +kernel
theorem dX1_has_6 : decode cX1_has 6 = .ok (.getfield 23, 3) := by decide +kernel
theorem dX1_has_9 : decode cX1_has 9 = .ok (.if_icmp .ge 13, 3) := by decide +kernel
theorem dX1_has_12 : decode cX1_has 12 = .ok (.iload_n 1, 1) := by decide +kernel
theorem dX1_has_13 : decode cX1_has 13 = .ok (.bipush 8, 2) := by decide +kernel
theorem dX1_has_15 : decode cX1_has 15 = .ok (.if_icmp .ge 7, 3) := by decide +kernel
theorem dX1_has_18 : decode cX1_has 18 = .ok (.iconst 1, 1) := by decide +kernel
theorem dX1_has_19 : decode cX1_has 19 = .ok (.goto 4, 3) := by decide +kernel
theorem dX1_has_22 : decode cX1_has 22 = .ok (.iconst 0, 1) := by decide +kernel
theorem dX1_has_23 : decode cX1_has 23 = .ok (.ireturn, 1) := by decide +kernel
theorem dX1_isFull_0 : decode cX1_isFull 0 = .ok (.aload_n 0, 1) := by decide +kernel
theorem dX1_isFull_1 : decode cX1_isFull 1 = .ok (.getfield 23, 3) := by decide +kernel
theorem dX1_isFull_4 : decode cX1_isFull 4 = .ok (.bipush 8, 2) := by decide +kernel
theorem dX1_isFull_6 : decode cX1_isFull 6 = .ok (.if_icmp .lt 7, 3) := by decide +kernel
theorem dX1_isFull_9 : decode cX1_isFull 9 = .ok (.iconst 1, 1) := by decide +kernel
theorem dX1_isFull_10 : decode cX1_isFull 10 = .ok (.goto 4, 3) := by decide +kernel
theorem dX1_isFull_13 : decode cX1_isFull 13 = .ok (.iconst 0, 1) := by decide +kernel
theorem dX1_isFull_14 : decode cX1_isFull 14 = .ok (.ireturn, 1) := by decide +kernel
theorem dX1_add_0 : decode cX1_add 0 = .ok (.aload_n 0, 1) := by decide +kernel
theorem dX1_add_1 : decode cX1_add 1 = .ok (.getfield 23, 3) := by decide +kernel
theorem dX1_add_4 : decode cX1_add 4 = .ok (.istore_n 2, 1) := by decide +kernel
theorem dX1_add_5 : decode cX1_add 5 = .ok (.aload_n 0, 1) := by decide +kernel
theorem dX1_add_6 : decode cX1_add 6 = .ok (.dup, 1) := by decide +kernel
theorem dX1_add_7 : decode cX1_add 7 = .ok (.getfield 23, 3) := by decide +kernel
theorem dX1_add_10 : decode cX1_add 10 = .ok (.iconst 1, 1) := by decide +kernel
theorem dX1_add_11 : decode cX1_add 11 = .ok (.iadd, 1) := by decide +kernel
theorem dX1_add_12 : decode cX1_add 12 = .ok (.putfield 23, 3) := by decide +kernel
theorem dX1_add_15 : decode cX1_add 15 = .ok (.aload_n 0, 1) := by decide +kernel
theorem dX1_add_16 : decode cX1_add 16 = .ok (.iload_n 2, 1) := by decide +kernel
theorem dX1_add_17 : decode cX1_add 17 = .ok (.iload_n 1, 1) := by decide +kernel
theorem dX1_add_18 : decode cX1_add 18 = .ok (.invokevirtual 27, 3) := by decide +kernel
theorem dX1_add_21 : decode cX1_add 21 = .ok (.pop, 1) := by decide +kernel
theorem dX1_add_22 : decode cX1_add 22 = .ok (.iload_n 2, 1) := by decide +kernel
theorem dX1_add_23 : decode cX1_add 23 = .ok (.ireturn, 1) := by decide +kernel
theorem dX1_riskOf_0 : decode cX1_riskOf 0 = .ok (.aload_n 0, 1) := by decide +kernel
theorem dX1_riskOf_1 : decode cX1_riskOf 1 = .ok (.iload_n 1, 1) := by decide +kernel
theorem dX1_riskOf_2 : decode cX1_riskOf 2 = .ok (.invokevirtual 31, 3) := by decide +kernel
theorem dX1_riskOf_5 : decode cX1_riskOf 5 = .ok (.ifCond .eq 12, 3) := by decide +kernel
theorem dX1_riskOf_8 : decode cX1_riskOf 8 = .ok (.aload_n 0, 1) := by decide +kernel
theorem dX1_riskOf_9 : decode cX1_riskOf 9 = .ok (.getfield 9, 3) := by decide +kernel
theorem dX1_riskOf_12 : decode cX1_riskOf 12 = .ok (.iload_n 1, 1) := by decide +kernel
theorem dX1_riskOf_13 : decode cX1_riskOf 13 = .ok (.iaload, 1) := by decide +kernel
theorem dX1_riskOf_14 : decode cX1_riskOf 14 = .ok (.goto 4, 3) := by decide +kernel
theorem dX1_riskOf_17 : decode cX1_riskOf 17 = .ok (.iconst 0, 1) := by decide +kernel
theorem dX1_riskOf_18 : decode cX1_riskOf 18 = .ok (.ireturn, 1) := by decide +kernel
theorem dX1_exchangeRisk_0 : decode cX1_exchangeRisk 0 = .ok (.aload_n 0, 1) := by decide +kernel
theorem dX1_exchangeRisk_1 : decode cX1_exchangeRisk 1 = .ok (.iload_n 1, 1) := by decide +kernel
theorem dX1_exchangeRisk_2 : decode cX1_exchangeRisk 2 = .ok (.invokevirtual 35, 3) := by decide +kernel
theorem dX1_exchangeRisk_5 : decode cX1_exchangeRisk 5 = .ok (.istore_n 3, 1) := by decide +kernel
theorem dX1_exchangeRisk_6 : decode cX1_exchangeRisk 6 = .ok (.aload_n 0, 1) := by decide +kernel
theorem dX1_exchangeRisk_7 : decode cX1_exchangeRisk 7 = .ok (.iload_n 1, 1) := by decide +kernel
theorem dX1_exchangeRisk_8 : decode cX1_exchangeRisk 8 = .ok (.invokevirtual 31, 3) := by decide +kernel
theorem dX1_exchangeRisk_11 : decode cX1_exchangeRisk 11 = .ok (.ifCond .eq 10, 3) := by decide +kernel
theorem dX1_exchangeRisk_14 : decode cX1_exchangeRisk 14 = .ok (.aload_n 0, 1) := by decide +kernel
theorem dX1_exchangeRisk_15 : decode cX1_exchangeRisk 15 = .ok (.getfield 9, 3) := by decide +kernel
theorem dX1_exchangeRisk_18 : decode cX1_exchangeRisk 18 = .ok (.iload_n 1, 1) := by decide +kernel
theorem dX1_exchangeRisk_19 : decode cX1_exchangeRisk 19 = .ok (.iload_n 2, 1) := by decide +kernel
theorem dX1_exchangeRisk_20 : decode cX1_exchangeRisk 20 = .ok (.iastore, 1) := by decide +kernel
theorem dX1_exchangeRisk_21 : decode cX1_exchangeRisk 21 = .ok (.iload_n 3, 1) := by decide +kernel
theorem dX1_exchangeRisk_22 : decode cX1_exchangeRisk 22 = .ok (.ireturn, 1) := by decide +kernel
theorem dX1_setConversion_0 : decode cX1_setConversion 0 = .ok (.aload_n 0, 1) := by decide +kernel
theorem dX1_setConversion_1 : decode cX1_setConversion 1 = .ok (.iload_n 1, 1) := by decide +kernel
theorem dX1_setConversion_2 : decode cX1_setConversion 2 = .ok (.invokevirtual 31, 3) := by decide +kernel
theorem dX1_setConversion_5 : decode cX1_setConversion 5 = .ok (.ifCond .eq 25, 3) := by decide +kernel
theorem dX1_setConversion_8 : decode cX1_setConversion 8 = .ok (.aload_n 0, 1) := by decide +kernel
theorem dX1_setConversion_9 : decode cX1_setConversion 9 = .ok (.iload_n 2, 1) := by decide +kernel
theorem dX1_setConversion_10 : decode cX1_setConversion 10 = .ok (.invokevirtual 31, 3) := by decide +kernel
theorem dX1_setConversion_13 : decode cX1_setConversion 13 = .ok (.ifCond .eq 17, 3) := by decide +kernel
theorem dX1_setConversion_16 : decode cX1_setConversion 16 = .ok (.aload_n 0, 1) := by decide +kernel
theorem dX1_setConversion_17 : decode cX1_setConversion 17 = .ok (.getfield 17, 3) := by decide +kernel
theorem dX1_setConversion_20 : decode cX1_setConversion 20 = .ok (.iload_n 1, 1) := by decide +kernel
theorem dX1_setConversion_21 : decode cX1_setConversion 21 = .ok (.aaload, 1) := by decide +kernel
theorem dX1_setConversion_22 : decode cX1_setConversion 22 = .ok (.iload_n 2, 1) := by decide +kernel
theorem dX1_setConversion_23 : decode cX1_setConversion 23 = .ok (.bipush 100, 2) := by decide +kernel
theorem dX1_setConversion_25 : decode cX1_setConversion 25 = .ok (.iload_n 3, 1) := by decide +kernel
theorem dX1_setConversion_26 : decode cX1_setConversion 26 = .ok (.imul, 1) := by decide +kernel
theorem dX1_setConversion_27 : decode cX1_setConversion 27 = .ok (.iconst 1, 1) := by decide +kernel
theorem dX1_setConversion_28 : decode cX1_setConversion 28 = .ok (.iadd, 1) := by decide +kernel
theorem dX1_setConversion_29 : decode cX1_setConversion 29 = .ok (.iastore, 1) := by decide +kernel
theorem dX1_setConversion_30 : decode cX1_setConversion 30 = .ok (.return_, 1) := by decide +kernel
theorem dX1_bestCost_0 : decode cX1_bestCost 0 = .ok (.aload_n 0, 1) := by decide +kernel
theorem dX1_bestCost_1 : decode cX1_bestCost 1 = .ok (.iload_n 1, 1) := by decide +kernel
theorem dX1_bestCost_2 : decode cX1_bestCost 2 = .ok (.invokevirtual 31, 3) := by decide +kernel
theorem dX1_bestCost_5 : decode cX1_bestCost 5 = .ok (.ifCond .eq 11, 3) := by decide +kernel
theorem dX1_bestCost_8 : decode cX1_bestCost 8 = .ok (.aload_n 0, 1) := by decide +kernel
theorem dX1_bestCost_9 : decode cX1_bestCost 9 = .ok (.iload_n 2, 1) := by decide +kernel
theorem dX1_bestCost_10 : decode cX1_bestCost 10 = .ok (.invokevirtual 31, 3) := by decide +kernel
theorem dX1_bestCost_13 : decode cX1_bestCost 13 = .ok (.ifCond .ne 5, 3) := by decide +kernel
theorem dX1_bestCost_16 : decode cX1_bestCost 16 = .ok (.iconst (-1), 1) := by decide +kernel
theorem dX1_bestCost_17 : decode cX1_bestCost 17 = .ok (.ireturn, 1) := by decide +kernel
theorem dX1_bestCost_18 : decode cX1_bestCost 18 = .ok (.iconst 0, 1) := by decide +kernel
theorem dX1_bestCost_19 : decode cX1_bestCost 19 = .ok (.istore_n 3, 1) := by decide +kernel
theorem dX1_bestCost_20 : decode cX1_bestCost 20 = .ok (.iload_n 3, 1) := by decide +kernel
theorem dX1_bestCost_21 : decode cX1_bestCost 21 = .ok (.bipush 8, 2) := by decide +kernel
theorem dX1_bestCost_23 : decode cX1_bestCost 23 = .ok (.if_icmp .ge 16, 3) := by decide +kernel
theorem dX1_bestCost_26 : decode cX1_bestCost 26 = .ok (.aload_n 0, 1) := by decide +kernel
theorem dX1_bestCost_27 : decode cX1_bestCost 27 = .ok (.getfield 20, 3) := by decide +kernel
theorem dX1_bestCost_30 : decode cX1_bestCost 30 = .ok (.iload_n 3, 1) := by decide +kernel
theorem dX1_bestCost_31 : decode cX1_bestCost 31 = .ok (.iconst (-1), 1) := by decide +kernel
theorem dX1_bestCost_32 : decode cX1_bestCost 32 = .ok (.iastore, 1) := by decide +kernel
theorem dX1_bestCost_33 : decode cX1_bestCost 33 = .ok (.iinc 3 1, 3) := by decide +kernel
theorem dX1_bestCost_36 : decode cX1_bestCost 36 = .ok (.goto (-16), 3) := by decide +kernel
theorem dX1_bestCost_39 : decode cX1_bestCost 39 = .ok (.aload_n 0, 1) := by decide +kernel
theorem dX1_bestCost_40 : decode cX1_bestCost 40 = .ok (.getfield 20, 3) := by decide +kernel
theorem dX1_bestCost_43 : decode cX1_bestCost 43 = .ok (.iload_n 1, 1) := by decide +kernel
theorem dX1_bestCost_44 : decode cX1_bestCost 44 = .ok (.iconst 0, 1) := by decide +kernel
theorem dX1_bestCost_45 : decode cX1_bestCost 45 = .ok (.iastore, 1) := by decide +kernel
theorem dX1_bestCost_46 : decode cX1_bestCost 46 = .ok (.iconst 1, 1) := by decide +kernel
theorem dX1_bestCost_47 : decode cX1_bestCost 47 = .ok (.istore_n 3, 1) := by decide +kernel
theorem dX1_bestCost_48 : decode cX1_bestCost 48 = .ok (.iload_n 3, 1) := by decide +kernel
theorem dX1_bestCost_49 : decode cX1_bestCost 49 = .ok (.aload_n 0, 1) := by decide +kernel
theorem dX1_bestCost_50 : decode cX1_bestCost 50 = .ok (.getfield 23, 3) := by decide +kernel
theorem dX1_bestCost_53 : decode cX1_bestCost 53 = .ok (.if_icmp .ge 13, 3) := by decide +kernel
theorem dX1_bestCost_56 : decode cX1_bestCost 56 = .ok (.aload_n 0, 1) := by decide +kernel
theorem dX1_bestCost_57 : decode cX1_bestCost 57 = .ok (.invokevirtual 39, 3) := by decide +kernel
theorem dX1_bestCost_60 : decode cX1_bestCost 60 = .ok (.iinc 3 1, 3) := by decide +kernel
theorem dX1_bestCost_63 : decode cX1_bestCost 63 = .ok (.goto (-15), 3) := by decide +kernel
theorem dX1_bestCost_66 : decode cX1_bestCost 66 = .ok (.aload_n 0, 1) := by decide +kernel
theorem dX1_bestCost_67 : decode cX1_bestCost 67 = .ok (.getfield 20, 3) := by decide +kernel
theorem dX1_bestCost_70 : decode cX1_bestCost 70 = .ok (.iload_n 2, 1) := by decide +kernel
theorem dX1_bestCost_71 : decode cX1_bestCost 71 = .ok (.iaload, 1) := by decide +kernel
theorem dX1_bestCost_72 : decode cX1_bestCost 72 = .ok (.ireturn, 1) := by decide +kernel
theorem dX1_lengthenWays_0 : decode cX1_lengthenWays 0 = .ok (.iconst 0, 1) := by decide +kernel
theorem dX1_lengthenWays_1 : decode cX1_lengthenWays 1 = .ok (.istore_n 1, 1) := by decide +kernel
theorem dX1_lengthenWays_2 : decode cX1_lengthenWays 2 = .ok (.iload_n 1, 1) := by decide +kernel
theorem dX1_lengthenWays_3 : decode cX1_lengthenWays 3 = .ok (.bipush 8, 2) := by decide +kernel
theorem dX1_lengthenWays_5 : decode cX1_lengthenWays 5 = .ok (.if_icmp .ge 64, 3) := by decide +kernel
theorem dX1_lengthenWays_8 : decode cX1_lengthenWays 8 = .ok (.iconst 0, 1) := by decide +kernel
theorem dX1_lengthenWays_9 : decode cX1_lengthenWays 9 = .ok (.istore_n 2, 1) := by decide +kernel
theorem dX1_lengthenWays_10 : decode cX1_lengthenWays 10 = .ok (.iload_n 2, 1) := by decide +kernel
theorem dX1_lengthenWays_11 : decode cX1_lengthenWays 11 = .ok (.bipush 8, 2) := by decide +kernel
theorem dX1_lengthenWays_13 : decode cX1_lengthenWays 13 = .ok (.if_icmp .ge 50, 3) := by decide +kernel
theorem dX1_lengthenWays_16 : decode cX1_lengthenWays 16 = .ok (.aload_n 0, 1) := by decide +kernel
theorem dX1_lengthenWays_17 : decode cX1_lengthenWays 17 = .ok (.getfield 20, 3) := by decide +kernel
theorem dX1_lengthenWays_20 : decode cX1_lengthenWays 20 = .ok (.iload_n 1, 1) := by decide +kernel
theorem dX1_lengthenWays_21 : decode cX1_lengthenWays 21 = .ok (.iaload, 1) := by decide +kernel
theorem dX1_lengthenWays_22 : decode cX1_lengthenWays 22 = .ok (.iconst (-1), 1) := by decide +kernel
theorem dX1_lengthenWays_23 : decode cX1_lengthenWays 23 = .ok (.if_icmp .eq 34, 3) := by decide +kernel
theorem dX1_lengthenWays_26 : decode cX1_lengthenWays 26 = .ok (.aload_n 0, 1) := by decide +kernel
theorem dX1_lengthenWays_27 : decode cX1_lengthenWays 27 = .ok (.getfield 17, 3) := by decide +kernel
theorem dX1_lengthenWays_30 : decode cX1_lengthenWays 30 = .ok (.iload_n 1, 1) := by decide +kernel
theorem dX1_lengthenWays_31 : decode cX1_lengthenWays 31 = .ok (.aaload, 1) := by decide +kernel
theorem dX1_lengthenWays_32 : decode cX1_lengthenWays 32 = .ok (.iload_n 2, 1) := by decide +kernel
theorem dX1_lengthenWays_33 : decode cX1_lengthenWays 33 = .ok (.iaload, 1) := by decide +kernel
theorem dX1_lengthenWays_34 : decode cX1_lengthenWays 34 = .ok (.ifCond .eq 23, 3) := by decide +kernel
theorem dX1_lengthenWays_37 : decode cX1_lengthenWays 37 = .ok (.aload_n 0, 1) := by decide +kernel
theorem dX1_lengthenWays_38 : decode cX1_lengthenWays 38 = .ok (.iload_n 2, 1) := by decide +kernel
theorem dX1_lengthenWays_39 : decode cX1_lengthenWays 39 = .ok (.aload_n 0, 1) := by decide +kernel
theorem dX1_lengthenWays_40 : decode cX1_lengthenWays 40 = .ok (.getfield 20, 3) := by decide +kernel
theorem dX1_lengthenWays_43 : decode cX1_lengthenWays 43 = .ok (.iload_n 1, 1) := by decide +kernel
theorem dX1_lengthenWays_44 : decode cX1_lengthenWays 44 = .ok (.iaload, 1) := by decide +kernel
theorem dX1_lengthenWays_45 : decode cX1_lengthenWays 45 = .ok (.aload_n 0, 1) := by decide +kernel
theorem dX1_lengthenWays_46 : decode cX1_lengthenWays 46 = .ok (.getfield 17, 3) := by decide +kernel
theorem dX1_lengthenWays_49 : decode cX1_lengthenWays 49 = .ok (.iload_n 1, 1) := by decide +kernel
theorem dX1_lengthenWays_50 : decode cX1_lengthenWays 50 = .ok (.aaload, 1) := by decide +kernel
theorem dX1_lengthenWays_51 : decode cX1_lengthenWays 51 = .ok (.iload_n 2, 1) := by decide +kernel
theorem dX1_lengthenWays_52 : decode cX1_lengthenWays 52 = .ok (.iaload, 1) := by decide +kernel
theorem dX1_lengthenWays_53 : decode cX1_lengthenWays 53 = .ok (.iadd, 1) := by decide +kernel
theorem dX1_lengthenWays_54 : decode cX1_lengthenWays 54 = .ok (.invokevirtual 42, 3) := by decide +kernel
theorem dX1_lengthenWays_57 : decode cX1_lengthenWays 57 = .ok (.iinc 2 1, 3) := by decide +kernel
theorem dX1_lengthenWays_60 : decode cX1_lengthenWays 60 = .ok (.goto (-50), 3) := by decide +kernel
theorem dX1_lengthenWays_63 : decode cX1_lengthenWays 63 = .ok (.iinc 1 1, 3) := by decide +kernel
theorem dX1_lengthenWays_66 : decode cX1_lengthenWays 66 = .ok (.goto (-64), 3) := by decide +kernel
theorem dX1_lengthenWays_69 : decode cX1_lengthenWays 69 = .ok (.return_, 1) := by decide +kernel
theorem dX1_reach_0 : decode cX1_reach 0 = .ok (.aload_n 0, 1) := by decide +kernel
theorem dX1_reach_1 : decode cX1_reach 1 = .ok (.iload_n 1, 1) := by decide +kernel
theorem dX1_reach_2 : decode cX1_reach 2 = .ok (.invokevirtual 31, 3) := by decide +kernel
theorem dX1_reach_5 : decode cX1_reach 5 = .ok (.ifCond .eq 30, 3) := by decide +kernel
theorem dX1_reach_8 : decode cX1_reach 8 = .ok (.aload_n 0, 1) := by decide +kernel
theorem dX1_reach_9 : decode cX1_reach 9 = .ok (.getfield 20, 3) := by decide +kernel
theorem dX1_reach_12 : decode cX1_reach 12 = .ok (.iload_n 1, 1) := by decide +kernel
theorem dX1_reach_13 : decode cX1_reach 13 = .ok (.iaload, 1) := by decide +kernel
theorem dX1_reach_14 : decode cX1_reach 14 = .ok (.iconst (-1), 1) := by decide +kernel
theorem dX1_reach_15 : decode cX1_reach 15 = .ok (.if_icmp .eq 13, 3) := by decide +kernel
theorem dX1_reach_18 : decode cX1_reach 18 = .ok (.iload_n 2, 1) := by decide +kernel
theorem dX1_reach_19 : decode cX1_reach 19 = .ok (.aload_n 0, 1) := by decide +kernel
theorem dX1_reach_20 : decode cX1_reach 20 = .ok (.getfield 20, 3) := by decide +kernel
theorem dX1_reach_23 : decode cX1_reach 23 = .ok (.iload_n 1, 1) := by decide +kernel
theorem dX1_reach_24 : decode cX1_reach 24 = .ok (.iaload, 1) := by decide +kernel
theorem dX1_reach_25 : decode cX1_reach 25 = .ok (.if_icmp .ge 10, 3) := by decide +kernel
theorem dX1_reach_28 : decode cX1_reach 28 = .ok (.aload_n 0, 1) := by decide +kernel
theorem dX1_reach_29 : decode cX1_reach 29 = .ok (.getfield 20, 3) := by decide +kernel
theorem dX1_reach_32 : decode cX1_reach 32 = .ok (.iload_n 1, 1) := by decide +kernel
theorem dX1_reach_33 : decode cX1_reach 33 = .ok (.iload_n 2, 1) := by decide +kernel
theorem dX1_reach_34 : decode cX1_reach 34 = .ok (.iastore, 1) := by decide +kernel
theorem dX1_reach_35 : decode cX1_reach 35 = .ok (.return_, 1) := by decide +kernel
theorem dX2_init_0 : decode cX2_init 0 = .ok (.aload_n 0, 1) := by decide +kernel
theorem dX2_init_1 : decode cX2_init 1 = .ok (.invokespecial 3, 3) := by decide +kernel
theorem dX2_init_4 : decode cX2_init 4 = .ok (.aload_n 0, 1) := by decide +kernel
theorem dX2_init_5 : decode cX2_init 5 = .ok (.new 9, 3) := by decide +kernel
theorem dX2_init_8 : decode cX2_init 8 = .ok (.dup, 1) := by decide +kernel
theorem dX2_init_9 : decode cX2_init 9 = .ok (.invokespecial 11, 3) := by decide +kernel
theorem dX2_init_12 : decode cX2_init 12 = .ok (.putfield 12, 3) := by decide +kernel
theorem dX2_init_15 : decode cX2_init 15 = .ok (.aload_n 0, 1) := by decide +kernel
theorem dX2_init_16 : decode cX2_init 16 = .ok (.iconst 4, 1) := by decide +kernel
theorem dX2_init_17 : decode cX2_init 17 = .ok (.newarray .boolean, 2) := by decide +kernel
theorem dX2_init_19 : decode cX2_init 19 = .ok (.putfield 18, 3) := by decide +kernel
theorem dX2_init_22 : decode cX2_init 22 = .ok (.aload_n 0, 1) := by decide +kernel
theorem dX2_init_23 : decode cX2_init 23 = .ok (.iconst 4, 1) := by decide +kernel
theorem dX2_init_24 : decode cX2_init 24 = .ok (.newarray .int, 2) := by decide +kernel
theorem dX2_init_26 : decode cX2_init 26 = .ok (.putfield 22, 3) := by decide +kernel
theorem dX2_init_29 : decode cX2_init 29 = .ok (.aload_n 0, 1) := by decide +kernel
theorem dX2_init_30 : decode cX2_init 30 = .ok (.iconst (-1), 1) := by decide +kernel
theorem dX2_init_31 : decode cX2_init 31 = .ok (.putfield 26, 3) := by decide +kernel
theorem dX2_init_34 : decode cX2_init 34 = .ok (.return_, 1) := by decide +kernel
theorem dX2_find_0 : decode cX2_find 0 = .ok (.iload_n 1, 1) := by decide +kernel
theorem dX2_find_1 : decode cX2_find 1 = .ok (.ifCond .lt 14, 3) := by decide +kernel
theorem dX2_find_4 : decode cX2_find 4 = .ok (.iload_n 1, 1) := by decide +kernel
theorem dX2_find_5 : decode cX2_find 5 = .ok (.aload_n 0, 1) := by decide +kernel
theorem dX2_find_6 : decode cX2_find 6 = .ok (.getfield 12, 3) := by decide +kernel
theorem dX2_find_9 : decode cX2_find 9 = .ok (.invokevirtual 30, 3) := by decide +kernel
theorem dX2_find_12 : decode cX2_find 12 = .ok (.if_icmp .lt 5, 3) := by decide +kernel
theorem dX2_find_15 : decode cX2_find 15 = .ok (.aconst_null, 1) := by decide +kernel
theorem dX2_find_16 : decode cX2_find 16 = .ok (.areturn, 1) := by decide +kernel
theorem dX2_find_17 : decode cX2_find 17 = .ok (.aload_n 0, 1) := by decide +kernel
theorem dX2_find_18 : decode cX2_find 18 = .ok (.getfield 12, 3) := by decide +kernel
theorem dX2_find_21 : decode cX2_find 21 = .ok (.iload_n 1, 1) := by decide +kernel
theorem dX2_find_22 : decode cX2_find 22 = .ok (.invokevirtual 34, 3) := by decide +kernel
theorem dX2_find_25 : decode cX2_find 25 = .ok (.checkcast 38, 3) := by decide +kernel
theorem dX2_find_28 : decode cX2_find 28 = .ok (.astore_n 2, 1) := by decide +kernel
theorem dX2_find_29 : decode cX2_find 29 = .ok (.aload_n 2, 1) := by decide +kernel
theorem dX2_find_30 : decode cX2_find 30 = .ok (.invokevirtual 40, 3) := by decide +kernel
theorem dX2_find_33 : decode cX2_find 33 = .ok (.ifCond .eq 7, 3) := by decide +kernel
theorem dX2_find_36 : decode cX2_find 36 = .ok (.aload_n 2, 1) := by decide +kernel
theorem dX2_find_37 : decode cX2_find 37 = .ok (.goto 4, 3) := by decide +kernel
theorem dX2_find_40 : decode cX2_find 40 = .ok (.aconst_null, 1) := by decide +kernel
theorem dX2_find_41 : decode cX2_find 41 = .ok (.areturn, 1) := by decide +kernel
theorem dX2_obtain_0 : decode cX2_obtain 0 = .ok (.aload_n 0, 1) := by decide +kernel
theorem dX2_obtain_1 : decode cX2_obtain 1 = .ok (.iload_n 1, 1) := by decide +kernel
theorem dX2_obtain_2 : decode cX2_obtain 2 = .ok (.iload_n 2, 1) := by decide +kernel
theorem dX2_obtain_3 : decode cX2_obtain 3 = .ok (.invokevirtual 44, 3) := by decide +kernel
theorem dX2_obtain_6 : decode cX2_obtain 6 = .ok (.astore 4, 2) := by decide +kernel
theorem dX2_obtain_8 : decode cX2_obtain 8 = .ok (.aload 4, 2) := by decide +kernel
theorem dX2_obtain_10 : decode cX2_obtain 10 = .ok (.ifnull 27, 3) := by decide +kernel
theorem dX2_obtain_13 : decode cX2_obtain 13 = .ok (.aload 4, 2) := by decide +kernel
theorem dX2_obtain_15 : decode cX2_obtain 15 = .ok (.aload 4, 2) := by decide +kernel
theorem dX2_obtain_17 : decode cX2_obtain 17 = .ok (.getfield 48, 3) := by decide +kernel
theorem dX2_obtain_20 : decode cX2_obtain 20 = .ok (.iload_n 3, 1) := by decide +kernel
theorem dX2_obtain_21 : decode cX2_obtain 21 = .ok (.invokestatic 51, 3) := by decide +kernel
theorem dX2_obtain_24 : decode cX2_obtain 24 = .ok (.putfield 48, 3) := by decide +kernel
theorem dX2_obtain_27 : decode cX2_obtain 27 = .ok (.aload_n 0, 1) := by decide +kernel
theorem dX2_obtain_28 : decode cX2_obtain 28 = .ok (.aload 4, 2) := by decide +kernel
theorem dX2_obtain_30 : decode cX2_obtain 30 = .ok (.invokevirtual 57, 3) := by decide +kernel
theorem dX2_obtain_33 : decode cX2_obtain 33 = .ok (.pop, 1) := by decide +kernel
theorem dX2_obtain_34 : decode cX2_obtain 34 = .ok (.aload 4, 2) := by decide +kernel
theorem dX2_obtain_36 : decode cX2_obtain 36 = .ok (.areturn, 1) := by decide +kernel
theorem dX2_obtain_37 : decode cX2_obtain 37 = .ok (.new 38, 3) := by decide +kernel
theorem dX2_obtain_40 : decode cX2_obtain 40 = .ok (.dup, 1) := by decide +kernel
theorem dX2_obtain_41 : decode cX2_obtain 41 = .ok (.aload_n 0, 1) := by decide +kernel
theorem dX2_obtain_42 : decode cX2_obtain 42 = .ok (.getfield 12, 3) := by decide +kernel
theorem dX2_obtain_45 : decode cX2_obtain 45 = .ok (.invokevirtual 30, 3) := by decide +kernel
theorem dX2_obtain_48 : decode cX2_obtain 48 = .ok (.iload_n 1, 1) := by decide +kernel
theorem dX2_obtain_49 : decode cX2_obtain 49 = .ok (.iload_n 2, 1) := by decide +kernel
theorem dX2_obtain_50 : decode cX2_obtain 50 = .ok (.invokespecial 61, 3) := by decide +kernel
theorem dX2_obtain_53 : decode cX2_obtain 53 = .ok (.astore 5, 2) := by decide +kernel
theorem dX2_obtain_55 : decode cX2_obtain 55 = .ok (.aload 5, 2) := by decide +kernel
theorem dX2_obtain_57 : decode cX2_obtain 57 = .ok (.iload_n 3, 1) := by decide +kernel
theorem dX2_obtain_58 : decode cX2_obtain 58 = .ok (.putfield 48, 3) := by decide +kernel
theorem dX2_obtain_61 : decode cX2_obtain 61 = .ok (.aload_n 0, 1) := by decide +kernel
theorem dX2_obtain_62 : decode cX2_obtain 62 = .ok (.getfield 12, 3) := by decide +kernel
theorem dX2_obtain_65 : decode cX2_obtain 65 = .ok (.aload 5, 2) := by decide +kernel
theorem dX2_obtain_67 : decode cX2_obtain 67 = .ok (.invokevirtual 64, 3) := by decide +kernel
theorem dX2_obtain_70 : decode cX2_obtain 70 = .ok (.pop, 1) := by decide +kernel
theorem dX2_obtain_71 : decode cX2_obtain 71 = .ok (.aload_n 0, 1) := by decide +kernel
theorem dX2_obtain_72 : decode cX2_obtain 72 = .ok (.aload 5, 2) := by decide +kernel
theorem dX2_obtain_74 : decode cX2_obtain 74 = .ok (.iload_n 2, 1) := by decide +kernel
theorem dX2_obtain_75 : decode cX2_obtain 75 = .ok (.invokevirtual 68, 3) := by decide +kernel
theorem dX2_obtain_78 : decode cX2_obtain 78 = .ok (.pop, 1) := by decide +kernel
theorem dX2_obtain_79 : decode cX2_obtain 79 = .ok (.aload 5, 2) := by decide +kernel
theorem dX2_obtain_81 : decode cX2_obtain 81 = .ok (.areturn, 1) := by decide +kernel
theorem dX2_findAlike_0 : decode cX2_findAlike 0 = .ok (.iconst 0, 1) := by decide +kernel
theorem dX2_findAlike_1 : decode cX2_findAlike 1 = .ok (.istore_n 3, 1) := by decide +kernel
theorem dX2_findAlike_2 : decode cX2_findAlike 2 = .ok (.iload_n 3, 1) := by decide +kernel
theorem dX2_findAlike_3 : decode cX2_findAlike 3 = .ok (.aload_n 0, 1) := by decide +kernel
theorem dX2_findAlike_4 : decode cX2_findAlike 4 = .ok (.getfield 12, 3) := by decide +kernel
theorem dX2_findAlike_7 : decode cX2_findAlike 7 = .ok (.invokevirtual 30, 3) := by decide +kernel
theorem dX2_findAlike_10 : decode cX2_findAlike 10 = .ok (.if_icmp .ge 43, 3) := by decide +kernel
theorem dX2_findAlike_13 : decode cX2_findAlike 13 = .ok (.aload_n 0, 1) := by decide +kernel
theorem dX2_findAlike_14 : decode cX2_findAlike 14 = .ok (.getfield 12, 3) := by decide +kernel
theorem dX2_findAlike_17 : decode cX2_findAlike 17 = .ok (.iload_n 3, 1) := by decide +kernel
theorem dX2_findAlike_18 : decode cX2_findAlike 18 = .ok (.invokevirtual 34, 3) := by decide +kernel
theorem dX2_findAlike_21 : decode cX2_findAlike 21 = .ok (.checkcast 38, 3) := by decide +kernel
theorem dX2_findAlike_24 : decode cX2_findAlike 24 = .ok (.astore 4, 2) := by decide +kernel
theorem dX2_findAlike_26 : decode cX2_findAlike 26 = .ok (.aload 4, 2) := by decide +kernel
theorem dX2_findAlike_28 : decode cX2_findAlike 28 = .ok (.invokevirtual 40, 3) := by decide +kernel
theorem dX2_findAlike_31 : decode cX2_findAlike 31 = .ok (.ifCond .eq 16, 3) := by decide +kernel
theorem dX2_findAlike_34 : decode cX2_findAlike 34 = .ok (.aload 4, 2) := by decide +kernel
theorem dX2_findAlike_36 : decode cX2_findAlike 36 = .ok (.iload_n 1, 1) := by decide +kernel
theorem dX2_findAlike_37 : decode cX2_findAlike 37 = .ok (.iload_n 2, 1) := by decide +kernel
theorem dX2_findAlike_38 : decode cX2_findAlike 38 = .ok (.invokevirtual 72, 3) := by decide +kernel
theorem dX2_findAlike_41 : decode cX2_findAlike 41 = .ok (.ifCond .eq 6, 3) := by decide +kernel
theorem dX2_findAlike_44 : decode cX2_findAlike 44 = .ok (.aload 4, 2) := by decide +kernel
theorem dX2_findAlike_46 : decode cX2_findAlike 46 = .ok (.areturn, 1) := by decide +kernel
theorem dX2_findAlike_47 : decode cX2_findAlike 47 = .ok (.iinc 3 1, 3) := by decide +kernel
theorem dX2_findAlike_50 : decode cX2_findAlike 50 = .ok (.goto (-48), 3) := by decide +kernel
theorem dX2_findAlike_53 : decode cX2_findAlike 53 = .ok (.aconst_null, 1) := by decide +kernel
theorem dX2_findAlike_54 : decode cX2_findAlike 54 = .ok (.areturn, 1) := by decide +kernel
theorem dX2_placeGoodCopies_0 : decode cX2_placeGoodCopies 0 = .ok (.aload_n 1, 1) := by decide +kernel
theorem dX2_placeGoodCopies_1 : decode cX2_placeGoodCopies 1 = .ok (.invokevirtual 76, 3) := by decide +kernel
theorem dX2_placeGoodCopies_4 : decode cX2_placeGoodCopies 4 = .ok (.istore_n 2, 1) := by decide +kernel
theorem dX2_placeGoodCopies_5 : decode cX2_placeGoodCopies 5 = .ok (.iload_n 2, 1) := by decide +kernel
theorem dX2_placeGoodCopies_6 : decode cX2_placeGoodCopies 6 = .ok (.iconst (-1), 1) := by decide +kernel
theorem dX2_placeGoodCopies_7 : decode cX2_placeGoodCopies 7 = .ok (.if_icmp .ne 7, 3) := by decide +kernel
theorem dX2_placeGoodCopies_10 : decode cX2_placeGoodCopies 10 = .ok (.iconst 0, 1) := by decide +kernel
theorem dX2_placeGoodCopies_11 : decode cX2_placeGoodCopies 11 = .ok (.goto 13, 3) := by decide +kernel
theorem dX2_placeGoodCopies_14 : decode cX2_placeGoodCopies 14 = .ok (.aload_n 0, 1) := by decide +kernel
theorem dX2_placeGoodCopies_15 : decode cX2_placeGoodCopies 15 = .ok (.aload_n 1, 1) := by decide +kernel
theorem dX2_placeGoodCopies_16 : decode cX2_placeGoodCopies 16 = .ok (.aload_n 1, 1) := by decide +kernel
theorem dX2_placeGoodCopies_17 : decode cX2_placeGoodCopies 17 = .ok (.iload_n 2, 1) := by decide +kernel
theorem dX2_placeGoodCopies_18 : decode cX2_placeGoodCopies 18 = .ok (.invokevirtual 79, 3) := by decide +kernel
theorem dX2_placeGoodCopies_21 : decode cX2_placeGoodCopies 21 = .ok (.invokevirtual 68, 3) := by decide +kernel
theorem dX2_placeGoodCopies_24 : decode cX2_placeGoodCopies 24 = .ok (.ireturn, 1) := by decide +kernel
theorem dX2_placeCopies_0 : decode cX2_placeCopies 0 = .ok (.aload_n 1, 1) := by decide +kernel
theorem dX2_placeCopies_1 : decode cX2_placeCopies 1 = .ok (.invokevirtual 83, 3) := by decide +kernel
theorem dX2_placeCopies_4 : decode cX2_placeCopies 4 = .ok (.istore_n 3, 1) := by decide +kernel
theorem dX2_placeCopies_5 : decode cX2_placeCopies 5 = .ok (.iconst 0, 1) := by decide +kernel
theorem dX2_placeCopies_6 : decode cX2_placeCopies 6 = .ok (.istore 4, 2) := by decide +kernel
theorem dX2_placeCopies_8 : decode cX2_placeCopies 8 = .ok (.iconst 0, 1) := by decide +kernel
theorem dX2_placeCopies_9 : decode cX2_placeCopies 9 = .ok (.istore 5, 2) := by decide +kernel
theorem dX2_placeCopies_11 : decode cX2_placeCopies 11 = .ok (.iload 5, 2) := by decide +kernel
theorem dX2_placeCopies_13 : decode cX2_placeCopies 13 = .ok (.iload_n 3, 1) := by decide +kernel
theorem dX2_placeCopies_14 : decode cX2_placeCopies 14 = .ok (.if_icmp .ge 48, 3) := by decide +kernel
theorem dX2_placeCopies_17 : decode cX2_placeCopies 17 = .ok (.aload_n 0, 1) := by decide +kernel
theorem dX2_placeCopies_18 : decode cX2_placeCopies 18 = .ok (.aload_n 1, 1) := by decide +kernel
theorem dX2_placeCopies_19 : decode cX2_placeCopies 19 = .ok (.invokevirtual 86, 3) := by decide +kernel
theorem dX2_placeCopies_22 : decode cX2_placeCopies 22 = .ok (.istore 6, 2) := by decide +kernel
theorem dX2_placeCopies_24 : decode cX2_placeCopies 24 = .ok (.iload 6, 2) := by decide +kernel
theorem dX2_placeCopies_26 : decode cX2_placeCopies 26 = .ok (.ifCond .lt 30, 3) := by decide +kernel
theorem dX2_placeCopies_29 : decode cX2_placeCopies 29 = .ok (.iload 6, 2) := by decide +kernel
theorem dX2_placeCopies_31 : decode cX2_placeCopies 31 = .ok (.iconst 4, 1) := by decide +kernel
theorem dX2_placeCopies_32 : decode cX2_placeCopies 32 = .ok (.if_icmp .ge 24, 3) := by decide +kernel
theorem dX2_placeCopies_35 : decode cX2_placeCopies 35 = .ok (.aload_n 1, 1) := by decide +kernel
theorem dX2_placeCopies_36 : decode cX2_placeCopies 36 = .ok (.iload 6, 2) := by decide +kernel
theorem dX2_placeCopies_38 : decode cX2_placeCopies 38 = .ok (.iload_n 2, 1) := by decide +kernel
theorem dX2_placeCopies_39 : decode cX2_placeCopies 39 = .ok (.invokevirtual 89, 3) := by decide +kernel
theorem dX2_placeCopies_42 : decode cX2_placeCopies 42 = .ok (.aload_n 0, 1) := by decide +kernel
theorem dX2_placeCopies_43 : decode cX2_placeCopies 43 = .ok (.getfield 22, 3) := by decide +kernel
theorem dX2_placeCopies_46 : decode cX2_placeCopies 46 = .ok (.iload 6, 2) := by decide +kernel
theorem dX2_placeCopies_48 : decode cX2_placeCopies 48 = .ok (.dup2, 1) := by decide +kernel
theorem dX2_placeCopies_49 : decode cX2_placeCopies 49 = .ok (.iaload, 1) := by decide +kernel
theorem dX2_placeCopies_50 : decode cX2_placeCopies 50 = .ok (.iconst 1, 1) := by decide +kernel
theorem dX2_placeCopies_51 : decode cX2_placeCopies 51 = .ok (.iadd, 1) := by decide +kernel
theorem dX2_placeCopies_52 : decode cX2_placeCopies 52 = .ok (.iastore, 1) := by decide +kernel
theorem dX2_placeCopies_53 : decode cX2_placeCopies 53 = .ok (.iinc 4 1, 3) := by decide +kernel
theorem dX2_placeCopies_56 : decode cX2_placeCopies 56 = .ok (.iinc 5 1, 3) := by decide +kernel
theorem dX2_placeCopies_59 : decode cX2_placeCopies 59 = .ok (.goto (-48), 3) := by decide +kernel
theorem dX2_placeCopies_62 : decode cX2_placeCopies 62 = .ok (.iload 4, 2) := by decide +kernel
theorem dX2_placeCopies_64 : decode cX2_placeCopies 64 = .ok (.ireturn, 1) := by decide +kernel
theorem dX2_freestSite_0 : decode cX2_freestSite 0 = .ok (.iconst (-1), 1) := by decide +kernel
theorem dX2_freestSite_1 : decode cX2_freestSite 1 = .ok (.istore_n 2, 1) := by decide +kernel
theorem dX2_freestSite_2 : decode cX2_freestSite 2 = .ok (.iconst 0, 1) := by decide +kernel
theorem dX2_freestSite_3 : decode cX2_freestSite 3 = .ok (.istore_n 3, 1) := by decide +kernel
theorem dX2_freestSite_4 : decode cX2_freestSite 4 = .ok (.iconst 0, 1) := by decide +kernel
theorem dX2_freestSite_5 : decode cX2_freestSite 5 = .ok (.istore 4, 2) := by decide +kernel
theorem dX2_freestSite_7 : decode cX2_freestSite 7 = .ok (.iload 4, 2) := by decide +kernel
theorem dX2_freestSite_9 : decode cX2_freestSite 9 = .ok (.iconst 4, 1) := by decide +kernel
theorem dX2_freestSite_10 : decode cX2_freestSite 10 = .ok (.if_icmp .ge 58, 3) := by decide +kernel
theorem dX2_freestSite_13 : decode cX2_freestSite 13 = .ok (.aload_n 0, 1) := by decide +kernel
theorem dX2_freestSite_14 : decode cX2_freestSite 14 = .ok (.getfield 18, 3) := by decide +kernel
theorem dX2_freestSite_17 : decode cX2_freestSite 17 = .ok (.iload 4, 2) := by decide +kernel
theorem dX2_freestSite_19 : decode cX2_freestSite 19 = .ok (.baload, 1) := by decide +kernel
theorem dX2_freestSite_20 : decode cX2_freestSite 20 = .ok (.ifCond .ne 42, 3) := by decide +kernel
theorem dX2_freestSite_23 : decode cX2_freestSite 23 = .ok (.aload_n 1, 1) := by decide +kernel
theorem dX2_freestSite_24 : decode cX2_freestSite 24 = .ok (.iload 4, 2) := by decide +kernel
theorem dX2_freestSite_26 : decode cX2_freestSite 26 = .ok (.invokevirtual 93, 3) := by decide +kernel
theorem dX2_freestSite_29 : decode cX2_freestSite 29 = .ok (.ifCond .eq 6, 3) := by decide +kernel
theorem dX2_freestSite_32 : decode cX2_freestSite 32 = .ok (.goto 30, 3) := by decide +kernel
theorem dX2_freestSite_35 : decode cX2_freestSite 35 = .ok (.iload_n 2, 1) := by decide +kernel
theorem dX2_freestSite_36 : decode cX2_freestSite 36 = .ok (.iconst (-1), 1) := by decide +kernel
theorem dX2_freestSite_37 : decode cX2_freestSite 37 = .ok (.if_icmp .eq 14, 3) := by decide +kernel
theorem dX2_freestSite_40 : decode cX2_freestSite 40 = .ok (.aload_n 0, 1) := by decide +kernel
theorem dX2_freestSite_41 : decode cX2_freestSite 41 = .ok (.getfield 22, 3) := by decide +kernel
theorem dX2_freestSite_44 : decode cX2_freestSite 44 = .ok (.iload 4, 2) := by decide +kernel
theorem dX2_freestSite_46 : decode cX2_freestSite 46 = .ok (.iaload, 1) := by decide +kernel
theorem dX2_freestSite_47 : decode cX2_freestSite 47 = .ok (.iload_n 3, 1) := by decide +kernel
theorem dX2_freestSite_48 : decode cX2_freestSite 48 = .ok (.if_icmp .ge 14, 3) := by decide +kernel
theorem dX2_freestSite_51 : decode cX2_freestSite 51 = .ok (.iload 4, 2) := by decide +kernel
theorem dX2_freestSite_53 : decode cX2_freestSite 53 = .ok (.istore_n 2, 1) := by decide +kernel
theorem dX2_freestSite_54 : decode cX2_freestSite 54 = .ok (.aload_n 0, 1) := by decide +kernel
theorem dX2_freestSite_55 : decode cX2_freestSite 55 = .ok (.getfield 22, 3) := by decide +kernel
theorem dX2_freestSite_58 : decode cX2_freestSite 58 = .ok (.iload 4, 2) := by decide +kernel
theorem dX2_freestSite_60 : decode cX2_freestSite 60 = .ok (.iaload, 1) := by decide +kernel
theorem dX2_freestSite_61 : decode cX2_freestSite 61 = .ok (.istore_n 3, 1) := by decide +kernel
theorem dX2_freestSite_62 : decode cX2_freestSite 62 = .ok (.iinc 4 1, 3) := by decide +kernel
theorem dX2_freestSite_65 : decode cX2_freestSite 65 = .ok (.goto (-58), 3) := by decide +kernel
theorem dX2_freestSite_68 : decode cX2_freestSite 68 = .ok (.iload_n 2, 1) := by decide +kernel
theorem dX2_freestSite_69 : decode cX2_freestSite 69 = .ok (.ireturn, 1) := by decide +kernel
theorem dX2_release_0 : decode cX2_release 0 = .ok (.iconst 0, 1) := by decide +kernel
theorem dX2_release_1 : decode cX2_release 1 = .ok (.istore_n 2, 1) := by decide +kernel
theorem dX2_release_2 : decode cX2_release 2 = .ok (.aload_n 1, 1) := by decide +kernel
theorem dX2_release_3 : decode cX2_release 3 = .ok (.astore_n 3, 1) := by decide +kernel
theorem dX2_release_4 : decode cX2_release 4 = .ok (.aload_n 3, 1) := by decide +kernel
theorem dX2_release_5 : decode cX2_release 5 = .ok (.ifnull 45, 3) := by decide +kernel
theorem dX2_release_8 : decode cX2_release 8 = .ok (.aload_n 3, 1) := by decide +kernel
theorem dX2_release_9 : decode cX2_release 9 = .ok (.getfield 97, 3) := by decide +kernel
theorem dX2_release_12 : decode cX2_release 12 = .ok (.dup, 1) := by decide +kernel
theorem dX2_release_13 : decode cX2_release 13 = .ok (.getfield 103, 3) := by decide +kernel
theorem dX2_release_16 : decode cX2_release 16 = .ok (.iconst 1, 1) := by decide +kernel
theorem dX2_release_17 : decode cX2_release 17 = .ok (.isub, 1) := by decide +kernel
theorem dX2_release_18 : decode cX2_release 18 = .ok (.putfield 103, 3) := by decide +kernel
theorem dX2_release_21 : decode cX2_release 21 = .ok (.aload_n 3, 1) := by decide +kernel
theorem dX2_release_22 : decode cX2_release 22 = .ok (.getfield 97, 3) := by decide +kernel
theorem dX2_release_25 : decode cX2_release 25 = .ok (.invokevirtual 40, 3) := by decide +kernel
theorem dX2_release_28 : decode cX2_release 28 = .ok (.ifCond .ne 14, 3) := by decide +kernel
theorem dX2_release_31 : decode cX2_release 31 = .ok (.aload_n 0, 1) := by decide +kernel
theorem dX2_release_32 : decode cX2_release 32 = .ok (.aload_n 3, 1) := by decide +kernel
theorem dX2_release_33 : decode cX2_release 33 = .ok (.getfield 97, 3) := by decide +kernel
theorem dX2_release_36 : decode cX2_release 36 = .ok (.invokevirtual 106, 3) := by decide +kernel
theorem dX2_release_39 : decode cX2_release 39 = .ok (.iinc 2 1, 3) := by decide +kernel
theorem dX2_release_42 : decode cX2_release 42 = .ok (.aload_n 3, 1) := by decide +kernel
theorem dX2_release_43 : decode cX2_release 43 = .ok (.getfield 110, 3) := by decide +kernel
theorem dX2_release_46 : decode cX2_release 46 = .ok (.astore_n 3, 1) := by decide +kernel
theorem dX2_release_47 : decode cX2_release 47 = .ok (.goto (-43), 3) := by decide +kernel
theorem dX2_release_50 : decode cX2_release 50 = .ok (.iload_n 2, 1) := by decide +kernel
theorem dX2_release_51 : decode cX2_release 51 = .ok (.ireturn, 1) := by decide +kernel
theorem dX2_dropAllOf_0 : decode cX2_dropAllOf 0 = .ok (.iconst 0, 1) := by decide +kernel
theorem dX2_dropAllOf_1 : decode cX2_dropAllOf 1 = .ok (.istore_n 2, 1) := by decide +kernel
theorem dX2_dropAllOf_2 : decode cX2_dropAllOf 2 = .ok (.iload_n 2, 1) := by decide +kernel
theorem dX2_dropAllOf_3 : decode cX2_dropAllOf 3 = .ok (.iconst 4, 1) := by decide +kernel
theorem dX2_dropAllOf_4 : decode cX2_dropAllOf 4 = .ok (.if_icmp .ge 16, 3) := by decide +kernel
theorem dX2_dropAllOf_7 : decode cX2_dropAllOf 7 = .ok (.aload_n 0, 1) := by decide +kernel
theorem dX2_dropAllOf_8 : decode cX2_dropAllOf 8 = .ok (.aload_n 1, 1) := by decide +kernel
theorem dX2_dropAllOf_9 : decode cX2_dropAllOf 9 = .ok (.iload_n 2, 1) := by decide +kernel
theorem dX2_dropAllOf_10 : decode cX2_dropAllOf 10 = .ok (.invokevirtual 114, 3) := by decide +kernel
theorem dX2_dropAllOf_13 : decode cX2_dropAllOf 13 = .ok (.pop, 1) := by decide +kernel
theorem dX2_dropAllOf_14 : decode cX2_dropAllOf 14 = .ok (.iinc 2 1, 3) := by decide +kernel
theorem dX2_dropAllOf_17 : decode cX2_dropAllOf 17 = .ok (.goto (-15), 3) := by decide +kernel
theorem dX2_dropAllOf_20 : decode cX2_dropAllOf 20 = .ok (.return_, 1) := by decide +kernel
theorem dX2_closeOrOpen_0 : decode cX2_closeOrOpen 0 = .ok (.iload_n 1, 1) := by decide +kernel
theorem dX2_closeOrOpen_1 : decode cX2_closeOrOpen 1 = .ok (.ifCond .lt 8, 3) := by decide +kernel
theorem dX2_closeOrOpen_4 : decode cX2_closeOrOpen 4 = .ok (.iload_n 1, 1) := by decide +kernel
theorem dX2_closeOrOpen_5 : decode cX2_closeOrOpen 5 = .ok (.iconst 4, 1) := by decide +kernel
theorem dX2_closeOrOpen_6 : decode cX2_closeOrOpen 6 = .ok (.if_icmp .lt 5, 3) := by decide +kernel
theorem dX2_closeOrOpen_9 : decode cX2_closeOrOpen 9 = .ok (.iconst 0, 1) := by decide +kernel
theorem dX2_closeOrOpen_10 : decode cX2_closeOrOpen 10 = .ok (.ireturn, 1) := by decide +kernel
theorem dX2_closeOrOpen_11 : decode cX2_closeOrOpen 11 = .ok (.aload_n 0, 1) := by decide +kernel
theorem dX2_closeOrOpen_12 : decode cX2_closeOrOpen 12 = .ok (.getfield 18, 3) := by decide +kernel
theorem dX2_closeOrOpen_15 : decode cX2_closeOrOpen 15 = .ok (.iload_n 1, 1) := by decide +kernel
theorem dX2_closeOrOpen_16 : decode cX2_closeOrOpen 16 = .ok (.aload_n 0, 1) := by decide +kernel
theorem dX2_closeOrOpen_17 : decode cX2_closeOrOpen 17 = .ok (.getfield 18, 3) := by decide +kernel
theorem dX2_closeOrOpen_20 : decode cX2_closeOrOpen 20 = .ok (.iload_n 1, 1) := by decide +kernel
theorem dX2_closeOrOpen_21 : decode cX2_closeOrOpen 21 = .ok (.baload, 1) := by decide +kernel
theorem dX2_closeOrOpen_22 : decode cX2_closeOrOpen 22 = .ok (.ifCond .ne 7, 3) := by decide +kernel
theorem dX2_closeOrOpen_25 : decode cX2_closeOrOpen 25 = .ok (.iconst 1, 1) := by decide +kernel
theorem dX2_closeOrOpen_26 : decode cX2_closeOrOpen 26 = .ok (.goto 4, 3) := by decide +kernel
theorem dX2_closeOrOpen_29 : decode cX2_closeOrOpen 29 = .ok (.iconst 0, 1) := by decide +kernel
theorem dX2_closeOrOpen_30 : decode cX2_closeOrOpen 30 = .ok (.bastore, 1) := by decide +kernel
theorem dX2_closeOrOpen_31 : decode cX2_closeOrOpen 31 = .ok (.iconst 0, 1) := by decide +kernel
theorem dX2_closeOrOpen_32 : decode cX2_closeOrOpen 32 = .ok (.istore_n 2, 1) := by decide +kernel
theorem dX2_closeOrOpen_33 : decode cX2_closeOrOpen 33 = .ok (.iconst 0, 1) := by decide +kernel
theorem dX2_closeOrOpen_34 : decode cX2_closeOrOpen 34 = .ok (.istore_n 3, 1) := by decide +kernel
theorem dX2_closeOrOpen_35 : decode cX2_closeOrOpen 35 = .ok (.iload_n 3, 1) := by decide +kernel
theorem dX2_closeOrOpen_36 : decode cX2_closeOrOpen 36 = .ok (.aload_n 0, 1) := by decide +kernel
theorem dX2_closeOrOpen_37 : decode cX2_closeOrOpen 37 = .ok (.getfield 12, 3) := by decide +kernel
theorem dX2_closeOrOpen_40 : decode cX2_closeOrOpen 40 = .ok (.invokevirtual 30, 3) := by decide +kernel
theorem dX2_closeOrOpen_43 : decode cX2_closeOrOpen 43 = .ok (.if_icmp .ge 31, 3) := by decide +kernel
theorem dX2_closeOrOpen_46 : decode cX2_closeOrOpen 46 = .ok (.aload_n 0, 1) := by decide +kernel
theorem dX2_closeOrOpen_47 : decode cX2_closeOrOpen 47 = .ok (.aload_n 0, 1) := by decide +kernel
theorem dX2_closeOrOpen_48 : decode cX2_closeOrOpen 48 = .ok (.getfield 12, 3) := by decide +kernel
theorem dX2_closeOrOpen_51 : decode cX2_closeOrOpen 51 = .ok (.iload_n 3, 1) := by decide +kernel
theorem dX2_closeOrOpen_52 : decode cX2_closeOrOpen 52 = .ok (.invokevirtual 34, 3) := by decide +kernel
theorem dX2_closeOrOpen_55 : decode cX2_closeOrOpen 55 = .ok (.checkcast 38, 3) := by decide +kernel
theorem dX2_closeOrOpen_58 : decode cX2_closeOrOpen 58 = .ok (.iload_n 1, 1) := by decide +kernel
theorem dX2_closeOrOpen_59 : decode cX2_closeOrOpen 59 = .ok (.invokevirtual 114, 3) := by decide +kernel
theorem dX2_closeOrOpen_62 : decode cX2_closeOrOpen 62 = .ok (.ifCond .eq 6, 3) := by decide +kernel
theorem dX2_closeOrOpen_65 : decode cX2_closeOrOpen 65 = .ok (.iinc 2 1, 3) := by decide +kernel
theorem dX2_closeOrOpen_68 : decode cX2_closeOrOpen 68 = .ok (.iinc 3 1, 3) := by decide +kernel
theorem dX2_closeOrOpen_71 : decode cX2_closeOrOpen 71 = .ok (.goto (-36), 3) := by decide +kernel
theorem dX2_closeOrOpen_74 : decode cX2_closeOrOpen 74 = .ok (.iload_n 2, 1) := by decide +kernel
theorem dX2_closeOrOpen_75 : decode cX2_closeOrOpen 75 = .ok (.ireturn, 1) := by decide +kernel
theorem dX2_dropCopy_0 : decode cX2_dropCopy 0 = .ok (.iload_n 2, 1) := by decide +kernel
theorem dX2_dropCopy_1 : decode cX2_dropCopy 1 = .ok (.ifCond .lt 16, 3) := by decide +kernel
theorem dX2_dropCopy_4 : decode cX2_dropCopy 4 = .ok (.iload_n 2, 1) := by decide +kernel
theorem dX2_dropCopy_5 : decode cX2_dropCopy 5 = .ok (.iconst 4, 1) := by decide +kernel
theorem dX2_dropCopy_6 : decode cX2_dropCopy 6 = .ok (.if_icmp .ge 11, 3) := by decide +kernel
theorem dX2_dropCopy_9 : decode cX2_dropCopy 9 = .ok (.aload_n 1, 1) := by decide +kernel
theorem dX2_dropCopy_10 : decode cX2_dropCopy 10 = .ok (.iload_n 2, 1) := by decide +kernel
theorem dX2_dropCopy_11 : decode cX2_dropCopy 11 = .ok (.invokevirtual 93, 3) := by decide +kernel
theorem dX2_dropCopy_14 : decode cX2_dropCopy 14 = .ok (.ifCond .ne 5, 3) := by decide +kernel
theorem dX2_dropCopy_17 : decode cX2_dropCopy 17 = .ok (.iconst 0, 1) := by decide +kernel
theorem dX2_dropCopy_18 : decode cX2_dropCopy 18 = .ok (.ireturn, 1) := by decide +kernel
theorem dX2_dropCopy_19 : decode cX2_dropCopy 19 = .ok (.aload_n 1, 1) := by decide +kernel
theorem dX2_dropCopy_20 : decode cX2_dropCopy 20 = .ok (.iload_n 2, 1) := by decide +kernel
theorem dX2_dropCopy_21 : decode cX2_dropCopy 21 = .ok (.invokevirtual 118, 3) := by decide +kernel
theorem dX2_dropCopy_24 : decode cX2_dropCopy 24 = .ok (.aload_n 0, 1) := by decide +kernel
theorem dX2_dropCopy_25 : decode cX2_dropCopy 25 = .ok (.getfield 22, 3) := by decide +kernel
theorem dX2_dropCopy_28 : decode cX2_dropCopy 28 = .ok (.iload_n 2, 1) := by decide +kernel
theorem dX2_dropCopy_29 : decode cX2_dropCopy 29 = .ok (.dup2, 1) := by decide +kernel
theorem dX2_dropCopy_30 : decode cX2_dropCopy 30 = .ok (.iaload, 1) := by decide +kernel
theorem dX2_dropCopy_31 : decode cX2_dropCopy 31 = .ok (.iconst 1, 1) := by decide +kernel
theorem dX2_dropCopy_32 : decode cX2_dropCopy 32 = .ok (.isub, 1) := by decide +kernel
theorem dX2_dropCopy_33 : decode cX2_dropCopy 33 = .ok (.iastore, 1) := by decide +kernel
theorem dX2_dropCopy_34 : decode cX2_dropCopy 34 = .ok (.iconst 1, 1) := by decide +kernel
theorem dX2_dropCopy_35 : decode cX2_dropCopy 35 = .ok (.ireturn, 1) := by decide +kernel
theorem dX2_countUnits_0 : decode cX2_countUnits 0 = .ok (.iconst 0, 1) := by decide +kernel
theorem dX2_countUnits_1 : decode cX2_countUnits 1 = .ok (.istore_n 1, 1) := by decide +kernel
theorem dX2_countUnits_2 : decode cX2_countUnits 2 = .ok (.iconst 0, 1) := by decide +kernel
theorem dX2_countUnits_3 : decode cX2_countUnits 3 = .ok (.istore_n 2, 1) := by decide +kernel
theorem dX2_countUnits_4 : decode cX2_countUnits 4 = .ok (.iload_n 2, 1) := by decide +kernel
theorem dX2_countUnits_5 : decode cX2_countUnits 5 = .ok (.aload_n 0, 1) := by decide +kernel
theorem dX2_countUnits_6 : decode cX2_countUnits 6 = .ok (.getfield 12, 3) := by decide +kernel
theorem dX2_countUnits_9 : decode cX2_countUnits 9 = .ok (.invokevirtual 30, 3) := by decide +kernel
theorem dX2_countUnits_12 : decode cX2_countUnits 12 = .ok (.if_icmp .ge 29, 3) := by decide +kernel
theorem dX2_countUnits_15 : decode cX2_countUnits 15 = .ok (.aload_n 0, 1) := by decide +kernel
theorem dX2_countUnits_16 : decode cX2_countUnits 16 = .ok (.getfield 12, 3) := by decide +kernel
theorem dX2_countUnits_19 : decode cX2_countUnits 19 = .ok (.iload_n 2, 1) := by decide +kernel
theorem dX2_countUnits_20 : decode cX2_countUnits 20 = .ok (.invokevirtual 34, 3) := by decide +kernel
theorem dX2_countUnits_23 : decode cX2_countUnits 23 = .ok (.checkcast 38, 3) := by decide +kernel
theorem dX2_countUnits_26 : decode cX2_countUnits 26 = .ok (.invokevirtual 40, 3) := by decide +kernel
theorem dX2_countUnits_29 : decode cX2_countUnits 29 = .ok (.ifCond .eq 6, 3) := by decide +kernel
theorem dX2_countUnits_32 : decode cX2_countUnits 32 = .ok (.iinc 1 1, 3) := by decide +kernel
theorem dX2_countUnits_35 : decode cX2_countUnits 35 = .ok (.iinc 2 1, 3) := by decide +kernel
theorem dX2_countUnits_38 : decode cX2_countUnits 38 = .ok (.goto (-34), 3) := by decide +kernel
theorem dX2_countUnits_41 : decode cX2_countUnits 41 = .ok (.iload_n 1, 1) := by decide +kernel
theorem dX2_countUnits_42 : decode cX2_countUnits 42 = .ok (.ireturn, 1) := by decide +kernel
theorem dX2_hasCopies_0 : decode cX2_hasCopies 0 = .ok (.iconst 0, 1) := by decide +kernel
theorem dX2_hasCopies_1 : decode cX2_hasCopies 1 = .ok (.istore_n 1, 1) := by decide +kernel
theorem dX2_hasCopies_2 : decode cX2_hasCopies 2 = .ok (.iload_n 1, 1) := by decide +kernel
theorem dX2_hasCopies_3 : decode cX2_hasCopies 3 = .ok (.iconst 4, 1) := by decide +kernel
theorem dX2_hasCopies_4 : decode cX2_hasCopies 4 = .ok (.if_icmp .ge 20, 3) := by decide +kernel
theorem dX2_hasCopies_7 : decode cX2_hasCopies 7 = .ok (.aload_n 0, 1) := by decide +kernel
theorem dX2_hasCopies_8 : decode cX2_hasCopies 8 = .ok (.getfield 22, 3) := by decide +kernel
theorem dX2_hasCopies_11 : decode cX2_hasCopies 11 = .ok (.iload_n 1, 1) := by decide +kernel
theorem dX2_hasCopies_12 : decode cX2_hasCopies 12 = .ok (.iaload, 1) := by decide +kernel
theorem dX2_hasCopies_13 : decode cX2_hasCopies 13 = .ok (.ifCond .le 5, 3) := by decide +kernel
theorem dX2_hasCopies_16 : decode cX2_hasCopies 16 = .ok (.iconst 1, 1) := by decide +kernel
theorem dX2_hasCopies_17 : decode cX2_hasCopies 17 = .ok (.ireturn, 1) := by decide +kernel
theorem dX2_hasCopies_18 : decode cX2_hasCopies 18 = .ok (.iinc 1 1, 3) := by decide +kernel
theorem dX2_hasCopies_21 : decode cX2_hasCopies 21 = .ok (.goto (-19), 3) := by decide +kernel
theorem dX2_hasCopies_24 : decode cX2_hasCopies 24 = .ok (.iconst 0, 1) := by decide +kernel
theorem dX2_hasCopies_25 : decode cX2_hasCopies 25 = .ok (.ireturn, 1) := by decide +kernel
theorem dX2_auditNext_0 : decode cX2_auditNext 0 = .ok (.iconst 4, 1) := by decide +kernel
theorem dX2_auditNext_1 : decode cX2_auditNext 1 = .ok (.aload_n 0, 1) := by decide +kernel
theorem dX2_auditNext_2 : decode cX2_auditNext 2 = .ok (.getfield 12, 3) := by decide +kernel
theorem dX2_auditNext_5 : decode cX2_auditNext 5 = .ok (.invokevirtual 30, 3) := by decide +kernel
theorem dX2_auditNext_8 : decode cX2_auditNext 8 = .ok (.imul, 1) := by decide +kernel
theorem dX2_auditNext_9 : decode cX2_auditNext 9 = .ok (.istore_n 1, 1) := by decide +kernel
theorem dX2_auditNext_10 : decode cX2_auditNext 10 = .ok (.iconst 0, 1) := by decide +kernel
theorem dX2_auditNext_11 : decode cX2_auditNext 11 = .ok (.istore_n 2, 1) := by decide +kernel
theorem dX2_auditNext_12 : decode cX2_auditNext 12 = .ok (.iload_n 2, 1) := by decide +kernel
theorem dX2_auditNext_13 : decode cX2_auditNext 13 = .ok (.iload_n 1, 1) := by decide +kernel
theorem dX2_auditNext_14 : decode cX2_auditNext 14 = .ok (.if_icmp .ge 78, 3) := by decide +kernel
theorem dX2_auditNext_17 : decode cX2_auditNext 17 = .ok (.aload_n 0, 1) := by decide +kernel
theorem dX2_auditNext_18 : decode cX2_auditNext 18 = .ok (.aload_n 0, 1) := by decide +kernel
theorem dX2_auditNext_19 : decode cX2_auditNext 19 = .ok (.getfield 26, 3) := by decide +kernel
theorem dX2_auditNext_22 : decode cX2_auditNext 22 = .ok (.iconst 0, 1) := by decide +kernel
theorem dX2_auditNext_23 : decode cX2_auditNext 23 = .ok (.iload_n 1, 1) := by decide +kernel
theorem dX2_auditNext_24 : decode cX2_auditNext 24 = .ok (.iconst 2, 1) := by decide +kernel
theorem dX2_auditNext_25 : decode cX2_auditNext 25 = .ok (.isub, 1) := by decide +kernel
theorem dX2_auditNext_26 : decode cX2_auditNext 26 = .ok (.invokestatic 122, 3) := by decide +kernel
theorem dX2_auditNext_29 : decode cX2_auditNext 29 = .ok (.ifCond .eq 12, 3) := by decide +kernel
theorem dX2_auditNext_32 : decode cX2_auditNext 32 = .ok (.aload_n 0, 1) := by decide +kernel
theorem dX2_auditNext_33 : decode cX2_auditNext 33 = .ok (.getfield 26, 3) := by decide +kernel
theorem dX2_auditNext_36 : decode cX2_auditNext 36 = .ok (.iconst 1, 1) := by decide +kernel
theorem dX2_auditNext_37 : decode cX2_auditNext 37 = .ok (.iadd, 1) := by decide +kernel
theorem dX2_auditNext_38 : decode cX2_auditNext 38 = .ok (.goto 4, 3) := by decide +kernel
theorem dX2_auditNext_41 : decode cX2_auditNext 41 = .ok (.iconst 0, 1) := by decide +kernel
theorem dX2_auditNext_42 : decode cX2_auditNext 42 = .ok (.putfield 26, 3) := by decide +kernel
theorem dX2_auditNext_45 : decode cX2_auditNext 45 = .ok (.aload_n 0, 1) := by decide +kernel
theorem dX2_auditNext_46 : decode cX2_auditNext 46 = .ok (.getfield 12, 3) := by decide +kernel
theorem dX2_auditNext_49 : decode cX2_auditNext 49 = .ok (.aload_n 0, 1) := by decide +kernel
theorem dX2_auditNext_50 : decode cX2_auditNext 50 = .ok (.getfield 26, 3) := by decide +kernel
theorem dX2_auditNext_53 : decode cX2_auditNext 53 = .ok (.iconst 4, 1) := by decide +kernel
theorem dX2_auditNext_54 : decode cX2_auditNext 54 = .ok (.idiv, 1) := by decide +kernel
theorem dX2_auditNext_55 : decode cX2_auditNext 55 = .ok (.invokevirtual 34, 3) := by decide +kernel
theorem dX2_auditNext_58 : decode cX2_auditNext 58 = .ok (.checkcast 38, 3) := by decide +kernel
theorem dX2_auditNext_61 : decode cX2_auditNext 61 = .ok (.astore_n 3, 1) := by decide +kernel
theorem dX2_auditNext_62 : decode cX2_auditNext 62 = .ok (.aload_n 0, 1) := by decide +kernel
theorem dX2_auditNext_63 : decode cX2_auditNext 63 = .ok (.getfield 26, 3) := by decide +kernel
theorem dX2_auditNext_66 : decode cX2_auditNext 66 = .ok (.iconst 4, 1) := by decide +kernel
theorem dX2_auditNext_67 : decode cX2_auditNext 67 = .ok (.irem, 1) := by decide +kernel
theorem dX2_auditNext_68 : decode cX2_auditNext 68 = .ok (.istore 4, 2) := by decide +kernel
theorem dX2_auditNext_70 : decode cX2_auditNext 70 = .ok (.aload_n 3, 1) := by decide +kernel
theorem dX2_auditNext_71 : decode cX2_auditNext 71 = .ok (.iload 4, 2) := by decide +kernel
theorem dX2_auditNext_73 : decode cX2_auditNext 73 = .ok (.invokevirtual 93, 3) := by decide +kernel
theorem dX2_auditNext_76 : decode cX2_auditNext 76 = .ok (.ifCond .eq 10, 3) := by decide +kernel
theorem dX2_auditNext_79 : decode cX2_auditNext 79 = .ok (.aload_n 3, 1) := by decide +kernel
theorem dX2_auditNext_80 : decode cX2_auditNext 80 = .ok (.iload 4, 2) := by decide +kernel
theorem dX2_auditNext_82 : decode cX2_auditNext 82 = .ok (.invokevirtual 126, 3) := by decide +kernel
theorem dX2_auditNext_85 : decode cX2_auditNext 85 = .ok (.ireturn, 1) := by decide +kernel
theorem dX2_auditNext_86 : decode cX2_auditNext 86 = .ok (.iinc 2 1, 3) := by decide +kernel
theorem dX2_auditNext_89 : decode cX2_auditNext 89 = .ok (.goto (-77), 3) := by decide +kernel
theorem dX2_auditNext_92 : decode cX2_auditNext 92 = .ok (.iconst 0, 1) := by decide +kernel
theorem dX2_auditNext_93 : decode cX2_auditNext 93 = .ok (.ireturn, 1) := by decide +kernel
theorem dX2_placeAllLacking_0 : decode cX2_placeAllLacking 0 = .ok (.iconst 0, 1) := by decide +kernel
theorem dX2_placeAllLacking_1 : decode cX2_placeAllLacking 1 = .ok (.istore_n 1, 1) := by decide +kernel
theorem dX2_placeAllLacking_2 : decode cX2_placeAllLacking 2 = .ok (.iconst 0, 1) := by decide +kernel
theorem dX2_placeAllLacking_3 : decode cX2_placeAllLacking 3 = .ok (.istore_n 2, 1) := by decide +kernel
theorem dX2_placeAllLacking_4 : decode cX2_placeAllLacking 4 = .ok (.iload_n 2, 1) := by decide +kernel
theorem dX2_placeAllLacking_5 : decode cX2_placeAllLacking 5 = .ok (.aload_n 0, 1) := by decide +kernel
theorem dX2_placeAllLacking_6 : decode cX2_placeAllLacking 6 = .ok (.getfield 12, 3) := by decide +kernel
theorem dX2_placeAllLacking_9 : decode cX2_placeAllLacking 9 = .ok (.invokevirtual 30, 3) := by decide +kernel
theorem dX2_placeAllLacking_12 : decode cX2_placeAllLacking 12 = .ok (.if_icmp .ge 36, 3) := by decide +kernel
theorem dX2_placeAllLacking_15 : decode cX2_placeAllLacking 15 = .ok (.aload_n 0, 1) := by decide +kernel
theorem dX2_placeAllLacking_16 : decode cX2_placeAllLacking 16 = .ok (.getfield 12, 3) := by decide +kernel
theorem dX2_placeAllLacking_19 : decode cX2_placeAllLacking 19 = .ok (.iload_n 2, 1) := by decide +kernel
theorem dX2_placeAllLacking_20 : decode cX2_placeAllLacking 20 = .ok (.invokevirtual 34, 3) := by decide +kernel
theorem dX2_placeAllLacking_23 : decode cX2_placeAllLacking 23 = .ok (.checkcast 38, 3) := by decide +kernel
theorem dX2_placeAllLacking_26 : decode cX2_placeAllLacking 26 = .ok (.astore_n 3, 1) := by decide +kernel
theorem dX2_placeAllLacking_27 : decode cX2_placeAllLacking 27 = .ok (.aload_n 3, 1) := by decide +kernel
theorem dX2_placeAllLacking_28 : decode cX2_placeAllLacking 28 = .ok (.invokevirtual 40, 3) := by decide +kernel
theorem dX2_placeAllLacking_31 : decode cX2_placeAllLacking 31 = .ok (.ifCond .eq 11, 3) := by decide +kernel
theorem dX2_placeAllLacking_34 : decode cX2_placeAllLacking 34 = .ok (.iload_n 1, 1) := by decide +kernel
theorem dX2_placeAllLacking_35 : decode cX2_placeAllLacking 35 = .ok (.aload_n 0, 1) := by decide +kernel
theorem dX2_placeAllLacking_36 : decode cX2_placeAllLacking 36 = .ok (.aload_n 3, 1) := by decide +kernel
theorem dX2_placeAllLacking_37 : decode cX2_placeAllLacking 37 = .ok (.invokevirtual 57, 3) := by decide +kernel
theorem dX2_placeAllLacking_40 : decode cX2_placeAllLacking 40 = .ok (.iadd, 1) := by decide +kernel
theorem dX2_placeAllLacking_41 : decode cX2_placeAllLacking 41 = .ok (.istore_n 1, 1) := by decide +kernel
theorem dX2_placeAllLacking_42 : decode cX2_placeAllLacking 42 = .ok (.iinc 2 1, 3) := by decide +kernel
theorem dX2_placeAllLacking_45 : decode cX2_placeAllLacking 45 = .ok (.goto (-41), 3) := by decide +kernel
theorem dX2_placeAllLacking_48 : decode cX2_placeAllLacking 48 = .ok (.iload_n 1, 1) := by decide +kernel
theorem dX2_placeAllLacking_49 : decode cX2_placeAllLacking 49 = .ok (.ireturn, 1) := by decide +kernel
theorem dX2_countLacking_0 : decode cX2_countLacking 0 = .ok (.iconst 0, 1) := by decide +kernel
theorem dX2_countLacking_1 : decode cX2_countLacking 1 = .ok (.istore_n 1, 1) := by decide +kernel
theorem dX2_countLacking_2 : decode cX2_countLacking 2 = .ok (.iconst 0, 1) := by decide +kernel
theorem dX2_countLacking_3 : decode cX2_countLacking 3 = .ok (.istore_n 2, 1) := by decide +kernel
theorem dX2_countLacking_4 : decode cX2_countLacking 4 = .ok (.iload_n 2, 1) := by decide +kernel
theorem dX2_countLacking_5 : decode cX2_countLacking 5 = .ok (.aload_n 0, 1) := by decide +kernel
theorem dX2_countLacking_6 : decode cX2_countLacking 6 = .ok (.getfield 12, 3) := by decide +kernel
theorem dX2_countLacking_9 : decode cX2_countLacking 9 = .ok (.invokevirtual 30, 3) := by decide +kernel
theorem dX2_countLacking_12 : decode cX2_countLacking 12 = .ok (.if_icmp .ge 35, 3) := by decide +kernel
theorem dX2_countLacking_15 : decode cX2_countLacking 15 = .ok (.aload_n 0, 1) := by decide +kernel
theorem dX2_countLacking_16 : decode cX2_countLacking 16 = .ok (.getfield 12, 3) := by decide +kernel
theorem dX2_countLacking_19 : decode cX2_countLacking 19 = .ok (.iload_n 2, 1) := by decide +kernel
theorem dX2_countLacking_20 : decode cX2_countLacking 20 = .ok (.invokevirtual 34, 3) := by decide +kernel
theorem dX2_countLacking_23 : decode cX2_countLacking 23 = .ok (.checkcast 38, 3) := by decide +kernel
theorem dX2_countLacking_26 : decode cX2_countLacking 26 = .ok (.astore_n 3, 1) := by decide +kernel
theorem dX2_countLacking_27 : decode cX2_countLacking 27 = .ok (.aload_n 3, 1) := by decide +kernel
theorem dX2_countLacking_28 : decode cX2_countLacking 28 = .ok (.invokevirtual 40, 3) := by decide +kernel
theorem dX2_countLacking_31 : decode cX2_countLacking 31 = .ok (.ifCond .eq 10, 3) := by decide +kernel
theorem dX2_countLacking_34 : decode cX2_countLacking 34 = .ok (.iload_n 1, 1) := by decide +kernel
theorem dX2_countLacking_35 : decode cX2_countLacking 35 = .ok (.aload_n 3, 1) := by decide +kernel
theorem dX2_countLacking_36 : decode cX2_countLacking 36 = .ok (.invokevirtual 83, 3) := by decide +kernel
theorem dX2_countLacking_39 : decode cX2_countLacking 39 = .ok (.iadd, 1) := by decide +kernel
theorem dX2_countLacking_40 : decode cX2_countLacking 40 = .ok (.istore_n 1, 1) := by decide +kernel
theorem dX2_countLacking_41 : decode cX2_countLacking 41 = .ok (.iinc 2 1, 3) := by decide +kernel
theorem dX2_countLacking_44 : decode cX2_countLacking 44 = .ok (.goto (-40), 3) := by decide +kernel
theorem dX2_countLacking_47 : decode cX2_countLacking 47 = .ok (.iload_n 1, 1) := by decide +kernel
theorem dX2_countLacking_48 : decode cX2_countLacking 48 = .ok (.ireturn, 1) := by decide +kernel
theorem dX3_init_0 : decode cX3_init 0 = .ok (.aload_n 0, 1) := by decide +kernel
theorem dX3_init_1 : decode cX3_init 1 = .ok (.invokespecial 3, 3) := by decide +kernel
theorem dX3_init_4 : decode cX3_init 4 = .ok (.aload_n 0, 1) := by decide +kernel
theorem dX3_init_5 : decode cX3_init 5 = .ok (.iconst 4, 1) := by decide +kernel
theorem dX3_init_6 : decode cX3_init 6 = .ok (.newarray .boolean, 2) := by decide +kernel
theorem dX3_init_8 : decode cX3_init 8 = .ok (.putfield 9, 3) := by decide +kernel
theorem dX3_init_11 : decode cX3_init 11 = .ok (.aload_n 0, 1) := by decide +kernel
theorem dX3_init_12 : decode cX3_init 12 = .ok (.iconst 4, 1) := by decide +kernel
theorem dX3_init_13 : decode cX3_init 13 = .ok (.newarray .int, 2) := by decide +kernel
theorem dX3_init_15 : decode cX3_init 15 = .ok (.putfield 15, 3) := by decide +kernel
theorem dX3_init_18 : decode cX3_init 18 = .ok (.aload_n 0, 1) := by decide +kernel
theorem dX3_init_19 : decode cX3_init 19 = .ok (.iload_n 1, 1) := by decide +kernel
theorem dX3_init_20 : decode cX3_init 20 = .ok (.putfield 19, 3) := by decide +kernel
theorem dX3_init_23 : decode cX3_init 23 = .ok (.aload_n 0, 1) := by decide +kernel
theorem dX3_init_24 : decode cX3_init 24 = .ok (.iload_n 2, 1) := by decide +kernel
theorem dX3_init_25 : decode cX3_init 25 = .ok (.putfield 23, 3) := by decide +kernel
theorem dX3_init_28 : decode cX3_init 28 = .ok (.aload_n 0, 1) := by decide +kernel
theorem dX3_init_29 : decode cX3_init 29 = .ok (.iload_n 3, 1) := by decide +kernel
theorem dX3_init_30 : decode cX3_init 30 = .ok (.putfield 27, 3) := by decide +kernel
theorem dX3_init_33 : decode cX3_init 33 = .ok (.aload_n 0, 1) := by decide +kernel
theorem dX3_init_34 : decode cX3_init 34 = .ok (.iload_n 3, 1) := by decide +kernel
theorem dX3_init_35 : decode cX3_init 35 = .ok (.bipush 97, 2) := by decide +kernel
theorem dX3_init_37 : decode cX3_init 37 = .ok (.invokestatic 30, 3) := by decide +kernel
theorem dX3_init_40 : decode cX3_init 40 = .ok (.putfield 36, 3) := by decide +kernel
theorem dX3_init_43 : decode cX3_init 43 = .ok (.return_, 1) := by decide +kernel
theorem dX3_isNeeded_0 : decode cX3_isNeeded 0 = .ok (.aload_n 0, 1) := by decide +kernel
theorem dX3_isNeeded_1 : decode cX3_isNeeded 1 = .ok (.getfield 39, 3) := by decide +kernel
theorem dX3_isNeeded_4 : decode cX3_isNeeded 4 = .ok (.ifCond .le 7, 3) := by decide +kernel
theorem dX3_isNeeded_7 : decode cX3_isNeeded 7 = .ok (.iconst 1, 1) := by decide +kernel
theorem dX3_isNeeded_8 : decode cX3_isNeeded 8 = .ok (.goto 4, 3) := by decide +kernel
theorem dX3_isNeeded_11 : decode cX3_isNeeded 11 = .ok (.iconst 0, 1) := by decide +kernel
theorem dX3_isNeeded_12 : decode cX3_isNeeded 12 = .ok (.ireturn, 1) := by decide +kernel
theorem dX3_isAlike_0 : decode cX3_isAlike 0 = .ok (.aload_n 0, 1) := by decide +kernel
theorem dX3_isAlike_1 : decode cX3_isAlike 1 = .ok (.getfield 23, 3) := by decide +kernel
theorem dX3_isAlike_4 : decode cX3_isAlike 4 = .ok (.iload_n 1, 1) := by decide +kernel
theorem dX3_isAlike_5 : decode cX3_isAlike 5 = .ok (.if_icmp .ne 15, 3) := by decide +kernel
theorem dX3_isAlike_8 : decode cX3_isAlike 8 = .ok (.aload_n 0, 1) := by decide +kernel
theorem dX3_isAlike_9 : decode cX3_isAlike 9 = .ok (.getfield 27, 3) := by decide +kernel
theorem dX3_isAlike_12 : decode cX3_isAlike 12 = .ok (.iload_n 2, 1) := by decide +kernel
theorem dX3_isAlike_13 : decode cX3_isAlike 13 = .ok (.if_icmp .ne 7, 3) := by decide +kernel
theorem dX3_isAlike_16 : decode cX3_isAlike 16 = .ok (.iconst 1, 1) := by decide +kernel
theorem dX3_isAlike_17 : decode cX3_isAlike 17 = .ok (.goto 4, 3) := by decide +kernel
theorem dX3_isAlike_20 : decode cX3_isAlike 20 = .ok (.iconst 0, 1) := by decide +kernel
theorem dX3_isAlike_21 : decode cX3_isAlike 21 = .ok (.ireturn, 1) := by decide +kernel
theorem dX3_hasCopyAt_0 : decode cX3_hasCopyAt 0 = .ok (.iload_n 1, 1) := by decide +kernel
theorem dX3_hasCopyAt_1 : decode cX3_hasCopyAt 1 = .ok (.ifCond .lt 21, 3) := by decide +kernel
theorem dX3_hasCopyAt_4 : decode cX3_hasCopyAt 4 = .ok (.iload_n 1, 1) := by decide +kernel
theorem dX3_hasCopyAt_5 : decode cX3_hasCopyAt 5 = .ok (.iconst 4, 1) := by decide +kernel
theorem dX3_hasCopyAt_6 : decode cX3_hasCopyAt 6 = .ok (.if_icmp .ge 16, 3) := by decide +kernel
theorem dX3_hasCopyAt_9 : decode cX3_hasCopyAt 9 = .ok (.aload_n 0, 1) := by decide +kernel
theorem dX3_hasCopyAt_10 : decode cX3_hasCopyAt 10 = .ok (.getfield 9, 3) := by decide +kernel
theorem dX3_hasCopyAt_13 : decode cX3_hasCopyAt 13 = .ok (.iload_n 1, 1) := by decide +kernel
theorem dX3_hasCopyAt_14 : decode cX3_hasCopyAt 14 = .ok (.baload, 1) := by decide +kernel
theorem dX3_hasCopyAt_15 : decode cX3_hasCopyAt 15 = .ok (.ifCond .eq 7, 3) := by decide +kernel
theorem dX3_hasCopyAt_18 : decode cX3_hasCopyAt 18 = .ok (.iconst 1, 1) := by decide +kernel
theorem dX3_hasCopyAt_19 : decode cX3_hasCopyAt 19 = .ok (.goto 4, 3) := by decide +kernel
theorem dX3_hasCopyAt_22 : decode cX3_hasCopyAt 22 = .ok (.iconst 0, 1) := by decide +kernel
theorem dX3_hasCopyAt_23 : decode cX3_hasCopyAt 23 = .ok (.ireturn, 1) := by decide +kernel
theorem dX3_isSoundAt_0 : decode cX3_isSoundAt 0 = .ok (.aload_n 0, 1) := by decide +kernel
theorem dX3_isSoundAt_1 : decode cX3_isSoundAt 1 = .ok (.iload_n 1, 1) := by decide +kernel
theorem dX3_isSoundAt_2 : decode cX3_isSoundAt 2 = .ok (.invokevirtual 42, 3) := by decide +kernel
theorem dX3_isSoundAt_5 : decode cX3_isSoundAt 5 = .ok (.ifCond .eq 25, 3) := by decide +kernel
theorem dX3_isSoundAt_8 : decode cX3_isSoundAt 8 = .ok (.aload_n 0, 1) := by decide +kernel
theorem dX3_isSoundAt_9 : decode cX3_isSoundAt 9 = .ok (.getfield 15, 3) := by decide +kernel
theorem dX3_isSoundAt_12 : decode cX3_isSoundAt 12 = .ok (.iload_n 1, 1) := by decide +kernel
theorem dX3_isSoundAt_13 : decode cX3_isSoundAt 13 = .ok (.iaload, 1) := by decide +kernel
theorem dX3_isSoundAt_14 : decode cX3_isSoundAt 14 = .ok (.bipush 97, 2) := by decide +kernel
theorem dX3_isSoundAt_16 : decode cX3_isSoundAt 16 = .ok (.invokestatic 30, 3) := by decide +kernel
theorem dX3_isSoundAt_19 : decode cX3_isSoundAt 19 = .ok (.aload_n 0, 1) := by decide +kernel
theorem dX3_isSoundAt_20 : decode cX3_isSoundAt 20 = .ok (.getfield 36, 3) := by decide +kernel
theorem dX3_isSoundAt_23 : decode cX3_isSoundAt 23 = .ok (.if_icmp .ne 7, 3) := by decide +kernel
theorem dX3_isSoundAt_26 : decode cX3_isSoundAt 26 = .ok (.iconst 1, 1) := by decide +kernel
theorem dX3_isSoundAt_27 : decode cX3_isSoundAt 27 = .ok (.goto 4, 3) := by decide +kernel
theorem dX3_isSoundAt_30 : decode cX3_isSoundAt 30 = .ok (.iconst 0, 1) := by decide +kernel
theorem dX3_isSoundAt_31 : decode cX3_isSoundAt 31 = .ok (.ireturn, 1) := by decide +kernel
theorem dX3_changeAt_0 : decode cX3_changeAt 0 = .ok (.aload_n 0, 1) := by decide +kernel
theorem dX3_changeAt_1 : decode cX3_changeAt 1 = .ok (.iload_n 1, 1) := by decide +kernel
theorem dX3_changeAt_2 : decode cX3_changeAt 2 = .ok (.invokevirtual 42, 3) := by decide +kernel
theorem dX3_changeAt_5 : decode cX3_changeAt 5 = .ok (.ifCond .eq 13, 3) := by decide +kernel
theorem dX3_changeAt_8 : decode cX3_changeAt 8 = .ok (.aload_n 0, 1) := by decide +kernel
theorem dX3_changeAt_9 : decode cX3_changeAt 9 = .ok (.getfield 15, 3) := by decide +kernel
theorem dX3_changeAt_12 : decode cX3_changeAt 12 = .ok (.iload_n 1, 1) := by decide +kernel
theorem dX3_changeAt_13 : decode cX3_changeAt 13 = .ok (.dup2, 1) := by decide +kernel
theorem dX3_changeAt_14 : decode cX3_changeAt 14 = .ok (.iaload, 1) := by decide +kernel
theorem dX3_changeAt_15 : decode cX3_changeAt 15 = .ok (.iload_n 2, 1) := by decide +kernel
theorem dX3_changeAt_16 : decode cX3_changeAt 16 = .ok (.iadd, 1) := by decide +kernel
theorem dX3_changeAt_17 : decode cX3_changeAt 17 = .ok (.iastore, 1) := by decide +kernel
theorem dX3_changeAt_18 : decode cX3_changeAt 18 = .ok (.return_, 1) := by decide +kernel
theorem dX3_placeAt_0 : decode cX3_placeAt 0 = .ok (.iload_n 1, 1) := by decide +kernel
theorem dX3_placeAt_1 : decode cX3_placeAt 1 = .ok (.ifCond .lt 22, 3) := by decide +kernel
theorem dX3_placeAt_4 : decode cX3_placeAt 4 = .ok (.iload_n 1, 1) := by decide +kernel
theorem dX3_placeAt_5 : decode cX3_placeAt 5 = .ok (.iconst 4, 1) := by decide +kernel
theorem dX3_placeAt_6 : decode cX3_placeAt 6 = .ok (.if_icmp .ge 17, 3) := by decide +kernel
theorem dX3_placeAt_9 : decode cX3_placeAt 9 = .ok (.aload_n 0, 1) := by decide +kernel
theorem dX3_placeAt_10 : decode cX3_placeAt 10 = .ok (.getfield 9, 3) := by decide +kernel
theorem dX3_placeAt_13 : decode cX3_placeAt 13 = .ok (.iload_n 1, 1) := by decide +kernel
theorem dX3_placeAt_14 : decode cX3_placeAt 14 = .ok (.iconst 1, 1) := by decide +kernel
theorem dX3_placeAt_15 : decode cX3_placeAt 15 = .ok (.bastore, 1) := by decide +kernel
theorem dX3_placeAt_16 : decode cX3_placeAt 16 = .ok (.aload_n 0, 1) := by decide +kernel
theorem dX3_placeAt_17 : decode cX3_placeAt 17 = .ok (.getfield 15, 3) := by decide +kernel
theorem dX3_placeAt_20 : decode cX3_placeAt 20 = .ok (.iload_n 1, 1) := by decide +kernel
theorem dX3_placeAt_21 : decode cX3_placeAt 21 = .ok (.iload_n 2, 1) := by decide +kernel
theorem dX3_placeAt_22 : decode cX3_placeAt 22 = .ok (.iastore, 1) := by decide +kernel
theorem dX3_placeAt_23 : decode cX3_placeAt 23 = .ok (.return_, 1) := by decide +kernel
theorem dX3_dropAt_0 : decode cX3_dropAt 0 = .ok (.iload_n 1, 1) := by decide +kernel
theorem dX3_dropAt_1 : decode cX3_dropAt 1 = .ok (.ifCond .lt 15, 3) := by decide +kernel
theorem dX3_dropAt_4 : decode cX3_dropAt 4 = .ok (.iload_n 1, 1) := by decide +kernel
theorem dX3_dropAt_5 : decode cX3_dropAt 5 = .ok (.iconst 4, 1) := by decide +kernel
theorem dX3_dropAt_6 : decode cX3_dropAt 6 = .ok (.if_icmp .ge 10, 3) := by decide +kernel
theorem dX3_dropAt_9 : decode cX3_dropAt 9 = .ok (.aload_n 0, 1) := by decide +kernel
theorem dX3_dropAt_10 : decode cX3_dropAt 10 = .ok (.getfield 9, 3) := by decide +kernel
theorem dX3_dropAt_13 : decode cX3_dropAt 13 = .ok (.iload_n 1, 1) := by decide +kernel
theorem dX3_dropAt_14 : decode cX3_dropAt 14 = .ok (.iconst 0, 1) := by decide +kernel
theorem dX3_dropAt_15 : decode cX3_dropAt 15 = .ok (.bastore, 1) := by decide +kernel
theorem dX3_dropAt_16 : decode cX3_dropAt 16 = .ok (.return_, 1) := by decide +kernel
theorem dX3_siteSet_0 : decode cX3_siteSet 0 = .ok (.iconst 0, 1) := by decide +kernel
theorem dX3_siteSet_1 : decode cX3_siteSet 1 = .ok (.istore_n 1, 1) := by decide +kernel
theorem dX3_siteSet_2 : decode cX3_siteSet 2 = .ok (.iconst 0, 1) := by decide +kernel
theorem dX3_siteSet_3 : decode cX3_siteSet 3 = .ok (.istore_n 2, 1) := by decide +kernel
theorem dX3_siteSet_4 : decode cX3_siteSet 4 = .ok (.iload_n 2, 1) := by decide +kernel
theorem dX3_siteSet_5 : decode cX3_siteSet 5 = .ok (.iconst 4, 1) := by decide +kernel
theorem dX3_siteSet_6 : decode cX3_siteSet 6 = .ok (.if_icmp .ge 24, 3) := by decide +kernel
theorem dX3_siteSet_9 : decode cX3_siteSet 9 = .ok (.aload_n 0, 1) := by decide +kernel
theorem dX3_siteSet_10 : decode cX3_siteSet 10 = .ok (.getfield 9, 3) := by decide +kernel
theorem dX3_siteSet_13 : decode cX3_siteSet 13 = .ok (.iload_n 2, 1) := by decide +kernel
theorem dX3_siteSet_14 : decode cX3_siteSet 14 = .ok (.baload, 1) := by decide +kernel
theorem dX3_siteSet_15 : decode cX3_siteSet 15 = .ok (.ifCond .eq 9, 3) := by decide +kernel
theorem dX3_siteSet_18 : decode cX3_siteSet 18 = .ok (.iload_n 1, 1) := by decide +kernel
theorem dX3_siteSet_19 : decode cX3_siteSet 19 = .ok (.iconst 1, 1) := by decide +kernel
theorem dX3_siteSet_20 : decode cX3_siteSet 20 = .ok (.iload_n 2, 1) := by decide +kernel
theorem dX3_siteSet_21 : decode cX3_siteSet 21 = .ok (.ishl, 1) := by decide +kernel
theorem dX3_siteSet_22 : decode cX3_siteSet 22 = .ok (.ior, 1) := by decide +kernel
theorem dX3_siteSet_23 : decode cX3_siteSet 23 = .ok (.istore_n 1, 1) := by decide +kernel
theorem dX3_siteSet_24 : decode cX3_siteSet 24 = .ok (.iinc 2 1, 3) := by decide +kernel
theorem dX3_siteSet_27 : decode cX3_siteSet 27 = .ok (.goto (-23), 3) := by decide +kernel
theorem dX3_siteSet_30 : decode cX3_siteSet 30 = .ok (.iload_n 1, 1) := by decide +kernel
theorem dX3_siteSet_31 : decode cX3_siteSet 31 = .ok (.ireturn, 1) := by decide +kernel
theorem dX3_countLacking_0 : decode cX3_countLacking 0 = .ok (.iconst 0, 1) := by decide +kernel
theorem dX3_countLacking_1 : decode cX3_countLacking 1 = .ok (.aload_n 0, 1) := by decide +kernel
theorem dX3_countLacking_2 : decode cX3_countLacking 2 = .ok (.getfield 46, 3) := by decide +kernel
theorem dX3_countLacking_5 : decode cX3_countLacking 5 = .ok (.aload_n 0, 1) := by decide +kernel
theorem dX3_countLacking_6 : decode cX3_countLacking 6 = .ok (.invokevirtual 49, 3) := by decide +kernel
theorem dX3_countLacking_9 : decode cX3_countLacking 9 = .ok (.invokestatic 53, 3) := by decide +kernel
theorem dX3_countLacking_12 : decode cX3_countLacking 12 = .ok (.isub, 1) := by decide +kernel
theorem dX3_countLacking_13 : decode cX3_countLacking 13 = .ok (.invokestatic 59, 3) := by decide +kernel
theorem dX3_countLacking_16 : decode cX3_countLacking 16 = .ok (.ireturn, 1) := by decide +kernel
theorem dX3_countSound_0 : decode cX3_countSound 0 = .ok (.iconst 0, 1) := by decide +kernel
theorem dX3_countSound_1 : decode cX3_countSound 1 = .ok (.istore_n 1, 1) := by decide +kernel
theorem dX3_countSound_2 : decode cX3_countSound 2 = .ok (.iconst 0, 1) := by decide +kernel
theorem dX3_countSound_3 : decode cX3_countSound 3 = .ok (.istore_n 2, 1) := by decide +kernel
theorem dX3_countSound_4 : decode cX3_countSound 4 = .ok (.iload_n 2, 1) := by decide +kernel
theorem dX3_countSound_5 : decode cX3_countSound 5 = .ok (.iconst 4, 1) := by decide +kernel
theorem dX3_countSound_6 : decode cX3_countSound 6 = .ok (.if_icmp .ge 20, 3) := by decide +kernel
theorem dX3_countSound_9 : decode cX3_countSound 9 = .ok (.aload_n 0, 1) := by decide +kernel
theorem dX3_countSound_10 : decode cX3_countSound 10 = .ok (.iload_n 2, 1) := by decide +kernel
theorem dX3_countSound_11 : decode cX3_countSound 11 = .ok (.invokevirtual 62, 3) := by decide +kernel
theorem dX3_countSound_14 : decode cX3_countSound 14 = .ok (.ifCond .eq 6, 3) := by decide +kernel
theorem dX3_countSound_17 : decode cX3_countSound 17 = .ok (.iinc 1 1, 3) := by decide +kernel
theorem dX3_countSound_20 : decode cX3_countSound 20 = .ok (.iinc 2 1, 3) := by decide +kernel
theorem dX3_countSound_23 : decode cX3_countSound 23 = .ok (.goto (-19), 3) := by decide +kernel
theorem dX3_countSound_26 : decode cX3_countSound 26 = .ok (.iload_n 1, 1) := by decide +kernel
theorem dX3_countSound_27 : decode cX3_countSound 27 = .ok (.ireturn, 1) := by decide +kernel
theorem dX3_goodSite_0 : decode cX3_goodSite 0 = .ok (.iconst (-1), 1) := by decide +kernel
theorem dX3_goodSite_1 : decode cX3_goodSite 1 = .ok (.istore_n 1, 1) := by decide +kernel
theorem dX3_goodSite_2 : decode cX3_goodSite 2 = .ok (.iconst 0, 1) := by decide +kernel
theorem dX3_goodSite_3 : decode cX3_goodSite 3 = .ok (.istore_n 2, 1) := by decide +kernel
theorem dX3_goodSite_4 : decode cX3_goodSite 4 = .ok (.iconst 0, 1) := by decide +kernel
theorem dX3_goodSite_5 : decode cX3_goodSite 5 = .ok (.istore_n 3, 1) := by decide +kernel
theorem dX3_goodSite_6 : decode cX3_goodSite 6 = .ok (.iload_n 3, 1) := by decide +kernel
theorem dX3_goodSite_7 : decode cX3_goodSite 7 = .ok (.iconst 4, 1) := by decide +kernel
theorem dX3_goodSite_8 : decode cX3_goodSite 8 = .ok (.if_icmp .ge 44, 3) := by decide +kernel
theorem dX3_goodSite_11 : decode cX3_goodSite 11 = .ok (.aload_n 0, 1) := by decide +kernel
theorem dX3_goodSite_12 : decode cX3_goodSite 12 = .ok (.iload_n 3, 1) := by decide +kernel
theorem dX3_goodSite_13 : decode cX3_goodSite 13 = .ok (.invokevirtual 62, 3) := by decide +kernel
theorem dX3_goodSite_16 : decode cX3_goodSite 16 = .ok (.ifCond .eq 30, 3) := by decide +kernel
theorem dX3_goodSite_19 : decode cX3_goodSite 19 = .ok (.aload_n 0, 1) := by decide +kernel
theorem dX3_goodSite_20 : decode cX3_goodSite 20 = .ok (.aload_n 0, 1) := by decide +kernel
theorem dX3_goodSite_21 : decode cX3_goodSite 21 = .ok (.getfield 15, 3) := by decide +kernel
theorem dX3_goodSite_24 : decode cX3_goodSite 24 = .ok (.iload_n 3, 1) := by decide +kernel
theorem dX3_goodSite_25 : decode cX3_goodSite 25 = .ok (.iaload, 1) := by decide +kernel
theorem dX3_goodSite_26 : decode cX3_goodSite 26 = .ok (.invokevirtual 65, 3) := by decide +kernel
theorem dX3_goodSite_29 : decode cX3_goodSite 29 = .ok (.iload_n 2, 1) := by decide +kernel
theorem dX3_goodSite_30 : decode cX3_goodSite 30 = .ok (.if_icmp .le 16, 3) := by decide +kernel
theorem dX3_goodSite_33 : decode cX3_goodSite 33 = .ok (.iload_n 3, 1) := by decide +kernel
theorem dX3_goodSite_34 : decode cX3_goodSite 34 = .ok (.istore_n 1, 1) := by decide +kernel
theorem dX3_goodSite_35 : decode cX3_goodSite 35 = .ok (.aload_n 0, 1) := by decide +kernel
theorem dX3_goodSite_36 : decode cX3_goodSite 36 = .ok (.aload_n 0, 1) := by decide +kernel
theorem dX3_goodSite_37 : decode cX3_goodSite 37 = .ok (.getfield 15, 3) := by decide +kernel
theorem dX3_goodSite_40 : decode cX3_goodSite 40 = .ok (.iload_n 3, 1) := by decide +kernel
theorem dX3_goodSite_41 : decode cX3_goodSite 41 = .ok (.iaload, 1) := by decide +kernel
theorem dX3_goodSite_42 : decode cX3_goodSite 42 = .ok (.invokevirtual 65, 3) := by decide +kernel
theorem dX3_goodSite_45 : decode cX3_goodSite 45 = .ok (.istore_n 2, 1) := by decide +kernel
theorem dX3_goodSite_46 : decode cX3_goodSite 46 = .ok (.iinc 3 1, 3) := by decide +kernel
theorem dX3_goodSite_49 : decode cX3_goodSite 49 = .ok (.goto (-43), 3) := by decide +kernel
theorem dX3_goodSite_52 : decode cX3_goodSite 52 = .ok (.iload_n 1, 1) := by decide +kernel
theorem dX3_goodSite_53 : decode cX3_goodSite 53 = .ok (.ireturn, 1) := by decide +kernel
theorem dX3_goodValue_0 : decode cX3_goodValue 0 = .ok (.aload_n 0, 1) := by decide +kernel
theorem dX3_goodValue_1 : decode cX3_goodValue 1 = .ok (.aload_n 0, 1) := by decide +kernel
theorem dX3_goodValue_2 : decode cX3_goodValue 2 = .ok (.invokevirtual 68, 3) := by decide +kernel
theorem dX3_goodValue_5 : decode cX3_goodValue 5 = .ok (.invokevirtual 71, 3) := by decide +kernel
theorem dX3_goodValue_8 : decode cX3_goodValue 8 = .ok (.ireturn, 1) := by decide +kernel
theorem dX3_heldAt_0 : decode cX3_heldAt 0 = .ok (.aload_n 0, 1) := by decide +kernel
theorem dX3_heldAt_1 : decode cX3_heldAt 1 = .ok (.iload_n 1, 1) := by decide +kernel
theorem dX3_heldAt_2 : decode cX3_heldAt 2 = .ok (.invokevirtual 42, 3) := by decide +kernel
theorem dX3_heldAt_5 : decode cX3_heldAt 5 = .ok (.ifCond .eq 12, 3) := by decide +kernel
theorem dX3_heldAt_8 : decode cX3_heldAt 8 = .ok (.aload_n 0, 1) := by decide +kernel
theorem dX3_heldAt_9 : decode cX3_heldAt 9 = .ok (.getfield 15, 3) := by decide +kernel
theorem dX3_heldAt_12 : decode cX3_heldAt 12 = .ok (.iload_n 1, 1) := by decide +kernel
theorem dX3_heldAt_13 : decode cX3_heldAt 13 = .ok (.iaload, 1) := by decide +kernel
theorem dX3_heldAt_14 : decode cX3_heldAt 14 = .ok (.goto 4, 3) := by decide +kernel
theorem dX3_heldAt_17 : decode cX3_heldAt 17 = .ok (.iconst 0, 1) := by decide +kernel
theorem dX3_heldAt_18 : decode cX3_heldAt 18 = .ok (.ireturn, 1) := by decide +kernel
theorem dX3_countOf_0 : decode cX3_countOf 0 = .ok (.iconst 0, 1) := by decide +kernel
theorem dX3_countOf_1 : decode cX3_countOf 1 = .ok (.istore_n 2, 1) := by decide +kernel
theorem dX3_countOf_2 : decode cX3_countOf 2 = .ok (.iconst 0, 1) := by decide +kernel
theorem dX3_countOf_3 : decode cX3_countOf 3 = .ok (.istore_n 3, 1) := by decide +kernel
theorem dX3_countOf_4 : decode cX3_countOf 4 = .ok (.iload_n 3, 1) := by decide +kernel
theorem dX3_countOf_5 : decode cX3_countOf 5 = .ok (.iconst 4, 1) := by decide +kernel
theorem dX3_countOf_6 : decode cX3_countOf 6 = .ok (.if_icmp .ge 31, 3) := by decide +kernel
theorem dX3_countOf_9 : decode cX3_countOf 9 = .ok (.aload_n 0, 1) := by decide +kernel
theorem dX3_countOf_10 : decode cX3_countOf 10 = .ok (.getfield 9, 3) := by decide +kernel
theorem dX3_countOf_13 : decode cX3_countOf 13 = .ok (.iload_n 3, 1) := by decide +kernel
theorem dX3_countOf_14 : decode cX3_countOf 14 = .ok (.baload, 1) := by decide +kernel
theorem dX3_countOf_15 : decode cX3_countOf 15 = .ok (.ifCond .eq 16, 3) := by decide +kernel
theorem dX3_countOf_18 : decode cX3_countOf 18 = .ok (.aload_n 0, 1) := by decide +kernel
theorem dX3_countOf_19 : decode cX3_countOf 19 = .ok (.getfield 15, 3) := by decide +kernel
theorem dX3_countOf_22 : decode cX3_countOf 22 = .ok (.iload_n 3, 1) := by decide +kernel
theorem dX3_countOf_23 : decode cX3_countOf 23 = .ok (.iaload, 1) := by decide +kernel
theorem dX3_countOf_24 : decode cX3_countOf 24 = .ok (.iload_n 1, 1) := by decide +kernel
theorem dX3_countOf_25 : decode cX3_countOf 25 = .ok (.if_icmp .ne 6, 3) := by decide +kernel
theorem dX3_countOf_28 : decode cX3_countOf 28 = .ok (.iinc 2 1, 3) := by decide +kernel
theorem dX3_countOf_31 : decode cX3_countOf 31 = .ok (.iinc 3 1, 3) := by decide +kernel
theorem dX3_countOf_34 : decode cX3_countOf 34 = .ok (.goto (-30), 3) := by decide +kernel
theorem dX3_countOf_37 : decode cX3_countOf 37 = .ok (.iload_n 2, 1) := by decide +kernel
theorem dX3_countOf_38 : decode cX3_countOf 38 = .ok (.ireturn, 1) := by decide +kernel
theorem dX3_repairAt_0 : decode cX3_repairAt 0 = .ok (.aload_n 0, 1) := by decide +kernel
theorem dX3_repairAt_1 : decode cX3_repairAt 1 = .ok (.invokevirtual 68, 3) := by decide +kernel
theorem dX3_repairAt_4 : decode cX3_repairAt 4 = .ok (.istore_n 2, 1) := by decide +kernel
theorem dX3_repairAt_5 : decode cX3_repairAt 5 = .ok (.aload_n 0, 1) := by decide +kernel
theorem dX3_repairAt_6 : decode cX3_repairAt 6 = .ok (.iload_n 2, 1) := by decide +kernel
theorem dX3_repairAt_7 : decode cX3_repairAt 7 = .ok (.invokevirtual 42, 3) := by decide +kernel
theorem dX3_repairAt_10 : decode cX3_repairAt 10 = .ok (.ifCond .eq 26, 3) := by decide +kernel
theorem dX3_repairAt_13 : decode cX3_repairAt 13 = .ok (.aload_n 0, 1) := by decide +kernel
theorem dX3_repairAt_14 : decode cX3_repairAt 14 = .ok (.iload_n 1, 1) := by decide +kernel
theorem dX3_repairAt_15 : decode cX3_repairAt 15 = .ok (.invokevirtual 42, 3) := by decide +kernel
theorem dX3_repairAt_18 : decode cX3_repairAt 18 = .ok (.ifCond .eq 18, 3) := by decide +kernel
theorem dX3_repairAt_21 : decode cX3_repairAt 21 = .ok (.aload_n 0, 1) := by decide +kernel
theorem dX3_repairAt_22 : decode cX3_repairAt 22 = .ok (.getfield 15, 3) := by decide +kernel
theorem dX3_repairAt_25 : decode cX3_repairAt 25 = .ok (.iload_n 1, 1) := by decide +kernel
theorem dX3_repairAt_26 : decode cX3_repairAt 26 = .ok (.iaload, 1) := by decide +kernel
theorem dX3_repairAt_27 : decode cX3_repairAt 27 = .ok (.aload_n 0, 1) := by decide +kernel
theorem dX3_repairAt_28 : decode cX3_repairAt 28 = .ok (.getfield 15, 3) := by decide +kernel
theorem dX3_repairAt_31 : decode cX3_repairAt 31 = .ok (.iload_n 2, 1) := by decide +kernel
theorem dX3_repairAt_32 : decode cX3_repairAt 32 = .ok (.iaload, 1) := by decide +kernel
theorem dX3_repairAt_33 : decode cX3_repairAt 33 = .ok (.if_icmp .ne 5, 3) := by decide +kernel
theorem dX3_repairAt_36 : decode cX3_repairAt 36 = .ok (.iconst 0, 1) := by decide +kernel
theorem dX3_repairAt_37 : decode cX3_repairAt 37 = .ok (.ireturn, 1) := by decide +kernel
theorem dX3_repairAt_38 : decode cX3_repairAt 38 = .ok (.aload_n 0, 1) := by decide +kernel
theorem dX3_repairAt_39 : decode cX3_repairAt 39 = .ok (.getfield 15, 3) := by decide +kernel
theorem dX3_repairAt_42 : decode cX3_repairAt 42 = .ok (.iload_n 1, 1) := by decide +kernel
theorem dX3_repairAt_43 : decode cX3_repairAt 43 = .ok (.aload_n 0, 1) := by decide +kernel
theorem dX3_repairAt_44 : decode cX3_repairAt 44 = .ok (.getfield 15, 3) := by decide +kernel
theorem dX3_repairAt_47 : decode cX3_repairAt 47 = .ok (.iload_n 2, 1) := by decide +kernel
theorem dX3_repairAt_48 : decode cX3_repairAt 48 = .ok (.iaload, 1) := by decide +kernel
theorem dX3_repairAt_49 : decode cX3_repairAt 49 = .ok (.iastore, 1) := by decide +kernel
theorem dX3_repairAt_50 : decode cX3_repairAt 50 = .ok (.iconst 1, 1) := by decide +kernel
theorem dX3_repairAt_51 : decode cX3_repairAt 51 = .ok (.ireturn, 1) := by decide +kernel
theorem dX4_init_0 : decode cX4_init 0 = .ok (.aload_n 0, 1) := by decide +kernel
theorem dX4_init_1 : decode cX4_init 1 = .ok (.invokespecial 3, 3) := by decide +kernel
theorem dX4_init_4 : decode cX4_init 4 = .ok (.aload_n 0, 1) := by decide +kernel
theorem dX4_init_5 : decode cX4_init 5 = .ok (.iconst 1, 1) := by decide +kernel
theorem dX4_init_6 : decode cX4_init 6 = .ok (.putfield 9, 3) := by decide +kernel
theorem dX4_init_9 : decode cX4_init 9 = .ok (.aload_n 0, 1) := by decide +kernel
theorem dX4_init_10 : decode cX4_init 10 = .ok (.aload_n 1, 1) := by decide +kernel
theorem dX4_init_11 : decode cX4_init 11 = .ok (.putfield 15, 3) := by decide +kernel
theorem dX4_init_14 : decode cX4_init 14 = .ok (.aload_n 0, 1) := by decide +kernel
theorem dX4_init_15 : decode cX4_init 15 = .ok (.aload_n 2, 1) := by decide +kernel
theorem dX4_init_16 : decode cX4_init 16 = .ok (.putfield 19, 3) := by decide +kernel
theorem dX4_init_19 : decode cX4_init 19 = .ok (.aload_n 0, 1) := by decide +kernel
theorem dX4_init_20 : decode cX4_init 20 = .ok (.iload_n 3, 1) := by decide +kernel
theorem dX4_init_21 : decode cX4_init 21 = .ok (.putfield 23, 3) := by decide +kernel
theorem dX4_init_24 : decode cX4_init 24 = .ok (.aload_n 0, 1) := by decide +kernel
theorem dX4_init_25 : decode cX4_init 25 = .ok (.iload 4, 2) := by decide +kernel
theorem dX4_init_27 : decode cX4_init 27 = .ok (.putfield 27, 3) := by decide +kernel
theorem dX4_init_30 : decode cX4_init 30 = .ok (.return_, 1) := by decide +kernel
theorem dX4_claimUnits_0 : decode cX4_claimUnits 0 = .ok (.aload_n 0, 1) := by decide +kernel
theorem dX4_claimUnits_1 : decode cX4_claimUnits 1 = .ok (.astore_n 1, 1) := by decide +kernel
theorem dX4_claimUnits_2 : decode cX4_claimUnits 2 = .ok (.aload_n 1, 1) := by decide +kernel
theorem dX4_claimUnits_3 : decode cX4_claimUnits 3 = .ok (.ifnull 24, 3) := by decide +kernel
theorem dX4_claimUnits_6 : decode cX4_claimUnits 6 = .ok (.aload_n 1, 1) := by decide +kernel
theorem dX4_claimUnits_7 : decode cX4_claimUnits 7 = .ok (.getfield 15, 3) := by decide +kernel
theorem dX4_claimUnits_10 : decode cX4_claimUnits 10 = .ok (.dup, 1) := by decide +kernel
theorem dX4_claimUnits_11 : decode cX4_claimUnits 11 = .ok (.getfield 30, 3) := by decide +kernel
theorem dX4_claimUnits_14 : decode cX4_claimUnits 14 = .ok (.iconst 1, 1) := by decide +kernel
theorem dX4_claimUnits_15 : decode cX4_claimUnits 15 = .ok (.iadd, 1) := by decide +kernel
theorem dX4_claimUnits_16 : decode cX4_claimUnits 16 = .ok (.putfield 30, 3) := by decide +kernel
theorem dX4_claimUnits_19 : decode cX4_claimUnits 19 = .ok (.aload_n 1, 1) := by decide +kernel
theorem dX4_claimUnits_20 : decode cX4_claimUnits 20 = .ok (.getfield 19, 3) := by decide +kernel
theorem dX4_claimUnits_23 : decode cX4_claimUnits 23 = .ok (.astore_n 1, 1) := by decide +kernel
theorem dX4_claimUnits_24 : decode cX4_claimUnits 24 = .ok (.goto (-22), 3) := by decide +kernel
theorem dX4_claimUnits_27 : decode cX4_claimUnits 27 = .ok (.return_, 1) := by decide +kernel
theorem dX4_isReadable_0 : decode cX4_isReadable 0 = .ok (.aload_n 0, 1) := by decide +kernel
theorem dX4_isReadable_1 : decode cX4_isReadable 1 = .ok (.astore_n 1, 1) := by decide +kernel
theorem dX4_isReadable_2 : decode cX4_isReadable 2 = .ok (.aload_n 1, 1) := by decide +kernel
theorem dX4_isReadable_3 : decode cX4_isReadable 3 = .ok (.ifnull 24, 3) := by decide +kernel
theorem dX4_isReadable_6 : decode cX4_isReadable 6 = .ok (.aload_n 1, 1) := by decide +kernel
theorem dX4_isReadable_7 : decode cX4_isReadable 7 = .ok (.getfield 15, 3) := by decide +kernel
theorem dX4_isReadable_10 : decode cX4_isReadable 10 = .ok (.invokevirtual 35, 3) := by decide +kernel
theorem dX4_isReadable_13 : decode cX4_isReadable 13 = .ok (.iconst (-1), 1) := by decide +kernel
theorem dX4_isReadable_14 : decode cX4_isReadable 14 = .ok (.if_icmp .ne 5, 3) := by decide +kernel
theorem dX4_isReadable_17 : decode cX4_isReadable 17 = .ok (.iconst 0, 1) := by decide +kernel
theorem dX4_isReadable_18 : decode cX4_isReadable 18 = .ok (.ireturn, 1) := by decide +kernel
theorem dX4_isReadable_19 : decode cX4_isReadable 19 = .ok (.aload_n 1, 1) := by decide +kernel
theorem dX4_isReadable_20 : decode cX4_isReadable 20 = .ok (.getfield 19, 3) := by decide +kernel
theorem dX4_isReadable_23 : decode cX4_isReadable 23 = .ok (.astore_n 1, 1) := by decide +kernel
theorem dX4_isReadable_24 : decode cX4_isReadable 24 = .ok (.goto (-22), 3) := by decide +kernel
theorem dX4_isReadable_27 : decode cX4_isReadable 27 = .ok (.iconst 1, 1) := by decide +kernel
theorem dX4_isReadable_28 : decode cX4_isReadable 28 = .ok (.ireturn, 1) := by decide +kernel
theorem dX4_sumOfGoodValues_0 : decode cX4_sumOfGoodValues 0 = .ok (.iconst 0, 1) := by decide +kernel
theorem dX4_sumOfGoodValues_1 : decode cX4_sumOfGoodValues 1 = .ok (.istore_n 1, 1) := by decide +kernel
theorem dX4_sumOfGoodValues_2 : decode cX4_sumOfGoodValues 2 = .ok (.aload_n 0, 1) := by decide +kernel
theorem dX4_sumOfGoodValues_3 : decode cX4_sumOfGoodValues 3 = .ok (.astore_n 2, 1) := by decide +kernel
theorem dX4_sumOfGoodValues_4 : decode cX4_sumOfGoodValues 4 = .ok (.aload_n 2, 1) := by decide +kernel
theorem dX4_sumOfGoodValues_5 : decode cX4_sumOfGoodValues 5 = .ok (.ifnull 21, 3) := by decide +kernel
theorem dX4_sumOfGoodValues_8 : decode cX4_sumOfGoodValues 8 = .ok (.iload_n 1, 1) := by decide +kernel
theorem dX4_sumOfGoodValues_9 : decode cX4_sumOfGoodValues 9 = .ok (.aload_n 2, 1) := by decide +kernel
theorem dX4_sumOfGoodValues_10 : decode cX4_sumOfGoodValues 10 = .ok (.getfield 15, 3) := by decide +kernel
theorem dX4_sumOfGoodValues_13 : decode cX4_sumOfGoodValues 13 = .ok (.invokevirtual 39, 3) := by decide +kernel
theorem dX4_sumOfGoodValues_16 : decode cX4_sumOfGoodValues 16 = .ok (.iadd, 1) := by decide +kernel
theorem dX4_sumOfGoodValues_17 : decode cX4_sumOfGoodValues 17 = .ok (.istore_n 1, 1) := by decide +kernel
theorem dX4_sumOfGoodValues_18 : decode cX4_sumOfGoodValues 18 = .ok (.aload_n 2, 1) := by decide +kernel
theorem dX4_sumOfGoodValues_19 : decode cX4_sumOfGoodValues 19 = .ok (.getfield 19, 3) := by decide +kernel
theorem dX4_sumOfGoodValues_22 : decode cX4_sumOfGoodValues 22 = .ok (.astore_n 2, 1) := by decide +kernel
theorem dX4_sumOfGoodValues_23 : decode cX4_sumOfGoodValues 23 = .ok (.goto (-19), 3) := by decide +kernel
theorem dX4_sumOfGoodValues_26 : decode cX4_sumOfGoodValues 26 = .ok (.iload_n 1, 1) := by decide +kernel
theorem dX4_sumOfGoodValues_27 : decode cX4_sumOfGoodValues 27 = .ok (.ireturn, 1) := by decide +kernel
theorem dX5_init_0 : decode cX5_init 0 = .ok (.aload_n 0, 1) := by decide +kernel
theorem dX5_init_1 : decode cX5_init 1 = .ok (.invokespecial 1, 3) := by decide +kernel
theorem dX5_init_4 : decode cX5_init 4 = .ok (.aload_n 0, 1) := by decide +kernel
theorem dX5_init_5 : decode cX5_init 5 = .ok (.new 7, 3) := by decide +kernel
theorem dX5_init_8 : decode cX5_init 8 = .ok (.dup, 1) := by decide +kernel
theorem dX5_init_9 : decode cX5_init 9 = .ok (.invokespecial 9, 3) := by decide +kernel
theorem dX5_init_12 : decode cX5_init 12 = .ok (.putfield 10, 3) := by decide +kernel
theorem dX5_init_15 : decode cX5_init 15 = .ok (.aload_n 0, 1) := by decide +kernel
theorem dX5_init_16 : decode cX5_init 16 = .ok (.new 16, 3) := by decide +kernel
theorem dX5_init_19 : decode cX5_init 19 = .ok (.dup, 1) := by decide +kernel
theorem dX5_init_20 : decode cX5_init 20 = .ok (.invokespecial 18, 3) := by decide +kernel
theorem dX5_init_23 : decode cX5_init 23 = .ok (.putfield 19, 3) := by decide +kernel
theorem dX5_init_26 : decode cX5_init 26 = .ok (.aload_n 0, 1) := by decide +kernel
theorem dX5_init_27 : decode cX5_init 27 = .ok (.new 23, 3) := by decide +kernel
theorem dX5_init_30 : decode cX5_init 30 = .ok (.dup, 1) := by decide +kernel
theorem dX5_init_31 : decode cX5_init 31 = .ok (.invokespecial 25, 3) := by decide +kernel
theorem dX5_init_34 : decode cX5_init 34 = .ok (.putfield 26, 3) := by decide +kernel
theorem dX5_init_37 : decode cX5_init 37 = .ok (.return_, 1) := by decide +kernel
theorem dX5_addFormat_0 : decode cX5_addFormat 0 = .ok (.iload_n 1, 1) := by decide +kernel
theorem dX5_addFormat_1 : decode cX5_addFormat 1 = .ok (.invokestatic 30, 3) := by decide +kernel
theorem dX5_addFormat_4 : decode cX5_addFormat 4 = .ok (.aload_n 0, 1) := by decide +kernel
theorem dX5_addFormat_5 : decode cX5_addFormat 5 = .ok (.getfield 10, 3) := by decide +kernel
theorem dX5_addFormat_8 : decode cX5_addFormat 8 = .ok (.invokevirtual 34, 3) := by decide +kernel
theorem dX5_addFormat_11 : decode cX5_addFormat 11 = .ok (.ifCond .eq 13, 3) := by decide +kernel
theorem dX5_addFormat_14 : decode cX5_addFormat 14 = .ok (.new 38, 3) := by decide +kernel
theorem dX5_addFormat_17 : decode cX5_addFormat 17 = .ok (.dup, 1) := by decide +kernel
theorem dX5_addFormat_18 : decode cX5_addFormat 18 = .ok (.ldc 40, 2) := by decide +kernel
theorem dX5_addFormat_20 : decode cX5_addFormat 20 = .ok (.invokespecial 42, 3) := by decide +kernel
theorem dX5_addFormat_23 : decode cX5_addFormat 23 = .ok (.athrow, 1) := by decide +kernel
theorem dX5_addFormat_24 : decode cX5_addFormat 24 = .ok (.aload_n 0, 1) := by decide +kernel
theorem dX5_addFormat_25 : decode cX5_addFormat 25 = .ok (.getfield 10, 3) := by decide +kernel
theorem dX5_addFormat_28 : decode cX5_addFormat 28 = .ok (.iload_n 1, 1) := by decide +kernel
theorem dX5_addFormat_29 : decode cX5_addFormat 29 = .ok (.invokevirtual 45, 3) := by decide +kernel
theorem dX5_addFormat_32 : decode cX5_addFormat 32 = .ok (.ireturn, 1) := by decide +kernel
theorem dX5_setRisk_0 : decode cX5_setRisk 0 = .ok (.iload_n 2, 1) := by decide +kernel
theorem dX5_setRisk_1 : decode cX5_setRisk 1 = .ok (.invokestatic 30, 3) := by decide +kernel
theorem dX5_setRisk_4 : decode cX5_setRisk 4 = .ok (.aload_n 0, 1) := by decide +kernel
theorem dX5_setRisk_5 : decode cX5_setRisk 5 = .ok (.iload_n 1, 1) := by decide +kernel
theorem dX5_setRisk_6 : decode cX5_setRisk 6 = .ok (.invokevirtual 49, 3) := by decide +kernel
theorem dX5_setRisk_9 : decode cX5_setRisk 9 = .ok (.aload_n 0, 1) := by decide +kernel
theorem dX5_setRisk_10 : decode cX5_setRisk 10 = .ok (.getfield 10, 3) := by decide +kernel
theorem dX5_setRisk_13 : decode cX5_setRisk 13 = .ok (.iload_n 1, 1) := by decide +kernel
theorem dX5_setRisk_14 : decode cX5_setRisk 14 = .ok (.iload_n 2, 1) := by decide +kernel
theorem dX5_setRisk_15 : decode cX5_setRisk 15 = .ok (.invokevirtual 52, 3) := by decide +kernel
theorem dX5_setRisk_18 : decode cX5_setRisk 18 = .ok (.ireturn, 1) := by decide +kernel
theorem dX5_addConversion_0 : decode cX5_addConversion 0 = .ok (.iload_n 3, 1) := by decide +kernel
theorem dX5_addConversion_1 : decode cX5_addConversion 1 = .ok (.iconst 0, 1) := by decide +kernel
theorem dX5_addConversion_2 : decode cX5_addConversion 2 = .ok (.bipush 100, 2) := by decide +kernel
theorem dX5_addConversion_4 : decode cX5_addConversion 4 = .ok (.invokestatic 56, 3) := by decide +kernel
theorem dX5_addConversion_7 : decode cX5_addConversion 7 = .ok (.ifCond .ne 13, 3) := by decide +kernel
theorem dX5_addConversion_10 : decode cX5_addConversion 10 = .ok (.new 60, 3) := by decide +kernel
theorem dX5_addConversion_13 : decode cX5_addConversion 13 = .ok (.dup, 1) := by decide +kernel
theorem dX5_addConversion_14 : decode cX5_addConversion 14 = .ok (.ldc 62, 2) := by decide +kernel
theorem dX5_addConversion_16 : decode cX5_addConversion 16 = .ok (.invokespecial 64, 3) := by decide +kernel
theorem dX5_addConversion_19 : decode cX5_addConversion 19 = .ok (.athrow, 1) := by decide +kernel
theorem dX5_addConversion_20 : decode cX5_addConversion 20 = .ok (.iload_n 1, 1) := by decide +kernel
theorem dX5_addConversion_21 : decode cX5_addConversion 21 = .ok (.iload_n 2, 1) := by decide +kernel
theorem dX5_addConversion_22 : decode cX5_addConversion 22 = .ok (.if_icmp .ne 13, 3) := by decide +kernel
theorem dX5_addConversion_25 : decode cX5_addConversion 25 = .ok (.new 60, 3) := by decide +kernel
theorem dX5_addConversion_28 : decode cX5_addConversion 28 = .ok (.dup, 1) := by decide +kernel
theorem dX5_addConversion_29 : decode cX5_addConversion 29 = .ok (.ldc 65, 2) := by decide +kernel
theorem dX5_addConversion_31 : decode cX5_addConversion 31 = .ok (.invokespecial 64, 3) := by decide +kernel
theorem dX5_addConversion_34 : decode cX5_addConversion 34 = .ok (.athrow, 1) := by decide +kernel
theorem dX5_addConversion_35 : decode cX5_addConversion 35 = .ok (.aload_n 0, 1) := by decide +kernel
theorem dX5_addConversion_36 : decode cX5_addConversion 36 = .ok (.iload_n 1, 1) := by decide +kernel
theorem dX5_addConversion_37 : decode cX5_addConversion 37 = .ok (.invokevirtual 49, 3) := by decide +kernel
theorem dX5_addConversion_40 : decode cX5_addConversion 40 = .ok (.aload_n 0, 1) := by decide +kernel
theorem dX5_addConversion_41 : decode cX5_addConversion 41 = .ok (.iload_n 2, 1) := by decide +kernel
theorem dX5_addConversion_42 : decode cX5_addConversion 42 = .ok (.invokevirtual 49, 3) := by decide +kernel
theorem dX5_addConversion_45 : decode cX5_addConversion 45 = .ok (.aload_n 0, 1) := by decide +kernel
theorem dX5_addConversion_46 : decode cX5_addConversion 46 = .ok (.getfield 10, 3) := by decide +kernel
theorem dX5_addConversion_49 : decode cX5_addConversion 49 = .ok (.iload_n 1, 1) := by decide +kernel
theorem dX5_addConversion_50 : decode cX5_addConversion 50 = .ok (.iload_n 2, 1) := by decide +kernel
theorem dX5_addConversion_51 : decode cX5_addConversion 51 = .ok (.iload_n 3, 1) := by decide +kernel
theorem dX5_addConversion_52 : decode cX5_addConversion 52 = .ok (.invokevirtual 67, 3) := by decide +kernel
theorem dX5_addConversion_55 : decode cX5_addConversion 55 = .ok (.aload_n 0, 1) := by decide +kernel
theorem dX5_addConversion_56 : decode cX5_addConversion 56 = .ok (.getfield 10, 3) := by decide +kernel
theorem dX5_addConversion_59 : decode cX5_addConversion 59 = .ok (.iload_n 1, 1) := by decide +kernel
theorem dX5_addConversion_60 : decode cX5_addConversion 60 = .ok (.iload_n 2, 1) := by decide +kernel
theorem dX5_addConversion_61 : decode cX5_addConversion 61 = .ok (.invokevirtual 71, 3) := by decide +kernel
theorem dX5_addConversion_64 : decode cX5_addConversion 64 = .ok (.invokestatic 74, 3) := by decide +kernel
theorem dX5_addConversion_67 : decode cX5_addConversion 67 = .ok (.ireturn, 1) := by decide +kernel
theorem dX5_bestWay_0 : decode cX5_bestWay 0 = .ok (.aload_n 0, 1) := by decide +kernel
theorem dX5_bestWay_1 : decode cX5_bestWay 1 = .ok (.iload_n 1, 1) := by decide +kernel
theorem dX5_bestWay_2 : decode cX5_bestWay 2 = .ok (.invokevirtual 49, 3) := by decide +kernel
theorem dX5_bestWay_5 : decode cX5_bestWay 5 = .ok (.aload_n 0, 1) := by decide +kernel
theorem dX5_bestWay_6 : decode cX5_bestWay 6 = .ok (.iload_n 2, 1) := by decide +kernel
theorem dX5_bestWay_7 : decode cX5_bestWay 7 = .ok (.invokevirtual 49, 3) := by decide +kernel
theorem dX5_bestWay_10 : decode cX5_bestWay 10 = .ok (.aload_n 0, 1) := by decide +kernel
theorem dX5_bestWay_11 : decode cX5_bestWay 11 = .ok (.getfield 10, 3) := by decide +kernel
theorem dX5_bestWay_14 : decode cX5_bestWay 14 = .ok (.iload_n 1, 1) := by decide +kernel
theorem dX5_bestWay_15 : decode cX5_bestWay 15 = .ok (.iload_n 2, 1) := by decide +kernel
theorem dX5_bestWay_16 : decode cX5_bestWay 16 = .ok (.invokevirtual 71, 3) := by decide +kernel
theorem dX5_bestWay_19 : decode cX5_bestWay 19 = .ok (.ireturn, 1) := by decide +kernel
theorem dX5_deposit_0 : decode cX5_deposit 0 = .ok (.iload_n 2, 1) := by decide +kernel
theorem dX5_deposit_1 : decode cX5_deposit 1 = .ok (.invokestatic 77, 3) := by decide +kernel
theorem dX5_deposit_4 : decode cX5_deposit 4 = .ok (.iload_n 3, 1) := by decide +kernel
theorem dX5_deposit_5 : decode cX5_deposit 5 = .ok (.iconst 1, 1) := by decide +kernel
theorem dX5_deposit_6 : decode cX5_deposit 6 = .ok (.iconst 3, 1) := by decide +kernel
theorem dX5_deposit_7 : decode cX5_deposit 7 = .ok (.invokestatic 56, 3) := by decide +kernel
theorem dX5_deposit_10 : decode cX5_deposit 10 = .ok (.ifCond .ne 13, 3) := by decide +kernel
theorem dX5_deposit_13 : decode cX5_deposit 13 = .ok (.new 60, 3) := by decide +kernel
theorem dX5_deposit_16 : decode cX5_deposit 16 = .ok (.dup, 1) := by decide +kernel
theorem dX5_deposit_17 : decode cX5_deposit 17 = .ok (.ldc 80, 2) := by decide +kernel
theorem dX5_deposit_19 : decode cX5_deposit 19 = .ok (.invokespecial 64, 3) := by decide +kernel
theorem dX5_deposit_22 : decode cX5_deposit 22 = .ok (.athrow, 1) := by decide +kernel
theorem dX5_deposit_23 : decode cX5_deposit 23 = .ok (.aload_n 0, 1) := by decide +kernel
theorem dX5_deposit_24 : decode cX5_deposit 24 = .ok (.iload_n 1, 1) := by decide +kernel
theorem dX5_deposit_25 : decode cX5_deposit 25 = .ok (.invokevirtual 49, 3) := by decide +kernel
theorem dX5_deposit_28 : decode cX5_deposit 28 = .ok (.aload_n 0, 1) := by decide +kernel
theorem dX5_deposit_29 : decode cX5_deposit 29 = .ok (.getfield 26, 3) := by decide +kernel
theorem dX5_deposit_32 : decode cX5_deposit 32 = .ok (.invokevirtual 82, 3) := by decide +kernel
theorem dX5_deposit_35 : decode cX5_deposit 35 = .ok (.bipush 10, 2) := by decide +kernel
theorem dX5_deposit_37 : decode cX5_deposit 37 = .ok (.if_icmp .lt 13, 3) := by decide +kernel
theorem dX5_deposit_40 : decode cX5_deposit 40 = .ok (.new 38, 3) := by decide +kernel
theorem dX5_deposit_43 : decode cX5_deposit 43 = .ok (.dup, 1) := by decide +kernel
theorem dX5_deposit_44 : decode cX5_deposit 44 = .ok (.ldc 86, 2) := by decide +kernel
theorem dX5_deposit_46 : decode cX5_deposit 46 = .ok (.invokespecial 42, 3) := by decide +kernel
theorem dX5_deposit_49 : decode cX5_deposit 49 = .ok (.athrow, 1) := by decide +kernel
theorem dX5_deposit_50 : decode cX5_deposit 50 = .ok (.aload_n 0, 1) := by decide +kernel
theorem dX5_deposit_51 : decode cX5_deposit 51 = .ok (.getfield 26, 3) := by decide +kernel
theorem dX5_deposit_54 : decode cX5_deposit 54 = .ok (.new 88, 3) := by decide +kernel
theorem dX5_deposit_57 : decode cX5_deposit 57 = .ok (.dup, 1) := by decide +kernel
theorem dX5_deposit_58 : decode cX5_deposit 58 = .ok (.iload_n 3, 1) := by decide +kernel
theorem dX5_deposit_59 : decode cX5_deposit 59 = .ok (.aload_n 0, 1) := by decide +kernel
theorem dX5_deposit_60 : decode cX5_deposit 60 = .ok (.aconst_null, 1) := by decide +kernel
theorem dX5_deposit_61 : decode cX5_deposit 61 = .ok (.iload_n 1, 1) := by decide +kernel
theorem dX5_deposit_62 : decode cX5_deposit 62 = .ok (.iload_n 2, 1) := by decide +kernel
theorem dX5_deposit_63 : decode cX5_deposit 63 = .ok (.iload_n 3, 1) := by decide +kernel
theorem dX5_deposit_64 : decode cX5_deposit 64 = .ok (.invokevirtual 90, 3) := by decide +kernel
theorem dX5_deposit_67 : decode cX5_deposit 67 = .ok (.invokespecial 94, 3) := by decide +kernel
theorem dX5_deposit_70 : decode cX5_deposit 70 = .ok (.invokevirtual 97, 3) := by decide +kernel
theorem dX5_deposit_73 : decode cX5_deposit 73 = .ok (.pop, 1) := by decide +kernel
theorem dX5_deposit_74 : decode cX5_deposit 74 = .ok (.aload_n 0, 1) := by decide +kernel
theorem dX5_deposit_75 : decode cX5_deposit 75 = .ok (.getfield 26, 3) := by decide +kernel
theorem dX5_deposit_78 : decode cX5_deposit 78 = .ok (.invokevirtual 82, 3) := by decide +kernel
theorem dX5_deposit_81 : decode cX5_deposit 81 = .ok (.iconst 1, 1) := by decide +kernel
theorem dX5_deposit_82 : decode cX5_deposit 82 = .ok (.isub, 1) := by decide +kernel
theorem dX5_deposit_83 : decode cX5_deposit 83 = .ok (.ireturn, 1) := by decide +kernel
theorem dX5_revise_0 : decode cX5_revise 0 = .ok (.iload_n 2, 1) := by decide +kernel
theorem dX5_revise_1 : decode cX5_revise 1 = .ok (.invokestatic 77, 3) := by decide +kernel
theorem dX5_revise_4 : decode cX5_revise 4 = .ok (.aload_n 0, 1) := by decide +kernel
theorem dX5_revise_5 : decode cX5_revise 5 = .ok (.iload_n 1, 1) := by decide +kernel
theorem dX5_revise_6 : decode cX5_revise 6 = .ok (.invokevirtual 100, 3) := by decide +kernel
theorem dX5_revise_9 : decode cX5_revise 9 = .ok (.astore 4, 2) := by decide +kernel
theorem dX5_revise_11 : decode cX5_revise 11 = .ok (.aload 4, 2) := by decide +kernel
theorem dX5_revise_13 : decode cX5_revise 13 = .ok (.invokestatic 104, 3) := by decide +kernel
theorem dX5_revise_16 : decode cX5_revise 16 = .ok (.aload 4, 2) := by decide +kernel
theorem dX5_revise_18 : decode cX5_revise 18 = .ok (.invokevirtual 108, 3) := by decide +kernel
theorem dX5_revise_21 : decode cX5_revise 21 = .ok (.astore 5, 2) := by decide +kernel
theorem dX5_revise_23 : decode cX5_revise 23 = .ok (.iload_n 3, 1) := by decide +kernel
theorem dX5_revise_24 : decode cX5_revise 24 = .ok (.ifCond .eq 8, 3) := by decide +kernel
theorem dX5_revise_27 : decode cX5_revise 27 = .ok (.aload 5, 2) := by decide +kernel
theorem dX5_revise_29 : decode cX5_revise 29 = .ok (.goto 4, 3) := by decide +kernel
theorem dX5_revise_32 : decode cX5_revise 32 = .ok (.aconst_null, 1) := by decide +kernel
theorem dX5_revise_33 : decode cX5_revise 33 = .ok (.astore 6, 2) := by decide +kernel
theorem dX5_revise_35 : decode cX5_revise 35 = .ok (.aload 4, 2) := by decide +kernel
theorem dX5_revise_37 : decode cX5_revise 37 = .ok (.aload_n 0, 1) := by decide +kernel
theorem dX5_revise_38 : decode cX5_revise 38 = .ok (.aload 6, 2) := by decide +kernel
theorem dX5_revise_40 : decode cX5_revise 40 = .ok (.aload 5, 2) := by decide +kernel
theorem dX5_revise_42 : decode cX5_revise 42 = .ok (.getfield 112, 3) := by decide +kernel
theorem dX5_revise_45 : decode cX5_revise 45 = .ok (.iload_n 2, 1) := by decide +kernel
theorem dX5_revise_46 : decode cX5_revise 46 = .ok (.aload 4, 2) := by decide +kernel
theorem dX5_revise_48 : decode cX5_revise 48 = .ok (.getfield 118, 3) := by decide +kernel
theorem dX5_revise_51 : decode cX5_revise 51 = .ok (.invokevirtual 90, 3) := by decide +kernel
theorem dX5_revise_54 : decode cX5_revise 54 = .ok (.invokevirtual 121, 3) := by decide +kernel
theorem dX5_revise_57 : decode cX5_revise 57 = .ok (.ireturn, 1) := by decide +kernel
theorem dX5_convert_0 : decode cX5_convert 0 = .ok (.aload_n 0, 1) := by decide +kernel
theorem dX5_convert_1 : decode cX5_convert 1 = .ok (.iload_n 1, 1) := by decide +kernel
theorem dX5_convert_2 : decode cX5_convert 2 = .ok (.invokevirtual 100, 3) := by decide +kernel
theorem dX5_convert_5 : decode cX5_convert 5 = .ok (.astore_n 3, 1) := by decide +kernel
theorem dX5_convert_6 : decode cX5_convert 6 = .ok (.aload_n 0, 1) := by decide +kernel
theorem dX5_convert_7 : decode cX5_convert 7 = .ok (.iload_n 2, 1) := by decide +kernel
theorem dX5_convert_8 : decode cX5_convert 8 = .ok (.invokevirtual 49, 3) := by decide +kernel
