theorem dX5_convert_11 : decode cX5_convert 11 = .ok (.aload_n 3, 1) := by decide +kernel
theorem dX5_convert_12 : decode cX5_convert 12 = .ok (.invokestatic 104, 3) := by decide +kernel
theorem dX5_convert_15 : decode cX5_convert 15 = .ok (.aload_n 3, 1) := by decide +kernel
theorem dX5_convert_16 : decode cX5_convert 16 = .ok (.invokevirtual 108, 3) := by decide +kernel
theorem dX5_convert_19 : decode cX5_convert 19 = .ok (.astore 4, 2) := by decide +kernel
theorem dX5_convert_21 : decode cX5_convert 21 = .ok (.aload 4, 2) := by decide +kernel
theorem dX5_convert_23 : decode cX5_convert 23 = .ok (.getfield 112, 3) := by decide +kernel
theorem dX5_convert_26 : decode cX5_convert 26 = .ok (.iload_n 2, 1) := by decide +kernel
theorem dX5_convert_27 : decode cX5_convert 27 = .ok (.if_icmp .ne 13, 3) := by decide +kernel
theorem dX5_convert_30 : decode cX5_convert 30 = .ok (.new 38, 3) := by decide +kernel
theorem dX5_convert_33 : decode cX5_convert 33 = .ok (.dup, 1) := by decide +kernel
theorem dX5_convert_34 : decode cX5_convert 34 = .ok (.ldc 124, 2) := by decide +kernel
theorem dX5_convert_36 : decode cX5_convert 36 = .ok (.invokespecial 42, 3) := by decide +kernel
theorem dX5_convert_39 : decode cX5_convert 39 = .ok (.athrow, 1) := by decide +kernel
theorem dX5_convert_40 : decode cX5_convert 40 = .ok (.aload_n 0, 1) := by decide +kernel
theorem dX5_convert_41 : decode cX5_convert 41 = .ok (.getfield 10, 3) := by decide +kernel
theorem dX5_convert_44 : decode cX5_convert 44 = .ok (.aload 4, 2) := by decide +kernel
theorem dX5_convert_46 : decode cX5_convert 46 = .ok (.getfield 112, 3) := by decide +kernel
theorem dX5_convert_49 : decode cX5_convert 49 = .ok (.iload_n 2, 1) := by decide +kernel
theorem dX5_convert_50 : decode cX5_convert 50 = .ok (.invokevirtual 71, 3) := by decide +kernel
theorem dX5_convert_53 : decode cX5_convert 53 = .ok (.istore 5, 2) := by decide +kernel
theorem dX5_convert_55 : decode cX5_convert 55 = .ok (.iload 5, 2) := by decide +kernel
theorem dX5_convert_57 : decode cX5_convert 57 = .ok (.iconst (-1), 1) := by decide +kernel
theorem dX5_convert_58 : decode cX5_convert 58 = .ok (.if_icmp .ne 13, 3) := by decide +kernel
theorem dX5_convert_61 : decode cX5_convert 61 = .ok (.new 38, 3) := by decide +kernel
theorem dX5_convert_64 : decode cX5_convert 64 = .ok (.dup, 1) := by decide +kernel
theorem dX5_convert_65 : decode cX5_convert 65 = .ok (.ldc 126, 2) := by decide +kernel
theorem dX5_convert_67 : decode cX5_convert 67 = .ok (.invokespecial 42, 3) := by decide +kernel
theorem dX5_convert_70 : decode cX5_convert 70 = .ok (.athrow, 1) := by decide +kernel
theorem dX5_convert_71 : decode cX5_convert 71 = .ok (.aload 4, 2) := by decide +kernel
theorem dX5_convert_73 : decode cX5_convert 73 = .ok (.invokestatic 128, 3) := by decide +kernel
theorem dX5_convert_76 : decode cX5_convert 76 = .ok (.aload 4, 2) := by decide +kernel
theorem dX5_convert_78 : decode cX5_convert 78 = .ok (.invokevirtual 132, 3) := by decide +kernel
theorem dX5_convert_81 : decode cX5_convert 81 = .ok (.iload 5, 2) := by decide +kernel
theorem dX5_convert_83 : decode cX5_convert 83 = .ok (.invokestatic 74, 3) := by decide +kernel
theorem dX5_convert_86 : decode cX5_convert 86 = .ok (.invokestatic 135, 3) := by decide +kernel
theorem dX5_convert_89 : decode cX5_convert 89 = .ok (.istore 6, 2) := by decide +kernel
theorem dX5_convert_91 : decode cX5_convert 91 = .ok (.aload_n 3, 1) := by decide +kernel
theorem dX5_convert_92 : decode cX5_convert 92 = .ok (.aload_n 0, 1) := by decide +kernel
theorem dX5_convert_93 : decode cX5_convert 93 = .ok (.aconst_null, 1) := by decide +kernel
theorem dX5_convert_94 : decode cX5_convert 94 = .ok (.iload_n 2, 1) := by decide +kernel
theorem dX5_convert_95 : decode cX5_convert 95 = .ok (.iload 6, 2) := by decide +kernel
theorem dX5_convert_97 : decode cX5_convert 97 = .ok (.aload_n 3, 1) := by decide +kernel
theorem dX5_convert_98 : decode cX5_convert 98 = .ok (.getfield 118, 3) := by decide +kernel
theorem dX5_convert_101 : decode cX5_convert 101 = .ok (.invokevirtual 90, 3) := by decide +kernel
theorem dX5_convert_104 : decode cX5_convert 104 = .ok (.invokevirtual 121, 3) := by decide +kernel
theorem dX5_convert_107 : decode cX5_convert 107 = .ok (.ireturn, 1) := by decide +kernel
theorem dX5_purge_0 : decode cX5_purge 0 = .ok (.aload_n 0, 1) := by decide +kernel
theorem dX5_purge_1 : decode cX5_purge 1 = .ok (.iload_n 1, 1) := by decide +kernel
theorem dX5_purge_2 : decode cX5_purge 2 = .ok (.invokevirtual 100, 3) := by decide +kernel
theorem dX5_purge_5 : decode cX5_purge 5 = .ok (.astore_n 3, 1) := by decide +kernel
theorem dX5_purge_6 : decode cX5_purge 6 = .ok (.aload_n 3, 1) := by decide +kernel
theorem dX5_purge_7 : decode cX5_purge 7 = .ok (.iload_n 2, 1) := by decide +kernel
theorem dX5_purge_8 : decode cX5_purge 8 = .ok (.invokestatic 138, 3) := by decide +kernel
theorem dX5_purge_11 : decode cX5_purge 11 = .ok (.astore 4, 2) := by decide +kernel
theorem dX5_purge_13 : decode cX5_purge 13 = .ok (.aload_n 3, 1) := by decide +kernel
theorem dX5_purge_14 : decode cX5_purge 14 = .ok (.invokevirtual 142, 3) := by decide +kernel
theorem dX5_purge_17 : decode cX5_purge 17 = .ok (.iconst 1, 1) := by decide +kernel
theorem dX5_purge_18 : decode cX5_purge 18 = .ok (.if_icmp .gt 13, 3) := by decide +kernel
theorem dX5_purge_21 : decode cX5_purge 21 = .ok (.new 38, 3) := by decide +kernel
theorem dX5_purge_24 : decode cX5_purge 24 = .ok (.dup, 1) := by decide +kernel
theorem dX5_purge_25 : decode cX5_purge 25 = .ok (.ldc 145, 2) := by decide +kernel
theorem dX5_purge_27 : decode cX5_purge 27 = .ok (.invokespecial 42, 3) := by decide +kernel
theorem dX5_purge_30 : decode cX5_purge 30 = .ok (.athrow, 1) := by decide +kernel
theorem dX5_purge_31 : decode cX5_purge 31 = .ok (.aload 4, 2) := by decide +kernel
theorem dX5_purge_33 : decode cX5_purge 33 = .ok (.iconst 0, 1) := by decide +kernel
theorem dX5_purge_34 : decode cX5_purge 34 = .ok (.putfield 147, 3) := by decide +kernel
theorem dX5_purge_37 : decode cX5_purge 37 = .ok (.aload_n 0, 1) := by decide +kernel
theorem dX5_purge_38 : decode cX5_purge 38 = .ok (.getfield 19, 3) := by decide +kernel
theorem dX5_purge_41 : decode cX5_purge 41 = .ok (.aload 4, 2) := by decide +kernel
theorem dX5_purge_43 : decode cX5_purge 43 = .ok (.invokevirtual 151, 3) := by decide +kernel
theorem dX5_purge_46 : decode cX5_purge 46 = .ok (.ireturn, 1) := by decide +kernel
theorem dX5_versions_0 : decode cX5_versions 0 = .ok (.aload_n 0, 1) := by decide +kernel
theorem dX5_versions_1 : decode cX5_versions 1 = .ok (.iload_n 1, 1) := by decide +kernel
theorem dX5_versions_2 : decode cX5_versions 2 = .ok (.invokevirtual 100, 3) := by decide +kernel
theorem dX5_versions_5 : decode cX5_versions 5 = .ok (.invokevirtual 154, 3) := by decide +kernel
theorem dX5_versions_8 : decode cX5_versions 8 = .ok (.ireturn, 1) := by decide +kernel
theorem dX5_unitOf_0 : decode cX5_unitOf 0 = .ok (.aload_n 0, 1) := by decide +kernel
theorem dX5_unitOf_1 : decode cX5_unitOf 1 = .ok (.iload_n 1, 1) := by decide +kernel
theorem dX5_unitOf_2 : decode cX5_unitOf 2 = .ok (.invokevirtual 100, 3) := by decide +kernel
theorem dX5_unitOf_5 : decode cX5_unitOf 5 = .ok (.iload_n 2, 1) := by decide +kernel
theorem dX5_unitOf_6 : decode cX5_unitOf 6 = .ok (.invokestatic 138, 3) := by decide +kernel
theorem dX5_unitOf_9 : decode cX5_unitOf 9 = .ok (.getfield 157, 3) := by decide +kernel
theorem dX5_unitOf_12 : decode cX5_unitOf 12 = .ok (.getfield 161, 3) := by decide +kernel
theorem dX5_unitOf_15 : decode cX5_unitOf 15 = .ok (.ireturn, 1) := by decide +kernel
theorem dX5_read_0 : decode cX5_read 0 = .ok (.aload_n 0, 1) := by decide +kernel
theorem dX5_read_1 : decode cX5_read 1 = .ok (.iload_n 1, 1) := by decide +kernel
theorem dX5_read_2 : decode cX5_read 2 = .ok (.invokevirtual 100, 3) := by decide +kernel
theorem dX5_read_5 : decode cX5_read 5 = .ok (.iload_n 2, 1) := by decide +kernel
theorem dX5_read_6 : decode cX5_read 6 = .ok (.invokestatic 138, 3) := by decide +kernel
theorem dX5_read_9 : decode cX5_read 9 = .ok (.astore_n 3, 1) := by decide +kernel
theorem dX5_read_10 : decode cX5_read 10 = .ok (.aload_n 3, 1) := by decide +kernel
theorem dX5_read_11 : decode cX5_read 11 = .ok (.invokestatic 128, 3) := by decide +kernel
theorem dX5_read_14 : decode cX5_read 14 = .ok (.aload_n 3, 1) := by decide +kernel
theorem dX5_read_15 : decode cX5_read 15 = .ok (.invokevirtual 132, 3) := by decide +kernel
theorem dX5_read_18 : decode cX5_read 18 = .ok (.ireturn, 1) := by decide +kernel
theorem dX5_atRisk_0 : decode cX5_atRisk 0 = .ok (.iload_n 1, 1) := by decide +kernel
theorem dX5_atRisk_1 : decode cX5_atRisk 1 = .ok (.invokestatic 30, 3) := by decide +kernel
theorem dX5_atRisk_4 : decode cX5_atRisk 4 = .ok (.iconst 0, 1) := by decide +kernel
theorem dX5_atRisk_5 : decode cX5_atRisk 5 = .ok (.istore_n 2, 1) := by decide +kernel
theorem dX5_atRisk_6 : decode cX5_atRisk 6 = .ok (.iconst 0, 1) := by decide +kernel
theorem dX5_atRisk_7 : decode cX5_atRisk 7 = .ok (.istore_n 3, 1) := by decide +kernel
theorem dX5_atRisk_8 : decode cX5_atRisk 8 = .ok (.iload_n 3, 1) := by decide +kernel
theorem dX5_atRisk_9 : decode cX5_atRisk 9 = .ok (.aload_n 0, 1) := by decide +kernel
theorem dX5_atRisk_10 : decode cX5_atRisk 10 = .ok (.getfield 26, 3) := by decide +kernel
theorem dX5_atRisk_13 : decode cX5_atRisk 13 = .ok (.invokevirtual 82, 3) := by decide +kernel
theorem dX5_atRisk_16 : decode cX5_atRisk 16 = .ok (.if_icmp .ge 43, 3) := by decide +kernel
theorem dX5_atRisk_19 : decode cX5_atRisk 19 = .ok (.aload_n 0, 1) := by decide +kernel
theorem dX5_atRisk_20 : decode cX5_atRisk 20 = .ok (.getfield 10, 3) := by decide +kernel
theorem dX5_atRisk_23 : decode cX5_atRisk 23 = .ok (.aload_n 0, 1) := by decide +kernel
theorem dX5_atRisk_24 : decode cX5_atRisk 24 = .ok (.getfield 26, 3) := by decide +kernel
theorem dX5_atRisk_27 : decode cX5_atRisk 27 = .ok (.iload_n 3, 1) := by decide +kernel
theorem dX5_atRisk_28 : decode cX5_atRisk 28 = .ok (.invokevirtual 166, 3) := by decide +kernel
theorem dX5_atRisk_31 : decode cX5_atRisk 31 = .ok (.checkcast 88, 3) := by decide +kernel
theorem dX5_atRisk_34 : decode cX5_atRisk 34 = .ok (.invokevirtual 108, 3) := by decide +kernel
theorem dX5_atRisk_37 : decode cX5_atRisk 37 = .ok (.getfield 112, 3) := by decide +kernel
theorem dX5_atRisk_40 : decode cX5_atRisk 40 = .ok (.invokevirtual 170, 3) := by decide +kernel
theorem dX5_atRisk_43 : decode cX5_atRisk 43 = .ok (.iload_n 1, 1) := by decide +kernel
theorem dX5_atRisk_44 : decode cX5_atRisk 44 = .ok (.if_icmp .lt 9, 3) := by decide +kernel
theorem dX5_atRisk_47 : decode cX5_atRisk 47 = .ok (.iload_n 2, 1) := by decide +kernel
theorem dX5_atRisk_48 : decode cX5_atRisk 48 = .ok (.iconst 1, 1) := by decide +kernel
theorem dX5_atRisk_49 : decode cX5_atRisk 49 = .ok (.iload_n 3, 1) := by decide +kernel
theorem dX5_atRisk_50 : decode cX5_atRisk 50 = .ok (.ishl, 1) := by decide +kernel
theorem dX5_atRisk_51 : decode cX5_atRisk 51 = .ok (.ior, 1) := by decide +kernel
theorem dX5_atRisk_52 : decode cX5_atRisk 52 = .ok (.istore_n 2, 1) := by decide +kernel
theorem dX5_atRisk_53 : decode cX5_atRisk 53 = .ok (.iinc 3 1, 3) := by decide +kernel
theorem dX5_atRisk_56 : decode cX5_atRisk 56 = .ok (.goto (-48), 3) := by decide +kernel
theorem dX5_atRisk_59 : decode cX5_atRisk 59 = .ok (.iload_n 2, 1) := by decide +kernel
theorem dX5_atRisk_60 : decode cX5_atRisk 60 = .ok (.ireturn, 1) := by decide +kernel
theorem dX5_units_0 : decode cX5_units 0 = .ok (.aload_n 0, 1) := by decide +kernel
theorem dX5_units_1 : decode cX5_units 1 = .ok (.getfield 19, 3) := by decide +kernel
theorem dX5_units_4 : decode cX5_units 4 = .ok (.invokevirtual 173, 3) := by decide +kernel
theorem dX5_units_7 : decode cX5_units 7 = .ok (.ireturn, 1) := by decide +kernel
theorem dX5_sites_0 : decode cX5_sites 0 = .ok (.aload_n 0, 1) := by decide +kernel
theorem dX5_sites_1 : decode cX5_sites 1 = .ok (.iload_n 1, 1) := by decide +kernel
theorem dX5_sites_2 : decode cX5_sites 2 = .ok (.invokevirtual 176, 3) := by decide +kernel
theorem dX5_sites_5 : decode cX5_sites 5 = .ok (.invokevirtual 180, 3) := by decide +kernel
theorem dX5_sites_8 : decode cX5_sites 8 = .ok (.ireturn, 1) := by decide +kernel
theorem dX5_sound_0 : decode cX5_sound 0 = .ok (.aload_n 0, 1) := by decide +kernel
theorem dX5_sound_1 : decode cX5_sound 1 = .ok (.iload_n 1, 1) := by decide +kernel
theorem dX5_sound_2 : decode cX5_sound 2 = .ok (.invokevirtual 176, 3) := by decide +kernel
theorem dX5_sound_5 : decode cX5_sound 5 = .ok (.invokevirtual 183, 3) := by decide +kernel
theorem dX5_sound_8 : decode cX5_sound 8 = .ok (.ireturn, 1) := by decide +kernel
theorem dX5_damage_0 : decode cX5_damage 0 = .ok (.iload_n 1, 1) := by decide +kernel
theorem dX5_damage_1 : decode cX5_damage 1 = .ok (.invokestatic 186, 3) := by decide +kernel
theorem dX5_damage_4 : decode cX5_damage 4 = .ok (.iload_n 3, 1) := by decide +kernel
theorem dX5_damage_5 : decode cX5_damage 5 = .ok (.ifCond .eq 16, 3) := by decide +kernel
theorem dX5_damage_8 : decode cX5_damage 8 = .ok (.iload_n 3, 1) := by decide +kernel
theorem dX5_damage_9 : decode cX5_damage 9 = .ok (.sipush (-1000), 3) := by decide +kernel
theorem dX5_damage_12 : decode cX5_damage 12 = .ok (.sipush 1000, 3) := by decide +kernel
theorem dX5_damage_15 : decode cX5_damage 15 = .ok (.invokestatic 56, 3) := by decide +kernel
theorem dX5_damage_18 : decode cX5_damage 18 = .ok (.ifCond .ne 13, 3) := by decide +kernel
theorem dX5_damage_21 : decode cX5_damage 21 = .ok (.new 60, 3) := by decide +kernel
theorem dX5_damage_24 : decode cX5_damage 24 = .ok (.dup, 1) := by decide +kernel
theorem dX5_damage_25 : decode cX5_damage 25 = .ok (.ldc 189, 2) := by decide +kernel
theorem dX5_damage_27 : decode cX5_damage 27 = .ok (.invokespecial 64, 3) := by decide +kernel
theorem dX5_damage_30 : decode cX5_damage 30 = .ok (.athrow, 1) := by decide +kernel
theorem dX5_damage_31 : decode cX5_damage 31 = .ok (.aload_n 0, 1) := by decide +kernel
theorem dX5_damage_32 : decode cX5_damage 32 = .ok (.iload_n 2, 1) := by decide +kernel
theorem dX5_damage_33 : decode cX5_damage 33 = .ok (.invokevirtual 176, 3) := by decide +kernel
theorem dX5_damage_36 : decode cX5_damage 36 = .ok (.astore 4, 2) := by decide +kernel
theorem dX5_damage_38 : decode cX5_damage 38 = .ok (.aload 4, 2) := by decide +kernel
theorem dX5_damage_40 : decode cX5_damage 40 = .ok (.iload_n 1, 1) := by decide +kernel
theorem dX5_damage_41 : decode cX5_damage 41 = .ok (.invokevirtual 191, 3) := by decide +kernel
theorem dX5_damage_44 : decode cX5_damage 44 = .ok (.ifCond .ne 13, 3) := by decide +kernel
theorem dX5_damage_47 : decode cX5_damage 47 = .ok (.new 195, 3) := by decide +kernel
theorem dX5_damage_50 : decode cX5_damage 50 = .ok (.dup, 1) := by decide +kernel
theorem dX5_damage_51 : decode cX5_damage 51 = .ok (.ldc 197, 2) := by decide +kernel
theorem dX5_damage_53 : decode cX5_damage 53 = .ok (.invokespecial 199, 3) := by decide +kernel
theorem dX5_damage_56 : decode cX5_damage 56 = .ok (.athrow, 1) := by decide +kernel
theorem dX5_damage_57 : decode cX5_damage 57 = .ok (.aload 4, 2) := by decide +kernel
theorem dX5_damage_59 : decode cX5_damage 59 = .ok (.iload_n 1, 1) := by decide +kernel
theorem dX5_damage_60 : decode cX5_damage 60 = .ok (.iload_n 3, 1) := by decide +kernel
theorem dX5_damage_61 : decode cX5_damage 61 = .ok (.invokevirtual 200, 3) := by decide +kernel
theorem dX5_damage_64 : decode cX5_damage 64 = .ok (.aload 4, 2) := by decide +kernel
theorem dX5_damage_66 : decode cX5_damage 66 = .ok (.iload_n 1, 1) := by decide +kernel
theorem dX5_damage_67 : decode cX5_damage 67 = .ok (.invokevirtual 204, 3) := by decide +kernel
theorem dX5_damage_70 : decode cX5_damage 70 = .ok (.ireturn, 1) := by decide +kernel
theorem dX5_toggleSite_0 : decode cX5_toggleSite 0 = .ok (.iload_n 1, 1) := by decide +kernel
theorem dX5_toggleSite_1 : decode cX5_toggleSite 1 = .ok (.invokestatic 186, 3) := by decide +kernel
theorem dX5_toggleSite_4 : decode cX5_toggleSite 4 = .ok (.aload_n 0, 1) := by decide +kernel
theorem dX5_toggleSite_5 : decode cX5_toggleSite 5 = .ok (.getfield 19, 3) := by decide +kernel
theorem dX5_toggleSite_8 : decode cX5_toggleSite 8 = .ok (.iload_n 1, 1) := by decide +kernel
theorem dX5_toggleSite_9 : decode cX5_toggleSite 9 = .ok (.invokevirtual 207, 3) := by decide +kernel
theorem dX5_toggleSite_12 : decode cX5_toggleSite 12 = .ok (.ireturn, 1) := by decide +kernel
theorem dX5_audit_0 : decode cX5_audit 0 = .ok (.iload_n 1, 1) := by decide +kernel
theorem dX5_audit_1 : decode cX5_audit 1 = .ok (.iconst 1, 1) := by decide +kernel
theorem dX5_audit_2 : decode cX5_audit 2 = .ok (.bipush 100, 2) := by decide +kernel
theorem dX5_audit_4 : decode cX5_audit 4 = .ok (.invokestatic 56, 3) := by decide +kernel
theorem dX5_audit_7 : decode cX5_audit 7 = .ok (.ifCond .ne 13, 3) := by decide +kernel
theorem dX5_audit_10 : decode cX5_audit 10 = .ok (.new 60, 3) := by decide +kernel
theorem dX5_audit_13 : decode cX5_audit 13 = .ok (.dup, 1) := by decide +kernel
theorem dX5_audit_14 : decode cX5_audit 14 = .ok (.ldc 210, 2) := by decide +kernel
theorem dX5_audit_16 : decode cX5_audit 16 = .ok (.invokespecial 64, 3) := by decide +kernel
theorem dX5_audit_19 : decode cX5_audit 19 = .ok (.athrow, 1) := by decide +kernel
theorem dX5_audit_20 : decode cX5_audit 20 = .ok (.aload_n 0, 1) := by decide +kernel
theorem dX5_audit_21 : decode cX5_audit 21 = .ok (.getfield 19, 3) := by decide +kernel
theorem dX5_audit_24 : decode cX5_audit 24 = .ok (.invokevirtual 212, 3) := by decide +kernel
theorem dX5_audit_27 : decode cX5_audit 27 = .ok (.ifCond .ne 13, 3) := by decide +kernel
theorem dX5_audit_30 : decode cX5_audit 30 = .ok (.new 38, 3) := by decide +kernel
theorem dX5_audit_33 : decode cX5_audit 33 = .ok (.dup, 1) := by decide +kernel
theorem dX5_audit_34 : decode cX5_audit 34 = .ok (.ldc 215, 2) := by decide +kernel
theorem dX5_audit_36 : decode cX5_audit 36 = .ok (.invokespecial 42, 3) := by decide +kernel
theorem dX5_audit_39 : decode cX5_audit 39 = .ok (.athrow, 1) := by decide +kernel
theorem dX5_audit_40 : decode cX5_audit 40 = .ok (.iconst 0, 1) := by decide +kernel
theorem dX5_audit_41 : decode cX5_audit 41 = .ok (.istore_n 2, 1) := by decide +kernel
theorem dX5_audit_42 : decode cX5_audit 42 = .ok (.iconst 0, 1) := by decide +kernel
theorem dX5_audit_43 : decode cX5_audit 43 = .ok (.istore_n 3, 1) := by decide +kernel
theorem dX5_audit_44 : decode cX5_audit 44 = .ok (.iload_n 3, 1) := by decide +kernel
theorem dX5_audit_45 : decode cX5_audit 45 = .ok (.iload_n 1, 1) := by decide +kernel
theorem dX5_audit_46 : decode cX5_audit 46 = .ok (.if_icmp .ge 22, 3) := by decide +kernel
theorem dX5_audit_49 : decode cX5_audit 49 = .ok (.aload_n 0, 1) := by decide +kernel
theorem dX5_audit_50 : decode cX5_audit 50 = .ok (.getfield 19, 3) := by decide +kernel
theorem dX5_audit_53 : decode cX5_audit 53 = .ok (.invokevirtual 217, 3) := by decide +kernel
theorem dX5_audit_56 : decode cX5_audit 56 = .ok (.ifCond .eq 6, 3) := by decide +kernel
theorem dX5_audit_59 : decode cX5_audit 59 = .ok (.iinc 2 1, 3) := by decide +kernel
theorem dX5_audit_62 : decode cX5_audit 62 = .ok (.iinc 3 1, 3) := by decide +kernel
theorem dX5_audit_65 : decode cX5_audit 65 = .ok (.goto (-21), 3) := by decide +kernel
theorem dX5_audit_68 : decode cX5_audit 68 = .ok (.iload_n 2, 1) := by decide +kernel
theorem dX5_audit_69 : decode cX5_audit 69 = .ok (.ireturn, 1) := by decide +kernel
theorem dX5_replicate_0 : decode cX5_replicate 0 = .ok (.aload_n 0, 1) := by decide +kernel
theorem dX5_replicate_1 : decode cX5_replicate 1 = .ok (.getfield 19, 3) := by decide +kernel
theorem dX5_replicate_4 : decode cX5_replicate 4 = .ok (.invokevirtual 220, 3) := by decide +kernel
theorem dX5_replicate_7 : decode cX5_replicate 7 = .ok (.ireturn, 1) := by decide +kernel
theorem dX5_lacking_0 : decode cX5_lacking 0 = .ok (.aload_n 0, 1) := by decide +kernel
theorem dX5_lacking_1 : decode cX5_lacking 1 = .ok (.getfield 19, 3) := by decide +kernel
theorem dX5_lacking_4 : decode cX5_lacking 4 = .ok (.invokevirtual 223, 3) := by decide +kernel
theorem dX5_lacking_7 : decode cX5_lacking 7 = .ok (.ireturn, 1) := by decide +kernel
theorem dX5_isWithin_0 : decode cX5_isWithin 0 = .ok (.iload_n 0, 1) := by decide +kernel
theorem dX5_isWithin_1 : decode cX5_isWithin 1 = .ok (.iload_n 1, 1) := by decide +kernel
theorem dX5_isWithin_2 : decode cX5_isWithin 2 = .ok (.if_icmp .lt 12, 3) := by decide +kernel
theorem dX5_isWithin_5 : decode cX5_isWithin 5 = .ok (.iload_n 0, 1) := by decide +kernel
theorem dX5_isWithin_6 : decode cX5_isWithin 6 = .ok (.iload_n 2, 1) := by decide +kernel
theorem dX5_isWithin_7 : decode cX5_isWithin 7 = .ok (.if_icmp .gt 7, 3) := by decide +kernel
theorem dX5_isWithin_10 : decode cX5_isWithin 10 = .ok (.iconst 1, 1) := by decide +kernel
theorem dX5_isWithin_11 : decode cX5_isWithin 11 = .ok (.goto 4, 3) := by decide +kernel
theorem dX5_isWithin_14 : decode cX5_isWithin 14 = .ok (.iconst 0, 1) := by decide +kernel
theorem dX5_isWithin_15 : decode cX5_isWithin 15 = .ok (.ireturn, 1) := by decide +kernel
theorem dX5_requireRisk_0 : decode cX5_requireRisk 0 = .ok (.iload_n 0, 1) := by decide +kernel
theorem dX5_requireRisk_1 : decode cX5_requireRisk 1 = .ok (.iconst 0, 1) := by decide +kernel
theorem dX5_requireRisk_2 : decode cX5_requireRisk 2 = .ok (.bipush 100, 2) := by decide +kernel
theorem dX5_requireRisk_4 : decode cX5_requireRisk 4 = .ok (.invokestatic 56, 3) := by decide +kernel
theorem dX5_requireRisk_7 : decode cX5_requireRisk 7 = .ok (.ifCond .ne 13, 3) := by decide +kernel
theorem dX5_requireRisk_10 : decode cX5_requireRisk 10 = .ok (.new 60, 3) := by decide +kernel
theorem dX5_requireRisk_13 : decode cX5_requireRisk 13 = .ok (.dup, 1) := by decide +kernel
theorem dX5_requireRisk_14 : decode cX5_requireRisk 14 = .ok (.ldc 226, 2) := by decide +kernel
theorem dX5_requireRisk_16 : decode cX5_requireRisk 16 = .ok (.invokespecial 64, 3) := by decide +kernel
theorem dX5_requireRisk_19 : decode cX5_requireRisk 19 = .ok (.athrow, 1) := by decide +kernel
theorem dX5_requireRisk_20 : decode cX5_requireRisk 20 = .ok (.return_, 1) := by decide +kernel
theorem dX5_requireContent_0 : decode cX5_requireContent 0 = .ok (.iload_n 0, 1) := by decide +kernel
theorem dX5_requireContent_1 : decode cX5_requireContent 1 = .ok (.iconst 0, 1) := by decide +kernel
theorem dX5_requireContent_2 : decode cX5_requireContent 2 = .ok (.ldc 228, 2) := by decide +kernel
theorem dX5_requireContent_4 : decode cX5_requireContent 4 = .ok (.invokestatic 56, 3) := by decide +kernel
theorem dX5_requireContent_7 : decode cX5_requireContent 7 = .ok (.ifCond .ne 13, 3) := by decide +kernel
theorem dX5_requireContent_10 : decode cX5_requireContent 10 = .ok (.new 60, 3) := by decide +kernel
theorem dX5_requireContent_13 : decode cX5_requireContent 13 = .ok (.dup, 1) := by decide +kernel
theorem dX5_requireContent_14 : decode cX5_requireContent 14 = .ok (.ldc 229, 2) := by decide +kernel
theorem dX5_requireContent_16 : decode cX5_requireContent 16 = .ok (.invokespecial 64, 3) := by decide +kernel
theorem dX5_requireContent_19 : decode cX5_requireContent 19 = .ok (.athrow, 1) := by decide +kernel
theorem dX5_requireContent_20 : decode cX5_requireContent 20 = .ok (.return_, 1) := by decide +kernel
theorem dX5_requireSite_0 : decode cX5_requireSite 0 = .ok (.iload_n 0, 1) := by decide +kernel
theorem dX5_requireSite_1 : decode cX5_requireSite 1 = .ok (.iconst 0, 1) := by decide +kernel
theorem dX5_requireSite_2 : decode cX5_requireSite 2 = .ok (.iconst 3, 1) := by decide +kernel
theorem dX5_requireSite_3 : decode cX5_requireSite 3 = .ok (.invokestatic 56, 3) := by decide +kernel
theorem dX5_requireSite_6 : decode cX5_requireSite 6 = .ok (.ifCond .ne 13, 3) := by decide +kernel
theorem dX5_requireSite_9 : decode cX5_requireSite 9 = .ok (.new 60, 3) := by decide +kernel
theorem dX5_requireSite_12 : decode cX5_requireSite 12 = .ok (.dup, 1) := by decide +kernel
theorem dX5_requireSite_13 : decode cX5_requireSite 13 = .ok (.ldc 231, 2) := by decide +kernel
theorem dX5_requireSite_15 : decode cX5_requireSite 15 = .ok (.invokespecial 64, 3) := by decide +kernel
theorem dX5_requireSite_18 : decode cX5_requireSite 18 = .ok (.athrow, 1) := by decide +kernel
theorem dX5_requireSite_19 : decode cX5_requireSite 19 = .ok (.return_, 1) := by decide +kernel
theorem dX5_requireFormat_0 : decode cX5_requireFormat 0 = .ok (.aload_n 0, 1) := by decide +kernel
theorem dX5_requireFormat_1 : decode cX5_requireFormat 1 = .ok (.getfield 10, 3) := by decide +kernel
theorem dX5_requireFormat_4 : decode cX5_requireFormat 4 = .ok (.iload_n 1, 1) := by decide +kernel
theorem dX5_requireFormat_5 : decode cX5_requireFormat 5 = .ok (.invokevirtual 233, 3) := by decide +kernel
theorem dX5_requireFormat_8 : decode cX5_requireFormat 8 = .ok (.ifCond .ne 13, 3) := by decide +kernel
theorem dX5_requireFormat_11 : decode cX5_requireFormat 11 = .ok (.new 195, 3) := by decide +kernel
theorem dX5_requireFormat_14 : decode cX5_requireFormat 14 = .ok (.dup, 1) := by decide +kernel
theorem dX5_requireFormat_15 : decode cX5_requireFormat 15 = .ok (.ldc 236, 2) := by decide +kernel
theorem dX5_requireFormat_17 : decode cX5_requireFormat 17 = .ok (.invokespecial 199, 3) := by decide +kernel
theorem dX5_requireFormat_20 : decode cX5_requireFormat 20 = .ok (.athrow, 1) := by decide +kernel
theorem dX5_requireFormat_21 : decode cX5_requireFormat 21 = .ok (.return_, 1) := by decide +kernel
theorem dX5_requireRoomForVersion_0 : decode cX5_requireRoomForVersion 0 = .ok (.aload_n 0, 1) := by decide +kernel
theorem dX5_requireRoomForVersion_1 : decode cX5_requireRoomForVersion 1 = .ok (.invokevirtual 238, 3) := by decide +kernel
theorem dX5_requireRoomForVersion_4 : decode cX5_requireRoomForVersion 4 = .ok (.ifCond .eq 13, 3) := by decide +kernel
theorem dX5_requireRoomForVersion_7 : decode cX5_requireRoomForVersion 7 = .ok (.new 38, 3) := by decide +kernel
theorem dX5_requireRoomForVersion_10 : decode cX5_requireRoomForVersion 10 = .ok (.dup, 1) := by decide +kernel
theorem dX5_requireRoomForVersion_11 : decode cX5_requireRoomForVersion 11 = .ok (.ldc 239, 2) := by decide +kernel
theorem dX5_requireRoomForVersion_13 : decode cX5_requireRoomForVersion 13 = .ok (.invokespecial 42, 3) := by decide +kernel
theorem dX5_requireRoomForVersion_16 : decode cX5_requireRoomForVersion 16 = .ok (.athrow, 1) := by decide +kernel
theorem dX5_requireRoomForVersion_17 : decode cX5_requireRoomForVersion 17 = .ok (.return_, 1) := by decide +kernel
theorem dX5_requireReadable_0 : decode cX5_requireReadable 0 = .ok (.aload_n 0, 1) := by decide +kernel
theorem dX5_requireReadable_1 : decode cX5_requireReadable 1 = .ok (.invokevirtual 241, 3) := by decide +kernel
theorem dX5_requireReadable_4 : decode cX5_requireReadable 4 = .ok (.ifCond .ne 13, 3) := by decide +kernel
theorem dX5_requireReadable_7 : decode cX5_requireReadable 7 = .ok (.new 38, 3) := by decide +kernel
theorem dX5_requireReadable_10 : decode cX5_requireReadable 10 = .ok (.dup, 1) := by decide +kernel
theorem dX5_requireReadable_11 : decode cX5_requireReadable 11 = .ok (.ldc 244, 2) := by decide +kernel
theorem dX5_requireReadable_13 : decode cX5_requireReadable 13 = .ok (.invokespecial 42, 3) := by decide +kernel
theorem dX5_requireReadable_16 : decode cX5_requireReadable 16 = .ok (.athrow, 1) := by decide +kernel
theorem dX5_requireReadable_17 : decode cX5_requireReadable 17 = .ok (.return_, 1) := by decide +kernel
theorem dX5_objectAt_0 : decode cX5_objectAt 0 = .ok (.iload_n 1, 1) := by decide +kernel
theorem dX5_objectAt_1 : decode cX5_objectAt 1 = .ok (.ifCond .lt 14, 3) := by decide +kernel
theorem dX5_objectAt_4 : decode cX5_objectAt 4 = .ok (.iload_n 1, 1) := by decide +kernel
theorem dX5_objectAt_5 : decode cX5_objectAt 5 = .ok (.aload_n 0, 1) := by decide +kernel
theorem dX5_objectAt_6 : decode cX5_objectAt 6 = .ok (.getfield 26, 3) := by decide +kernel
theorem dX5_objectAt_9 : decode cX5_objectAt 9 = .ok (.invokevirtual 82, 3) := by decide +kernel
theorem dX5_objectAt_12 : decode cX5_objectAt 12 = .ok (.if_icmp .lt 13, 3) := by decide +kernel
theorem dX5_objectAt_15 : decode cX5_objectAt 15 = .ok (.new 195, 3) := by decide +kernel
theorem dX5_objectAt_18 : decode cX5_objectAt 18 = .ok (.dup, 1) := by decide +kernel
theorem dX5_objectAt_19 : decode cX5_objectAt 19 = .ok (.ldc 246, 2) := by decide +kernel
theorem dX5_objectAt_21 : decode cX5_objectAt 21 = .ok (.invokespecial 199, 3) := by decide +kernel
theorem dX5_objectAt_24 : decode cX5_objectAt 24 = .ok (.athrow, 1) := by decide +kernel
theorem dX5_objectAt_25 : decode cX5_objectAt 25 = .ok (.aload_n 0, 1) := by decide +kernel
theorem dX5_objectAt_26 : decode cX5_objectAt 26 = .ok (.getfield 26, 3) := by decide +kernel
theorem dX5_objectAt_29 : decode cX5_objectAt 29 = .ok (.iload_n 1, 1) := by decide +kernel
theorem dX5_objectAt_30 : decode cX5_objectAt 30 = .ok (.invokevirtual 166, 3) := by decide +kernel
theorem dX5_objectAt_33 : decode cX5_objectAt 33 = .ok (.checkcast 88, 3) := by decide +kernel
theorem dX5_objectAt_36 : decode cX5_objectAt 36 = .ok (.areturn, 1) := by decide +kernel
theorem dX5_versionAt_0 : decode cX5_versionAt 0 = .ok (.aload_n 0, 1) := by decide +kernel
theorem dX5_versionAt_1 : decode cX5_versionAt 1 = .ok (.iload_n 1, 1) := by decide +kernel
theorem dX5_versionAt_2 : decode cX5_versionAt 2 = .ok (.invokevirtual 248, 3) := by decide +kernel
theorem dX5_versionAt_5 : decode cX5_versionAt 5 = .ok (.astore_n 2, 1) := by decide +kernel
theorem dX5_versionAt_6 : decode cX5_versionAt 6 = .ok (.aload_n 2, 1) := by decide +kernel
theorem dX5_versionAt_7 : decode cX5_versionAt 7 = .ok (.ifnonnull 13, 3) := by decide +kernel
theorem dX5_versionAt_10 : decode cX5_versionAt 10 = .ok (.new 195, 3) := by decide +kernel
theorem dX5_versionAt_13 : decode cX5_versionAt 13 = .ok (.dup, 1) := by decide +kernel
theorem dX5_versionAt_14 : decode cX5_versionAt 14 = .ok (.ldc 252, 2) := by decide +kernel
theorem dX5_versionAt_16 : decode cX5_versionAt 16 = .ok (.invokespecial 199, 3) := by decide +kernel
theorem dX5_versionAt_19 : decode cX5_versionAt 19 = .ok (.athrow, 1) := by decide +kernel
theorem dX5_versionAt_20 : decode cX5_versionAt 20 = .ok (.aload_n 2, 1) := by decide +kernel
theorem dX5_versionAt_21 : decode cX5_versionAt 21 = .ok (.areturn, 1) := by decide +kernel
theorem dX5_unitAt_0 : decode cX5_unitAt 0 = .ok (.aload_n 0, 1) := by decide +kernel
theorem dX5_unitAt_1 : decode cX5_unitAt 1 = .ok (.getfield 19, 3) := by decide +kernel
theorem dX5_unitAt_4 : decode cX5_unitAt 4 = .ok (.iload_n 1, 1) := by decide +kernel
theorem dX5_unitAt_5 : decode cX5_unitAt 5 = .ok (.invokevirtual 254, 3) := by decide +kernel
theorem dX5_unitAt_8 : decode cX5_unitAt 8 = .ok (.astore_n 2, 1) := by decide +kernel
theorem dX5_unitAt_9 : decode cX5_unitAt 9 = .ok (.aload_n 2, 1) := by decide +kernel
theorem dX5_unitAt_10 : decode cX5_unitAt 10 = .ok (.ifnonnull 14, 3) := by decide +kernel
theorem dX5_unitAt_13 : decode cX5_unitAt 13 = .ok (.new 195, 3) := by decide +kernel
theorem dX5_unitAt_16 : decode cX5_unitAt 16 = .ok (.dup, 1) := by decide +kernel
theorem dX5_unitAt_17 : decode cX5_unitAt 17 = .ok (.ldc_w 256, 3) := by decide +kernel
theorem dX5_unitAt_20 : decode cX5_unitAt 20 = .ok (.invokespecial 199, 3) := by decide +kernel
theorem dX5_unitAt_23 : decode cX5_unitAt 23 = .ok (.athrow, 1) := by decide +kernel
theorem dX5_unitAt_24 : decode cX5_unitAt 24 = .ok (.aload_n 2, 1) := by decide +kernel
theorem dX5_unitAt_25 : decode cX5_unitAt 25 = .ok (.areturn, 1) := by decide +kernel
theorem dX5_makeVersion_0 : decode cX5_makeVersion 0 = .ok (.aload_n 1, 1) := by decide +kernel
theorem dX5_makeVersion_1 : decode cX5_makeVersion 1 = .ok (.ifnonnull 7, 3) := by decide +kernel
theorem dX5_makeVersion_4 : decode cX5_makeVersion 4 = .ok (.iload_n 3, 1) := by decide +kernel
theorem dX5_makeVersion_5 : decode cX5_makeVersion 5 = .ok (.goto 9, 3) := by decide +kernel
theorem dX5_makeVersion_8 : decode cX5_makeVersion 8 = .ok (.iload_n 3, 1) := by decide +kernel
theorem dX5_makeVersion_9 : decode cX5_makeVersion 9 = .ok (.aload_n 1, 1) := by decide +kernel
theorem dX5_makeVersion_10 : decode cX5_makeVersion 10 = .ok (.getfield 258, 3) := by decide +kernel
theorem dX5_makeVersion_13 : decode cX5_makeVersion 13 = .ok (.isub, 1) := by decide +kernel
theorem dX5_makeVersion_14 : decode cX5_makeVersion 14 = .ok (.istore 5, 2) := by decide +kernel
theorem dX5_makeVersion_16 : decode cX5_makeVersion 16 = .ok (.aload_n 0, 1) := by decide +kernel
theorem dX5_makeVersion_17 : decode cX5_makeVersion 17 = .ok (.getfield 19, 3) := by decide +kernel
theorem dX5_makeVersion_20 : decode cX5_makeVersion 20 = .ok (.aload_n 1, 1) := by decide +kernel
theorem dX5_makeVersion_21 : decode cX5_makeVersion 21 = .ok (.ifnull 7, 3) := by decide +kernel
theorem dX5_makeVersion_24 : decode cX5_makeVersion 24 = .ok (.iconst 1, 1) := by decide +kernel
theorem dX5_makeVersion_25 : decode cX5_makeVersion 25 = .ok (.goto 4, 3) := by decide +kernel
theorem dX5_makeVersion_28 : decode cX5_makeVersion 28 = .ok (.iconst 0, 1) := by decide +kernel
theorem dX5_makeVersion_29 : decode cX5_makeVersion 29 = .ok (.iload 5, 2) := by decide +kernel
theorem dX5_makeVersion_31 : decode cX5_makeVersion 31 = .ok (.iload 4, 2) := by decide +kernel
theorem dX5_makeVersion_33 : decode cX5_makeVersion 33 = .ok (.invokevirtual 261, 3) := by decide +kernel
theorem dX5_makeVersion_36 : decode cX5_makeVersion 36 = .ok (.astore 6, 2) := by decide +kernel
theorem dX5_makeVersion_38 : decode cX5_makeVersion 38 = .ok (.new 113, 3) := by decide +kernel
theorem dX5_makeVersion_41 : decode cX5_makeVersion 41 = .ok (.dup, 1) := by decide +kernel
theorem dX5_makeVersion_42 : decode cX5_makeVersion 42 = .ok (.aload 6, 2) := by decide +kernel
theorem dX5_makeVersion_44 : decode cX5_makeVersion 44 = .ok (.aload_n 1, 1) := by decide +kernel
theorem dX5_makeVersion_45 : decode cX5_makeVersion 45 = .ok (.iload_n 2, 1) := by decide +kernel
theorem dX5_makeVersion_46 : decode cX5_makeVersion 46 = .ok (.iload_n 3, 1) := by decide +kernel
theorem dX5_makeVersion_47 : decode cX5_makeVersion 47 = .ok (.invokespecial 265, 3) := by decide +kernel
theorem dX5_makeVersion_50 : decode cX5_makeVersion 50 = .ok (.astore 7, 2) := by decide +kernel
theorem dX5_makeVersion_52 : decode cX5_makeVersion 52 = .ok (.aload 7, 2) := by decide +kernel
theorem dX5_makeVersion_54 : decode cX5_makeVersion 54 = .ok (.invokevirtual 268, 3) := by decide +kernel
theorem dX5_makeVersion_57 : decode cX5_makeVersion 57 = .ok (.aload 7, 2) := by decide +kernel
theorem dX5_makeVersion_59 : decode cX5_makeVersion 59 = .ok (.areturn, 1) := by decide +kernel
theorem dX5_convertedContent_0 : decode cX5_convertedContent 0 = .ok (.sipush 1000, 3) := by decide +kernel
theorem dX5_convertedContent_3 : decode cX5_convertedContent 3 = .ok (.iload_n 0, 1) := by decide +kernel
theorem dX5_convertedContent_4 : decode cX5_convertedContent 4 = .ok (.sipush 1000, 3) := by decide +kernel
theorem dX5_convertedContent_7 : decode cX5_convertedContent 7 = .ok (.invokestatic 271, 3) := by decide +kernel
theorem dX5_convertedContent_10 : decode cX5_convertedContent 10 = .ok (.imul, 1) := by decide +kernel
theorem dX5_convertedContent_11 : decode cX5_convertedContent 11 = .ok (.iload_n 1, 1) := by decide +kernel
theorem dX5_convertedContent_12 : decode cX5_convertedContent 12 = .ok (.sipush 1000, 3) := by decide +kernel
theorem dX5_convertedContent_15 : decode cX5_convertedContent 15 = .ok (.irem, 1) := by decide +kernel
theorem dX5_convertedContent_16 : decode cX5_convertedContent 16 = .ok (.iadd, 1) := by decide +kernel
theorem dX5_convertedContent_17 : decode cX5_convertedContent 17 = .ok (.ireturn, 1) := by decide +kernel
theorem dJ6_bitCount_0f7a4_0 : decode cJ6_bitCount_0f7a4 0 = .ok (.iload_n 0, 1) := by decide +kernel
theorem dJ6_bitCount_0f7a4_1 : decode cJ6_bitCount_0f7a4 1 = .ok (.iload_n 0, 1) := by decide +kernel
theorem dJ6_bitCount_0f7a4_2 : decode cJ6_bitCount_0f7a4 2 = .ok (.iconst 1, 1) := by decide +kernel
theorem dJ6_bitCount_0f7a4_3 : decode cJ6_bitCount_0f7a4 3 = .ok (.iushr, 1) := by decide +kernel
theorem dJ6_bitCount_0f7a4_4 : decode cJ6_bitCount_0f7a4 4 = .ok (.ldc_w 265, 3) := by decide +kernel
theorem dJ6_bitCount_0f7a4_7 : decode cJ6_bitCount_0f7a4 7 = .ok (.iand, 1) := by decide +kernel
theorem dJ6_bitCount_0f7a4_8 : decode cJ6_bitCount_0f7a4 8 = .ok (.isub, 1) := by decide +kernel
theorem dJ6_bitCount_0f7a4_9 : decode cJ6_bitCount_0f7a4 9 = .ok (.istore_n 0, 1) := by decide +kernel
theorem dJ6_bitCount_0f7a4_10 : decode cJ6_bitCount_0f7a4 10 = .ok (.iload_n 0, 1) := by decide +kernel
theorem dJ6_bitCount_0f7a4_11 : decode cJ6_bitCount_0f7a4 11 = .ok (.ldc_w 266, 3) := by decide +kernel
theorem dJ6_bitCount_0f7a4_14 : decode cJ6_bitCount_0f7a4 14 = .ok (.iand, 1) := by decide +kernel
theorem dJ6_bitCount_0f7a4_15 : decode cJ6_bitCount_0f7a4 15 = .ok (.iload_n 0, 1) := by decide +kernel
theorem dJ6_bitCount_0f7a4_16 : decode cJ6_bitCount_0f7a4 16 = .ok (.iconst 2, 1) := by decide +kernel
theorem dJ6_bitCount_0f7a4_17 : decode cJ6_bitCount_0f7a4 17 = .ok (.iushr, 1) := by decide +kernel
theorem dJ6_bitCount_0f7a4_18 : decode cJ6_bitCount_0f7a4 18 = .ok (.ldc_w 266, 3) := by decide +kernel
theorem dJ6_bitCount_0f7a4_21 : decode cJ6_bitCount_0f7a4 21 = .ok (.iand, 1) := by decide +kernel
theorem dJ6_bitCount_0f7a4_22 : decode cJ6_bitCount_0f7a4 22 = .ok (.iadd, 1) := by decide +kernel
theorem dJ6_bitCount_0f7a4_23 : decode cJ6_bitCount_0f7a4 23 = .ok (.istore_n 0, 1) := by decide +kernel
theorem dJ6_bitCount_0f7a4_24 : decode cJ6_bitCount_0f7a4 24 = .ok (.iload_n 0, 1) := by decide +kernel
theorem dJ6_bitCount_0f7a4_25 : decode cJ6_bitCount_0f7a4 25 = .ok (.iload_n 0, 1) := by decide +kernel
theorem dJ6_bitCount_0f7a4_26 : decode cJ6_bitCount_0f7a4 26 = .ok (.iconst 4, 1) := by decide +kernel
theorem dJ6_bitCount_0f7a4_27 : decode cJ6_bitCount_0f7a4 27 = .ok (.iushr, 1) := by decide +kernel
theorem dJ6_bitCount_0f7a4_28 : decode cJ6_bitCount_0f7a4 28 = .ok (.iadd, 1) := by decide +kernel
theorem dJ6_bitCount_0f7a4_29 : decode cJ6_bitCount_0f7a4 29 = .ok (.ldc_w 267, 3) := by decide +kernel
theorem dJ6_bitCount_0f7a4_32 : decode cJ6_bitCount_0f7a4 32 = .ok (.iand, 1) := by decide +kernel
theorem dJ6_bitCount_0f7a4_33 : decode cJ6_bitCount_0f7a4 33 = .ok (.istore_n 0, 1) := by decide +kernel
theorem dJ6_bitCount_0f7a4_34 : decode cJ6_bitCount_0f7a4 34 = .ok (.iload_n 0, 1) := by decide +kernel
theorem dJ6_bitCount_0f7a4_35 : decode cJ6_bitCount_0f7a4 35 = .ok (.iload_n 0, 1) := by decide +kernel
theorem dJ6_bitCount_0f7a4_36 : decode cJ6_bitCount_0f7a4 36 = .ok (.bipush 8, 2) := by decide +kernel
theorem dJ6_bitCount_0f7a4_38 : decode cJ6_bitCount_0f7a4 38 = .ok (.iushr, 1) := by decide +kernel
theorem dJ6_bitCount_0f7a4_39 : decode cJ6_bitCount_0f7a4 39 = .ok (.iadd, 1) := by decide +kernel
theorem dJ6_bitCount_0f7a4_40 : decode cJ6_bitCount_0f7a4 40 = .ok (.istore_n 0, 1) := by decide +kernel
theorem dJ6_bitCount_0f7a4_41 : decode cJ6_bitCount_0f7a4 41 = .ok (.iload_n 0, 1) := by decide +kernel
theorem dJ6_bitCount_0f7a4_42 : decode cJ6_bitCount_0f7a4 42 = .ok (.iload_n 0, 1) := by decide +kernel
theorem dJ6_bitCount_0f7a4_43 : decode cJ6_bitCount_0f7a4 43 = .ok (.bipush 16, 2) := by decide +kernel
theorem dJ6_bitCount_0f7a4_45 : decode cJ6_bitCount_0f7a4 45 = .ok (.iushr, 1) := by decide +kernel
theorem dJ6_bitCount_0f7a4_46 : decode cJ6_bitCount_0f7a4 46 = .ok (.iadd, 1) := by decide +kernel
theorem dJ6_bitCount_0f7a4_47 : decode cJ6_bitCount_0f7a4 47 = .ok (.istore_n 0, 1) := by decide +kernel
theorem dJ6_bitCount_0f7a4_48 : decode cJ6_bitCount_0f7a4 48 = .ok (.iload_n 0, 1) := by decide +kernel
theorem dJ6_bitCount_0f7a4_49 : decode cJ6_bitCount_0f7a4 49 = .ok (.bipush 63, 2) := by decide +kernel
theorem dJ6_bitCount_0f7a4_51 : decode cJ6_bitCount_0f7a4 51 = .ok (.iand, 1) := by decide +kernel
theorem dJ6_bitCount_0f7a4_52 : decode cJ6_bitCount_0f7a4 52 = .ok (.ireturn, 1) := by decide +kernel
theorem dJ9_floorMod_7cf53_0 : decode cJ9_floorMod_7cf53 0 = .ok (.iload_n 0, 1) := by decide +kernel
theorem dJ9_floorMod_7cf53_1 : decode cJ9_floorMod_7cf53 1 = .ok (.iload_n 1, 1) := by decide +kernel
theorem dJ9_floorMod_7cf53_2 : decode cJ9_floorMod_7cf53 2 = .ok (.irem, 1) := by decide +kernel
theorem dJ9_floorMod_7cf53_3 : decode cJ9_floorMod_7cf53 3 = .ok (.istore_n 2, 1) := by decide +kernel
theorem dJ9_floorMod_7cf53_4 : decode cJ9_floorMod_7cf53 4 = .ok (.iload_n 0, 1) := by decide +kernel
theorem dJ9_floorMod_7cf53_5 : decode cJ9_floorMod_7cf53 5 = .ok (.iload_n 1, 1) := by decide +kernel
theorem dJ9_floorMod_7cf53_6 : decode cJ9_floorMod_7cf53 6 = .ok (.ixor, 1) := by decide +kernel
theorem dJ9_floorMod_7cf53_7 : decode cJ9_floorMod_7cf53 7 = .ok (.ifCond .ge 11, 3) := by decide +kernel
theorem dJ9_floorMod_7cf53_10 : decode cJ9_floorMod_7cf53 10 = .ok (.iload_n 2, 1) := by decide +kernel
theorem dJ9_floorMod_7cf53_11 : decode cJ9_floorMod_7cf53 11 = .ok (.ifCond .eq 7, 3) := by decide +kernel
theorem dJ9_floorMod_7cf53_14 : decode cJ9_floorMod_7cf53 14 = .ok (.iload_n 2, 1) := by decide +kernel
theorem dJ9_floorMod_7cf53_15 : decode cJ9_floorMod_7cf53 15 = .ok (.iload_n 1, 1) := by decide +kernel
theorem dJ9_floorMod_7cf53_16 : decode cJ9_floorMod_7cf53 16 = .ok (.iadd, 1) := by decide +kernel
theorem dJ9_floorMod_7cf53_17 : decode cJ9_floorMod_7cf53 17 = .ok (.ireturn, 1) := by decide +kernel
theorem dJ9_floorMod_7cf53_18 : decode cJ9_floorMod_7cf53 18 = .ok (.iload_n 2, 1) := by decide +kernel
theorem dJ9_floorMod_7cf53_19 : decode cJ9_floorMod_7cf53 19 = .ok (.ireturn, 1) := by decide +kernel
theorem dJ9_max_7cf53_0 : decode cJ9_max_7cf53 0 = .ok (.iload_n 0, 1) := by decide +kernel
theorem dJ9_max_7cf53_1 : decode cJ9_max_7cf53 1 = .ok (.iload_n 1, 1) := by decide +kernel
theorem dJ9_max_7cf53_2 : decode cJ9_max_7cf53 2 = .ok (.if_icmp .lt 7, 3) := by decide +kernel
theorem dJ9_max_7cf53_5 : decode cJ9_max_7cf53 5 = .ok (.iload_n 0, 1) := by decide +kernel
theorem dJ9_max_7cf53_6 : decode cJ9_max_7cf53 6 = .ok (.goto 4, 3) := by decide +kernel
theorem dJ9_max_7cf53_9 : decode cJ9_max_7cf53 9 = .ok (.iload_n 1, 1) := by decide +kernel
theorem dJ9_max_7cf53_10 : decode cJ9_max_7cf53 10 = .ok (.ireturn, 1) := by decide +kernel
theorem dJ9_min_7cf53_0 : decode cJ9_min_7cf53 0 = .ok (.iload_n 0, 1) := by decide +kernel
theorem dJ9_min_7cf53_1 : decode cJ9_min_7cf53 1 = .ok (.iload_n 1, 1) := by decide +kernel
theorem dJ9_min_7cf53_2 : decode cJ9_min_7cf53 2 = .ok (.if_icmp .gt 7, 3) := by decide +kernel
theorem dJ9_min_7cf53_5 : decode cJ9_min_7cf53 5 = .ok (.iload_n 0, 1) := by decide +kernel
theorem dJ9_min_7cf53_6 : decode cJ9_min_7cf53 6 = .ok (.goto 4, 3) := by decide +kernel
theorem dJ9_min_7cf53_9 : decode cJ9_min_7cf53 9 = .ok (.iload_n 1, 1) := by decide +kernel
theorem dJ9_min_7cf53_10 : decode cJ9_min_7cf53 10 = .ok (.ireturn, 1) := by decide +kernel
theorem dJxa1e45_init_da8c8_0 : decode cJxa1e45_init_da8c8 0 = .ok (.aload_n 0, 1) := by decide +kernel
theorem dJxa1e45_init_da8c8_1 : decode cJxa1e45_init_da8c8 1 = .ok (.invokespecial 1, 3) := by decide +kernel
theorem dJxa1e45_init_da8c8_4 : decode cJxa1e45_init_da8c8 4 = .ok (.return_, 1) := by decide +kernel
theorem dJxc12de_init_da8c8_0 : decode cJxc12de_init_da8c8 0 = .ok (.aload_n 0, 1) := by decide +kernel
theorem dJxc12de_init_da8c8_1 : decode cJxc12de_init_da8c8 1 = .ok (.invokespecial 1, 3) := by decide +kernel
theorem dJxc12de_init_da8c8_4 : decode cJxc12de_init_da8c8 4 = .ok (.aload_n 0, 1) := by decide +kernel
theorem dJxc12de_init_da8c8_5 : decode cJxc12de_init_da8c8 5 = .ok (.iconst 0, 1) := by decide +kernel
theorem dJxc12de_init_da8c8_6 : decode cJxc12de_init_da8c8 6 = .ok (.putfield 7, 3) := by decide +kernel
theorem dJxc12de_init_da8c8_9 : decode cJxc12de_init_da8c8 9 = .ok (.return_, 1) := by decide +kernel
theorem dJx4a65c_init_da8c8_0 : decode cJx4a65c_init_da8c8 0 = .ok (.aload_n 0, 1) := by decide +kernel
theorem dJx4a65c_init_da8c8_1 : decode cJx4a65c_init_da8c8 1 = .ok (.invokespecial 1, 3) := by decide +kernel
theorem dJx4a65c_init_da8c8_4 : decode cJx4a65c_init_da8c8 4 = .ok (.aload_n 0, 1) := by decide +kernel
theorem dJx4a65c_init_da8c8_5 : decode cJx4a65c_init_da8c8 5 = .ok (.getstatic 39, 3) := by decide +kernel
theorem dJx4a65c_init_da8c8_8 : decode cJx4a65c_init_da8c8 8 = .ok (.putfield 9, 3) := by decide +kernel
theorem dJx4a65c_init_da8c8_11 : decode cJx4a65c_init_da8c8 11 = .ok (.return_, 1) := by decide +kernel
theorem dJx4a65c_grow_92f84_0 : decode cJx4a65c_grow_92f84 0 = .ok (.aload_n 0, 1) := by decide +kernel
theorem dJx4a65c_grow_92f84_1 : decode cJx4a65c_grow_92f84 1 = .ok (.getfield 9, 3) := by decide +kernel
theorem dJx4a65c_grow_92f84_4 : decode cJx4a65c_grow_92f84 4 = .ok (.arraylength, 1) := by decide +kernel
theorem dJx4a65c_grow_92f84_5 : decode cJx4a65c_grow_92f84 5 = .ok (.istore_n 2, 1) := by decide +kernel
theorem dJx4a65c_grow_92f84_6 : decode cJx4a65c_grow_92f84 6 = .ok (.iload_n 2, 1) := by decide +kernel
theorem dJx4a65c_grow_92f84_7 : decode cJx4a65c_grow_92f84 7 = .ok (.ifCond .gt 13, 3) := by decide +kernel
theorem dJx4a65c_grow_92f84_10 : decode cJx4a65c_grow_92f84 10 = .ok (.aload_n 0, 1) := by decide +kernel
theorem dJx4a65c_grow_92f84_11 : decode cJx4a65c_grow_92f84 11 = .ok (.getfield 9, 3) := by decide +kernel
theorem dJx4a65c_grow_92f84_14 : decode cJx4a65c_grow_92f84 14 = .ok (.getstatic 39, 3) := by decide +kernel
theorem dJx4a65c_grow_92f84_17 : decode cJx4a65c_grow_92f84 17 = .ok (.if_acmp .eq 28, 3) := by decide +kernel
theorem dJx4a65c_grow_92f84_20 : decode cJx4a65c_grow_92f84 20 = .ok (.iload_n 2, 1) := by decide +kernel
theorem dJx4a65c_grow_92f84_21 : decode cJx4a65c_grow_92f84 21 = .ok (.iload_n 1, 1) := by decide +kernel
theorem dJx4a65c_grow_92f84_22 : decode cJx4a65c_grow_92f84 22 = .ok (.iload_n 2, 1) := by decide +kernel
theorem dJx4a65c_grow_92f84_23 : decode cJx4a65c_grow_92f84 23 = .ok (.isub, 1) := by decide +kernel
theorem dJx4a65c_grow_92f84_24 : decode cJx4a65c_grow_92f84 24 = .ok (.iload_n 2, 1) := by decide +kernel
theorem dJx4a65c_grow_92f84_25 : decode cJx4a65c_grow_92f84 25 = .ok (.iconst 1, 1) := by decide +kernel
theorem dJx4a65c_grow_92f84_26 : decode cJx4a65c_grow_92f84 26 = .ok (.ishr, 1) := by decide +kernel
theorem dJx4a65c_grow_92f84_27 : decode cJx4a65c_grow_92f84 27 = .ok (.invokestatic 73, 3) := by decide +kernel
theorem dJx4a65c_grow_92f84_30 : decode cJx4a65c_grow_92f84 30 = .ok (.istore_n 3, 1) := by decide +kernel
theorem dJx4a65c_grow_92f84_31 : decode cJx4a65c_grow_92f84 31 = .ok (.aload_n 0, 1) := by decide +kernel
theorem dJx4a65c_grow_92f84_32 : decode cJx4a65c_grow_92f84 32 = .ok (.aload_n 0, 1) := by decide +kernel
theorem dJx4a65c_grow_92f84_33 : decode cJx4a65c_grow_92f84 33 = .ok (.getfield 9, 3) := by decide +kernel
theorem dJx4a65c_grow_92f84_36 : decode cJx4a65c_grow_92f84 36 = .ok (.iload_n 3, 1) := by decide +kernel
theorem dJx4a65c_grow_92f84_37 : decode cJx4a65c_grow_92f84 37 = .ok (.invokestatic 66, 3) := by decide +kernel
theorem dJx4a65c_grow_92f84_40 : decode cJx4a65c_grow_92f84 40 = .ok (.dup_x1, 1) := by decide +kernel
theorem dJx4a65c_grow_92f84_41 : decode cJx4a65c_grow_92f84 41 = .ok (.putfield 9, 3) := by decide +kernel
theorem dJx4a65c_grow_92f84_44 : decode cJx4a65c_grow_92f84 44 = .ok (.areturn, 1) := by decide +kernel
theorem dJx4a65c_grow_92f84_45 : decode cJx4a65c_grow_92f84 45 = .ok (.aload_n 0, 1) := by decide +kernel
theorem dJx4a65c_grow_92f84_46 : decode cJx4a65c_grow_92f84 46 = .ok (.bipush 10, 2) := by decide +kernel
theorem dJx4a65c_grow_92f84_48 : decode cJx4a65c_grow_92f84 48 = .ok (.iload_n 1, 1) := by decide +kernel
theorem dJx4a65c_grow_92f84_49 : decode cJx4a65c_grow_92f84 49 = .ok (.invokestatic 79, 3) := by decide +kernel
theorem dJx4a65c_grow_92f84_52 : decode cJx4a65c_grow_92f84 52 = .ok (.anewarray 7, 3) := by decide +kernel
theorem dJx4a65c_grow_92f84_55 : decode cJx4a65c_grow_92f84 55 = .ok (.dup_x1, 1) := by decide +kernel
theorem dJx4a65c_grow_92f84_56 : decode cJx4a65c_grow_92f84 56 = .ok (.putfield 9, 3) := by decide +kernel
theorem dJx4a65c_grow_92f84_59 : decode cJx4a65c_grow_92f84 59 = .ok (.areturn, 1) := by decide +kernel
theorem dJx4a65c_grow_d5877_0 : decode cJx4a65c_grow_d5877 0 = .ok (.aload_n 0, 1) := by decide +kernel
theorem dJx4a65c_grow_d5877_1 : decode cJx4a65c_grow_d5877 1 = .ok (.aload_n 0, 1) := by decide +kernel
theorem dJx4a65c_grow_d5877_2 : decode cJx4a65c_grow_d5877 2 = .ok (.getfield 48, 3) := by decide +kernel
theorem dJx4a65c_grow_d5877_5 : decode cJx4a65c_grow_d5877 5 = .ok (.iconst 1, 1) := by decide +kernel
theorem dJx4a65c_grow_d5877_6 : decode cJx4a65c_grow_d5877 6 = .ok (.iadd, 1) := by decide +kernel
theorem dJx4a65c_grow_d5877_7 : decode cJx4a65c_grow_d5877 7 = .ok (.invokevirtual 69, 3) := by decide +kernel
theorem dJx4a65c_grow_d5877_10 : decode cJx4a65c_grow_d5877 10 = .ok (.areturn, 1) := by decide +kernel
theorem dJx4a65c_size_8abf5_0 : decode cJx4a65c_size_8abf5 0 = .ok (.aload_n 0, 1) := by decide +kernel
theorem dJx4a65c_size_8abf5_1 : decode cJx4a65c_size_8abf5 1 = .ok (.getfield 48, 3) := by decide +kernel
theorem dJx4a65c_size_8abf5_4 : decode cJx4a65c_size_8abf5 4 = .ok (.ireturn, 1) := by decide +kernel
theorem dJx4a65c_elementData_915e3_0 : decode cJx4a65c_elementData_915e3 0 = .ok (.aload_n 0, 1) := by decide +kernel
theorem dJx4a65c_elementData_915e3_1 : decode cJx4a65c_elementData_915e3 1 = .ok (.getfield 9, 3) := by decide +kernel
theorem dJx4a65c_elementData_915e3_4 : decode cJx4a65c_elementData_915e3 4 = .ok (.iload_n 1, 1) := by decide +kernel
theorem dJx4a65c_elementData_915e3_5 : decode cJx4a65c_elementData_915e3 5 = .ok (.aaload, 1) := by decide +kernel
theorem dJx4a65c_elementData_915e3_6 : decode cJx4a65c_elementData_915e3 6 = .ok (.areturn, 1) := by decide +kernel
theorem dJx4a65c_get_915e3_0 : decode cJx4a65c_get_915e3 0 = .ok (.iload_n 1, 1) := by decide +kernel
theorem dJx4a65c_get_915e3_1 : decode cJx4a65c_get_915e3 1 = .ok (.aload_n 0, 1) := by decide +kernel
theorem dJx4a65c_get_915e3_2 : decode cJx4a65c_get_915e3 2 = .ok (.getfield 48, 3) := by decide +kernel
theorem dJx4a65c_get_915e3_5 : decode cJx4a65c_get_915e3 5 = .ok (.invokestatic 118, 3) := by decide +kernel
theorem dJx4a65c_get_915e3_8 : decode cJx4a65c_get_915e3 8 = .ok (.pop, 1) := by decide +kernel
theorem dJx4a65c_get_915e3_9 : decode cJx4a65c_get_915e3 9 = .ok (.aload_n 0, 1) := by decide +kernel
theorem dJx4a65c_get_915e3_10 : decode cJx4a65c_get_915e3 10 = .ok (.iload_n 1, 1) := by decide +kernel
theorem dJx4a65c_get_915e3_11 : decode cJx4a65c_get_915e3 11 = .ok (.invokevirtual 123, 3) := by decide +kernel
theorem dJx4a65c_get_915e3_14 : decode cJx4a65c_get_915e3 14 = .ok (.areturn, 1) := by decide +kernel
theorem dJx4a65c_add_72be8_0 : decode cJx4a65c_add_72be8 0 = .ok (.iload_n 3, 1) := by decide +kernel
theorem dJx4a65c_add_72be8_1 : decode cJx4a65c_add_72be8 1 = .ok (.aload_n 2, 1) := by decide +kernel
theorem dJx4a65c_add_72be8_2 : decode cJx4a65c_add_72be8 2 = .ok (.arraylength, 1) := by decide +kernel
theorem dJx4a65c_add_72be8_3 : decode cJx4a65c_add_72be8 3 = .ok (.if_icmp .ne 8, 3) := by decide +kernel
theorem dJx4a65c_add_72be8_6 : decode cJx4a65c_add_72be8 6 = .ok (.aload_n 0, 1) := by decide +kernel
theorem dJx4a65c_add_72be8_7 : decode cJx4a65c_add_72be8 7 = .ok (.invokevirtual 129, 3) := by decide +kernel
theorem dJx4a65c_add_72be8_10 : decode cJx4a65c_add_72be8 10 = .ok (.astore_n 2, 1) := by decide +kernel
theorem dJx4a65c_add_72be8_11 : decode cJx4a65c_add_72be8 11 = .ok (.aload_n 2, 1) := by decide +kernel
theorem dJx4a65c_add_72be8_12 : decode cJx4a65c_add_72be8 12 = .ok (.iload_n 3, 1) := by decide +kernel
theorem dJx4a65c_add_72be8_13 : decode cJx4a65c_add_72be8 13 = .ok (.aload_n 1, 1) := by decide +kernel
theorem dJx4a65c_add_72be8_14 : decode cJx4a65c_add_72be8 14 = .ok (.aastore, 1) := by decide +kernel
theorem dJx4a65c_add_72be8_15 : decode cJx4a65c_add_72be8 15 = .ok (.aload_n 0, 1) := by decide +kernel
theorem dJx4a65c_add_72be8_16 : decode cJx4a65c_add_72be8 16 = .ok (.iload_n 3, 1) := by decide +kernel
theorem dJx4a65c_add_72be8_17 : decode cJx4a65c_add_72be8 17 = .ok (.iconst 1, 1) := by decide +kernel
theorem dJx4a65c_add_72be8_18 : decode cJx4a65c_add_72be8 18 = .ok (.iadd, 1) := by decide +kernel
theorem dJx4a65c_add_72be8_19 : decode cJx4a65c_add_72be8 19 = .ok (.putfield 48, 3) := by decide +kernel
theorem dJx4a65c_add_72be8_22 : decode cJx4a65c_add_72be8 22 = .ok (.return_, 1) := by decide +kernel
theorem dJx4a65c_add_9ea2d_0 : decode cJx4a65c_add_9ea2d 0 = .ok (.aload_n 0, 1) := by decide +kernel
theorem dJx4a65c_add_9ea2d_1 : decode cJx4a65c_add_9ea2d 1 = .ok (.dup, 1) := by decide +kernel
theorem dJx4a65c_add_9ea2d_2 : decode cJx4a65c_add_9ea2d 2 = .ok (.getfield 63, 3) := by decide +kernel
theorem dJx4a65c_add_9ea2d_5 : decode cJx4a65c_add_9ea2d 5 = .ok (.iconst 1, 1) := by decide +kernel
theorem dJx4a65c_add_9ea2d_6 : decode cJx4a65c_add_9ea2d 6 = .ok (.iadd, 1) := by decide +kernel
theorem dJx4a65c_add_9ea2d_7 : decode cJx4a65c_add_9ea2d 7 = .ok (.putfield 63, 3) := by decide +kernel
theorem dJx4a65c_add_9ea2d_10 : decode cJx4a65c_add_9ea2d 10 = .ok (.aload_n 0, 1) := by decide +kernel
theorem dJx4a65c_add_9ea2d_11 : decode cJx4a65c_add_9ea2d 11 = .ok (.aload_n 1, 1) := by decide +kernel
theorem dJx4a65c_add_9ea2d_12 : decode cJx4a65c_add_9ea2d 12 = .ok (.aload_n 0, 1) := by decide +kernel
theorem dJx4a65c_add_9ea2d_13 : decode cJx4a65c_add_9ea2d 13 = .ok (.getfield 9, 3) := by decide +kernel
theorem dJx4a65c_add_9ea2d_16 : decode cJx4a65c_add_9ea2d 16 = .ok (.aload_n 0, 1) := by decide +kernel
theorem dJx4a65c_add_9ea2d_17 : decode cJx4a65c_add_9ea2d 17 = .ok (.getfield 48, 3) := by decide +kernel
theorem dJx4a65c_add_9ea2d_20 : decode cJx4a65c_add_9ea2d 20 = .ok (.invokevirtual 131, 3) := by decide +kernel
theorem dJx4a65c_add_9ea2d_23 : decode cJx4a65c_add_9ea2d 23 = .ok (.iconst 1, 1) := by decide +kernel
theorem dJx4a65c_add_9ea2d_24 : decode cJx4a65c_add_9ea2d 24 = .ok (.ireturn, 1) := by decide +kernel
theorem dJ7_copyOf_1904c_0 : decode cJ7_copyOf_1904c 0 = .ok (.aload_n 0, 1) := by decide +kernel
theorem dJ7_copyOf_1904c_1 : decode cJ7_copyOf_1904c 1 = .ok (.iload_n 1, 1) := by decide +kernel
theorem dJ7_copyOf_1904c_2 : decode cJ7_copyOf_1904c 2 = .ok (.aload_n 0, 1) := by decide +kernel
theorem dJ7_copyOf_1904c_3 : decode cJ7_copyOf_1904c 3 = .ok (.invokevirtual 86, 3) := by decide +kernel
theorem dJ7_copyOf_1904c_6 : decode cJ7_copyOf_1904c 6 = .ok (.invokestatic 300, 3) := by decide +kernel
theorem dJ7_copyOf_1904c_9 : decode cJ7_copyOf_1904c 9 = .ok (.areturn, 1) := by decide +kernel
theorem dJ7_copyOf_6403c_0 : decode cJ7_copyOf_6403c 0 = .ok (.aload_n 2, 1) := by decide +kernel
theorem dJ7_copyOf_6403c_1 : decode cJ7_copyOf_6403c 1 = .ok (.ldc 110, 2) := by decide +kernel
theorem dJ7_copyOf_6403c_3 : decode cJ7_copyOf_6403c 3 = .ok (.if_acmp .ne 10, 3) := by decide +kernel
theorem dJ7_copyOf_6403c_6 : decode cJ7_copyOf_6403c 6 = .ok (.iload_n 1, 1) := by decide +kernel
theorem dJ7_copyOf_6403c_7 : decode cJ7_copyOf_6403c 7 = .ok (.anewarray 2, 3) := by decide +kernel
theorem dJ7_copyOf_6403c_10 : decode cJ7_copyOf_6403c 10 = .ok (.goto 14, 3) := by decide +kernel
theorem dJ7_copyOf_6403c_13 : decode cJ7_copyOf_6403c 13 = .ok (.aload_n 2, 1) := by decide +kernel
theorem dJ7_copyOf_6403c_14 : decode cJ7_copyOf_6403c 14 = .ok (.invokevirtual 90, 3) := by decide +kernel
theorem dJ7_copyOf_6403c_17 : decode cJ7_copyOf_6403c 17 = .ok (.iload_n 1, 1) := by decide +kernel
theorem dJ7_copyOf_6403c_18 : decode cJ7_copyOf_6403c 18 = .ok (.invokestatic 95, 3) := by decide +kernel
theorem dJ7_copyOf_6403c_21 : decode cJ7_copyOf_6403c 21 = .ok (.checkcast 110, 3) := by decide +kernel
theorem dJ7_copyOf_6403c_24 : decode cJ7_copyOf_6403c 24 = .ok (.astore_n 3, 1) := by decide +kernel
theorem dJ7_copyOf_6403c_25 : decode cJ7_copyOf_6403c 25 = .ok (.aload_n 0, 1) := by decide +kernel
theorem dJ7_copyOf_6403c_26 : decode cJ7_copyOf_6403c 26 = .ok (.iconst 0, 1) := by decide +kernel
theorem dJ7_copyOf_6403c_27 : decode cJ7_copyOf_6403c 27 = .ok (.aload_n 3, 1) := by decide +kernel
theorem dJ7_copyOf_6403c_28 : decode cJ7_copyOf_6403c 28 = .ok (.iconst 0, 1) := by decide +kernel
theorem dJ7_copyOf_6403c_29 : decode cJ7_copyOf_6403c 29 = .ok (.aload_n 0, 1) := by decide +kernel
theorem dJ7_copyOf_6403c_30 : decode cJ7_copyOf_6403c 30 = .ok (.arraylength, 1) := by decide +kernel
theorem dJ7_copyOf_6403c_31 : decode cJ7_copyOf_6403c 31 = .ok (.iload_n 1, 1) := by decide +kernel
theorem dJ7_copyOf_6403c_32 : decode cJ7_copyOf_6403c 32 = .ok (.invokestatic 304, 3) := by decide +kernel
theorem dJ7_copyOf_6403c_35 : decode cJ7_copyOf_6403c 35 = .ok (.invokestatic 150, 3) := by decide +kernel
theorem dJ7_copyOf_6403c_38 : decode cJ7_copyOf_6403c 38 = .ok (.aload_n 3, 1) := by decide +kernel
theorem dJ7_copyOf_6403c_39 : decode cJ7_copyOf_6403c 39 = .ok (.areturn, 1) := by decide +kernel
theorem dJ15_checkIndex_7cf53_0 : decode cJ15_checkIndex_7cf53 0 = .ok (.iload_n 0, 1) := by decide +kernel
theorem dJ15_checkIndex_7cf53_1 : decode cJ15_checkIndex_7cf53 1 = .ok (.iload_n 1, 1) := by decide +kernel
theorem dJ15_checkIndex_7cf53_2 : decode cJ15_checkIndex_7cf53 2 = .ok (.aconst_null, 1) := by decide +kernel
theorem dJ15_checkIndex_7cf53_3 : decode cJ15_checkIndex_7cf53 3 = .ok (.invokestatic 105, 3) := by decide +kernel
theorem dJ15_checkIndex_7cf53_6 : decode cJ15_checkIndex_7cf53 6 = .ok (.ireturn, 1) := by decide +kernel
theorem dJ8_newLength_cabcc_0 : decode cJ8_newLength_cabcc 0 = .ok (.iload_n 0, 1) := by decide +kernel
theorem dJ8_newLength_cabcc_1 : decode cJ8_newLength_cabcc 1 = .ok (.iload_n 1, 1) := by decide +kernel
theorem dJ8_newLength_cabcc_2 : decode cJ8_newLength_cabcc 2 = .ok (.iload_n 2, 1) := by decide +kernel
theorem dJ8_newLength_cabcc_3 : decode cJ8_newLength_cabcc 3 = .ok (.invokestatic 194, 3) := by decide +kernel
theorem dJ8_newLength_cabcc_6 : decode cJ8_newLength_cabcc 6 = .ok (.iadd, 1) := by decide +kernel
theorem dJ8_newLength_cabcc_7 : decode cJ8_newLength_cabcc 7 = .ok (.istore_n 3, 1) := by decide +kernel
theorem dJ8_newLength_cabcc_8 : decode cJ8_newLength_cabcc 8 = .ok (.iconst 0, 1) := by decide +kernel
theorem dJ8_newLength_cabcc_9 : decode cJ8_newLength_cabcc 9 = .ok (.iload_n 3, 1) := by decide +kernel
theorem dJ8_newLength_cabcc_10 : decode cJ8_newLength_cabcc 10 = .ok (.if_icmp .ge 11, 3) := by decide +kernel
theorem dJ8_newLength_cabcc_13 : decode cJ8_newLength_cabcc 13 = .ok (.iload_n 3, 1) := by decide +kernel
theorem dJ8_newLength_cabcc_14 : decode cJ8_newLength_cabcc 14 = .ok (.ldc 200, 2) := by decide +kernel
theorem dJ8_newLength_cabcc_16 : decode cJ8_newLength_cabcc 16 = .ok (.if_icmp .gt 5, 3) := by decide +kernel
theorem dJ8_newLength_cabcc_19 : decode cJ8_newLength_cabcc 19 = .ok (.iload_n 3, 1) := by decide +kernel
theorem dJ8_newLength_cabcc_20 : decode cJ8_newLength_cabcc 20 = .ok (.ireturn, 1) := by decide +kernel
theorem dJ8_newLength_cabcc_21 : decode cJ8_newLength_cabcc 21 = .ok (.iload_n 0, 1) := by decide +kernel
theorem dJ8_newLength_cabcc_22 : decode cJ8_newLength_cabcc 22 = .ok (.iload_n 1, 1) := by decide +kernel
theorem dJ8_newLength_cabcc_23 : decode cJ8_newLength_cabcc 23 = .ok (.invokestatic 201, 3) := by decide +kernel
theorem dJ8_newLength_cabcc_26 : decode cJ8_newLength_cabcc 26 = .ok (.ireturn, 1) := by decide +kernel
theorem dJ8_hugeLength_7cf53_0 : decode cJ8_hugeLength_7cf53 0 = .ok (.iload_n 0, 1) := by decide +kernel
theorem dJ8_hugeLength_7cf53_1 : decode cJ8_hugeLength_7cf53 1 = .ok (.iload_n 1, 1) := by decide +kernel
theorem dJ8_hugeLength_7cf53_2 : decode cJ8_hugeLength_7cf53 2 = .ok (.iadd, 1) := by decide +kernel
theorem dJ8_hugeLength_7cf53_3 : decode cJ8_hugeLength_7cf53 3 = .ok (.istore_n 2, 1) := by decide +kernel
theorem dJ8_hugeLength_7cf53_4 : decode cJ8_hugeLength_7cf53 4 = .ok (.iload_n 2, 1) := by decide +kernel
theorem dJ8_hugeLength_7cf53_5 : decode cJ8_hugeLength_7cf53 5 = .ok (.ifCond .ge 44, 3) := by decide +kernel
theorem dJ8_hugeLength_7cf53_8 : decode cJ8_hugeLength_7cf53 8 = .ok (.new 204, 3) := by decide +kernel
theorem dJ8_hugeLength_7cf53_11 : decode cJ8_hugeLength_7cf53 11 = .ok (.dup, 1) := by decide +kernel
theorem dJ8_hugeLength_7cf53_12 : decode cJ8_hugeLength_7cf53 12 = .ok (.new 89, 3) := by decide +kernel
theorem dJ8_hugeLength_7cf53_15 : decode cJ8_hugeLength_7cf53 15 = .ok (.dup, 1) := by decide +kernel
theorem dJ8_hugeLength_7cf53_16 : decode cJ8_hugeLength_7cf53 16 = .ok (.invokespecial 91, 3) := by decide +kernel
theorem dJ8_hugeLength_7cf53_19 : decode cJ8_hugeLength_7cf53 19 = .ok (.ldc 206, 2) := by decide +kernel
theorem dJ8_hugeLength_7cf53_21 : decode cJ8_hugeLength_7cf53 21 = .ok (.invokevirtual 94, 3) := by decide +kernel
theorem dJ8_hugeLength_7cf53_24 : decode cJ8_hugeLength_7cf53 24 = .ok (.iload_n 0, 1) := by decide +kernel
theorem dJ8_hugeLength_7cf53_25 : decode cJ8_hugeLength_7cf53 25 = .ok (.invokevirtual 98, 3) := by decide +kernel
theorem dJ8_hugeLength_7cf53_28 : decode cJ8_hugeLength_7cf53 28 = .ok (.ldc 208, 2) := by decide +kernel
theorem dJ8_hugeLength_7cf53_30 : decode cJ8_hugeLength_7cf53 30 = .ok (.invokevirtual 94, 3) := by decide +kernel
theorem dJ8_hugeLength_7cf53_33 : decode cJ8_hugeLength_7cf53 33 = .ok (.iload_n 1, 1) := by decide +kernel
theorem dJ8_hugeLength_7cf53_34 : decode cJ8_hugeLength_7cf53 34 = .ok (.invokevirtual 98, 3) := by decide +kernel
theorem dJ8_hugeLength_7cf53_37 : decode cJ8_hugeLength_7cf53 37 = .ok (.ldc 210, 2) := by decide +kernel
theorem dJ8_hugeLength_7cf53_39 : decode cJ8_hugeLength_7cf53 39 = .ok (.invokevirtual 94, 3) := by decide +kernel
theorem dJ8_hugeLength_7cf53_42 : decode cJ8_hugeLength_7cf53 42 = .ok (.invokevirtual 101, 3) := by decide +kernel
theorem dJ8_hugeLength_7cf53_45 : decode cJ8_hugeLength_7cf53 45 = .ok (.invokespecial 212, 3) := by decide +kernel
theorem dJ8_hugeLength_7cf53_48 : decode cJ8_hugeLength_7cf53 48 = .ok (.athrow, 1) := by decide +kernel
theorem dJ8_hugeLength_7cf53_49 : decode cJ8_hugeLength_7cf53 49 = .ok (.iload_n 2, 1) := by decide +kernel
theorem dJ8_hugeLength_7cf53_50 : decode cJ8_hugeLength_7cf53 50 = .ok (.ldc 200, 2) := by decide +kernel
theorem dJ8_hugeLength_7cf53_52 : decode cJ8_hugeLength_7cf53 52 = .ok (.if_icmp .gt 6, 3) := by decide +kernel
theorem dJ8_hugeLength_7cf53_55 : decode cJ8_hugeLength_7cf53 55 = .ok (.ldc 200, 2) := by decide +kernel
theorem dJ8_hugeLength_7cf53_57 : decode cJ8_hugeLength_7cf53 57 = .ok (.ireturn, 1) := by decide +kernel
theorem dJ8_hugeLength_7cf53_58 : decode cJ8_hugeLength_7cf53 58 = .ok (.iload_n 2, 1) := by decide +kernel
theorem dJ8_hugeLength_7cf53_59 : decode cJ8_hugeLength_7cf53 59 = .ok (.ireturn, 1) := by decide +kernel
theorem dJ3_checkIndex_8e157_0 : decode cJ3_checkIndex_8e157 0 = .ok (.iload_n 0, 1) := by decide +kernel
theorem dJ3_checkIndex_8e157_1 : decode cJ3_checkIndex_8e157 1 = .ok (.ifCond .lt 8, 3) := by decide +kernel
theorem dJ3_checkIndex_8e157_4 : decode cJ3_checkIndex_8e157 4 = .ok (.iload_n 0, 1) := by decide +kernel
theorem dJ3_checkIndex_8e157_5 : decode cJ3_checkIndex_8e157 5 = .ok (.iload_n 1, 1) := by decide +kernel
theorem dJ3_checkIndex_8e157_6 : decode cJ3_checkIndex_8e157 6 = .ok (.if_icmp .lt 10, 3) := by decide +kernel
theorem dJ3_checkIndex_8e157_9 : decode cJ3_checkIndex_8e157 9 = .ok (.aload_n 2, 1) := by decide +kernel
theorem dJ3_checkIndex_8e157_10 : decode cJ3_checkIndex_8e157 10 = .ok (.iload_n 0, 1) := by decide +kernel
theorem dJ3_checkIndex_8e157_11 : decode cJ3_checkIndex_8e157 11 = .ok (.iload_n 1, 1) := by decide +kernel
theorem dJ3_checkIndex_8e157_12 : decode cJ3_checkIndex_8e157 12 = .ok (.invokestatic 95, 3) := by decide +kernel
theorem dJ3_checkIndex_8e157_15 : decode cJ3_checkIndex_8e157 15 = .ok (.athrow, 1) := by decide +kernel
theorem dJ3_checkIndex_8e157_16 : decode cJ3_checkIndex_8e157 16 = .ok (.iload_n 0, 1) := by decide +kernel
theorem dJ3_checkIndex_8e157_17 : decode cJ3_checkIndex_8e157 17 = .ok (.ireturn, 1) := by decide +kernel
theorem dL_part_0 : decode cL_part 0 = .ok (.iload_n 1, 1) := by decide +kernel
theorem dL_part_1 : decode cL_part 1 = .ok (.aload_n 0, 1) := by decide +kernel
theorem dL_part_2 : decode cL_part 2 = .ok (.arraylength, 1) := by decide +kernel
theorem dL_part_3 : decode cL_part 3 = .ok (.if_icmp .ge 9, 3) := by decide +kernel
theorem dL_part_6 : decode cL_part 6 = .ok (.aload_n 0, 1) := by decide +kernel
theorem dL_part_7 : decode cL_part 7 = .ok (.iload_n 1, 1) := by decide +kernel
theorem dL_part_8 : decode cL_part 8 = .ok (.iaload, 1) := by decide +kernel
theorem dL_part_9 : decode cL_part 9 = .ok (.goto 16, 3) := by decide +kernel
theorem dL_part_12 : decode cL_part 12 = .ok (.sipush 277, 3) := by decide +kernel
theorem dL_part_15 : decode cL_part 15 = .ok (.iload_n 1, 1) := by decide +kernel
theorem dL_part_16 : decode cL_part 16 = .ok (.imul, 1) := by decide +kernel
theorem dL_part_17 : decode cL_part 17 = .ok (.sipush 157, 3) := by decide +kernel
theorem dL_part_20 : decode cL_part 20 = .ok (.iload_n 1, 1) := by decide +kernel
theorem dL_part_21 : decode cL_part 21 = .ok (.imul, 1) := by decide +kernel
theorem dL_part_22 : decode cL_part 22 = .ok (.iload_n 1, 1) := by decide +kernel
theorem dL_part_23 : decode cL_part 23 = .ok (.imul, 1) := by decide +kernel
theorem dL_part_24 : decode cL_part 24 = .ok (.iadd, 1) := by decide +kernel
theorem dL_part_25 : decode cL_part 25 = .ok (.istore_n 3, 1) := by decide +kernel
theorem dL_part_26 : decode cL_part 26 = .ok (.iload_n 3, 1) := by decide +kernel
theorem dL_part_27 : decode cL_part 27 = .ok (.ldc 7, 2) := by decide +kernel
theorem dL_part_29 : decode cL_part 29 = .ok (.iand, 1) := by decide +kernel
theorem dL_part_30 : decode cL_part 30 = .ok (.iload_n 2, 1) := by decide +kernel
theorem dL_part_31 : decode cL_part 31 = .ok (.irem, 1) := by decide +kernel
theorem dL_part_32 : decode cL_part 32 = .ok (.ireturn, 1) := by decide +kernel
theorem dL_formats_0 : decode cL_formats 0 = .ok (.iload_n 1, 1) := by decide +kernel
theorem dL_formats_1 : decode cL_formats 1 = .ok (.ifCond .ne 11, 3) := by decide +kernel
theorem dL_formats_4 : decode cL_formats 4 = .ok (.aload_n 0, 1) := by decide +kernel
theorem dL_formats_5 : decode cL_formats 5 = .ok (.iload_n 2, 1) := by decide +kernel
theorem dL_formats_6 : decode cL_formats 6 = .ok (.invokevirtual 8, 3) := by decide +kernel
theorem dL_formats_9 : decode cL_formats 9 = .ok (.goto 52, 3) := by decide +kernel
theorem dL_formats_12 : decode cL_formats 12 = .ok (.iload_n 1, 1) := by decide +kernel
theorem dL_formats_13 : decode cL_formats 13 = .ok (.iconst 1, 1) := by decide +kernel
theorem dL_formats_14 : decode cL_formats 14 = .ok (.if_icmp .ne 12, 3) := by decide +kernel
theorem dL_formats_17 : decode cL_formats 17 = .ok (.aload_n 0, 1) := by decide +kernel
theorem dL_formats_18 : decode cL_formats 18 = .ok (.iload_n 2, 1) := by decide +kernel
theorem dL_formats_19 : decode cL_formats 19 = .ok (.iload_n 3, 1) := by decide +kernel
theorem dL_formats_20 : decode cL_formats 20 = .ok (.invokevirtual 14, 3) := by decide +kernel
theorem dL_formats_23 : decode cL_formats 23 = .ok (.goto 38, 3) := by decide +kernel
theorem dL_formats_26 : decode cL_formats 26 = .ok (.iload_n 1, 1) := by decide +kernel
theorem dL_formats_27 : decode cL_formats 27 = .ok (.iconst 2, 1) := by decide +kernel
theorem dL_formats_28 : decode cL_formats 28 = .ok (.if_icmp .ne 14, 3) := by decide +kernel
theorem dL_formats_31 : decode cL_formats 31 = .ok (.aload_n 0, 1) := by decide +kernel
theorem dL_formats_32 : decode cL_formats 32 = .ok (.iload_n 2, 1) := by decide +kernel
theorem dL_formats_33 : decode cL_formats 33 = .ok (.iload_n 3, 1) := by decide +kernel
theorem dL_formats_34 : decode cL_formats 34 = .ok (.iload 4, 2) := by decide +kernel
theorem dL_formats_36 : decode cL_formats 36 = .ok (.invokevirtual 18, 3) := by decide +kernel
theorem dL_formats_39 : decode cL_formats 39 = .ok (.goto 22, 3) := by decide +kernel
theorem dL_formats_42 : decode cL_formats 42 = .ok (.iload_n 1, 1) := by decide +kernel
theorem dL_formats_43 : decode cL_formats 43 = .ok (.iconst 3, 1) := by decide +kernel
theorem dL_formats_44 : decode cL_formats 44 = .ok (.if_icmp .ne 12, 3) := by decide +kernel
theorem dL_formats_47 : decode cL_formats 47 = .ok (.aload_n 0, 1) := by decide +kernel
theorem dL_formats_48 : decode cL_formats 48 = .ok (.iload_n 2, 1) := by decide +kernel
theorem dL_formats_49 : decode cL_formats 49 = .ok (.iload_n 3, 1) := by decide +kernel
theorem dL_formats_50 : decode cL_formats 50 = .ok (.invokevirtual 22, 3) := by decide +kernel
theorem dL_formats_53 : decode cL_formats 53 = .ok (.goto 8, 3) := by decide +kernel
theorem dL_formats_56 : decode cL_formats 56 = .ok (.aload_n 0, 1) := by decide +kernel
theorem dL_formats_57 : decode cL_formats 57 = .ok (.iload_n 2, 1) := by decide +kernel
theorem dL_formats_58 : decode cL_formats 58 = .ok (.invokevirtual 25, 3) := by decide +kernel
theorem dL_formats_61 : decode cL_formats 61 = .ok (.ireturn, 1) := by decide +kernel
theorem dL_formats_62 : decode cL_formats 62 = .ok (.astore 5, 2) := by decide +kernel
theorem dL_formats_64 : decode cL_formats 64 = .ok (.bipush (-20), 2) := by decide +kernel
theorem dL_formats_66 : decode cL_formats 66 = .ok (.ireturn, 1) := by decide +kernel
theorem dL_formats_67 : decode cL_formats 67 = .ok (.astore 5, 2) := by decide +kernel
theorem dL_formats_69 : decode cL_formats 69 = .ok (.bipush (-30), 2) := by decide +kernel
theorem dL_formats_71 : decode cL_formats 71 = .ok (.ireturn, 1) := by decide +kernel
theorem dL_formats_72 : decode cL_formats 72 = .ok (.astore 5, 2) := by decide +kernel
theorem dL_formats_74 : decode cL_formats 74 = .ok (.bipush (-10), 2) := by decide +kernel
theorem dL_formats_76 : decode cL_formats 76 = .ok (.ireturn, 1) := by decide +kernel
theorem dL_versions_0 : decode cL_versions 0 = .ok (.iload_n 1, 1) := by decide +kernel
theorem dL_versions_1 : decode cL_versions 1 = .ok (.ifCond .ne 14, 3) := by decide +kernel
theorem dL_versions_4 : decode cL_versions 4 = .ok (.aload_n 0, 1) := by decide +kernel
theorem dL_versions_5 : decode cL_versions 5 = .ok (.iload_n 2, 1) := by decide +kernel
theorem dL_versions_6 : decode cL_versions 6 = .ok (.iload_n 3, 1) := by decide +kernel
theorem dL_versions_7 : decode cL_versions 7 = .ok (.iload 4, 2) := by decide +kernel
theorem dL_versions_9 : decode cL_versions 9 = .ok (.invokevirtual 34, 3) := by decide +kernel
theorem dL_versions_12 : decode cL_versions 12 = .ok (.goto 75, 3) := by decide +kernel
theorem dL_versions_15 : decode cL_versions 15 = .ok (.iload_n 1, 1) := by decide +kernel
theorem dL_versions_16 : decode cL_versions 16 = .ok (.iconst 1, 1) := by decide +kernel
theorem dL_versions_17 : decode cL_versions 17 = .ok (.if_icmp .ne 23, 3) := by decide +kernel
theorem dL_versions_20 : decode cL_versions 20 = .ok (.aload_n 0, 1) := by decide +kernel
theorem dL_versions_21 : decode cL_versions 21 = .ok (.iload_n 2, 1) := by decide +kernel
theorem dL_versions_22 : decode cL_versions 22 = .ok (.iload_n 3, 1) := by decide +kernel
theorem dL_versions_23 : decode cL_versions 23 = .ok (.iload 4, 2) := by decide +kernel
theorem dL_versions_25 : decode cL_versions 25 = .ok (.iconst 1, 1) := by decide +kernel
theorem dL_versions_26 : decode cL_versions 26 = .ok (.if_icmp .ne 7, 3) := by decide +kernel
theorem dL_versions_29 : decode cL_versions 29 = .ok (.iconst 1, 1) := by decide +kernel
theorem dL_versions_30 : decode cL_versions 30 = .ok (.goto 4, 3) := by decide +kernel
theorem dL_versions_33 : decode cL_versions 33 = .ok (.iconst 0, 1) := by decide +kernel
theorem dL_versions_34 : decode cL_versions 34 = .ok (.invokevirtual 37, 3) := by decide +kernel
theorem dL_versions_37 : decode cL_versions 37 = .ok (.goto 50, 3) := by decide +kernel
theorem dL_versions_40 : decode cL_versions 40 = .ok (.iload_n 1, 1) := by decide +kernel
theorem dL_versions_41 : decode cL_versions 41 = .ok (.iconst 2, 1) := by decide +kernel
theorem dL_versions_42 : decode cL_versions 42 = .ok (.if_icmp .ne 12, 3) := by decide +kernel
theorem dL_versions_45 : decode cL_versions 45 = .ok (.aload_n 0, 1) := by decide +kernel
theorem dL_versions_46 : decode cL_versions 46 = .ok (.iload_n 2, 1) := by decide +kernel
theorem dL_versions_47 : decode cL_versions 47 = .ok (.iload_n 3, 1) := by decide +kernel
theorem dL_versions_48 : decode cL_versions 48 = .ok (.invokevirtual 41, 3) := by decide +kernel
theorem dL_versions_51 : decode cL_versions 51 = .ok (.goto 36, 3) := by decide +kernel
theorem dL_versions_54 : decode cL_versions 54 = .ok (.iload_n 1, 1) := by decide +kernel
theorem dL_versions_55 : decode cL_versions 55 = .ok (.iconst 3, 1) := by decide +kernel
theorem dL_versions_56 : decode cL_versions 56 = .ok (.if_icmp .ne 12, 3) := by decide +kernel
theorem dL_versions_59 : decode cL_versions 59 = .ok (.aload_n 0, 1) := by decide +kernel
theorem dL_versions_60 : decode cL_versions 60 = .ok (.iload_n 2, 1) := by decide +kernel
theorem dL_versions_61 : decode cL_versions 61 = .ok (.iload_n 3, 1) := by decide +kernel
theorem dL_versions_62 : decode cL_versions 62 = .ok (.invokevirtual 44, 3) := by decide +kernel
theorem dL_versions_65 : decode cL_versions 65 = .ok (.goto 22, 3) := by decide +kernel
theorem dL_versions_68 : decode cL_versions 68 = .ok (.iload_n 1, 1) := by decide +kernel
theorem dL_versions_69 : decode cL_versions 69 = .ok (.iconst 4, 1) := by decide +kernel
theorem dL_versions_70 : decode cL_versions 70 = .ok (.if_icmp .ne 11, 3) := by decide +kernel
theorem dL_versions_73 : decode cL_versions 73 = .ok (.aload_n 0, 1) := by decide +kernel
theorem dL_versions_74 : decode cL_versions 74 = .ok (.iload_n 2, 1) := by decide +kernel
theorem dL_versions_75 : decode cL_versions 75 = .ok (.invokevirtual 47, 3) := by decide +kernel
theorem dL_versions_78 : decode cL_versions 78 = .ok (.goto 9, 3) := by decide +kernel
theorem dL_versions_81 : decode cL_versions 81 = .ok (.aload_n 0, 1) := by decide +kernel
theorem dL_versions_82 : decode cL_versions 82 = .ok (.iload_n 2, 1) := by decide +kernel
theorem dL_versions_83 : decode cL_versions 83 = .ok (.iload_n 3, 1) := by decide +kernel
theorem dL_versions_84 : decode cL_versions 84 = .ok (.invokevirtual 50, 3) := by decide +kernel
theorem dL_versions_87 : decode cL_versions 87 = .ok (.ireturn, 1) := by decide +kernel
theorem dL_versions_88 : decode cL_versions 88 = .ok (.astore 5, 2) := by decide +kernel
theorem dL_versions_90 : decode cL_versions 90 = .ok (.bipush (-20), 2) := by decide +kernel
theorem dL_versions_92 : decode cL_versions 92 = .ok (.ireturn, 1) := by decide +kernel
theorem dL_versions_93 : decode cL_versions 93 = .ok (.astore 5, 2) := by decide +kernel
theorem dL_versions_95 : decode cL_versions 95 = .ok (.bipush (-30), 2) := by decide +kernel
theorem dL_versions_97 : decode cL_versions 97 = .ok (.ireturn, 1) := by decide +kernel
theorem dL_versions_98 : decode cL_versions 98 = .ok (.astore 5, 2) := by decide +kernel
theorem dL_versions_100 : decode cL_versions 100 = .ok (.bipush (-10), 2) := by decide +kernel
theorem dL_versions_102 : decode cL_versions 102 = .ok (.ireturn, 1) := by decide +kernel
theorem dL_reads_0 : decode cL_reads 0 = .ok (.aload_n 0, 1) := by decide +kernel
theorem dL_reads_1 : decode cL_reads 1 = .ok (.iload_n 1, 1) := by decide +kernel
theorem dL_reads_2 : decode cL_reads 2 = .ok (.iload_n 2, 1) := by decide +kernel
theorem dL_reads_3 : decode cL_reads 3 = .ok (.invokevirtual 53, 3) := by decide +kernel
theorem dL_reads_6 : decode cL_reads 6 = .ok (.ireturn, 1) := by decide +kernel
theorem dL_reads_7 : decode cL_reads 7 = .ok (.astore_n 3, 1) := by decide +kernel
theorem dL_reads_8 : decode cL_reads 8 = .ok (.ldc 56, 2) := by decide +kernel
theorem dL_reads_10 : decode cL_reads 10 = .ok (.ireturn, 1) := by decide +kernel
theorem dL_reads_11 : decode cL_reads 11 = .ok (.astore_n 3, 1) := by decide +kernel
theorem dL_reads_12 : decode cL_reads 12 = .ok (.ldc 57, 2) := by decide +kernel
theorem dL_reads_14 : decode cL_reads 14 = .ok (.ireturn, 1) := by decide +kernel
theorem dL_copies_0 : decode cL_copies 0 = .ok (.iload_n 1, 1) := by decide +kernel
theorem dL_copies_1 : decode cL_copies 1 = .ok (.ifCond .ne 11, 3) := by decide +kernel
theorem dL_copies_4 : decode cL_copies 4 = .ok (.aload_n 0, 1) := by decide +kernel
theorem dL_copies_5 : decode cL_copies 5 = .ok (.iload_n 2, 1) := by decide +kernel
theorem dL_copies_6 : decode cL_copies 6 = .ok (.invokevirtual 58, 3) := by decide +kernel
theorem dL_copies_9 : decode cL_copies 9 = .ok (.goto 58, 3) := by decide +kernel
theorem dL_copies_12 : decode cL_copies 12 = .ok (.iload_n 1, 1) := by decide +kernel
theorem dL_copies_13 : decode cL_copies 13 = .ok (.iconst 1, 1) := by decide +kernel
theorem dL_copies_14 : decode cL_copies 14 = .ok (.if_icmp .ne 11, 3) := by decide +kernel
theorem dL_copies_17 : decode cL_copies 17 = .ok (.aload_n 0, 1) := by decide +kernel
theorem dL_copies_18 : decode cL_copies 18 = .ok (.iload_n 2, 1) := by decide +kernel
theorem dL_copies_19 : decode cL_copies 19 = .ok (.invokevirtual 61, 3) := by decide +kernel
theorem dL_copies_22 : decode cL_copies 22 = .ok (.goto 45, 3) := by decide +kernel
theorem dL_copies_25 : decode cL_copies 25 = .ok (.iload_n 1, 1) := by decide +kernel
theorem dL_copies_26 : decode cL_copies 26 = .ok (.iconst 2, 1) := by decide +kernel
theorem dL_copies_27 : decode cL_copies 27 = .ok (.if_icmp .ne 22, 3) := by decide +kernel
theorem dL_copies_30 : decode cL_copies 30 = .ok (.aload_n 0, 1) := by decide +kernel
theorem dL_copies_31 : decode cL_copies 31 = .ok (.iload_n 2, 1) := by decide +kernel
theorem dL_copies_32 : decode cL_copies 32 = .ok (.iload_n 3, 1) := by decide +kernel
theorem dL_copies_33 : decode cL_copies 33 = .ok (.iload 4, 2) := by decide +kernel
theorem dL_copies_35 : decode cL_copies 35 = .ok (.invokevirtual 64, 3) := by decide +kernel
theorem dL_copies_38 : decode cL_copies 38 = .ok (.ifCond .eq 7, 3) := by decide +kernel
theorem dL_copies_41 : decode cL_copies 41 = .ok (.iconst 1, 1) := by decide +kernel
theorem dL_copies_42 : decode cL_copies 42 = .ok (.goto 25, 3) := by decide +kernel
theorem dL_copies_45 : decode cL_copies 45 = .ok (.iconst 0, 1) := by decide +kernel
theorem dL_copies_46 : decode cL_copies 46 = .ok (.goto 21, 3) := by decide +kernel
theorem dL_copies_49 : decode cL_copies 49 = .ok (.iload_n 1, 1) := by decide +kernel
theorem dL_copies_50 : decode cL_copies 50 = .ok (.iconst 3, 1) := by decide +kernel
theorem dL_copies_51 : decode cL_copies 51 = .ok (.if_icmp .ne 11, 3) := by decide +kernel
theorem dL_copies_54 : decode cL_copies 54 = .ok (.aload_n 0, 1) := by decide +kernel
theorem dL_copies_55 : decode cL_copies 55 = .ok (.iload_n 2, 1) := by decide +kernel
theorem dL_copies_56 : decode cL_copies 56 = .ok (.invokevirtual 68, 3) := by decide +kernel
theorem dL_copies_59 : decode cL_copies 59 = .ok (.goto 8, 3) := by decide +kernel
theorem dL_copies_62 : decode cL_copies 62 = .ok (.aload_n 0, 1) := by decide +kernel
theorem dL_copies_63 : decode cL_copies 63 = .ok (.iload_n 2, 1) := by decide +kernel
theorem dL_copies_64 : decode cL_copies 64 = .ok (.invokevirtual 71, 3) := by decide +kernel
theorem dL_copies_67 : decode cL_copies 67 = .ok (.ireturn, 1) := by decide +kernel
theorem dL_copies_68 : decode cL_copies 68 = .ok (.astore 5, 2) := by decide +kernel
theorem dL_copies_70 : decode cL_copies 70 = .ok (.bipush (-20), 2) := by decide +kernel
theorem dL_copies_72 : decode cL_copies 72 = .ok (.ireturn, 1) := by decide +kernel
theorem dL_copies_73 : decode cL_copies 73 = .ok (.astore 5, 2) := by decide +kernel
theorem dL_copies_75 : decode cL_copies 75 = .ok (.bipush (-30), 2) := by decide +kernel
theorem dL_copies_77 : decode cL_copies 77 = .ok (.ireturn, 1) := by decide +kernel
theorem dL_copies_78 : decode cL_copies 78 = .ok (.astore 5, 2) := by decide +kernel
theorem dL_copies_80 : decode cL_copies 80 = .ok (.bipush (-10), 2) := by decide +kernel
theorem dL_copies_82 : decode cL_copies 82 = .ok (.ireturn, 1) := by decide +kernel
theorem dL_bits_0 : decode cL_bits 0 = .ok (.iconst 0, 1) := by decide +kernel
theorem dL_bits_1 : decode cL_bits 1 = .ok (.istore_n 1, 1) := by decide +kernel
theorem dL_bits_2 : decode cL_bits 2 = .ok (.iconst 0, 1) := by decide +kernel
theorem dL_bits_3 : decode cL_bits 3 = .ok (.istore_n 2, 1) := by decide +kernel
theorem dL_bits_4 : decode cL_bits 4 = .ok (.iload_n 2, 1) := by decide +kernel
theorem dL_bits_5 : decode cL_bits 5 = .ok (.bipush 20, 2) := by decide +kernel
theorem dL_bits_7 : decode cL_bits 7 = .ok (.if_icmp .ge 17, 3) := by decide +kernel
theorem dL_bits_10 : decode cL_bits 10 = .ok (.iload_n 1, 1) := by decide +kernel
theorem dL_bits_11 : decode cL_bits 11 = .ok (.iload_n 0, 1) := by decide +kernel
theorem dL_bits_12 : decode cL_bits 12 = .ok (.iload_n 2, 1) := by decide +kernel
theorem dL_bits_13 : decode cL_bits 13 = .ok (.ishr, 1) := by decide +kernel
theorem dL_bits_14 : decode cL_bits 14 = .ok (.iconst 1, 1) := by decide +kernel
theorem dL_bits_15 : decode cL_bits 15 = .ok (.iand, 1) := by decide +kernel
theorem dL_bits_16 : decode cL_bits 16 = .ok (.iadd, 1) := by decide +kernel
theorem dL_bits_17 : decode cL_bits 17 = .ok (.istore_n 1, 1) := by decide +kernel
theorem dL_bits_18 : decode cL_bits 18 = .ok (.iinc 2 1, 3) := by decide +kernel
theorem dL_bits_21 : decode cL_bits 21 = .ok (.goto (-17), 3) := by decide +kernel
theorem dL_bits_24 : decode cL_bits 24 = .ok (.iload_n 1, 1) := by decide +kernel
theorem dL_bits_25 : decode cL_bits 25 = .ok (.ireturn, 1) := by decide +kernel
theorem dL_areUnits_0 : decode cL_areUnits 0 = .ok (.iconst 0, 1) := by decide +kernel
theorem dL_areUnits_1 : decode cL_areUnits 1 = .ok (.istore_n 2, 1) := by decide +kernel
theorem dL_areUnits_2 : decode cL_areUnits 2 = .ok (.iconst 0, 1) := by decide +kernel
theorem dL_areUnits_3 : decode cL_areUnits 3 = .ok (.istore_n 3, 1) := by decide +kernel
theorem dL_areUnits_4 : decode cL_areUnits 4 = .ok (.aload_n 0, 1) := by decide +kernel
theorem dL_areUnits_5 : decode cL_areUnits 5 = .ok (.iconst 0, 1) := by decide +kernel
theorem dL_areUnits_6 : decode cL_areUnits 6 = .ok (.bipush 100, 2) := by decide +kernel
theorem dL_areUnits_8 : decode cL_areUnits 8 = .ok (.iconst 0, 1) := by decide +kernel
theorem dL_areUnits_9 : decode cL_areUnits 9 = .ok (.iconst 0, 1) := by decide +kernel
theorem dL_areUnits_10 : decode cL_areUnits 10 = .ok (.invokestatic 74, 3) := by decide +kernel
theorem dL_areUnits_13 : decode cL_areUnits 13 = .ok (.bipush (-30), 2) := by decide +kernel
theorem dL_areUnits_15 : decode cL_areUnits 15 = .ok (.if_icmp .ne 20, 3) := by decide +kernel
theorem dL_areUnits_18 : decode cL_areUnits 18 = .ok (.aload_n 0, 1) := by decide +kernel
theorem dL_areUnits_19 : decode cL_areUnits 19 = .ok (.iconst 1, 1) := by decide +kernel
theorem dL_areUnits_20 : decode cL_areUnits 20 = .ok (.iconst (-1), 1) := by decide +kernel
theorem dL_areUnits_21 : decode cL_areUnits 21 = .ok (.iconst 0, 1) := by decide +kernel
theorem dL_areUnits_22 : decode cL_areUnits 22 = .ok (.iconst 0, 1) := by decide +kernel
theorem dL_areUnits_23 : decode cL_areUnits 23 = .ok (.invokestatic 74, 3) := by decide +kernel
theorem dL_areUnits_26 : decode cL_areUnits 26 = .ok (.bipush (-30), 2) := by decide +kernel
theorem dL_areUnits_28 : decode cL_areUnits 28 = .ok (.if_icmp .ne 7, 3) := by decide +kernel
theorem dL_areUnits_31 : decode cL_areUnits 31 = .ok (.iconst 1, 1) := by decide +kernel
theorem dL_areUnits_32 : decode cL_areUnits 32 = .ok (.goto 4, 3) := by decide +kernel
theorem dL_areUnits_35 : decode cL_areUnits 35 = .ok (.iconst 0, 1) := by decide +kernel
theorem dL_areUnits_36 : decode cL_areUnits 36 = .ok (.istore 4, 2) := by decide +kernel
theorem dL_areUnits_38 : decode cL_areUnits 38 = .ok (.iconst 0, 1) := by decide +kernel
theorem dL_areUnits_39 : decode cL_areUnits 39 = .ok (.istore 5, 2) := by decide +kernel
theorem dL_areUnits_41 : decode cL_areUnits 41 = .ok (.iload 5, 2) := by decide +kernel
theorem dL_areUnits_43 : decode cL_areUnits 43 = .ok (.bipush 64, 2) := by decide +kernel
theorem dL_areUnits_45 : decode cL_areUnits 45 = .ok (.if_icmp .ge 135, 3) := by decide +kernel
theorem dL_areUnits_48 : decode cL_areUnits 48 = .ok (.iload 4, 2) := by decide +kernel
theorem dL_areUnits_50 : decode cL_areUnits 50 = .ok (.ifCond .eq 130, 3) := by decide +kernel
theorem dL_areUnits_53 : decode cL_areUnits 53 = .ok (.aload_n 0, 1) := by decide +kernel
theorem dL_areUnits_54 : decode cL_areUnits 54 = .ok (.iconst 0, 1) := by decide +kernel
theorem dL_areUnits_55 : decode cL_areUnits 55 = .ok (.iload 5, 2) := by decide +kernel
theorem dL_areUnits_57 : decode cL_areUnits 57 = .ok (.iconst 0, 1) := by decide +kernel
theorem dL_areUnits_58 : decode cL_areUnits 58 = .ok (.iconst 0, 1) := by decide +kernel
theorem dL_areUnits_59 : decode cL_areUnits 59 = .ok (.invokestatic 74, 3) := by decide +kernel
theorem dL_areUnits_62 : decode cL_areUnits 62 = .ok (.istore 6, 2) := by decide +kernel
theorem dL_areUnits_64 : decode cL_areUnits 64 = .ok (.iload 6, 2) := by decide +kernel
theorem dL_areUnits_66 : decode cL_areUnits 66 = .ok (.ifCond .lt 80, 3) := by decide +kernel
theorem dL_areUnits_69 : decode cL_areUnits 69 = .ok (.aload_n 0, 1) := by decide +kernel
theorem dL_areUnits_70 : decode cL_areUnits 70 = .ok (.iload 5, 2) := by decide +kernel
theorem dL_areUnits_72 : decode cL_areUnits 72 = .ok (.invokevirtual 61, 3) := by decide +kernel
theorem dL_areUnits_75 : decode cL_areUnits 75 = .ok (.istore 7, 2) := by decide +kernel
theorem dL_areUnits_77 : decode cL_areUnits 77 = .ok (.iinc 2 1, 3) := by decide +kernel
theorem dL_areUnits_80 : decode cL_areUnits 80 = .ok (.iload_n 3, 1) := by decide +kernel
theorem dL_areUnits_81 : decode cL_areUnits 81 = .ok (.iload 6, 2) := by decide +kernel
theorem dL_areUnits_83 : decode cL_areUnits 83 = .ok (.invokestatic 80, 3) := by decide +kernel
theorem dL_areUnits_86 : decode cL_areUnits 86 = .ok (.iadd, 1) := by decide +kernel
theorem dL_areUnits_87 : decode cL_areUnits 87 = .ok (.istore_n 3, 1) := by decide +kernel
theorem dL_areUnits_88 : decode cL_areUnits 88 = .ok (.iload 6, 2) := by decide +kernel
theorem dL_areUnits_90 : decode cL_areUnits 90 = .ok (.bipush 16, 2) := by decide +kernel
theorem dL_areUnits_92 : decode cL_areUnits 92 = .ok (.if_icmp .ge 48, 3) := by decide +kernel
theorem dL_areUnits_95 : decode cL_areUnits 95 = .ok (.iload 6, 2) := by decide +kernel
theorem dL_areUnits_97 : decode cL_areUnits 97 = .ok (.aload_n 1, 1) := by decide +kernel
theorem dL_areUnits_98 : decode cL_areUnits 98 = .ok (.iconst 2, 1) := by decide +kernel
theorem dL_areUnits_99 : decode cL_areUnits 99 = .ok (.iaload, 1) := by decide +kernel
theorem dL_areUnits_100 : decode cL_areUnits 100 = .ok (.iand, 1) := by decide +kernel
theorem dL_areUnits_101 : decode cL_areUnits 101 = .ok (.ifCond .ne 39, 3) := by decide +kernel
theorem dL_areUnits_104 : decode cL_areUnits 104 = .ok (.iload 7, 2) := by decide +kernel
theorem dL_areUnits_106 : decode cL_areUnits 106 = .ok (.ifCond .lt 34, 3) := by decide +kernel
theorem dL_areUnits_109 : decode cL_areUnits 109 = .ok (.iload 7, 2) := by decide +kernel
theorem dL_areUnits_111 : decode cL_areUnits 111 = .ok (.iload 6, 2) := by decide +kernel
theorem dL_areUnits_113 : decode cL_areUnits 113 = .ok (.invokestatic 80, 3) := by decide +kernel
theorem dL_areUnits_116 : decode cL_areUnits 116 = .ok (.if_icmp .gt 24, 3) := by decide +kernel
theorem dL_areUnits_119 : decode cL_areUnits 119 = .ok (.aload_n 1, 1) := by decide +kernel
theorem dL_areUnits_120 : decode cL_areUnits 120 = .ok (.iconst 3, 1) := by decide +kernel
theorem dL_areUnits_121 : decode cL_areUnits 121 = .ok (.iaload, 1) := by decide +kernel
theorem dL_areUnits_122 : decode cL_areUnits 122 = .ok (.iconst 1, 1) := by decide +kernel
theorem dL_areUnits_123 : decode cL_areUnits 123 = .ok (.if_icmp .eq 13, 3) := by decide +kernel
theorem dL_areUnits_126 : decode cL_areUnits 126 = .ok (.iload 7, 2) := by decide +kernel
theorem dL_areUnits_128 : decode cL_areUnits 128 = .ok (.iload 6, 2) := by decide +kernel
theorem dL_areUnits_130 : decode cL_areUnits 130 = .ok (.invokestatic 80, 3) := by decide +kernel
theorem dL_areUnits_133 : decode cL_areUnits 133 = .ok (.if_icmp .ne 7, 3) := by decide +kernel
theorem dL_areUnits_136 : decode cL_areUnits 136 = .ok (.iconst 1, 1) := by decide +kernel
theorem dL_areUnits_137 : decode cL_areUnits 137 = .ok (.goto 4, 3) := by decide +kernel
theorem dL_areUnits_140 : decode cL_areUnits 140 = .ok (.iconst 0, 1) := by decide +kernel
theorem dL_areUnits_141 : decode cL_areUnits 141 = .ok (.istore 4, 2) := by decide +kernel
theorem dL_areUnits_143 : decode cL_areUnits 143 = .ok (.goto 31, 3) := by decide +kernel
theorem dL_areUnits_146 : decode cL_areUnits 146 = .ok (.iload 6, 2) := by decide +kernel
theorem dL_areUnits_148 : decode cL_areUnits 148 = .ok (.bipush (-30), 2) := by decide +kernel
theorem dL_areUnits_150 : decode cL_areUnits 150 = .ok (.if_icmp .ne 21, 3) := by decide +kernel
theorem dL_areUnits_153 : decode cL_areUnits 153 = .ok (.aload_n 0, 1) := by decide +kernel
theorem dL_areUnits_154 : decode cL_areUnits 154 = .ok (.iconst 1, 1) := by decide +kernel
theorem dL_areUnits_155 : decode cL_areUnits 155 = .ok (.iload 5, 2) := by decide +kernel
theorem dL_areUnits_157 : decode cL_areUnits 157 = .ok (.iconst 0, 1) := by decide +kernel
theorem dL_areUnits_158 : decode cL_areUnits 158 = .ok (.iconst 0, 1) := by decide +kernel
theorem dL_areUnits_159 : decode cL_areUnits 159 = .ok (.invokestatic 74, 3) := by decide +kernel
theorem dL_areUnits_162 : decode cL_areUnits 162 = .ok (.bipush (-30), 2) := by decide +kernel
theorem dL_areUnits_164 : decode cL_areUnits 164 = .ok (.if_icmp .ne 7, 3) := by decide +kernel
theorem dL_areUnits_167 : decode cL_areUnits 167 = .ok (.iconst 1, 1) := by decide +kernel
theorem dL_areUnits_168 : decode cL_areUnits 168 = .ok (.goto 4, 3) := by decide +kernel
theorem dL_areUnits_171 : decode cL_areUnits 171 = .ok (.iconst 0, 1) := by decide +kernel
theorem dL_areUnits_172 : decode cL_areUnits 172 = .ok (.istore 4, 2) := by decide +kernel
theorem dL_areUnits_174 : decode cL_areUnits 174 = .ok (.iinc 5 1, 3) := by decide +kernel
theorem dL_areUnits_177 : decode cL_areUnits 177 = .ok (.goto (-136), 3) := by decide +kernel
theorem dL_areUnits_180 : decode cL_areUnits 180 = .ok (.iload 4, 2) := by decide +kernel
theorem dL_areUnits_182 : decode cL_areUnits 182 = .ok (.ifCond .eq 49, 3) := by decide +kernel
theorem dL_areUnits_185 : decode cL_areUnits 185 = .ok (.aload_n 0, 1) := by decide +kernel
theorem dL_areUnits_186 : decode cL_areUnits 186 = .ok (.invokevirtual 83, 3) := by decide +kernel
theorem dL_areUnits_189 : decode cL_areUnits 189 = .ok (.iload_n 2, 1) := by decide +kernel
theorem dL_areUnits_190 : decode cL_areUnits 190 = .ok (.if_icmp .ne 41, 3) := by decide +kernel
theorem dL_areUnits_193 : decode cL_areUnits 193 = .ok (.aload_n 0, 1) := by decide +kernel
theorem dL_areUnits_194 : decode cL_areUnits 194 = .ok (.invokevirtual 87, 3) := by decide +kernel
theorem dL_areUnits_197 : decode cL_areUnits 197 = .ok (.ifCond .lt 34, 3) := by decide +kernel
theorem dL_areUnits_200 : decode cL_areUnits 200 = .ok (.aload_n 0, 1) := by decide +kernel
theorem dL_areUnits_201 : decode cL_areUnits 201 = .ok (.invokevirtual 87, 3) := by decide +kernel
theorem dL_areUnits_204 : decode cL_areUnits 204 = .ok (.iconst 3, 1) := by decide +kernel
theorem dL_areUnits_205 : decode cL_areUnits 205 = .ok (.iload_n 2, 1) := by decide +kernel
theorem dL_areUnits_206 : decode cL_areUnits 206 = .ok (.imul, 1) := by decide +kernel
theorem dL_areUnits_207 : decode cL_areUnits 207 = .ok (.if_icmp .gt 24, 3) := by decide +kernel
theorem dL_areUnits_210 : decode cL_areUnits 210 = .ok (.iload_n 3, 1) := by decide +kernel
theorem dL_areUnits_211 : decode cL_areUnits 211 = .ok (.ifCond .gt 16, 3) := by decide +kernel
theorem dL_areUnits_214 : decode cL_areUnits 214 = .ok (.aload_n 0, 1) := by decide +kernel
theorem dL_areUnits_215 : decode cL_areUnits 215 = .ok (.iconst 4, 1) := by decide +kernel
theorem dL_areUnits_216 : decode cL_areUnits 216 = .ok (.iconst 1, 1) := by decide +kernel
theorem dL_areUnits_217 : decode cL_areUnits 217 = .ok (.iconst 0, 1) := by decide +kernel
theorem dL_areUnits_218 : decode cL_areUnits 218 = .ok (.iconst 0, 1) := by decide +kernel
theorem dL_areUnits_219 : decode cL_areUnits 219 = .ok (.invokestatic 74, 3) := by decide +kernel
theorem dL_areUnits_222 : decode cL_areUnits 222 = .ok (.bipush (-10), 2) := by decide +kernel
theorem dL_areUnits_224 : decode cL_areUnits 224 = .ok (.if_icmp .ne 7, 3) := by decide +kernel
theorem dL_areUnits_227 : decode cL_areUnits 227 = .ok (.iconst 1, 1) := by decide +kernel
theorem dL_areUnits_228 : decode cL_areUnits 228 = .ok (.goto 4, 3) := by decide +kernel
theorem dL_areUnits_231 : decode cL_areUnits 231 = .ok (.iconst 0, 1) := by decide +kernel
theorem dL_areUnits_232 : decode cL_areUnits 232 = .ok (.ireturn, 1) := by decide +kernel
theorem dL_areObjects_0 : decode cL_areObjects 0 = .ok (.aload_n 0, 1) := by decide +kernel
theorem dL_areObjects_1 : decode cL_areObjects 1 = .ok (.iconst 4, 1) := by decide +kernel
theorem dL_areObjects_2 : decode cL_areObjects 2 = .ok (.aload 4, 2) := by decide +kernel
theorem dL_areObjects_4 : decode cL_areObjects 4 = .ok (.iconst 1, 1) := by decide +kernel
theorem dL_areObjects_5 : decode cL_areObjects 5 = .ok (.iaload, 1) := by decide +kernel
theorem dL_areObjects_6 : decode cL_areObjects 6 = .ok (.iconst 0, 1) := by decide +kernel
theorem dL_areObjects_7 : decode cL_areObjects 7 = .ok (.iconst 0, 1) := by decide +kernel
theorem dL_areObjects_8 : decode cL_areObjects 8 = .ok (.invokestatic 90, 3) := by decide +kernel
theorem dL_areObjects_11 : decode cL_areObjects 11 = .ok (.bipush (-30), 2) := by decide +kernel
theorem dL_areObjects_13 : decode cL_areObjects 13 = .ok (.if_icmp .ne 34, 3) := by decide +kernel
theorem dL_areObjects_16 : decode cL_areObjects 16 = .ok (.aload_n 0, 1) := by decide +kernel
theorem dL_areObjects_17 : decode cL_areObjects 17 = .ok (.iconst 5, 1) := by decide +kernel
theorem dL_areObjects_18 : decode cL_areObjects 18 = .ok (.aload 4, 2) := by decide +kernel
theorem dL_areObjects_20 : decode cL_areObjects 20 = .ok (.iconst 1, 1) := by decide +kernel
theorem dL_areObjects_21 : decode cL_areObjects 21 = .ok (.iaload, 1) := by decide +kernel
theorem dL_areObjects_22 : decode cL_areObjects 22 = .ok (.iconst 0, 1) := by decide +kernel
theorem dL_areObjects_23 : decode cL_areObjects 23 = .ok (.iconst 0, 1) := by decide +kernel
theorem dL_areObjects_24 : decode cL_areObjects 24 = .ok (.invokestatic 90, 3) := by decide +kernel
theorem dL_areObjects_27 : decode cL_areObjects 27 = .ok (.bipush (-30), 2) := by decide +kernel
theorem dL_areObjects_29 : decode cL_areObjects 29 = .ok (.if_icmp .ne 18, 3) := by decide +kernel
theorem dL_areObjects_32 : decode cL_areObjects 32 = .ok (.aload_n 0, 1) := by decide +kernel
theorem dL_areObjects_33 : decode cL_areObjects 33 = .ok (.iconst (-1), 1) := by decide +kernel
theorem dL_areObjects_34 : decode cL_areObjects 34 = .ok (.iconst 0, 1) := by decide +kernel
theorem dL_areObjects_35 : decode cL_areObjects 35 = .ok (.invokestatic 92, 3) := by decide +kernel
theorem dL_areObjects_38 : decode cL_areObjects 38 = .ok (.ldc 56, 2) := by decide +kernel
theorem dL_areObjects_40 : decode cL_areObjects 40 = .ok (.if_icmp .ne 7, 3) := by decide +kernel
theorem dL_areObjects_43 : decode cL_areObjects 43 = .ok (.iconst 1, 1) := by decide +kernel
theorem dL_areObjects_44 : decode cL_areObjects 44 = .ok (.goto 4, 3) := by decide +kernel
theorem dL_areObjects_47 : decode cL_areObjects 47 = .ok (.iconst 0, 1) := by decide +kernel
theorem dL_areObjects_48 : decode cL_areObjects 48 = .ok (.istore 5, 2) := by decide +kernel
theorem dL_areObjects_50 : decode cL_areObjects 50 = .ok (.iconst 0, 1) := by decide +kernel
theorem dL_areObjects_51 : decode cL_areObjects 51 = .ok (.istore 6, 2) := by decide +kernel
theorem dL_areObjects_53 : decode cL_areObjects 53 = .ok (.iload 6, 2) := by decide +kernel
theorem dL_areObjects_55 : decode cL_areObjects 55 = .ok (.aload 4, 2) := by decide +kernel
theorem dL_areObjects_57 : decode cL_areObjects 57 = .ok (.iconst 1, 1) := by decide +kernel
theorem dL_areObjects_58 : decode cL_areObjects 58 = .ok (.iaload, 1) := by decide +kernel
theorem dL_areObjects_59 : decode cL_areObjects 59 = .ok (.if_icmp .ge 263, 3) := by decide +kernel
theorem dL_areObjects_62 : decode cL_areObjects 62 = .ok (.iload 5, 2) := by decide +kernel
theorem dL_areObjects_64 : decode cL_areObjects 64 = .ok (.ifCond .eq 258, 3) := by decide +kernel
theorem dL_areObjects_67 : decode cL_areObjects 67 = .ok (.aload_n 0, 1) := by decide +kernel
theorem dL_areObjects_68 : decode cL_areObjects 68 = .ok (.iload 6, 2) := by decide +kernel
theorem dL_areObjects_70 : decode cL_areObjects 70 = .ok (.invokevirtual 47, 3) := by decide +kernel
theorem dL_areObjects_73 : decode cL_areObjects 73 = .ok (.aload_n 3, 1) := by decide +kernel
theorem dL_areObjects_74 : decode cL_areObjects 74 = .ok (.iload 6, 2) := by decide +kernel
theorem dL_areObjects_76 : decode cL_areObjects 76 = .ok (.iaload, 1) := by decide +kernel
theorem dL_areObjects_77 : decode cL_areObjects 77 = .ok (.if_icmp .ne 27, 3) := by decide +kernel
theorem dL_areObjects_80 : decode cL_areObjects 80 = .ok (.aload_n 3, 1) := by decide +kernel
theorem dL_areObjects_81 : decode cL_areObjects 81 = .ok (.iload 6, 2) := by decide +kernel
theorem dL_areObjects_83 : decode cL_areObjects 83 = .ok (.iaload, 1) := by decide +kernel
theorem dL_areObjects_84 : decode cL_areObjects 84 = .ok (.ifCond .le 20, 3) := by decide +kernel
theorem dL_areObjects_87 : decode cL_areObjects 87 = .ok (.aload_n 3, 1) := by decide +kernel
theorem dL_areObjects_88 : decode cL_areObjects 88 = .ok (.iload 6, 2) := by decide +kernel
theorem dL_areObjects_90 : decode cL_areObjects 90 = .ok (.iaload, 1) := by decide +kernel
theorem dL_areObjects_91 : decode cL_areObjects 91 = .ok (.iconst 1, 1) := by decide +kernel
theorem dL_areObjects_92 : decode cL_areObjects 92 = .ok (.aload_n 2, 1) := by decide +kernel
theorem dL_areObjects_93 : decode cL_areObjects 93 = .ok (.iload 6, 2) := by decide +kernel
theorem dL_areObjects_95 : decode cL_areObjects 95 = .ok (.iaload, 1) := by decide +kernel
theorem dL_areObjects_96 : decode cL_areObjects 96 = .ok (.ishl, 1) := by decide +kernel
theorem dL_areObjects_97 : decode cL_areObjects 97 = .ok (.if_icmp .ge 7, 3) := by decide +kernel
theorem dL_areObjects_100 : decode cL_areObjects 100 = .ok (.iconst 1, 1) := by decide +kernel
theorem dL_areObjects_101 : decode cL_areObjects 101 = .ok (.goto 4, 3) := by decide +kernel
theorem dL_areObjects_104 : decode cL_areObjects 104 = .ok (.iconst 0, 1) := by decide +kernel
theorem dL_areObjects_105 : decode cL_areObjects 105 = .ok (.istore 5, 2) := by decide +kernel
theorem dL_areObjects_107 : decode cL_areObjects 107 = .ok (.iconst 0, 1) := by decide +kernel
theorem dL_areObjects_108 : decode cL_areObjects 108 = .ok (.istore 7, 2) := by decide +kernel
theorem dL_areObjects_110 : decode cL_areObjects 110 = .ok (.iload 7, 2) := by decide +kernel
theorem dL_areObjects_112 : decode cL_areObjects 112 = .ok (.bipush 10, 2) := by decide +kernel
theorem dL_areObjects_114 : decode cL_areObjects 114 = .ok (.if_icmp .ge 202, 3) := by decide +kernel
theorem dL_areObjects_117 : decode cL_areObjects 117 = .ok (.iload 5, 2) := by decide +kernel
theorem dL_areObjects_119 : decode cL_areObjects 119 = .ok (.ifCond .eq 197, 3) := by decide +kernel
theorem dL_areObjects_122 : decode cL_areObjects 122 = .ok (.aload_n 3, 1) := by decide +kernel
theorem dL_areObjects_123 : decode cL_areObjects 123 = .ok (.iload 6, 2) := by decide +kernel
theorem dL_areObjects_125 : decode cL_areObjects 125 = .ok (.iaload, 1) := by decide +kernel
theorem dL_areObjects_126 : decode cL_areObjects 126 = .ok (.iload 7, 2) := by decide +kernel
theorem dL_areObjects_128 : decode cL_areObjects 128 = .ok (.ishr, 1) := by decide +kernel
theorem dL_areObjects_129 : decode cL_areObjects 129 = .ok (.iconst 1, 1) := by decide +kernel
theorem dL_areObjects_130 : decode cL_areObjects 130 = .ok (.iand, 1) := by decide +kernel
theorem dL_areObjects_131 : decode cL_areObjects 131 = .ok (.iconst 1, 1) := by decide +kernel
theorem dL_areObjects_132 : decode cL_areObjects 132 = .ok (.if_icmp .ne 7, 3) := by decide +kernel
theorem dL_areObjects_135 : decode cL_areObjects 135 = .ok (.iconst 1, 1) := by decide +kernel
theorem dL_areObjects_136 : decode cL_areObjects 136 = .ok (.goto 4, 3) := by decide +kernel
theorem dL_areObjects_139 : decode cL_areObjects 139 = .ok (.iconst 0, 1) := by decide +kernel
theorem dL_areObjects_140 : decode cL_areObjects 140 = .ok (.istore 8, 2) := by decide +kernel
theorem dL_areObjects_142 : decode cL_areObjects 142 = .ok (.aload_n 0, 1) := by decide +kernel
theorem dL_areObjects_143 : decode cL_areObjects 143 = .ok (.iconst 5, 1) := by decide +kernel
theorem dL_areObjects_144 : decode cL_areObjects 144 = .ok (.iload 6, 2) := by decide +kernel
theorem dL_areObjects_146 : decode cL_areObjects 146 = .ok (.iload 7, 2) := by decide +kernel
theorem dL_areObjects_148 : decode cL_areObjects 148 = .ok (.iconst 0, 1) := by decide +kernel
theorem dL_areObjects_149 : decode cL_areObjects 149 = .ok (.invokestatic 90, 3) := by decide +kernel
theorem dL_areObjects_152 : decode cL_areObjects 152 = .ok (.istore 9, 2) := by decide +kernel
theorem dL_areObjects_154 : decode cL_areObjects 154 = .ok (.aload_n 0, 1) := by decide +kernel
theorem dL_areObjects_155 : decode cL_areObjects 155 = .ok (.iload 6, 2) := by decide +kernel
theorem dL_areObjects_157 : decode cL_areObjects 157 = .ok (.iload 7, 2) := by decide +kernel
theorem dL_areObjects_159 : decode cL_areObjects 159 = .ok (.invokestatic 92, 3) := by decide +kernel
theorem dL_areObjects_162 : decode cL_areObjects 162 = .ok (.istore 10, 2) := by decide +kernel
theorem dL_areObjects_164 : decode cL_areObjects 164 = .ok (.iload 8, 2) := by decide +kernel
theorem dL_areObjects_166 : decode cL_areObjects 166 = .ok (.ifCond .eq 28, 3) := by decide +kernel
theorem dL_areObjects_169 : decode cL_areObjects 169 = .ok (.iload 9, 2) := by decide +kernel
theorem dL_areObjects_171 : decode cL_areObjects 171 = .ok (.ifCond .lt 19, 3) := by decide +kernel
theorem dL_areObjects_174 : decode cL_areObjects 174 = .ok (.aload_n 0, 1) := by decide +kernel
theorem dL_areObjects_175 : decode cL_areObjects 175 = .ok (.iconst 0, 1) := by decide +kernel
theorem dL_areObjects_176 : decode cL_areObjects 176 = .ok (.iload 9, 2) := by decide +kernel
theorem dL_areObjects_178 : decode cL_areObjects 178 = .ok (.iconst 0, 1) := by decide +kernel
theorem dL_areObjects_179 : decode cL_areObjects 179 = .ok (.iconst 0, 1) := by decide +kernel
theorem dL_areObjects_180 : decode cL_areObjects 180 = .ok (.invokestatic 74, 3) := by decide +kernel
theorem dL_areObjects_183 : decode cL_areObjects 183 = .ok (.ifCond .lt 7, 3) := by decide +kernel
theorem dL_areObjects_186 : decode cL_areObjects 186 = .ok (.iconst 1, 1) := by decide +kernel
theorem dL_areObjects_187 : decode cL_areObjects 187 = .ok (.goto 26, 3) := by decide +kernel
theorem dL_areObjects_190 : decode cL_areObjects 190 = .ok (.iconst 0, 1) := by decide +kernel
theorem dL_areObjects_191 : decode cL_areObjects 191 = .ok (.goto 22, 3) := by decide +kernel
theorem dL_areObjects_194 : decode cL_areObjects 194 = .ok (.iload 9, 2) := by decide +kernel
theorem dL_areObjects_196 : decode cL_areObjects 196 = .ok (.bipush (-30), 2) := by decide +kernel
theorem dL_areObjects_198 : decode cL_areObjects 198 = .ok (.if_icmp .ne 14, 3) := by decide +kernel
theorem dL_areObjects_201 : decode cL_areObjects 201 = .ok (.iload 10, 2) := by decide +kernel
theorem dL_areObjects_203 : decode cL_areObjects 203 = .ok (.ldc 56, 2) := by decide +kernel
theorem dL_areObjects_205 : decode cL_areObjects 205 = .ok (.if_icmp .ne 7, 3) := by decide +kernel
theorem dL_areObjects_208 : decode cL_areObjects 208 = .ok (.iconst 1, 1) := by decide +kernel
theorem dL_areObjects_209 : decode cL_areObjects 209 = .ok (.goto 4, 3) := by decide +kernel
theorem dL_areObjects_212 : decode cL_areObjects 212 = .ok (.iconst 0, 1) := by decide +kernel
theorem dL_areObjects_213 : decode cL_areObjects 213 = .ok (.istore 5, 2) := by decide +kernel
theorem dL_areObjects_215 : decode cL_areObjects 215 = .ok (.iload 5, 2) := by decide +kernel
theorem dL_areObjects_217 : decode cL_areObjects 217 = .ok (.ifCond .eq 42, 3) := by decide +kernel
theorem dL_areObjects_220 : decode cL_areObjects 220 = .ok (.iload 8, 2) := by decide +kernel
theorem dL_areObjects_222 : decode cL_areObjects 222 = .ok (.ifCond .eq 33, 3) := by decide +kernel
theorem dL_areObjects_225 : decode cL_areObjects 225 = .ok (.aload 4, 2) := by decide +kernel
theorem dL_areObjects_227 : decode cL_areObjects 227 = .ok (.iconst 3, 1) := by decide +kernel
theorem dL_areObjects_228 : decode cL_areObjects 228 = .ok (.iaload, 1) := by decide +kernel
theorem dL_areObjects_229 : decode cL_areObjects 229 = .ok (.iconst 1, 1) := by decide +kernel
theorem dL_areObjects_230 : decode cL_areObjects 230 = .ok (.if_icmp .eq 25, 3) := by decide +kernel
theorem dL_areObjects_233 : decode cL_areObjects 233 = .ok (.iload 10, 2) := by decide +kernel
theorem dL_areObjects_235 : decode cL_areObjects 235 = .ok (.aload_n 1, 1) := by decide +kernel
theorem dL_areObjects_236 : decode cL_areObjects 236 = .ok (.bipush 10, 2) := by decide +kernel
theorem dL_areObjects_238 : decode cL_areObjects 238 = .ok (.iload 6, 2) := by decide +kernel
theorem dL_areObjects_240 : decode cL_areObjects 240 = .ok (.imul, 1) := by decide +kernel
theorem dL_areObjects_241 : decode cL_areObjects 241 = .ok (.iload 7, 2) := by decide +kernel
theorem dL_areObjects_243 : decode cL_areObjects 243 = .ok (.iadd, 1) := by decide +kernel
theorem dL_areObjects_244 : decode cL_areObjects 244 = .ok (.iaload, 1) := by decide +kernel
theorem dL_areObjects_245 : decode cL_areObjects 245 = .ok (.if_icmp .eq 10, 3) := by decide +kernel
theorem dL_areObjects_248 : decode cL_areObjects 248 = .ok (.iload 10, 2) := by decide +kernel
theorem dL_areObjects_250 : decode cL_areObjects 250 = .ok (.ldc 57, 2) := by decide +kernel
theorem dL_areObjects_252 : decode cL_areObjects 252 = .ok (.if_icmp .ne 7, 3) := by decide +kernel
theorem dL_areObjects_255 : decode cL_areObjects 255 = .ok (.iconst 1, 1) := by decide +kernel
theorem dL_areObjects_256 : decode cL_areObjects 256 = .ok (.goto 4, 3) := by decide +kernel
theorem dL_areObjects_259 : decode cL_areObjects 259 = .ok (.iconst 0, 1) := by decide +kernel
theorem dL_areObjects_260 : decode cL_areObjects 260 = .ok (.istore 5, 2) := by decide +kernel
theorem dL_areObjects_262 : decode cL_areObjects 262 = .ok (.iload 5, 2) := by decide +kernel
theorem dL_areObjects_264 : decode cL_areObjects 264 = .ok (.ifCond .eq 43, 3) := by decide +kernel
theorem dL_areObjects_267 : decode cL_areObjects 267 = .ok (.iload 8, 2) := by decide +kernel
theorem dL_areObjects_269 : decode cL_areObjects 269 = .ok (.ifCond .eq 34, 3) := by decide +kernel
theorem dL_areObjects_272 : decode cL_areObjects 272 = .ok (.aload 4, 2) := by decide +kernel
theorem dL_areObjects_274 : decode cL_areObjects 274 = .ok (.iconst 3, 1) := by decide +kernel
theorem dL_areObjects_275 : decode cL_areObjects 275 = .ok (.iaload, 1) := by decide +kernel
theorem dL_areObjects_276 : decode cL_areObjects 276 = .ok (.iconst 1, 1) := by decide +kernel
theorem dL_areObjects_277 : decode cL_areObjects 277 = .ok (.if_icmp .eq 26, 3) := by decide +kernel
theorem dL_areObjects_280 : decode cL_areObjects 280 = .ok (.aload 4, 2) := by decide +kernel
theorem dL_areObjects_282 : decode cL_areObjects 282 = .ok (.iconst 4, 1) := by decide +kernel
theorem dL_areObjects_283 : decode cL_areObjects 283 = .ok (.iaload, 1) := by decide +kernel
theorem dL_areObjects_284 : decode cL_areObjects 284 = .ok (.iconst 1, 1) := by decide +kernel
theorem dL_areObjects_285 : decode cL_areObjects 285 = .ok (.if_icmp .eq 18, 3) := by decide +kernel
theorem dL_areObjects_288 : decode cL_areObjects 288 = .ok (.iload 10, 2) := by decide +kernel
theorem dL_areObjects_290 : decode cL_areObjects 290 = .ok (.aload_n 1, 1) := by decide +kernel
theorem dL_areObjects_291 : decode cL_areObjects 291 = .ok (.bipush 10, 2) := by decide +kernel
theorem dL_areObjects_293 : decode cL_areObjects 293 = .ok (.iload 6, 2) := by decide +kernel
theorem dL_areObjects_295 : decode cL_areObjects 295 = .ok (.imul, 1) := by decide +kernel
theorem dL_areObjects_296 : decode cL_areObjects 296 = .ok (.iload 7, 2) := by decide +kernel
theorem dL_areObjects_298 : decode cL_areObjects 298 = .ok (.iadd, 1) := by decide +kernel
theorem dL_areObjects_299 : decode cL_areObjects 299 = .ok (.iaload, 1) := by decide +kernel
theorem dL_areObjects_300 : decode cL_areObjects 300 = .ok (.if_icmp .ne 7, 3) := by decide +kernel
theorem dL_areObjects_303 : decode cL_areObjects 303 = .ok (.iconst 1, 1) := by decide +kernel
theorem dL_areObjects_304 : decode cL_areObjects 304 = .ok (.goto 4, 3) := by decide +kernel
theorem dL_areObjects_307 : decode cL_areObjects 307 = .ok (.iconst 0, 1) := by decide +kernel
theorem dL_areObjects_308 : decode cL_areObjects 308 = .ok (.istore 5, 2) := by decide +kernel
theorem dL_areObjects_310 : decode cL_areObjects 310 = .ok (.iinc 7 1, 3) := by decide +kernel
theorem dL_areObjects_313 : decode cL_areObjects 313 = .ok (.goto (-203), 3) := by decide +kernel
theorem dL_areObjects_316 : decode cL_areObjects 316 = .ok (.iinc 6 1, 3) := by decide +kernel
theorem dL_areObjects_319 : decode cL_areObjects 319 = .ok (.goto (-266), 3) := by decide +kernel
theorem dL_areObjects_322 : decode cL_areObjects 322 = .ok (.iload 5, 2) := by decide +kernel
theorem dL_areObjects_324 : decode cL_areObjects 324 = .ok (.ireturn, 1) := by decide +kernel
theorem dL_areWays_0 : decode cL_areWays 0 = .ok (.aload_n 0, 1) := by decide +kernel
theorem dL_areWays_1 : decode cL_areWays 1 = .ok (.iconst 3, 1) := by decide +kernel
theorem dL_areWays_2 : decode cL_areWays 2 = .ok (.aload_n 3, 1) := by decide +kernel
theorem dL_areWays_3 : decode cL_areWays 3 = .ok (.iconst 0, 1) := by decide +kernel
theorem dL_areWays_4 : decode cL_areWays 4 = .ok (.iaload, 1) := by decide +kernel
theorem dL_areWays_5 : decode cL_areWays 5 = .ok (.iconst 0, 1) := by decide +kernel
theorem dL_areWays_6 : decode cL_areWays 6 = .ok (.iconst 0, 1) := by decide +kernel
theorem dL_areWays_7 : decode cL_areWays 7 = .ok (.invokestatic 96, 3) := by decide +kernel
theorem dL_areWays_10 : decode cL_areWays 10 = .ok (.bipush (-30), 2) := by decide +kernel
theorem dL_areWays_12 : decode cL_areWays 12 = .ok (.if_icmp .ne 20, 3) := by decide +kernel
theorem dL_areWays_15 : decode cL_areWays 15 = .ok (.aload_n 0, 1) := by decide +kernel
theorem dL_areWays_16 : decode cL_areWays 16 = .ok (.iconst 3, 1) := by decide +kernel
theorem dL_areWays_17 : decode cL_areWays 17 = .ok (.iconst 0, 1) := by decide +kernel
theorem dL_areWays_18 : decode cL_areWays 18 = .ok (.iconst (-1), 1) := by decide +kernel
theorem dL_areWays_19 : decode cL_areWays 19 = .ok (.iconst 0, 1) := by decide +kernel
theorem dL_areWays_20 : decode cL_areWays 20 = .ok (.invokestatic 96, 3) := by decide +kernel
theorem dL_areWays_23 : decode cL_areWays 23 = .ok (.bipush (-30), 2) := by decide +kernel
theorem dL_areWays_25 : decode cL_areWays 25 = .ok (.if_icmp .ne 7, 3) := by decide +kernel
theorem dL_areWays_28 : decode cL_areWays 28 = .ok (.iconst 1, 1) := by decide +kernel
theorem dL_areWays_29 : decode cL_areWays 29 = .ok (.goto 4, 3) := by decide +kernel
theorem dL_areWays_32 : decode cL_areWays 32 = .ok (.iconst 0, 1) := by decide +kernel
theorem dL_areWays_33 : decode cL_areWays 33 = .ok (.istore 4, 2) := by decide +kernel
theorem dL_areWays_35 : decode cL_areWays 35 = .ok (.iconst 0, 1) := by decide +kernel
theorem dL_areWays_36 : decode cL_areWays 36 = .ok (.istore 5, 2) := by decide +kernel
theorem dL_areWays_38 : decode cL_areWays 38 = .ok (.iload 5, 2) := by decide +kernel
theorem dL_areWays_40 : decode cL_areWays 40 = .ok (.aload_n 3, 1) := by decide +kernel
theorem dL_areWays_41 : decode cL_areWays 41 = .ok (.iconst 0, 1) := by decide +kernel
theorem dL_areWays_42 : decode cL_areWays 42 = .ok (.iaload, 1) := by decide +kernel
theorem dL_areWays_43 : decode cL_areWays 43 = .ok (.if_icmp .ge 174, 3) := by decide +kernel
theorem dL_areWays_46 : decode cL_areWays 46 = .ok (.iload 4, 2) := by decide +kernel
theorem dL_areWays_48 : decode cL_areWays 48 = .ok (.ifCond .eq 169, 3) := by decide +kernel
theorem dL_areWays_51 : decode cL_areWays 51 = .ok (.aload_n 0, 1) := by decide +kernel
theorem dL_areWays_52 : decode cL_areWays 52 = .ok (.iload 5, 2) := by decide +kernel
theorem dL_areWays_54 : decode cL_areWays 54 = .ok (.iload 5, 2) := by decide +kernel
theorem dL_areWays_56 : decode cL_areWays 56 = .ok (.invokevirtual 22, 3) := by decide +kernel
theorem dL_areWays_59 : decode cL_areWays 59 = .ok (.ifCond .ne 7, 3) := by decide +kernel
theorem dL_areWays_62 : decode cL_areWays 62 = .ok (.iconst 1, 1) := by decide +kernel
theorem dL_areWays_63 : decode cL_areWays 63 = .ok (.goto 4, 3) := by decide +kernel
theorem dL_areWays_66 : decode cL_areWays 66 = .ok (.iconst 0, 1) := by decide +kernel
theorem dL_areWays_67 : decode cL_areWays 67 = .ok (.istore 4, 2) := by decide +kernel
theorem dL_areWays_69 : decode cL_areWays 69 = .ok (.iconst 0, 1) := by decide +kernel
theorem dL_areWays_70 : decode cL_areWays 70 = .ok (.istore 6, 2) := by decide +kernel
theorem dL_areWays_72 : decode cL_areWays 72 = .ok (.iload 6, 2) := by decide +kernel
theorem dL_areWays_74 : decode cL_areWays 74 = .ok (.aload_n 3, 1) := by decide +kernel
theorem dL_areWays_75 : decode cL_areWays 75 = .ok (.iconst 0, 1) := by decide +kernel
theorem dL_areWays_76 : decode cL_areWays 76 = .ok (.iaload, 1) := by decide +kernel
theorem dL_areWays_77 : decode cL_areWays 77 = .ok (.if_icmp .ge 134, 3) := by decide +kernel
theorem dL_areWays_80 : decode cL_areWays 80 = .ok (.iload 4, 2) := by decide +kernel
theorem dL_areWays_82 : decode cL_areWays 82 = .ok (.ifCond .eq 129, 3) := by decide +kernel
theorem dL_areWays_85 : decode cL_areWays 85 = .ok (.aload_n 0, 1) := by decide +kernel
theorem dL_areWays_86 : decode cL_areWays 86 = .ok (.iload 5, 2) := by decide +kernel
theorem dL_areWays_88 : decode cL_areWays 88 = .ok (.iload 6, 2) := by decide +kernel
theorem dL_areWays_90 : decode cL_areWays 90 = .ok (.invokevirtual 22, 3) := by decide +kernel
theorem dL_areWays_93 : decode cL_areWays 93 = .ok (.istore 7, 2) := by decide +kernel
theorem dL_areWays_95 : decode cL_areWays 95 = .ok (.iload 7, 2) := by decide +kernel
theorem dL_areWays_97 : decode cL_areWays 97 = .ok (.iconst (-1), 1) := by decide +kernel
theorem dL_areWays_98 : decode cL_areWays 98 = .ok (.if_icmp .lt 30, 3) := by decide +kernel
theorem dL_areWays_101 : decode cL_areWays 101 = .ok (.iload 7, 2) := by decide +kernel
theorem dL_areWays_103 : decode cL_areWays 103 = .ok (.bipush 100, 2) := by decide +kernel
theorem dL_areWays_105 : decode cL_areWays 105 = .ok (.irem, 1) := by decide +kernel
theorem dL_areWays_106 : decode cL_areWays 106 = .ok (.aload_n 3, 1) := by decide +kernel
theorem dL_areWays_107 : decode cL_areWays 107 = .ok (.iconst 0, 1) := by decide +kernel
theorem dL_areWays_108 : decode cL_areWays 108 = .ok (.iaload, 1) := by decide +kernel
theorem dL_areWays_109 : decode cL_areWays 109 = .ok (.if_icmp .ge 19, 3) := by decide +kernel
theorem dL_areWays_112 : decode cL_areWays 112 = .ok (.iload 5, 2) := by decide +kernel
theorem dL_areWays_114 : decode cL_areWays 114 = .ok (.iload 6, 2) := by decide +kernel
theorem dL_areWays_116 : decode cL_areWays 116 = .ok (.if_icmp .eq 8, 3) := by decide +kernel
theorem dL_areWays_119 : decode cL_areWays 119 = .ok (.iload 7, 2) := by decide +kernel
theorem dL_areWays_121 : decode cL_areWays 121 = .ok (.ifCond .eq 7, 3) := by decide +kernel
theorem dL_areWays_124 : decode cL_areWays 124 = .ok (.iconst 1, 1) := by decide +kernel
theorem dL_areWays_125 : decode cL_areWays 125 = .ok (.goto 4, 3) := by decide +kernel
theorem dL_areWays_128 : decode cL_areWays 128 = .ok (.iconst 0, 1) := by decide +kernel
theorem dL_areWays_129 : decode cL_areWays 129 = .ok (.istore 4, 2) := by decide +kernel
theorem dL_areWays_131 : decode cL_areWays 131 = .ok (.iconst 0, 1) := by decide +kernel
theorem dL_areWays_132 : decode cL_areWays 132 = .ok (.istore 8, 2) := by decide +kernel
theorem dL_areWays_134 : decode cL_areWays 134 = .ok (.iload 8, 2) := by decide +kernel
theorem dL_areWays_136 : decode cL_areWays 136 = .ok (.aload_n 3, 1) := by decide +kernel
theorem dL_areWays_137 : decode cL_areWays 137 = .ok (.iconst 0, 1) := by decide +kernel
theorem dL_areWays_138 : decode cL_areWays 138 = .ok (.iaload, 1) := by decide +kernel
theorem dL_areWays_139 : decode cL_areWays 139 = .ok (.if_icmp .ge 66, 3) := by decide +kernel
theorem dL_areWays_142 : decode cL_areWays 142 = .ok (.iload 4, 2) := by decide +kernel
theorem dL_areWays_144 : decode cL_areWays 144 = .ok (.ifCond .eq 61, 3) := by decide +kernel
theorem dL_areWays_147 : decode cL_areWays 147 = .ok (.aload_n 0, 1) := by decide +kernel
theorem dL_areWays_148 : decode cL_areWays 148 = .ok (.iload 5, 2) := by decide +kernel
theorem dL_areWays_150 : decode cL_areWays 150 = .ok (.iload 8, 2) := by decide +kernel
theorem dL_areWays_152 : decode cL_areWays 152 = .ok (.invokevirtual 22, 3) := by decide +kernel
theorem dL_areWays_155 : decode cL_areWays 155 = .ok (.istore 9, 2) := by decide +kernel
theorem dL_areWays_157 : decode cL_areWays 157 = .ok (.aload_n 0, 1) := by decide +kernel
theorem dL_areWays_158 : decode cL_areWays 158 = .ok (.iload 8, 2) := by decide +kernel
theorem dL_areWays_160 : decode cL_areWays 160 = .ok (.iload 6, 2) := by decide +kernel
theorem dL_areWays_162 : decode cL_areWays 162 = .ok (.invokevirtual 22, 3) := by decide +kernel
theorem dL_areWays_165 : decode cL_areWays 165 = .ok (.istore 10, 2) := by decide +kernel
theorem dL_areWays_167 : decode cL_areWays 167 = .ok (.iload 9, 2) := by decide +kernel
theorem dL_areWays_169 : decode cL_areWays 169 = .ok (.ifCond .lt 23, 3) := by decide +kernel
theorem dL_areWays_172 : decode cL_areWays 172 = .ok (.iload 10, 2) := by decide +kernel
theorem dL_areWays_174 : decode cL_areWays 174 = .ok (.ifCond .lt 18, 3) := by decide +kernel
theorem dL_areWays_177 : decode cL_areWays 177 = .ok (.iload 7, 2) := by decide +kernel
theorem dL_areWays_179 : decode cL_areWays 179 = .ok (.ifCond .lt 17, 3) := by decide +kernel
theorem dL_areWays_182 : decode cL_areWays 182 = .ok (.iload 7, 2) := by decide +kernel
theorem dL_areWays_184 : decode cL_areWays 184 = .ok (.iload 9, 2) := by decide +kernel
theorem dL_areWays_186 : decode cL_areWays 186 = .ok (.iload 10, 2) := by decide +kernel
theorem dL_areWays_188 : decode cL_areWays 188 = .ok (.iadd, 1) := by decide +kernel
theorem dL_areWays_189 : decode cL_areWays 189 = .ok (.if_icmp .gt 7, 3) := by decide +kernel
theorem dL_areWays_192 : decode cL_areWays 192 = .ok (.iconst 1, 1) := by decide +kernel
theorem dL_areWays_193 : decode cL_areWays 193 = .ok (.goto 4, 3) := by decide +kernel
theorem dL_areWays_196 : decode cL_areWays 196 = .ok (.iconst 0, 1) := by decide +kernel
theorem dL_areWays_197 : decode cL_areWays 197 = .ok (.istore 4, 2) := by decide +kernel
theorem dL_areWays_199 : decode cL_areWays 199 = .ok (.iinc 8 1, 3) := by decide +kernel
theorem dL_areWays_202 : decode cL_areWays 202 = .ok (.goto (-68), 3) := by decide +kernel
theorem dL_areWays_205 : decode cL_areWays 205 = .ok (.iinc 6 1, 3) := by decide +kernel
theorem dL_areWays_208 : decode cL_areWays 208 = .ok (.goto (-136), 3) := by decide +kernel
theorem dL_areWays_211 : decode cL_areWays 211 = .ok (.iinc 5 1, 3) := by decide +kernel
theorem dL_areWays_214 : decode cL_areWays 214 = .ok (.goto (-176), 3) := by decide +kernel
theorem dL_areWays_217 : decode cL_areWays 217 = .ok (.iconst 0, 1) := by decide +kernel
theorem dL_areWays_218 : decode cL_areWays 218 = .ok (.istore 5, 2) := by decide +kernel
theorem dL_areWays_220 : decode cL_areWays 220 = .ok (.iload 5, 2) := by decide +kernel
theorem dL_areWays_222 : decode cL_areWays 222 = .ok (.bipush 101, 2) := by decide +kernel
theorem dL_areWays_224 : decode cL_areWays 224 = .ok (.if_icmp .ge 82, 3) := by decide +kernel
theorem dL_areWays_227 : decode cL_areWays 227 = .ok (.iload 4, 2) := by decide +kernel
theorem dL_areWays_229 : decode cL_areWays 229 = .ok (.ifCond .eq 77, 3) := by decide +kernel
theorem dL_areWays_232 : decode cL_areWays 232 = .ok (.iconst 0, 1) := by decide +kernel
theorem dL_areWays_233 : decode cL_areWays 233 = .ok (.istore 6, 2) := by decide +kernel
theorem dL_areWays_235 : decode cL_areWays 235 = .ok (.iconst 0, 1) := by decide +kernel
