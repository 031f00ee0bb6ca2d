theorem dX9_fillClocks_56 : decode cX9_fillClocks 56 = .ok (.putfield 121, 3) := by decide +kernel
theorem dX9_fillClocks_59 : decode cX9_fillClocks 59 = .ok (.aload_n 2, 1) := by decide +kernel
theorem dX9_fillClocks_60 : decode cX9_fillClocks 60 = .ok (.aload_n 0, 1) := by decide +kernel
theorem dX9_fillClocks_61 : decode cX9_fillClocks 61 = .ok (.getfield 11, 3) := by decide +kernel
theorem dX9_fillClocks_64 : decode cX9_fillClocks 64 = .ok (.aload_n 0, 1) := by decide +kernel
theorem dX9_fillClocks_65 : decode cX9_fillClocks 65 = .ok (.getfield 88, 3) := by decide +kernel
theorem dX9_fillClocks_68 : decode cX9_fillClocks 68 = .ok (.aaload, 1) := by decide +kernel
theorem dX9_fillClocks_69 : decode cX9_fillClocks 69 = .ok (.getfield 114, 3) := by decide +kernel
theorem dX9_fillClocks_72 : decode cX9_fillClocks 72 = .ok (.putfield 124, 3) := by decide +kernel
theorem dX9_fillClocks_75 : decode cX9_fillClocks 75 = .ok (.aload_n 2, 1) := by decide +kernel
theorem dX9_fillClocks_76 : decode cX9_fillClocks 76 = .ok (.aload_n 0, 1) := by decide +kernel
theorem dX9_fillClocks_77 : decode cX9_fillClocks 77 = .ok (.getfield 79, 3) := by decide +kernel
theorem dX9_fillClocks_80 : decode cX9_fillClocks 80 = .ok (.putfield 125, 3) := by decide +kernel
theorem dX9_fillClocks_83 : decode cX9_fillClocks 83 = .ok (.aload_n 0, 1) := by decide +kernel
theorem dX9_fillClocks_84 : decode cX9_fillClocks 84 = .ok (.dup, 1) := by decide +kernel
theorem dX9_fillClocks_85 : decode cX9_fillClocks 85 = .ok (.getfield 88, 3) := by decide +kernel
theorem dX9_fillClocks_88 : decode cX9_fillClocks 88 = .ok (.iconst 1, 1) := by decide +kernel
theorem dX9_fillClocks_89 : decode cX9_fillClocks 89 = .ok (.iadd, 1) := by decide +kernel
theorem dX9_fillClocks_90 : decode cX9_fillClocks 90 = .ok (.putfield 88, 3) := by decide +kernel
theorem dX9_fillClocks_93 : decode cX9_fillClocks 93 = .ok (.iinc 1 1, 3) := by decide +kernel
theorem dX9_fillClocks_96 : decode cX9_fillClocks 96 = .ok (.goto (-94), 3) := by decide +kernel
theorem dX9_fillClocks_99 : decode cX9_fillClocks 99 = .ok (.return_, 1) := by decide +kernel
theorem dX9_refreshLimits_0 : decode cX9_refreshLimits 0 = .ok (.iconst 0, 1) := by decide +kernel
theorem dX9_refreshLimits_1 : decode cX9_refreshLimits 1 = .ok (.istore_n 1, 1) := by decide +kernel
theorem dX9_refreshLimits_2 : decode cX9_refreshLimits 2 = .ok (.iload_n 1, 1) := by decide +kernel
theorem dX9_refreshLimits_3 : decode cX9_refreshLimits 3 = .ok (.iconst 3, 1) := by decide +kernel
theorem dX9_refreshLimits_4 : decode cX9_refreshLimits 4 = .ok (.if_icmp .ge 107, 3) := by decide +kernel
theorem dX9_refreshLimits_7 : decode cX9_refreshLimits 7 = .ok (.aload_n 0, 1) := by decide +kernel
theorem dX9_refreshLimits_8 : decode cX9_refreshLimits 8 = .ok (.getfield 25, 3) := by decide +kernel
theorem dX9_refreshLimits_11 : decode cX9_refreshLimits 11 = .ok (.iload_n 1, 1) := by decide +kernel
theorem dX9_refreshLimits_12 : decode cX9_refreshLimits 12 = .ok (.aaload, 1) := by decide +kernel
theorem dX9_refreshLimits_13 : decode cX9_refreshLimits 13 = .ok (.astore_n 2, 1) := by decide +kernel
theorem dX9_refreshLimits_14 : decode cX9_refreshLimits 14 = .ok (.iconst 0, 1) := by decide +kernel
theorem dX9_refreshLimits_15 : decode cX9_refreshLimits 15 = .ok (.istore_n 3, 1) := by decide +kernel
theorem dX9_refreshLimits_16 : decode cX9_refreshLimits 16 = .ok (.iload_n 3, 1) := by decide +kernel
theorem dX9_refreshLimits_17 : decode cX9_refreshLimits 17 = .ok (.aload_n 0, 1) := by decide +kernel
theorem dX9_refreshLimits_18 : decode cX9_refreshLimits 18 = .ok (.getfield 29, 3) := by decide +kernel
theorem dX9_refreshLimits_21 : decode cX9_refreshLimits 21 = .ok (.getfield 36, 3) := by decide +kernel
theorem dX9_refreshLimits_24 : decode cX9_refreshLimits 24 = .ok (.if_icmp .ge 81, 3) := by decide +kernel
theorem dX9_refreshLimits_27 : decode cX9_refreshLimits 27 = .ok (.aload_n 2, 1) := by decide +kernel
theorem dX9_refreshLimits_28 : decode cX9_refreshLimits 28 = .ok (.invokevirtual 117, 3) := by decide +kernel
theorem dX9_refreshLimits_31 : decode cX9_refreshLimits 31 = .ok (.ifCond .ne 74, 3) := by decide +kernel
theorem dX9_refreshLimits_34 : decode cX9_refreshLimits 34 = .ok (.aload_n 2, 1) := by decide +kernel
theorem dX9_refreshLimits_35 : decode cX9_refreshLimits 35 = .ok (.getfield 125, 3) := by decide +kernel
theorem dX9_refreshLimits_38 : decode cX9_refreshLimits 38 = .ok (.aload_n 0, 1) := by decide +kernel
theorem dX9_refreshLimits_39 : decode cX9_refreshLimits 39 = .ok (.getfield 79, 3) := by decide +kernel
theorem dX9_refreshLimits_42 : decode cX9_refreshLimits 42 = .ok (.if_icmp .eq 21, 3) := by decide +kernel
theorem dX9_refreshLimits_45 : decode cX9_refreshLimits 45 = .ok (.aload_n 0, 1) := by decide +kernel
theorem dX9_refreshLimits_46 : decode cX9_refreshLimits 46 = .ok (.getfield 19, 3) := by decide +kernel
theorem dX9_refreshLimits_49 : decode cX9_refreshLimits 49 = .ok (.iload_n 3, 1) := by decide +kernel
theorem dX9_refreshLimits_50 : decode cX9_refreshLimits 50 = .ok (.aaload, 1) := by decide +kernel
theorem dX9_refreshLimits_51 : decode cX9_refreshLimits 51 = .ok (.getfield 128, 3) := by decide +kernel
theorem dX9_refreshLimits_54 : decode cX9_refreshLimits 54 = .ok (.aload_n 0, 1) := by decide +kernel
theorem dX9_refreshLimits_55 : decode cX9_refreshLimits 55 = .ok (.getfield 79, 3) := by decide +kernel
theorem dX9_refreshLimits_58 : decode cX9_refreshLimits 58 = .ok (.iconst 1, 1) := by decide +kernel
theorem dX9_refreshLimits_59 : decode cX9_refreshLimits 59 = .ok (.isub, 1) := by decide +kernel
theorem dX9_refreshLimits_60 : decode cX9_refreshLimits 60 = .ok (.if_icmp .ne 39, 3) := by decide +kernel
theorem dX9_refreshLimits_63 : decode cX9_refreshLimits 63 = .ok (.aload_n 2, 1) := by decide +kernel
theorem dX9_refreshLimits_64 : decode cX9_refreshLimits 64 = .ok (.getfield 131, 3) := by decide +kernel
theorem dX9_refreshLimits_67 : decode cX9_refreshLimits 67 = .ok (.iload_n 3, 1) := by decide +kernel
theorem dX9_refreshLimits_68 : decode cX9_refreshLimits 68 = .ok (.iload_n 3, 1) := by decide +kernel
theorem dX9_refreshLimits_69 : decode cX9_refreshLimits 69 = .ok (.aload_n 0, 1) := by decide +kernel
theorem dX9_refreshLimits_70 : decode cX9_refreshLimits 70 = .ok (.getfield 82, 3) := by decide +kernel
theorem dX9_refreshLimits_73 : decode cX9_refreshLimits 73 = .ok (.if_icmp .ne 7, 3) := by decide +kernel
theorem dX9_refreshLimits_76 : decode cX9_refreshLimits 76 = .ok (.iconst 0, 1) := by decide +kernel
theorem dX9_refreshLimits_77 : decode cX9_refreshLimits 77 = .ok (.goto 21, 3) := by decide +kernel
theorem dX9_refreshLimits_80 : decode cX9_refreshLimits 80 = .ok (.aload_n 0, 1) := by decide +kernel
theorem dX9_refreshLimits_81 : decode cX9_refreshLimits 81 = .ok (.getfield 29, 3) := by decide +kernel
theorem dX9_refreshLimits_84 : decode cX9_refreshLimits 84 = .ok (.iload_n 3, 1) := by decide +kernel
theorem dX9_refreshLimits_85 : decode cX9_refreshLimits 85 = .ok (.aload_n 2, 1) := by decide +kernel
theorem dX9_refreshLimits_86 : decode cX9_refreshLimits 86 = .ok (.getfield 94, 3) := by decide +kernel
theorem dX9_refreshLimits_89 : decode cX9_refreshLimits 89 = .ok (.aload_n 0, 1) := by decide +kernel
theorem dX9_refreshLimits_90 : decode cX9_refreshLimits 90 = .ok (.getfield 19, 3) := by decide +kernel
theorem dX9_refreshLimits_93 : decode cX9_refreshLimits 93 = .ok (.iload_n 3, 1) := by decide +kernel
theorem dX9_refreshLimits_94 : decode cX9_refreshLimits 94 = .ok (.aaload, 1) := by decide +kernel
theorem dX9_refreshLimits_95 : decode cX9_refreshLimits 95 = .ok (.invokevirtual 135, 3) := by decide +kernel
theorem dX9_refreshLimits_98 : decode cX9_refreshLimits 98 = .ok (.iastore, 1) := by decide +kernel
theorem dX9_refreshLimits_99 : decode cX9_refreshLimits 99 = .ok (.iinc 3 1, 3) := by decide +kernel
theorem dX9_refreshLimits_102 : decode cX9_refreshLimits 102 = .ok (.goto (-86), 3) := by decide +kernel
theorem dX9_refreshLimits_105 : decode cX9_refreshLimits 105 = .ok (.iinc 1 1, 3) := by decide +kernel
theorem dX9_refreshLimits_108 : decode cX9_refreshLimits 108 = .ok (.goto (-106), 3) := by decide +kernel
theorem dX9_refreshLimits_111 : decode cX9_refreshLimits 111 = .ok (.return_, 1) := by decide +kernel
theorem dX9_passQuietSeconds_0 : decode cX9_passQuietSeconds 0 = .ok (.sipush 999, 3) := by decide +kernel
theorem dX9_passQuietSeconds_3 : decode cX9_passQuietSeconds 3 = .ok (.istore_n 1, 1) := by decide +kernel
theorem dX9_passQuietSeconds_4 : decode cX9_passQuietSeconds 4 = .ok (.iconst 0, 1) := by decide +kernel
theorem dX9_passQuietSeconds_5 : decode cX9_passQuietSeconds 5 = .ok (.istore_n 2, 1) := by decide +kernel
theorem dX9_passQuietSeconds_6 : decode cX9_passQuietSeconds 6 = .ok (.iload_n 2, 1) := by decide +kernel
theorem dX9_passQuietSeconds_7 : decode cX9_passQuietSeconds 7 = .ok (.iconst 3, 1) := by decide +kernel
theorem dX9_passQuietSeconds_8 : decode cX9_passQuietSeconds 8 = .ok (.if_icmp .ge 42, 3) := by decide +kernel
theorem dX9_passQuietSeconds_11 : decode cX9_passQuietSeconds 11 = .ok (.aload_n 0, 1) := by decide +kernel
theorem dX9_passQuietSeconds_12 : decode cX9_passQuietSeconds 12 = .ok (.getfield 25, 3) := by decide +kernel
theorem dX9_passQuietSeconds_15 : decode cX9_passQuietSeconds 15 = .ok (.iload_n 2, 1) := by decide +kernel
theorem dX9_passQuietSeconds_16 : decode cX9_passQuietSeconds 16 = .ok (.aaload, 1) := by decide +kernel
theorem dX9_passQuietSeconds_17 : decode cX9_passQuietSeconds 17 = .ok (.invokevirtual 117, 3) := by decide +kernel
theorem dX9_passQuietSeconds_20 : decode cX9_passQuietSeconds 20 = .ok (.ifCond .ne 24, 3) := by decide +kernel
theorem dX9_passQuietSeconds_23 : decode cX9_passQuietSeconds 23 = .ok (.iload_n 1, 1) := by decide +kernel
theorem dX9_passQuietSeconds_24 : decode cX9_passQuietSeconds 24 = .ok (.aload_n 0, 1) := by decide +kernel
theorem dX9_passQuietSeconds_25 : decode cX9_passQuietSeconds 25 = .ok (.getfield 25, 3) := by decide +kernel
theorem dX9_passQuietSeconds_28 : decode cX9_passQuietSeconds 28 = .ok (.iload_n 2, 1) := by decide +kernel
theorem dX9_passQuietSeconds_29 : decode cX9_passQuietSeconds 29 = .ok (.aaload, 1) := by decide +kernel
theorem dX9_passQuietSeconds_30 : decode cX9_passQuietSeconds 30 = .ok (.aload_n 0, 1) := by decide +kernel
theorem dX9_passQuietSeconds_31 : decode cX9_passQuietSeconds 31 = .ok (.getfield 29, 3) := by decide +kernel
theorem dX9_passQuietSeconds_34 : decode cX9_passQuietSeconds 34 = .ok (.getfield 36, 3) := by decide +kernel
theorem dX9_passQuietSeconds_37 : decode cX9_passQuietSeconds 37 = .ok (.invokevirtual 139, 3) := by decide +kernel
theorem dX9_passQuietSeconds_40 : decode cX9_passQuietSeconds 40 = .ok (.invokestatic 142, 3) := by decide +kernel
theorem dX9_passQuietSeconds_43 : decode cX9_passQuietSeconds 43 = .ok (.istore_n 1, 1) := by decide +kernel
theorem dX9_passQuietSeconds_44 : decode cX9_passQuietSeconds 44 = .ok (.iinc 2 1, 3) := by decide +kernel
theorem dX9_passQuietSeconds_47 : decode cX9_passQuietSeconds 47 = .ok (.goto (-41), 3) := by decide +kernel
theorem dX9_passQuietSeconds_50 : decode cX9_passQuietSeconds 50 = .ok (.iconst 0, 1) := by decide +kernel
theorem dX9_passQuietSeconds_51 : decode cX9_passQuietSeconds 51 = .ok (.istore_n 2, 1) := by decide +kernel
theorem dX9_passQuietSeconds_52 : decode cX9_passQuietSeconds 52 = .ok (.iload_n 2, 1) := by decide +kernel
theorem dX9_passQuietSeconds_53 : decode cX9_passQuietSeconds 53 = .ok (.iconst 3, 1) := by decide +kernel
theorem dX9_passQuietSeconds_54 : decode cX9_passQuietSeconds 54 = .ok (.if_icmp .ge 36, 3) := by decide +kernel
theorem dX9_passQuietSeconds_57 : decode cX9_passQuietSeconds 57 = .ok (.aload_n 0, 1) := by decide +kernel
theorem dX9_passQuietSeconds_58 : decode cX9_passQuietSeconds 58 = .ok (.getfield 25, 3) := by decide +kernel
theorem dX9_passQuietSeconds_61 : decode cX9_passQuietSeconds 61 = .ok (.iload_n 2, 1) := by decide +kernel
theorem dX9_passQuietSeconds_62 : decode cX9_passQuietSeconds 62 = .ok (.aaload, 1) := by decide +kernel
theorem dX9_passQuietSeconds_63 : decode cX9_passQuietSeconds 63 = .ok (.invokevirtual 117, 3) := by decide +kernel
theorem dX9_passQuietSeconds_66 : decode cX9_passQuietSeconds 66 = .ok (.ifCond .ne 18, 3) := by decide +kernel
theorem dX9_passQuietSeconds_69 : decode cX9_passQuietSeconds 69 = .ok (.aload_n 0, 1) := by decide +kernel
theorem dX9_passQuietSeconds_70 : decode cX9_passQuietSeconds 70 = .ok (.getfield 25, 3) := by decide +kernel
theorem dX9_passQuietSeconds_73 : decode cX9_passQuietSeconds 73 = .ok (.iload_n 2, 1) := by decide +kernel
theorem dX9_passQuietSeconds_74 : decode cX9_passQuietSeconds 74 = .ok (.aaload, 1) := by decide +kernel
theorem dX9_passQuietSeconds_75 : decode cX9_passQuietSeconds 75 = .ok (.dup, 1) := by decide +kernel
theorem dX9_passQuietSeconds_76 : decode cX9_passQuietSeconds 76 = .ok (.getfield 121, 3) := by decide +kernel
theorem dX9_passQuietSeconds_79 : decode cX9_passQuietSeconds 79 = .ok (.iload_n 1, 1) := by decide +kernel
theorem dX9_passQuietSeconds_80 : decode cX9_passQuietSeconds 80 = .ok (.isub, 1) := by decide +kernel
theorem dX9_passQuietSeconds_81 : decode cX9_passQuietSeconds 81 = .ok (.putfield 121, 3) := by decide +kernel
theorem dX9_passQuietSeconds_84 : decode cX9_passQuietSeconds 84 = .ok (.iinc 2 1, 3) := by decide +kernel
theorem dX9_passQuietSeconds_87 : decode cX9_passQuietSeconds 87 = .ok (.goto (-35), 3) := by decide +kernel
theorem dX9_passQuietSeconds_90 : decode cX9_passQuietSeconds 90 = .ok (.aload_n 0, 1) := by decide +kernel
theorem dX9_passQuietSeconds_91 : decode cX9_passQuietSeconds 91 = .ok (.dup, 1) := by decide +kernel
theorem dX9_passQuietSeconds_92 : decode cX9_passQuietSeconds 92 = .ok (.getfield 79, 3) := by decide +kernel
theorem dX9_passQuietSeconds_95 : decode cX9_passQuietSeconds 95 = .ok (.iload_n 1, 1) := by decide +kernel
theorem dX9_passQuietSeconds_96 : decode cX9_passQuietSeconds 96 = .ok (.iadd, 1) := by decide +kernel
theorem dX9_passQuietSeconds_97 : decode cX9_passQuietSeconds 97 = .ok (.putfield 79, 3) := by decide +kernel
theorem dX9_passQuietSeconds_100 : decode cX9_passQuietSeconds 100 = .ok (.return_, 1) := by decide +kernel
theorem dX9_stopClocks_0 : decode cX9_stopClocks 0 = .ok (.iconst 0, 1) := by decide +kernel
theorem dX9_stopClocks_1 : decode cX9_stopClocks 1 = .ok (.istore_n 1, 1) := by decide +kernel
theorem dX9_stopClocks_2 : decode cX9_stopClocks 2 = .ok (.iload_n 1, 1) := by decide +kernel
theorem dX9_stopClocks_3 : decode cX9_stopClocks 3 = .ok (.iconst 3, 1) := by decide +kernel
theorem dX9_stopClocks_4 : decode cX9_stopClocks 4 = .ok (.if_icmp .ge 53, 3) := by decide +kernel
theorem dX9_stopClocks_7 : decode cX9_stopClocks 7 = .ok (.aload_n 0, 1) := by decide +kernel
theorem dX9_stopClocks_8 : decode cX9_stopClocks 8 = .ok (.getfield 25, 3) := by decide +kernel
theorem dX9_stopClocks_11 : decode cX9_stopClocks 11 = .ok (.iload_n 1, 1) := by decide +kernel
theorem dX9_stopClocks_12 : decode cX9_stopClocks 12 = .ok (.aaload, 1) := by decide +kernel
theorem dX9_stopClocks_13 : decode cX9_stopClocks 13 = .ok (.astore_n 2, 1) := by decide +kernel
theorem dX9_stopClocks_14 : decode cX9_stopClocks 14 = .ok (.aload_n 2, 1) := by decide +kernel
theorem dX9_stopClocks_15 : decode cX9_stopClocks 15 = .ok (.invokevirtual 117, 3) := by decide +kernel
theorem dX9_stopClocks_18 : decode cX9_stopClocks 18 = .ok (.ifCond .eq 7, 3) := by decide +kernel
theorem dX9_stopClocks_21 : decode cX9_stopClocks 21 = .ok (.iconst (-1), 1) := by decide +kernel
theorem dX9_stopClocks_22 : decode cX9_stopClocks 22 = .ok (.goto 8, 3) := by decide +kernel
theorem dX9_stopClocks_25 : decode cX9_stopClocks 25 = .ok (.aload_n 0, 1) := by decide +kernel
theorem dX9_stopClocks_26 : decode cX9_stopClocks 26 = .ok (.aload_n 2, 1) := by decide +kernel
theorem dX9_stopClocks_27 : decode cX9_stopClocks 27 = .ok (.invokevirtual 147, 3) := by decide +kernel
theorem dX9_stopClocks_30 : decode cX9_stopClocks 30 = .ok (.istore_n 3, 1) := by decide +kernel
theorem dX9_stopClocks_31 : decode cX9_stopClocks 31 = .ok (.iload_n 3, 1) := by decide +kernel
theorem dX9_stopClocks_32 : decode cX9_stopClocks 32 = .ok (.iconst (-1), 1) := by decide +kernel
theorem dX9_stopClocks_33 : decode cX9_stopClocks 33 = .ok (.if_icmp .eq 18, 3) := by decide +kernel
theorem dX9_stopClocks_36 : decode cX9_stopClocks 36 = .ok (.aload_n 0, 1) := by decide +kernel
theorem dX9_stopClocks_37 : decode cX9_stopClocks 37 = .ok (.aload_n 2, 1) := by decide +kernel
theorem dX9_stopClocks_38 : decode cX9_stopClocks 38 = .ok (.iload_n 3, 1) := by decide +kernel
theorem dX9_stopClocks_39 : decode cX9_stopClocks 39 = .ok (.invokevirtual 151, 3) := by decide +kernel
theorem dX9_stopClocks_42 : decode cX9_stopClocks 42 = .ok (.aload_n 0, 1) := by decide +kernel
theorem dX9_stopClocks_43 : decode cX9_stopClocks 43 = .ok (.iload_n 1, 1) := by decide +kernel
theorem dX9_stopClocks_44 : decode cX9_stopClocks 44 = .ok (.aload_n 2, 1) := by decide +kernel
theorem dX9_stopClocks_45 : decode cX9_stopClocks 45 = .ok (.getfield 121, 3) := by decide +kernel
theorem dX9_stopClocks_48 : decode cX9_stopClocks 48 = .ok (.invokevirtual 155, 3) := by decide +kernel
theorem dX9_stopClocks_51 : decode cX9_stopClocks 51 = .ok (.iinc 1 1, 3) := by decide +kernel
theorem dX9_stopClocks_54 : decode cX9_stopClocks 54 = .ok (.goto (-52), 3) := by decide +kernel
theorem dX9_stopClocks_57 : decode cX9_stopClocks 57 = .ok (.return_, 1) := by decide +kernel
theorem dX9_whoStops_0 : decode cX9_whoStops 0 = .ok (.iconst (-1), 1) := by decide +kernel
theorem dX9_whoStops_1 : decode cX9_whoStops 1 = .ok (.istore_n 2, 1) := by decide +kernel
theorem dX9_whoStops_2 : decode cX9_whoStops 2 = .ok (.iconst 0, 1) := by decide +kernel
theorem dX9_whoStops_3 : decode cX9_whoStops 3 = .ok (.istore_n 3, 1) := by decide +kernel
theorem dX9_whoStops_4 : decode cX9_whoStops 4 = .ok (.iload_n 3, 1) := by decide +kernel
theorem dX9_whoStops_5 : decode cX9_whoStops 5 = .ok (.aload_n 0, 1) := by decide +kernel
theorem dX9_whoStops_6 : decode cX9_whoStops 6 = .ok (.getfield 29, 3) := by decide +kernel
theorem dX9_whoStops_9 : decode cX9_whoStops 9 = .ok (.getfield 36, 3) := by decide +kernel
theorem dX9_whoStops_12 : decode cX9_whoStops 12 = .ok (.if_icmp .ge 72, 3) := by decide +kernel
theorem dX9_whoStops_15 : decode cX9_whoStops 15 = .ok (.aload_n 0, 1) := by decide +kernel
theorem dX9_whoStops_16 : decode cX9_whoStops 16 = .ok (.getfield 19, 3) := by decide +kernel
theorem dX9_whoStops_19 : decode cX9_whoStops 19 = .ok (.iload_n 3, 1) := by decide +kernel
theorem dX9_whoStops_20 : decode cX9_whoStops 20 = .ok (.aaload, 1) := by decide +kernel
theorem dX9_whoStops_21 : decode cX9_whoStops 21 = .ok (.getfield 128, 3) := by decide +kernel
theorem dX9_whoStops_24 : decode cX9_whoStops 24 = .ok (.aload_n 0, 1) := by decide +kernel
theorem dX9_whoStops_25 : decode cX9_whoStops 25 = .ok (.getfield 79, 3) := by decide +kernel
theorem dX9_whoStops_28 : decode cX9_whoStops 28 = .ok (.if_icmp .eq 20, 3) := by decide +kernel
theorem dX9_whoStops_31 : decode cX9_whoStops 31 = .ok (.aload_n 1, 1) := by decide +kernel
theorem dX9_whoStops_32 : decode cX9_whoStops 32 = .ok (.getfield 131, 3) := by decide +kernel
theorem dX9_whoStops_35 : decode cX9_whoStops 35 = .ok (.iload_n 3, 1) := by decide +kernel
theorem dX9_whoStops_36 : decode cX9_whoStops 36 = .ok (.iaload, 1) := by decide +kernel
theorem dX9_whoStops_37 : decode cX9_whoStops 37 = .ok (.aload_n 1, 1) := by decide +kernel
theorem dX9_whoStops_38 : decode cX9_whoStops 38 = .ok (.getfield 121, 3) := by decide +kernel
theorem dX9_whoStops_41 : decode cX9_whoStops 41 = .ok (.if_icmp .lt 7, 3) := by decide +kernel
theorem dX9_whoStops_44 : decode cX9_whoStops 44 = .ok (.iconst 1, 1) := by decide +kernel
theorem dX9_whoStops_45 : decode cX9_whoStops 45 = .ok (.goto 4, 3) := by decide +kernel
theorem dX9_whoStops_48 : decode cX9_whoStops 48 = .ok (.iconst 0, 1) := by decide +kernel
theorem dX9_whoStops_49 : decode cX9_whoStops 49 = .ok (.istore 4, 2) := by decide +kernel
theorem dX9_whoStops_51 : decode cX9_whoStops 51 = .ok (.iload 4, 2) := by decide +kernel
theorem dX9_whoStops_53 : decode cX9_whoStops 53 = .ok (.ifCond .eq 25, 3) := by decide +kernel
theorem dX9_whoStops_56 : decode cX9_whoStops 56 = .ok (.iload_n 2, 1) := by decide +kernel
theorem dX9_whoStops_57 : decode cX9_whoStops 57 = .ok (.iconst (-1), 1) := by decide +kernel
theorem dX9_whoStops_58 : decode cX9_whoStops 58 = .ok (.if_icmp .eq 18, 3) := by decide +kernel
theorem dX9_whoStops_61 : decode cX9_whoStops 61 = .ok (.aload_n 1, 1) := by decide +kernel
theorem dX9_whoStops_62 : decode cX9_whoStops 62 = .ok (.getfield 131, 3) := by decide +kernel
theorem dX9_whoStops_65 : decode cX9_whoStops 65 = .ok (.iload_n 3, 1) := by decide +kernel
theorem dX9_whoStops_66 : decode cX9_whoStops 66 = .ok (.iaload, 1) := by decide +kernel
theorem dX9_whoStops_67 : decode cX9_whoStops 67 = .ok (.aload_n 1, 1) := by decide +kernel
theorem dX9_whoStops_68 : decode cX9_whoStops 68 = .ok (.getfield 131, 3) := by decide +kernel
theorem dX9_whoStops_71 : decode cX9_whoStops 71 = .ok (.iload_n 2, 1) := by decide +kernel
theorem dX9_whoStops_72 : decode cX9_whoStops 72 = .ok (.iaload, 1) := by decide +kernel
theorem dX9_whoStops_73 : decode cX9_whoStops 73 = .ok (.if_icmp .le 5, 3) := by decide +kernel
theorem dX9_whoStops_76 : decode cX9_whoStops 76 = .ok (.iload_n 3, 1) := by decide +kernel
theorem dX9_whoStops_77 : decode cX9_whoStops 77 = .ok (.istore_n 2, 1) := by decide +kernel
theorem dX9_whoStops_78 : decode cX9_whoStops 78 = .ok (.iinc 3 1, 3) := by decide +kernel
theorem dX9_whoStops_81 : decode cX9_whoStops 81 = .ok (.goto (-77), 3) := by decide +kernel
theorem dX9_whoStops_84 : decode cX9_whoStops 84 = .ok (.iload_n 2, 1) := by decide +kernel
theorem dX9_whoStops_85 : decode cX9_whoStops 85 = .ok (.ireturn, 1) := by decide +kernel
theorem dX9_sell_0 : decode cX9_sell 0 = .ok (.aload_n 0, 1) := by decide +kernel
theorem dX9_sell_1 : decode cX9_sell 1 = .ok (.getfield 29, 3) := by decide +kernel
theorem dX9_sell_4 : decode cX9_sell 4 = .ok (.getfield 159, 3) := by decide +kernel
theorem dX9_sell_7 : decode cX9_sell 7 = .ok (.aload_n 1, 1) := by decide +kernel
theorem dX9_sell_8 : decode cX9_sell 8 = .ok (.getfield 94, 3) := by decide +kernel
theorem dX9_sell_11 : decode cX9_sell 11 = .ok (.aaload, 1) := by decide +kernel
theorem dX9_sell_12 : decode cX9_sell 12 = .ok (.astore_n 3, 1) := by decide +kernel
theorem dX9_sell_13 : decode cX9_sell 13 = .ok (.aload_n 0, 1) := by decide +kernel
theorem dX9_sell_14 : decode cX9_sell 14 = .ok (.getfield 11, 3) := by decide +kernel
theorem dX9_sell_17 : decode cX9_sell 17 = .ok (.aload_n 1, 1) := by decide +kernel
theorem dX9_sell_18 : decode cX9_sell 18 = .ok (.getfield 94, 3) := by decide +kernel
theorem dX9_sell_21 : decode cX9_sell 21 = .ok (.aaload, 1) := by decide +kernel
theorem dX9_sell_22 : decode cX9_sell 22 = .ok (.astore 4, 2) := by decide +kernel
theorem dX9_sell_24 : decode cX9_sell 24 = .ok (.aload_n 1, 1) := by decide +kernel
theorem dX9_sell_25 : decode cX9_sell 25 = .ok (.getfield 121, 3) := by decide +kernel
theorem dX9_sell_28 : decode cX9_sell 28 = .ok (.aload_n 3, 1) := by decide +kernel
theorem dX9_sell_29 : decode cX9_sell 29 = .ok (.getfield 163, 3) := by decide +kernel
theorem dX9_sell_32 : decode cX9_sell 32 = .ok (.imul, 1) := by decide +kernel
theorem dX9_sell_33 : decode cX9_sell 33 = .ok (.istore 5, 2) := by decide +kernel
theorem dX9_sell_35 : decode cX9_sell 35 = .ok (.aload 4, 2) := by decide +kernel
theorem dX9_sell_37 : decode cX9_sell 37 = .ok (.iload_n 2, 1) := by decide +kernel
theorem dX9_sell_38 : decode cX9_sell 38 = .ok (.putfield 97, 3) := by decide +kernel
theorem dX9_sell_41 : decode cX9_sell 41 = .ok (.aload 4, 2) := by decide +kernel
theorem dX9_sell_43 : decode cX9_sell 43 = .ok (.iload 5, 2) := by decide +kernel
theorem dX9_sell_45 : decode cX9_sell 45 = .ok (.iload 5, 2) := by decide +kernel
theorem dX9_sell_47 : decode cX9_sell 47 = .ok (.iconst 3, 1) := by decide +kernel
theorem dX9_sell_48 : decode cX9_sell 48 = .ok (.imul, 1) := by decide +kernel
theorem dX9_sell_49 : decode cX9_sell 49 = .ok (.bipush 100, 2) := by decide +kernel
theorem dX9_sell_51 : decode cX9_sell 51 = .ok (.idiv, 1) := by decide +kernel
theorem dX9_sell_52 : decode cX9_sell 52 = .ok (.isub, 1) := by decide +kernel
theorem dX9_sell_53 : decode cX9_sell 53 = .ok (.putfield 168, 3) := by decide +kernel
theorem dX9_sell_56 : decode cX9_sell 56 = .ok (.aload_n 0, 1) := by decide +kernel
theorem dX9_sell_57 : decode cX9_sell 57 = .ok (.getfield 19, 3) := by decide +kernel
theorem dX9_sell_60 : decode cX9_sell 60 = .ok (.iload_n 2, 1) := by decide +kernel
theorem dX9_sell_61 : decode cX9_sell 61 = .ok (.aaload, 1) := by decide +kernel
theorem dX9_sell_62 : decode cX9_sell 62 = .ok (.iload 5, 2) := by decide +kernel
theorem dX9_sell_64 : decode cX9_sell 64 = .ok (.aload_n 3, 1) := by decide +kernel
theorem dX9_sell_65 : decode cX9_sell 65 = .ok (.aload_n 0, 1) := by decide +kernel
theorem dX9_sell_66 : decode cX9_sell 66 = .ok (.getfield 79, 3) := by decide +kernel
theorem dX9_sell_69 : decode cX9_sell 69 = .ok (.invokevirtual 171, 3) := by decide +kernel
theorem dX9_sell_72 : decode cX9_sell 72 = .ok (.return_, 1) := by decide +kernel
theorem dX9_lowerClocks_0 : decode cX9_lowerClocks 0 = .ok (.iconst 0, 1) := by decide +kernel
theorem dX9_lowerClocks_1 : decode cX9_lowerClocks 1 = .ok (.istore_n 1, 1) := by decide +kernel
theorem dX9_lowerClocks_2 : decode cX9_lowerClocks 2 = .ok (.iload_n 1, 1) := by decide +kernel
theorem dX9_lowerClocks_3 : decode cX9_lowerClocks 3 = .ok (.iconst 3, 1) := by decide +kernel
theorem dX9_lowerClocks_4 : decode cX9_lowerClocks 4 = .ok (.if_icmp .ge 90, 3) := by decide +kernel
theorem dX9_lowerClocks_7 : decode cX9_lowerClocks 7 = .ok (.aload_n 0, 1) := by decide +kernel
theorem dX9_lowerClocks_8 : decode cX9_lowerClocks 8 = .ok (.getfield 25, 3) := by decide +kernel
theorem dX9_lowerClocks_11 : decode cX9_lowerClocks 11 = .ok (.iload_n 1, 1) := by decide +kernel
theorem dX9_lowerClocks_12 : decode cX9_lowerClocks 12 = .ok (.aaload, 1) := by decide +kernel
theorem dX9_lowerClocks_13 : decode cX9_lowerClocks 13 = .ok (.astore_n 2, 1) := by decide +kernel
theorem dX9_lowerClocks_14 : decode cX9_lowerClocks 14 = .ok (.aload_n 2, 1) := by decide +kernel
theorem dX9_lowerClocks_15 : decode cX9_lowerClocks 15 = .ok (.invokevirtual 117, 3) := by decide +kernel
theorem dX9_lowerClocks_18 : decode cX9_lowerClocks 18 = .ok (.ifCond .ne 70, 3) := by decide +kernel
theorem dX9_lowerClocks_21 : decode cX9_lowerClocks 21 = .ok (.aload_n 2, 1) := by decide +kernel
theorem dX9_lowerClocks_22 : decode cX9_lowerClocks 22 = .ok (.getfield 121, 3) := by decide +kernel
theorem dX9_lowerClocks_25 : decode cX9_lowerClocks 25 = .ok (.aload_n 2, 1) := by decide +kernel
theorem dX9_lowerClocks_26 : decode cX9_lowerClocks 26 = .ok (.getfield 124, 3) := by decide +kernel
theorem dX9_lowerClocks_29 : decode cX9_lowerClocks 29 = .ok (.if_icmp .gt 49, 3) := by decide +kernel
theorem dX9_lowerClocks_32 : decode cX9_lowerClocks 32 = .ok (.aload_n 0, 1) := by decide +kernel
theorem dX9_lowerClocks_33 : decode cX9_lowerClocks 33 = .ok (.getfield 11, 3) := by decide +kernel
theorem dX9_lowerClocks_36 : decode cX9_lowerClocks 36 = .ok (.aload_n 2, 1) := by decide +kernel
theorem dX9_lowerClocks_37 : decode cX9_lowerClocks 37 = .ok (.getfield 94, 3) := by decide +kernel
theorem dX9_lowerClocks_40 : decode cX9_lowerClocks 40 = .ok (.aaload, 1) := by decide +kernel
theorem dX9_lowerClocks_41 : decode cX9_lowerClocks 41 = .ok (.aload_n 2, 1) := by decide +kernel
theorem dX9_lowerClocks_42 : decode cX9_lowerClocks 42 = .ok (.getfield 124, 3) := by decide +kernel
theorem dX9_lowerClocks_45 : decode cX9_lowerClocks 45 = .ok (.aload_n 0, 1) := by decide +kernel
theorem dX9_lowerClocks_46 : decode cX9_lowerClocks 46 = .ok (.getfield 29, 3) := by decide +kernel
theorem dX9_lowerClocks_49 : decode cX9_lowerClocks 49 = .ok (.getfield 159, 3) := by decide +kernel
theorem dX9_lowerClocks_52 : decode cX9_lowerClocks 52 = .ok (.aload_n 2, 1) := by decide +kernel
theorem dX9_lowerClocks_53 : decode cX9_lowerClocks 53 = .ok (.getfield 94, 3) := by decide +kernel
theorem dX9_lowerClocks_56 : decode cX9_lowerClocks 56 = .ok (.aaload, 1) := by decide +kernel
theorem dX9_lowerClocks_57 : decode cX9_lowerClocks 57 = .ok (.getfield 163, 3) := by decide +kernel
theorem dX9_lowerClocks_60 : decode cX9_lowerClocks 60 = .ok (.imul, 1) := by decide +kernel
theorem dX9_lowerClocks_61 : decode cX9_lowerClocks 61 = .ok (.iconst 2, 1) := by decide +kernel
theorem dX9_lowerClocks_62 : decode cX9_lowerClocks 62 = .ok (.idiv, 1) := by decide +kernel
theorem dX9_lowerClocks_63 : decode cX9_lowerClocks 63 = .ok (.putfield 168, 3) := by decide +kernel
theorem dX9_lowerClocks_66 : decode cX9_lowerClocks 66 = .ok (.aload_n 0, 1) := by decide +kernel
theorem dX9_lowerClocks_67 : decode cX9_lowerClocks 67 = .ok (.iload_n 1, 1) := by decide +kernel
theorem dX9_lowerClocks_68 : decode cX9_lowerClocks 68 = .ok (.aload_n 2, 1) := by decide +kernel
theorem dX9_lowerClocks_69 : decode cX9_lowerClocks 69 = .ok (.getfield 124, 3) := by decide +kernel
theorem dX9_lowerClocks_72 : decode cX9_lowerClocks 72 = .ok (.invokevirtual 155, 3) := by decide +kernel
theorem dX9_lowerClocks_75 : decode cX9_lowerClocks 75 = .ok (.goto 13, 3) := by decide +kernel
theorem dX9_lowerClocks_78 : decode cX9_lowerClocks 78 = .ok (.aload_n 2, 1) := by decide +kernel
theorem dX9_lowerClocks_79 : decode cX9_lowerClocks 79 = .ok (.dup, 1) := by decide +kernel
theorem dX9_lowerClocks_80 : decode cX9_lowerClocks 80 = .ok (.getfield 121, 3) := by decide +kernel
theorem dX9_lowerClocks_83 : decode cX9_lowerClocks 83 = .ok (.iconst 1, 1) := by decide +kernel
theorem dX9_lowerClocks_84 : decode cX9_lowerClocks 84 = .ok (.isub, 1) := by decide +kernel
theorem dX9_lowerClocks_85 : decode cX9_lowerClocks 85 = .ok (.putfield 121, 3) := by decide +kernel
theorem dX9_lowerClocks_88 : decode cX9_lowerClocks 88 = .ok (.iinc 1 1, 3) := by decide +kernel
theorem dX9_lowerClocks_91 : decode cX9_lowerClocks 91 = .ok (.goto (-89), 3) := by decide +kernel
theorem dX9_lowerClocks_94 : decode cX9_lowerClocks 94 = .ok (.return_, 1) := by decide +kernel
theorem dX9_settle_0 : decode cX9_settle 0 = .ok (.aload_n 0, 1) := by decide +kernel
theorem dX9_settle_1 : decode cX9_settle 1 = .ok (.getfield 11, 3) := by decide +kernel
theorem dX9_settle_4 : decode cX9_settle 4 = .ok (.aload_n 0, 1) := by decide +kernel
theorem dX9_settle_5 : decode cX9_settle 5 = .ok (.getfield 25, 3) := by decide +kernel
theorem dX9_settle_8 : decode cX9_settle 8 = .ok (.iload_n 1, 1) := by decide +kernel
theorem dX9_settle_9 : decode cX9_settle 9 = .ok (.aaload, 1) := by decide +kernel
theorem dX9_settle_10 : decode cX9_settle 10 = .ok (.getfield 94, 3) := by decide +kernel
theorem dX9_settle_13 : decode cX9_settle 13 = .ok (.aaload, 1) := by decide +kernel
theorem dX9_settle_14 : decode cX9_settle 14 = .ok (.astore_n 3, 1) := by decide +kernel
theorem dX9_settle_15 : decode cX9_settle 15 = .ok (.aload_n 3, 1) := by decide +kernel
theorem dX9_settle_16 : decode cX9_settle 16 = .ok (.iload_n 2, 1) := by decide +kernel
theorem dX9_settle_17 : decode cX9_settle 17 = .ok (.putfield 175, 3) := by decide +kernel
theorem dX9_settle_20 : decode cX9_settle 20 = .ok (.aload_n 3, 1) := by decide +kernel
theorem dX9_settle_21 : decode cX9_settle 21 = .ok (.aload_n 0, 1) := by decide +kernel
theorem dX9_settle_22 : decode cX9_settle 22 = .ok (.getfield 79, 3) := by decide +kernel
theorem dX9_settle_25 : decode cX9_settle 25 = .ok (.putfield 176, 3) := by decide +kernel
theorem dX9_settle_28 : decode cX9_settle 28 = .ok (.aload_n 3, 1) := by decide +kernel
theorem dX9_settle_29 : decode cX9_settle 29 = .ok (.iload_n 1, 1) := by decide +kernel
theorem dX9_settle_30 : decode cX9_settle 30 = .ok (.putfield 177, 3) := by decide +kernel
theorem dX9_settle_33 : decode cX9_settle 33 = .ok (.aload_n 0, 1) := by decide +kernel
theorem dX9_settle_34 : decode cX9_settle 34 = .ok (.getfield 25, 3) := by decide +kernel
theorem dX9_settle_37 : decode cX9_settle 37 = .ok (.iload_n 1, 1) := by decide +kernel
theorem dX9_settle_38 : decode cX9_settle 38 = .ok (.aaload, 1) := by decide +kernel
theorem dX9_settle_39 : decode cX9_settle 39 = .ok (.iconst (-1), 1) := by decide +kernel
theorem dX9_settle_40 : decode cX9_settle 40 = .ok (.putfield 94, 3) := by decide +kernel
theorem dX9_settle_43 : decode cX9_settle 43 = .ok (.aload_n 0, 1) := by decide +kernel
theorem dX9_settle_44 : decode cX9_settle 44 = .ok (.aload_n 0, 1) := by decide +kernel
theorem dX9_settle_45 : decode cX9_settle 45 = .ok (.getfield 79, 3) := by decide +kernel
theorem dX9_settle_48 : decode cX9_settle 48 = .ok (.putfield 85, 3) := by decide +kernel
theorem dX9_settle_51 : decode cX9_settle 51 = .ok (.aload_n 0, 1) := by decide +kernel
theorem dX9_settle_52 : decode cX9_settle 52 = .ok (.dup, 1) := by decide +kernel
theorem dX9_settle_53 : decode cX9_settle 53 = .ok (.getfield 61, 3) := by decide +kernel
theorem dX9_settle_56 : decode cX9_settle 56 = .ok (.iconst 1, 1) := by decide +kernel
theorem dX9_settle_57 : decode cX9_settle 57 = .ok (.iadd, 1) := by decide +kernel
theorem dX9_settle_58 : decode cX9_settle 58 = .ok (.putfield 61, 3) := by decide +kernel
theorem dX9_settle_61 : decode cX9_settle 61 = .ok (.return_, 1) := by decide +kernel
theorem dX9_noteLasts_0 : decode cX9_noteLasts 0 = .ok (.iconst 0, 1) := by decide +kernel
theorem dX9_noteLasts_1 : decode cX9_noteLasts 1 = .ok (.istore_n 1, 1) := by decide +kernel
theorem dX9_noteLasts_2 : decode cX9_noteLasts 2 = .ok (.iload_n 1, 1) := by decide +kernel
theorem dX9_noteLasts_3 : decode cX9_noteLasts 3 = .ok (.bipush 6, 2) := by decide +kernel
theorem dX9_noteLasts_5 : decode cX9_noteLasts 5 = .ok (.if_icmp .ge 38, 3) := by decide +kernel
theorem dX9_noteLasts_8 : decode cX9_noteLasts 8 = .ok (.aload_n 0, 1) := by decide +kernel
theorem dX9_noteLasts_9 : decode cX9_noteLasts 9 = .ok (.iload_n 1, 1) := by decide +kernel
theorem dX9_noteLasts_10 : decode cX9_noteLasts 10 = .ok (.invokevirtual 180, 3) := by decide +kernel
theorem dX9_noteLasts_13 : decode cX9_noteLasts 13 = .ok (.istore_n 2, 1) := by decide +kernel
theorem dX9_noteLasts_14 : decode cX9_noteLasts 14 = .ok (.iload_n 2, 1) := by decide +kernel
theorem dX9_noteLasts_15 : decode cX9_noteLasts 15 = .ok (.iconst (-1), 1) := by decide +kernel
theorem dX9_noteLasts_16 : decode cX9_noteLasts 16 = .ok (.if_icmp .eq 21, 3) := by decide +kernel
theorem dX9_noteLasts_19 : decode cX9_noteLasts 19 = .ok (.aload_n 0, 1) := by decide +kernel
theorem dX9_noteLasts_20 : decode cX9_noteLasts 20 = .ok (.getfield 29, 3) := by decide +kernel
theorem dX9_noteLasts_23 : decode cX9_noteLasts 23 = .ok (.getfield 183, 3) := by decide +kernel
theorem dX9_noteLasts_26 : decode cX9_noteLasts 26 = .ok (.iload_n 1, 1) := by decide +kernel
theorem dX9_noteLasts_27 : decode cX9_noteLasts 27 = .ok (.aload_n 0, 1) := by decide +kernel
theorem dX9_noteLasts_28 : decode cX9_noteLasts 28 = .ok (.getfield 11, 3) := by decide +kernel
theorem dX9_noteLasts_31 : decode cX9_noteLasts 31 = .ok (.iload_n 2, 1) := by decide +kernel
theorem dX9_noteLasts_32 : decode cX9_noteLasts 32 = .ok (.aaload, 1) := by decide +kernel
theorem dX9_noteLasts_33 : decode cX9_noteLasts 33 = .ok (.getfield 175, 3) := by decide +kernel
theorem dX9_noteLasts_36 : decode cX9_noteLasts 36 = .ok (.iastore, 1) := by decide +kernel
theorem dX9_noteLasts_37 : decode cX9_noteLasts 37 = .ok (.iinc 1 1, 3) := by decide +kernel
theorem dX9_noteLasts_40 : decode cX9_noteLasts 40 = .ok (.goto (-38), 3) := by decide +kernel
theorem dX9_noteLasts_43 : decode cX9_noteLasts 43 = .ok (.return_, 1) := by decide +kernel
theorem dX9_soldLast_0 : decode cX9_soldLast 0 = .ok (.iconst (-1), 1) := by decide +kernel
theorem dX9_soldLast_1 : decode cX9_soldLast 1 = .ok (.istore_n 2, 1) := by decide +kernel
theorem dX9_soldLast_2 : decode cX9_soldLast 2 = .ok (.iconst 0, 1) := by decide +kernel
theorem dX9_soldLast_3 : decode cX9_soldLast 3 = .ok (.istore_n 3, 1) := by decide +kernel
theorem dX9_soldLast_4 : decode cX9_soldLast 4 = .ok (.iload_n 3, 1) := by decide +kernel
theorem dX9_soldLast_5 : decode cX9_soldLast 5 = .ok (.aload_n 0, 1) := by decide +kernel
theorem dX9_soldLast_6 : decode cX9_soldLast 6 = .ok (.getfield 29, 3) := by decide +kernel
theorem dX9_soldLast_9 : decode cX9_soldLast 9 = .ok (.getfield 58, 3) := by decide +kernel
theorem dX9_soldLast_12 : decode cX9_soldLast 12 = .ok (.if_icmp .ge 74, 3) := by decide +kernel
theorem dX9_soldLast_15 : decode cX9_soldLast 15 = .ok (.aload_n 0, 1) := by decide +kernel
theorem dX9_soldLast_16 : decode cX9_soldLast 16 = .ok (.getfield 29, 3) := by decide +kernel
theorem dX9_soldLast_19 : decode cX9_soldLast 19 = .ok (.getfield 159, 3) := by decide +kernel
theorem dX9_soldLast_22 : decode cX9_soldLast 22 = .ok (.iload_n 3, 1) := by decide +kernel
theorem dX9_soldLast_23 : decode cX9_soldLast 23 = .ok (.aaload, 1) := by decide +kernel
theorem dX9_soldLast_24 : decode cX9_soldLast 24 = .ok (.getfield 186, 3) := by decide +kernel
theorem dX9_soldLast_27 : decode cX9_soldLast 27 = .ok (.iload_n 1, 1) := by decide +kernel
theorem dX9_soldLast_28 : decode cX9_soldLast 28 = .ok (.if_icmp .ne 19, 3) := by decide +kernel
theorem dX9_soldLast_31 : decode cX9_soldLast 31 = .ok (.aload_n 0, 1) := by decide +kernel
theorem dX9_soldLast_32 : decode cX9_soldLast 32 = .ok (.getfield 11, 3) := by decide +kernel
theorem dX9_soldLast_35 : decode cX9_soldLast 35 = .ok (.iload_n 3, 1) := by decide +kernel
theorem dX9_soldLast_36 : decode cX9_soldLast 36 = .ok (.aaload, 1) := by decide +kernel
theorem dX9_soldLast_37 : decode cX9_soldLast 37 = .ok (.invokevirtual 189, 3) := by decide +kernel
theorem dX9_soldLast_40 : decode cX9_soldLast 40 = .ok (.ifCond .eq 7, 3) := by decide +kernel
theorem dX9_soldLast_43 : decode cX9_soldLast 43 = .ok (.iconst 1, 1) := by decide +kernel
theorem dX9_soldLast_44 : decode cX9_soldLast 44 = .ok (.goto 4, 3) := by decide +kernel
theorem dX9_soldLast_47 : decode cX9_soldLast 47 = .ok (.iconst 0, 1) := by decide +kernel
theorem dX9_soldLast_48 : decode cX9_soldLast 48 = .ok (.istore 4, 2) := by decide +kernel
theorem dX9_soldLast_50 : decode cX9_soldLast 50 = .ok (.iload 4, 2) := by decide +kernel
theorem dX9_soldLast_52 : decode cX9_soldLast 52 = .ok (.ifCond .eq 28, 3) := by decide +kernel
theorem dX9_soldLast_55 : decode cX9_soldLast 55 = .ok (.iload_n 2, 1) := by decide +kernel
theorem dX9_soldLast_56 : decode cX9_soldLast 56 = .ok (.iconst (-1), 1) := by decide +kernel
theorem dX9_soldLast_57 : decode cX9_soldLast 57 = .ok (.if_icmp .eq 21, 3) := by decide +kernel
theorem dX9_soldLast_60 : decode cX9_soldLast 60 = .ok (.aload_n 0, 1) := by decide +kernel
theorem dX9_soldLast_61 : decode cX9_soldLast 61 = .ok (.getfield 11, 3) := by decide +kernel
theorem dX9_soldLast_64 : decode cX9_soldLast 64 = .ok (.iload_n 3, 1) := by decide +kernel
theorem dX9_soldLast_65 : decode cX9_soldLast 65 = .ok (.aaload, 1) := by decide +kernel
theorem dX9_soldLast_66 : decode cX9_soldLast 66 = .ok (.aload_n 0, 1) := by decide +kernel
theorem dX9_soldLast_67 : decode cX9_soldLast 67 = .ok (.getfield 11, 3) := by decide +kernel
theorem dX9_soldLast_70 : decode cX9_soldLast 70 = .ok (.iload_n 2, 1) := by decide +kernel
theorem dX9_soldLast_71 : decode cX9_soldLast 71 = .ok (.aaload, 1) := by decide +kernel
theorem dX9_soldLast_72 : decode cX9_soldLast 72 = .ok (.invokestatic 192, 3) := by decide +kernel
theorem dX9_soldLast_75 : decode cX9_soldLast 75 = .ok (.ifCond .eq 5, 3) := by decide +kernel
theorem dX9_soldLast_78 : decode cX9_soldLast 78 = .ok (.iload_n 3, 1) := by decide +kernel
theorem dX9_soldLast_79 : decode cX9_soldLast 79 = .ok (.istore_n 2, 1) := by decide +kernel
theorem dX9_soldLast_80 : decode cX9_soldLast 80 = .ok (.iinc 3 1, 3) := by decide +kernel
theorem dX9_soldLast_83 : decode cX9_soldLast 83 = .ok (.goto (-79), 3) := by decide +kernel
theorem dX9_soldLast_86 : decode cX9_soldLast 86 = .ok (.iload_n 2, 1) := by decide +kernel
theorem dX9_soldLast_87 : decode cX9_soldLast 87 = .ok (.ireturn, 1) := by decide +kernel
theorem dX9_isLater_0 : decode cX9_isLater 0 = .ok (.aload_n 0, 1) := by decide +kernel
theorem dX9_isLater_1 : decode cX9_isLater 1 = .ok (.getfield 176, 3) := by decide +kernel
theorem dX9_isLater_4 : decode cX9_isLater 4 = .ok (.aload_n 1, 1) := by decide +kernel
theorem dX9_isLater_5 : decode cX9_isLater 5 = .ok (.getfield 176, 3) := by decide +kernel
theorem dX9_isLater_8 : decode cX9_isLater 8 = .ok (.if_icmp .gt 25, 3) := by decide +kernel
theorem dX9_isLater_11 : decode cX9_isLater 11 = .ok (.aload_n 0, 1) := by decide +kernel
theorem dX9_isLater_12 : decode cX9_isLater 12 = .ok (.getfield 176, 3) := by decide +kernel
theorem dX9_isLater_15 : decode cX9_isLater 15 = .ok (.aload_n 1, 1) := by decide +kernel
theorem dX9_isLater_16 : decode cX9_isLater 16 = .ok (.getfield 176, 3) := by decide +kernel
theorem dX9_isLater_19 : decode cX9_isLater 19 = .ok (.if_icmp .ne 18, 3) := by decide +kernel
theorem dX9_isLater_22 : decode cX9_isLater 22 = .ok (.aload_n 0, 1) := by decide +kernel
theorem dX9_isLater_23 : decode cX9_isLater 23 = .ok (.getfield 177, 3) := by decide +kernel
theorem dX9_isLater_26 : decode cX9_isLater 26 = .ok (.aload_n 1, 1) := by decide +kernel
theorem dX9_isLater_27 : decode cX9_isLater 27 = .ok (.getfield 177, 3) := by decide +kernel
theorem dX9_isLater_30 : decode cX9_isLater 30 = .ok (.if_icmp .ge 7, 3) := by decide +kernel
theorem dX9_isLater_33 : decode cX9_isLater 33 = .ok (.iconst 1, 1) := by decide +kernel
theorem dX9_isLater_34 : decode cX9_isLater 34 = .ok (.goto 4, 3) := by decide +kernel
theorem dX9_isLater_37 : decode cX9_isLater 37 = .ok (.iconst 0, 1) := by decide +kernel
theorem dX9_isLater_38 : decode cX9_isLater 38 = .ok (.ireturn, 1) := by decide +kernel
theorem dX9_takingsOf_0 : decode cX9_takingsOf 0 = .ok (.iconst 0, 1) := by decide +kernel
theorem dX9_takingsOf_1 : decode cX9_takingsOf 1 = .ok (.istore_n 2, 1) := by decide +kernel
theorem dX9_takingsOf_2 : decode cX9_takingsOf 2 = .ok (.iconst 0, 1) := by decide +kernel
theorem dX9_takingsOf_3 : decode cX9_takingsOf 3 = .ok (.istore_n 3, 1) := by decide +kernel
theorem dX9_takingsOf_4 : decode cX9_takingsOf 4 = .ok (.iload_n 3, 1) := by decide +kernel
theorem dX9_takingsOf_5 : decode cX9_takingsOf 5 = .ok (.aload_n 0, 1) := by decide +kernel
theorem dX9_takingsOf_6 : decode cX9_takingsOf 6 = .ok (.getfield 29, 3) := by decide +kernel
theorem dX9_takingsOf_9 : decode cX9_takingsOf 9 = .ok (.getfield 58, 3) := by decide +kernel
theorem dX9_takingsOf_12 : decode cX9_takingsOf 12 = .ok (.if_icmp .ge 41, 3) := by decide +kernel
theorem dX9_takingsOf_15 : decode cX9_takingsOf 15 = .ok (.iload_n 2, 1) := by decide +kernel
theorem dX9_takingsOf_16 : decode cX9_takingsOf 16 = .ok (.aload_n 0, 1) := by decide +kernel
theorem dX9_takingsOf_17 : decode cX9_takingsOf 17 = .ok (.getfield 29, 3) := by decide +kernel
theorem dX9_takingsOf_20 : decode cX9_takingsOf 20 = .ok (.getfield 159, 3) := by decide +kernel
theorem dX9_takingsOf_23 : decode cX9_takingsOf 23 = .ok (.iload_n 3, 1) := by decide +kernel
theorem dX9_takingsOf_24 : decode cX9_takingsOf 24 = .ok (.aaload, 1) := by decide +kernel
theorem dX9_takingsOf_25 : decode cX9_takingsOf 25 = .ok (.getfield 196, 3) := by decide +kernel
theorem dX9_takingsOf_28 : decode cX9_takingsOf 28 = .ok (.iload_n 1, 1) := by decide +kernel
theorem dX9_takingsOf_29 : decode cX9_takingsOf 29 = .ok (.if_icmp .ne 15, 3) := by decide +kernel
theorem dX9_takingsOf_32 : decode cX9_takingsOf 32 = .ok (.aload_n 0, 1) := by decide +kernel
theorem dX9_takingsOf_33 : decode cX9_takingsOf 33 = .ok (.getfield 11, 3) := by decide +kernel
theorem dX9_takingsOf_36 : decode cX9_takingsOf 36 = .ok (.iload_n 3, 1) := by decide +kernel
theorem dX9_takingsOf_37 : decode cX9_takingsOf 37 = .ok (.aaload, 1) := by decide +kernel
theorem dX9_takingsOf_38 : decode cX9_takingsOf 38 = .ok (.getfield 168, 3) := by decide +kernel
theorem dX9_takingsOf_41 : decode cX9_takingsOf 41 = .ok (.goto 4, 3) := by decide +kernel
theorem dX9_takingsOf_44 : decode cX9_takingsOf 44 = .ok (.iconst 0, 1) := by decide +kernel
theorem dX9_takingsOf_45 : decode cX9_takingsOf 45 = .ok (.iadd, 1) := by decide +kernel
theorem dX9_takingsOf_46 : decode cX9_takingsOf 46 = .ok (.istore_n 2, 1) := by decide +kernel
theorem dX9_takingsOf_47 : decode cX9_takingsOf 47 = .ok (.iinc 3 1, 3) := by decide +kernel
theorem dX9_takingsOf_50 : decode cX9_takingsOf 50 = .ok (.goto (-46), 3) := by decide +kernel
theorem dX9_takingsOf_53 : decode cX9_takingsOf 53 = .ok (.iload_n 2, 1) := by decide +kernel
theorem dX9_takingsOf_54 : decode cX9_takingsOf 54 = .ok (.ireturn, 1) := by decide +kernel
theorem dX9_takingsOfAll_0 : decode cX9_takingsOfAll 0 = .ok (.iconst 0, 1) := by decide +kernel
theorem dX9_takingsOfAll_1 : decode cX9_takingsOfAll 1 = .ok (.istore_n 1, 1) := by decide +kernel
theorem dX9_takingsOfAll_2 : decode cX9_takingsOfAll 2 = .ok (.iconst 0, 1) := by decide +kernel
theorem dX9_takingsOfAll_3 : decode cX9_takingsOfAll 3 = .ok (.istore_n 2, 1) := by decide +kernel
theorem dX9_takingsOfAll_4 : decode cX9_takingsOfAll 4 = .ok (.iload_n 2, 1) := by decide +kernel
theorem dX9_takingsOfAll_5 : decode cX9_takingsOfAll 5 = .ok (.aload_n 0, 1) := by decide +kernel
theorem dX9_takingsOfAll_6 : decode cX9_takingsOfAll 6 = .ok (.getfield 29, 3) := by decide +kernel
theorem dX9_takingsOfAll_9 : decode cX9_takingsOfAll 9 = .ok (.getfield 58, 3) := by decide +kernel
theorem dX9_takingsOfAll_12 : decode cX9_takingsOfAll 12 = .ok (.if_icmp .ge 21, 3) := by decide +kernel
theorem dX9_takingsOfAll_15 : decode cX9_takingsOfAll 15 = .ok (.iload_n 1, 1) := by decide +kernel
theorem dX9_takingsOfAll_16 : decode cX9_takingsOfAll 16 = .ok (.aload_n 0, 1) := by decide +kernel
theorem dX9_takingsOfAll_17 : decode cX9_takingsOfAll 17 = .ok (.getfield 11, 3) := by decide +kernel
theorem dX9_takingsOfAll_20 : decode cX9_takingsOfAll 20 = .ok (.iload_n 2, 1) := by decide +kernel
theorem dX9_takingsOfAll_21 : decode cX9_takingsOfAll 21 = .ok (.aaload, 1) := by decide +kernel
theorem dX9_takingsOfAll_22 : decode cX9_takingsOfAll 22 = .ok (.getfield 168, 3) := by decide +kernel
theorem dX9_takingsOfAll_25 : decode cX9_takingsOfAll 25 = .ok (.iadd, 1) := by decide +kernel
theorem dX9_takingsOfAll_26 : decode cX9_takingsOfAll 26 = .ok (.istore_n 1, 1) := by decide +kernel
theorem dX9_takingsOfAll_27 : decode cX9_takingsOfAll 27 = .ok (.iinc 2 1, 3) := by decide +kernel
theorem dX9_takingsOfAll_30 : decode cX9_takingsOfAll 30 = .ok (.goto (-26), 3) := by decide +kernel
theorem dX9_takingsOfAll_33 : decode cX9_takingsOfAll 33 = .ok (.iload_n 1, 1) := by decide +kernel
theorem dX9_takingsOfAll_34 : decode cX9_takingsOfAll 34 = .ok (.ireturn, 1) := by decide +kernel
theorem dX9_total_0 : decode cX9_total 0 = .ok (.iload_n 1, 1) := by decide +kernel
theorem dX9_total_1 : decode cX9_total 1 = .ok (.ifCond .lt 8, 3) := by decide +kernel
theorem dX9_total_4 : decode cX9_total 4 = .ok (.iload_n 1, 1) := by decide +kernel
theorem dX9_total_5 : decode cX9_total 5 = .ok (.iconst 4, 1) := by decide +kernel
theorem dX9_total_6 : decode cX9_total 6 = .ok (.if_icmp .le 5, 3) := by decide +kernel
theorem dX9_total_9 : decode cX9_total 9 = .ok (.iconst (-1), 1) := by decide +kernel
theorem dX9_total_10 : decode cX9_total 10 = .ok (.ireturn, 1) := by decide +kernel
theorem dX9_total_11 : decode cX9_total 11 = .ok (.iconst 0, 1) := by decide +kernel
theorem dX9_total_12 : decode cX9_total 12 = .ok (.istore_n 2, 1) := by decide +kernel
theorem dX9_total_13 : decode cX9_total 13 = .ok (.iconst 0, 1) := by decide +kernel
theorem dX9_total_14 : decode cX9_total 14 = .ok (.istore_n 3, 1) := by decide +kernel
theorem dX9_total_15 : decode cX9_total 15 = .ok (.iload_n 3, 1) := by decide +kernel
theorem dX9_total_16 : decode cX9_total 16 = .ok (.aload_n 0, 1) := by decide +kernel
theorem dX9_total_17 : decode cX9_total 17 = .ok (.getfield 29, 3) := by decide +kernel
theorem dX9_total_20 : decode cX9_total 20 = .ok (.getfield 58, 3) := by decide +kernel
theorem dX9_total_23 : decode cX9_total 23 = .ok (.if_icmp .ge 39, 3) := by decide +kernel
theorem dX9_total_26 : decode cX9_total 26 = .ok (.iload_n 2, 1) := by decide +kernel
theorem dX9_total_27 : decode cX9_total 27 = .ok (.aload_n 0, 1) := by decide +kernel
theorem dX9_total_28 : decode cX9_total 28 = .ok (.getfield 11, 3) := by decide +kernel
theorem dX9_total_31 : decode cX9_total 31 = .ok (.iload_n 3, 1) := by decide +kernel
theorem dX9_total_32 : decode cX9_total 32 = .ok (.aaload, 1) := by decide +kernel
theorem dX9_total_33 : decode cX9_total 33 = .ok (.invokevirtual 189, 3) := by decide +kernel
theorem dX9_total_36 : decode cX9_total 36 = .ok (.ifCond .eq 12, 3) := by decide +kernel
theorem dX9_total_39 : decode cX9_total 39 = .ok (.aload_n 0, 1) := by decide +kernel
theorem dX9_total_40 : decode cX9_total 40 = .ok (.iload_n 3, 1) := by decide +kernel
theorem dX9_total_41 : decode cX9_total 41 = .ok (.iload_n 1, 1) := by decide +kernel
theorem dX9_total_42 : decode cX9_total 42 = .ok (.invokevirtual 199, 3) := by decide +kernel
theorem dX9_total_45 : decode cX9_total 45 = .ok (.goto 9, 3) := by decide +kernel
theorem dX9_total_48 : decode cX9_total 48 = .ok (.aload_n 0, 1) := by decide +kernel
theorem dX9_total_49 : decode cX9_total 49 = .ok (.iload_n 3, 1) := by decide +kernel
theorem dX9_total_50 : decode cX9_total 50 = .ok (.iload_n 1, 1) := by decide +kernel
theorem dX9_total_51 : decode cX9_total 51 = .ok (.invokevirtual 202, 3) := by decide +kernel
theorem dX9_total_54 : decode cX9_total 54 = .ok (.iadd, 1) := by decide +kernel
theorem dX9_total_55 : decode cX9_total 55 = .ok (.istore_n 2, 1) := by decide +kernel
theorem dX9_total_56 : decode cX9_total 56 = .ok (.iinc 3 1, 3) := by decide +kernel
theorem dX9_total_59 : decode cX9_total 59 = .ok (.goto (-44), 3) := by decide +kernel
theorem dX9_total_62 : decode cX9_total 62 = .ok (.iload_n 2, 1) := by decide +kernel
theorem dX9_total_63 : decode cX9_total 63 = .ok (.ireturn, 1) := by decide +kernel
theorem dX9_partOfSold_0 : decode cX9_partOfSold 0 = .ok (.aload_n 0, 1) := by decide +kernel
theorem dX9_partOfSold_1 : decode cX9_partOfSold 1 = .ok (.getfield 29, 3) := by decide +kernel
theorem dX9_partOfSold_4 : decode cX9_partOfSold 4 = .ok (.getfield 159, 3) := by decide +kernel
theorem dX9_partOfSold_7 : decode cX9_partOfSold 7 = .ok (.iload_n 1, 1) := by decide +kernel
theorem dX9_partOfSold_8 : decode cX9_partOfSold 8 = .ok (.aaload, 1) := by decide +kernel
theorem dX9_partOfSold_9 : decode cX9_partOfSold 9 = .ok (.getfield 163, 3) := by decide +kernel
theorem dX9_partOfSold_12 : decode cX9_partOfSold 12 = .ok (.istore_n 3, 1) := by decide +kernel
theorem dX9_partOfSold_13 : decode cX9_partOfSold 13 = .ok (.aload_n 0, 1) := by decide +kernel
theorem dX9_partOfSold_14 : decode cX9_partOfSold 14 = .ok (.getfield 11, 3) := by decide +kernel
theorem dX9_partOfSold_17 : decode cX9_partOfSold 17 = .ok (.iload_n 1, 1) := by decide +kernel
theorem dX9_partOfSold_18 : decode cX9_partOfSold 18 = .ok (.aaload, 1) := by decide +kernel
theorem dX9_partOfSold_19 : decode cX9_partOfSold 19 = .ok (.getfield 175, 3) := by decide +kernel
theorem dX9_partOfSold_22 : decode cX9_partOfSold 22 = .ok (.iload_n 3, 1) := by decide +kernel
theorem dX9_partOfSold_23 : decode cX9_partOfSold 23 = .ok (.imul, 1) := by decide +kernel
theorem dX9_partOfSold_24 : decode cX9_partOfSold 24 = .ok (.istore 4, 2) := by decide +kernel
theorem dX9_partOfSold_26 : decode cX9_partOfSold 26 = .ok (.iload_n 2, 1) := by decide +kernel
theorem dX9_partOfSold_27 : decode cX9_partOfSold 27 = .ok (.tableswitch 51 0 4 #[33, 36, 51, 51, 49], 33) := by decide +kernel
theorem dX9_partOfSold_60 : decode cX9_partOfSold 60 = .ok (.iload 4, 2) := by decide +kernel
theorem dX9_partOfSold_62 : decode cX9_partOfSold 62 = .ok (.ireturn, 1) := by decide +kernel
theorem dX9_partOfSold_63 : decode cX9_partOfSold 63 = .ok (.iload 4, 2) := by decide +kernel
theorem dX9_partOfSold_65 : decode cX9_partOfSold 65 = .ok (.aload_n 0, 1) := by decide +kernel
theorem dX9_partOfSold_66 : decode cX9_partOfSold 66 = .ok (.getfield 11, 3) := by decide +kernel
theorem dX9_partOfSold_69 : decode cX9_partOfSold 69 = .ok (.iload_n 1, 1) := by decide +kernel
theorem dX9_partOfSold_70 : decode cX9_partOfSold 70 = .ok (.aaload, 1) := by decide +kernel
theorem dX9_partOfSold_71 : decode cX9_partOfSold 71 = .ok (.getfield 168, 3) := by decide +kernel
theorem dX9_partOfSold_74 : decode cX9_partOfSold 74 = .ok (.isub, 1) := by decide +kernel
theorem dX9_partOfSold_75 : decode cX9_partOfSold 75 = .ok (.ireturn, 1) := by decide +kernel
theorem dX9_partOfSold_76 : decode cX9_partOfSold 76 = .ok (.iload_n 3, 1) := by decide +kernel
theorem dX9_partOfSold_77 : decode cX9_partOfSold 77 = .ok (.ireturn, 1) := by decide +kernel
theorem dX9_partOfSold_78 : decode cX9_partOfSold 78 = .ok (.iconst 0, 1) := by decide +kernel
theorem dX9_partOfSold_79 : decode cX9_partOfSold 79 = .ok (.ireturn, 1) := by decide +kernel
theorem dX9_partOfWithdrawn_0 : decode cX9_partOfWithdrawn 0 = .ok (.iload_n 2, 1) := by decide +kernel
theorem dX9_partOfWithdrawn_1 : decode cX9_partOfWithdrawn 1 = .ok (.lookupswitch 39 #[(2, 27), (3, 37)], 27) := by decide +kernel
theorem dX9_partOfWithdrawn_28 : decode cX9_partOfWithdrawn 28 = .ok (.aload_n 0, 1) := by decide +kernel
theorem dX9_partOfWithdrawn_29 : decode cX9_partOfWithdrawn 29 = .ok (.getfield 11, 3) := by decide +kernel
theorem dX9_partOfWithdrawn_32 : decode cX9_partOfWithdrawn 32 = .ok (.iload_n 1, 1) := by decide +kernel
theorem dX9_partOfWithdrawn_33 : decode cX9_partOfWithdrawn 33 = .ok (.aaload, 1) := by decide +kernel
theorem dX9_partOfWithdrawn_34 : decode cX9_partOfWithdrawn 34 = .ok (.getfield 168, 3) := by decide +kernel
theorem dX9_partOfWithdrawn_37 : decode cX9_partOfWithdrawn 37 = .ok (.ireturn, 1) := by decide +kernel
theorem dX9_partOfWithdrawn_38 : decode cX9_partOfWithdrawn 38 = .ok (.iconst 1, 1) := by decide +kernel
theorem dX9_partOfWithdrawn_39 : decode cX9_partOfWithdrawn 39 = .ok (.ireturn, 1) := by decide +kernel
theorem dX9_partOfWithdrawn_40 : decode cX9_partOfWithdrawn 40 = .ok (.iconst 0, 1) := by decide +kernel
theorem dX9_partOfWithdrawn_41 : decode cX9_partOfWithdrawn 41 = .ok (.ireturn, 1) := by decide +kernel
theorem dX9_isSoldTo_0 : decode cX9_isSoldTo 0 = .ok (.aload_n 0, 1) := by decide +kernel
theorem dX9_isSoldTo_1 : decode cX9_isSoldTo 1 = .ok (.getfield 11, 3) := by decide +kernel
theorem dX9_isSoldTo_4 : decode cX9_isSoldTo 4 = .ok (.iload_n 2, 1) := by decide +kernel
theorem dX9_isSoldTo_5 : decode cX9_isSoldTo 5 = .ok (.aaload, 1) := by decide +kernel
theorem dX9_isSoldTo_6 : decode cX9_isSoldTo 6 = .ok (.getfield 97, 3) := by decide +kernel
theorem dX9_isSoldTo_9 : decode cX9_isSoldTo 9 = .ok (.istore_n 3, 1) := by decide +kernel
theorem dX9_isSoldTo_10 : decode cX9_isSoldTo 10 = .ok (.aload_n 0, 1) := by decide +kernel
theorem dX9_isSoldTo_11 : decode cX9_isSoldTo 11 = .ok (.getfield 29, 3) := by decide +kernel
theorem dX9_isSoldTo_14 : decode cX9_isSoldTo 14 = .ok (.iload_n 3, 1) := by decide +kernel
theorem dX9_isSoldTo_15 : decode cX9_isSoldTo 15 = .ok (.invokevirtual 205, 3) := by decide +kernel
theorem dX9_isSoldTo_18 : decode cX9_isSoldTo 18 = .ok (.ifCond .eq 23, 3) := by decide +kernel
theorem dX9_isSoldTo_21 : decode cX9_isSoldTo 21 = .ok (.aload_n 0, 1) := by decide +kernel
theorem dX9_isSoldTo_22 : decode cX9_isSoldTo 22 = .ok (.getfield 29, 3) := by decide +kernel
theorem dX9_isSoldTo_25 : decode cX9_isSoldTo 25 = .ok (.getfield 42, 3) := by decide +kernel
theorem dX9_isSoldTo_28 : decode cX9_isSoldTo 28 = .ok (.iload_n 3, 1) := by decide +kernel
theorem dX9_isSoldTo_29 : decode cX9_isSoldTo 29 = .ok (.aaload, 1) := by decide +kernel
theorem dX9_isSoldTo_30 : decode cX9_isSoldTo 30 = .ok (.getfield 209, 3) := by decide +kernel
theorem dX9_isSoldTo_33 : decode cX9_isSoldTo 33 = .ok (.iload_n 1, 1) := by decide +kernel
theorem dX9_isSoldTo_34 : decode cX9_isSoldTo 34 = .ok (.if_icmp .ne 7, 3) := by decide +kernel
theorem dX9_isSoldTo_37 : decode cX9_isSoldTo 37 = .ok (.iconst 1, 1) := by decide +kernel
theorem dX9_isSoldTo_38 : decode cX9_isSoldTo 38 = .ok (.goto 4, 3) := by decide +kernel
theorem dX9_isSoldTo_41 : decode cX9_isSoldTo 41 = .ok (.iconst 0, 1) := by decide +kernel
theorem dX9_isSoldTo_42 : decode cX9_isSoldTo 42 = .ok (.ireturn, 1) := by decide +kernel
theorem dX9_boxesLeftFor_0 : decode cX9_boxesLeftFor 0 = .ok (.iconst 0, 1) := by decide +kernel
theorem dX9_boxesLeftFor_1 : decode cX9_boxesLeftFor 1 = .ok (.istore_n 2, 1) := by decide +kernel
theorem dX9_boxesLeftFor_2 : decode cX9_boxesLeftFor 2 = .ok (.iconst 0, 1) := by decide +kernel
theorem dX9_boxesLeftFor_3 : decode cX9_boxesLeftFor 3 = .ok (.istore_n 3, 1) := by decide +kernel
theorem dX9_boxesLeftFor_4 : decode cX9_boxesLeftFor 4 = .ok (.iload_n 3, 1) := by decide +kernel
theorem dX9_boxesLeftFor_5 : decode cX9_boxesLeftFor 5 = .ok (.aload_n 0, 1) := by decide +kernel
theorem dX9_boxesLeftFor_6 : decode cX9_boxesLeftFor 6 = .ok (.getfield 29, 3) := by decide +kernel
theorem dX9_boxesLeftFor_9 : decode cX9_boxesLeftFor 9 = .ok (.getfield 58, 3) := by decide +kernel
theorem dX9_boxesLeftFor_12 : decode cX9_boxesLeftFor 12 = .ok (.if_icmp .ge 62, 3) := by decide +kernel
theorem dX9_boxesLeftFor_15 : decode cX9_boxesLeftFor 15 = .ok (.aload_n 0, 1) := by decide +kernel
theorem dX9_boxesLeftFor_16 : decode cX9_boxesLeftFor 16 = .ok (.iload_n 1, 1) := by decide +kernel
theorem dX9_boxesLeftFor_17 : decode cX9_boxesLeftFor 17 = .ok (.iload_n 3, 1) := by decide +kernel
theorem dX9_boxesLeftFor_18 : decode cX9_boxesLeftFor 18 = .ok (.invokevirtual 212, 3) := by decide +kernel
theorem dX9_boxesLeftFor_21 : decode cX9_boxesLeftFor 21 = .ok (.ifCond .eq 20, 3) := by decide +kernel
theorem dX9_boxesLeftFor_24 : decode cX9_boxesLeftFor 24 = .ok (.aload_n 0, 1) := by decide +kernel
theorem dX9_boxesLeftFor_25 : decode cX9_boxesLeftFor 25 = .ok (.getfield 11, 3) := by decide +kernel
theorem dX9_boxesLeftFor_28 : decode cX9_boxesLeftFor 28 = .ok (.iload_n 3, 1) := by decide +kernel
theorem dX9_boxesLeftFor_29 : decode cX9_boxesLeftFor 29 = .ok (.aaload, 1) := by decide +kernel
theorem dX9_boxesLeftFor_30 : decode cX9_boxesLeftFor 30 = .ok (.getfield 100, 3) := by decide +kernel
theorem dX9_boxesLeftFor_33 : decode cX9_boxesLeftFor 33 = .ok (.iconst (-1), 1) := by decide +kernel
theorem dX9_boxesLeftFor_34 : decode cX9_boxesLeftFor 34 = .ok (.if_icmp .ne 7, 3) := by decide +kernel
theorem dX9_boxesLeftFor_37 : decode cX9_boxesLeftFor 37 = .ok (.iconst 1, 1) := by decide +kernel
theorem dX9_boxesLeftFor_38 : decode cX9_boxesLeftFor 38 = .ok (.goto 4, 3) := by decide +kernel
theorem dX9_boxesLeftFor_41 : decode cX9_boxesLeftFor 41 = .ok (.iconst 0, 1) := by decide +kernel
theorem dX9_boxesLeftFor_42 : decode cX9_boxesLeftFor 42 = .ok (.istore 4, 2) := by decide +kernel
theorem dX9_boxesLeftFor_44 : decode cX9_boxesLeftFor 44 = .ok (.iload_n 2, 1) := by decide +kernel
theorem dX9_boxesLeftFor_45 : decode cX9_boxesLeftFor 45 = .ok (.iload 4, 2) := by decide +kernel
theorem dX9_boxesLeftFor_47 : decode cX9_boxesLeftFor 47 = .ok (.ifCond .eq 18, 3) := by decide +kernel
theorem dX9_boxesLeftFor_50 : decode cX9_boxesLeftFor 50 = .ok (.aload_n 0, 1) := by decide +kernel
theorem dX9_boxesLeftFor_51 : decode cX9_boxesLeftFor 51 = .ok (.getfield 29, 3) := by decide +kernel
theorem dX9_boxesLeftFor_54 : decode cX9_boxesLeftFor 54 = .ok (.getfield 159, 3) := by decide +kernel
theorem dX9_boxesLeftFor_57 : decode cX9_boxesLeftFor 57 = .ok (.iload_n 3, 1) := by decide +kernel
theorem dX9_boxesLeftFor_58 : decode cX9_boxesLeftFor 58 = .ok (.aaload, 1) := by decide +kernel
theorem dX9_boxesLeftFor_59 : decode cX9_boxesLeftFor 59 = .ok (.getfield 163, 3) := by decide +kernel
theorem dX9_boxesLeftFor_62 : decode cX9_boxesLeftFor 62 = .ok (.goto 4, 3) := by decide +kernel
theorem dX9_boxesLeftFor_65 : decode cX9_boxesLeftFor 65 = .ok (.iconst 0, 1) := by decide +kernel
theorem dX9_boxesLeftFor_66 : decode cX9_boxesLeftFor 66 = .ok (.iadd, 1) := by decide +kernel
theorem dX9_boxesLeftFor_67 : decode cX9_boxesLeftFor 67 = .ok (.istore_n 2, 1) := by decide +kernel
theorem dX9_boxesLeftFor_68 : decode cX9_boxesLeftFor 68 = .ok (.iinc 3 1, 3) := by decide +kernel
theorem dX9_boxesLeftFor_71 : decode cX9_boxesLeftFor 71 = .ok (.goto (-67), 3) := by decide +kernel
theorem dX9_boxesLeftFor_74 : decode cX9_boxesLeftFor 74 = .ok (.iload_n 2, 1) := by decide +kernel
theorem dX9_boxesLeftFor_75 : decode cX9_boxesLeftFor 75 = .ok (.ireturn, 1) := by decide +kernel
theorem dX10_init_0 : decode cX10_init 0 = .ok (.aload_n 0, 1) := by decide +kernel
theorem dX10_init_1 : decode cX10_init 1 = .ok (.invokespecial 3, 3) := by decide +kernel
theorem dX10_init_4 : decode cX10_init 4 = .ok (.aload_n 0, 1) := by decide +kernel
theorem dX10_init_5 : decode cX10_init 5 = .ok (.bipush 20, 2) := by decide +kernel
theorem dX10_init_7 : decode cX10_init 7 = .ok (.newarray .int, 2) := by decide +kernel
theorem dX10_init_9 : decode cX10_init 9 = .ok (.putfield 11, 3) := by decide +kernel
theorem dX10_init_12 : decode cX10_init 12 = .ok (.aload_n 0, 1) := by decide +kernel
theorem dX10_init_13 : decode cX10_init 13 = .ok (.bipush 20, 2) := by decide +kernel
theorem dX10_init_15 : decode cX10_init 15 = .ok (.newarray .int, 2) := by decide +kernel
theorem dX10_init_17 : decode cX10_init 17 = .ok (.putfield 15, 3) := by decide +kernel
theorem dX10_init_20 : decode cX10_init 20 = .ok (.aload_n 0, 1) := by decide +kernel
theorem dX10_init_21 : decode cX10_init 21 = .ok (.bipush 20, 2) := by decide +kernel
theorem dX10_init_23 : decode cX10_init 23 = .ok (.newarray .int, 2) := by decide +kernel
theorem dX10_init_25 : decode cX10_init 25 = .ok (.putfield 18, 3) := by decide +kernel
theorem dX10_init_28 : decode cX10_init 28 = .ok (.aload_n 0, 1) := by decide +kernel
theorem dX10_init_29 : decode cX10_init 29 = .ok (.bipush 20, 2) := by decide +kernel
theorem dX10_init_31 : decode cX10_init 31 = .ok (.newarray .int, 2) := by decide +kernel
theorem dX10_init_33 : decode cX10_init 33 = .ok (.putfield 21, 3) := by decide +kernel
theorem dX10_init_36 : decode cX10_init 36 = .ok (.aload_n 0, 1) := by decide +kernel
theorem dX10_init_37 : decode cX10_init 37 = .ok (.sipush 400, 3) := by decide +kernel
theorem dX10_init_40 : decode cX10_init 40 = .ok (.newarray .int, 2) := by decide +kernel
theorem dX10_init_42 : decode cX10_init 42 = .ok (.putfield 24, 3) := by decide +kernel
theorem dX10_init_45 : decode cX10_init 45 = .ok (.aload_n 0, 1) := by decide +kernel
theorem dX10_init_46 : decode cX10_init 46 = .ok (.bipush 32, 2) := by decide +kernel
theorem dX10_init_48 : decode cX10_init 48 = .ok (.newarray .int, 2) := by decide +kernel
theorem dX10_init_50 : decode cX10_init 50 = .ok (.putfield 27, 3) := by decide +kernel
theorem dX10_init_53 : decode cX10_init 53 = .ok (.return_, 1) := by decide +kernel
theorem dX10_isOperand_0 : decode cX10_isOperand 0 = .ok (.iload_n 0, 1) := by decide +kernel
theorem dX10_isOperand_1 : decode cX10_isOperand 1 = .ok (.bipush 32, 2) := by decide +kernel
theorem dX10_isOperand_3 : decode cX10_isOperand 3 = .ok (.if_icmp .ge 15, 3) := by decide +kernel
theorem dX10_isOperand_6 : decode cX10_isOperand 6 = .ok (.iload_n 0, 1) := by decide +kernel
theorem dX10_isOperand_7 : decode cX10_isOperand 7 = .ok (.bipush 6, 2) := by decide +kernel
theorem dX10_isOperand_9 : decode cX10_isOperand 9 = .ok (.if_icmp .lt 13, 3) := by decide +kernel
theorem dX10_isOperand_12 : decode cX10_isOperand 12 = .ok (.iload_n 0, 1) := by decide +kernel
theorem dX10_isOperand_13 : decode cX10_isOperand 13 = .ok (.bipush 15, 2) := by decide +kernel
theorem dX10_isOperand_15 : decode cX10_isOperand 15 = .ok (.if_icmp .gt 7, 3) := by decide +kernel
theorem dX10_isOperand_18 : decode cX10_isOperand 18 = .ok (.iconst 1, 1) := by decide +kernel
theorem dX10_isOperand_19 : decode cX10_isOperand 19 = .ok (.goto 4, 3) := by decide +kernel
theorem dX10_isOperand_22 : decode cX10_isOperand 22 = .ok (.iconst 0, 1) := by decide +kernel
theorem dX10_isOperand_23 : decode cX10_isOperand 23 = .ok (.ireturn, 1) := by decide +kernel
theorem dX10_isRelation_0 : decode cX10_isRelation 0 = .ok (.iload_n 0, 1) := by decide +kernel
theorem dX10_isRelation_1 : decode cX10_isRelation 1 = .ok (.bipush 20, 2) := by decide +kernel
theorem dX10_isRelation_3 : decode cX10_isRelation 3 = .ok (.if_icmp .lt 13, 3) := by decide +kernel
theorem dX10_isRelation_6 : decode cX10_isRelation 6 = .ok (.iload_n 0, 1) := by decide +kernel
theorem dX10_isRelation_7 : decode cX10_isRelation 7 = .ok (.bipush 23, 2) := by decide +kernel
theorem dX10_isRelation_9 : decode cX10_isRelation 9 = .ok (.if_icmp .gt 7, 3) := by decide +kernel
theorem dX10_isRelation_12 : decode cX10_isRelation 12 = .ok (.iconst 1, 1) := by decide +kernel
theorem dX10_isRelation_13 : decode cX10_isRelation 13 = .ok (.goto 4, 3) := by decide +kernel
theorem dX10_isRelation_16 : decode cX10_isRelation 16 = .ok (.iconst 0, 1) := by decide +kernel
theorem dX10_isRelation_17 : decode cX10_isRelation 17 = .ok (.ireturn, 1) := by decide +kernel
theorem dX10_clearRules_0 : decode cX10_clearRules 0 = .ok (.aload_n 0, 1) := by decide +kernel
theorem dX10_clearRules_1 : decode cX10_clearRules 1 = .ok (.iconst 0, 1) := by decide +kernel
theorem dX10_clearRules_2 : decode cX10_clearRules 2 = .ok (.putfield 30, 3) := by decide +kernel
theorem dX10_clearRules_5 : decode cX10_clearRules 5 = .ok (.aload_n 0, 1) := by decide +kernel
theorem dX10_clearRules_6 : decode cX10_clearRules 6 = .ok (.iconst 0, 1) := by decide +kernel
theorem dX10_clearRules_7 : decode cX10_clearRules 7 = .ok (.putfield 34, 3) := by decide +kernel
theorem dX10_clearRules_10 : decode cX10_clearRules 10 = .ok (.return_, 1) := by decide +kernel
theorem dX10_beginRule_0 : decode cX10_beginRule 0 = .ok (.aload_n 0, 1) := by decide +kernel
theorem dX10_beginRule_1 : decode cX10_beginRule 1 = .ok (.getfield 30, 3) := by decide +kernel
theorem dX10_beginRule_4 : decode cX10_beginRule 4 = .ok (.bipush 20, 2) := by decide +kernel
theorem dX10_beginRule_6 : decode cX10_beginRule 6 = .ok (.if_icmp .ge 26, 3) := by decide +kernel
theorem dX10_beginRule_9 : decode cX10_beginRule 9 = .ok (.aload_n 0, 1) := by decide +kernel
theorem dX10_beginRule_10 : decode cX10_beginRule 10 = .ok (.getfield 11, 3) := by decide +kernel
theorem dX10_beginRule_13 : decode cX10_beginRule 13 = .ok (.aload_n 0, 1) := by decide +kernel
theorem dX10_beginRule_14 : decode cX10_beginRule 14 = .ok (.getfield 30, 3) := by decide +kernel
theorem dX10_beginRule_17 : decode cX10_beginRule 17 = .ok (.iload_n 1, 1) := by decide +kernel
theorem dX10_beginRule_18 : decode cX10_beginRule 18 = .ok (.iastore, 1) := by decide +kernel
theorem dX10_beginRule_19 : decode cX10_beginRule 19 = .ok (.aload_n 0, 1) := by decide +kernel
theorem dX10_beginRule_20 : decode cX10_beginRule 20 = .ok (.getfield 15, 3) := by decide +kernel
theorem dX10_beginRule_23 : decode cX10_beginRule 23 = .ok (.aload_n 0, 1) := by decide +kernel
theorem dX10_beginRule_24 : decode cX10_beginRule 24 = .ok (.getfield 30, 3) := by decide +kernel
theorem dX10_beginRule_27 : decode cX10_beginRule 27 = .ok (.aload_n 0, 1) := by decide +kernel
theorem dX10_beginRule_28 : decode cX10_beginRule 28 = .ok (.getfield 34, 3) := by decide +kernel
theorem dX10_beginRule_31 : decode cX10_beginRule 31 = .ok (.iastore, 1) := by decide +kernel
theorem dX10_beginRule_32 : decode cX10_beginRule 32 = .ok (.return_, 1) := by decide +kernel
theorem dX10_addCode_0 : decode cX10_addCode 0 = .ok (.aload_n 0, 1) := by decide +kernel
theorem dX10_addCode_1 : decode cX10_addCode 1 = .ok (.getfield 34, 3) := by decide +kernel
theorem dX10_addCode_4 : decode cX10_addCode 4 = .ok (.sipush 400, 3) := by decide +kernel
theorem dX10_addCode_7 : decode cX10_addCode 7 = .ok (.if_icmp .ge 23, 3) := by decide +kernel
theorem dX10_addCode_10 : decode cX10_addCode 10 = .ok (.aload_n 0, 1) := by decide +kernel
theorem dX10_addCode_11 : decode cX10_addCode 11 = .ok (.getfield 24, 3) := by decide +kernel
theorem dX10_addCode_14 : decode cX10_addCode 14 = .ok (.aload_n 0, 1) := by decide +kernel
theorem dX10_addCode_15 : decode cX10_addCode 15 = .ok (.getfield 34, 3) := by decide +kernel
theorem dX10_addCode_18 : decode cX10_addCode 18 = .ok (.iload_n 1, 1) := by decide +kernel
theorem dX10_addCode_19 : decode cX10_addCode 19 = .ok (.iastore, 1) := by decide +kernel
theorem dX10_addCode_20 : decode cX10_addCode 20 = .ok (.aload_n 0, 1) := by decide +kernel
theorem dX10_addCode_21 : decode cX10_addCode 21 = .ok (.dup, 1) := by decide +kernel
theorem dX10_addCode_22 : decode cX10_addCode 22 = .ok (.getfield 34, 3) := by decide +kernel
theorem dX10_addCode_25 : decode cX10_addCode 25 = .ok (.iconst 1, 1) := by decide +kernel
theorem dX10_addCode_26 : decode cX10_addCode 26 = .ok (.iadd, 1) := by decide +kernel
theorem dX10_addCode_27 : decode cX10_addCode 27 = .ok (.putfield 34, 3) := by decide +kernel
theorem dX10_addCode_30 : decode cX10_addCode 30 = .ok (.return_, 1) := by decide +kernel
theorem dX10_endValue_0 : decode cX10_endValue 0 = .ok (.aload_n 0, 1) := by decide +kernel
theorem dX10_endValue_1 : decode cX10_endValue 1 = .ok (.getfield 30, 3) := by decide +kernel
theorem dX10_endValue_4 : decode cX10_endValue 4 = .ok (.bipush 20, 2) := by decide +kernel
theorem dX10_endValue_6 : decode cX10_endValue 6 = .ok (.if_icmp .ge 16, 3) := by decide +kernel
theorem dX10_endValue_9 : decode cX10_endValue 9 = .ok (.aload_n 0, 1) := by decide +kernel
theorem dX10_endValue_10 : decode cX10_endValue 10 = .ok (.getfield 18, 3) := by decide +kernel
theorem dX10_endValue_13 : decode cX10_endValue 13 = .ok (.aload_n 0, 1) := by decide +kernel
theorem dX10_endValue_14 : decode cX10_endValue 14 = .ok (.getfield 30, 3) := by decide +kernel
theorem dX10_endValue_17 : decode cX10_endValue 17 = .ok (.aload_n 0, 1) := by decide +kernel
theorem dX10_endValue_18 : decode cX10_endValue 18 = .ok (.getfield 34, 3) := by decide +kernel
theorem dX10_endValue_21 : decode cX10_endValue 21 = .ok (.iastore, 1) := by decide +kernel
theorem dX10_endValue_22 : decode cX10_endValue 22 = .ok (.return_, 1) := by decide +kernel
theorem dX10_endRule_0 : decode cX10_endRule 0 = .ok (.aload_n 0, 1) := by decide +kernel
theorem dX10_endRule_1 : decode cX10_endRule 1 = .ok (.getfield 30, 3) := by decide +kernel
theorem dX10_endRule_4 : decode cX10_endRule 4 = .ok (.bipush 20, 2) := by decide +kernel
theorem dX10_endRule_6 : decode cX10_endRule 6 = .ok (.if_icmp .ge 26, 3) := by decide +kernel
theorem dX10_endRule_9 : decode cX10_endRule 9 = .ok (.aload_n 0, 1) := by decide +kernel
theorem dX10_endRule_10 : decode cX10_endRule 10 = .ok (.getfield 21, 3) := by decide +kernel
theorem dX10_endRule_13 : decode cX10_endRule 13 = .ok (.aload_n 0, 1) := by decide +kernel
theorem dX10_endRule_14 : decode cX10_endRule 14 = .ok (.getfield 30, 3) := by decide +kernel
theorem dX10_endRule_17 : decode cX10_endRule 17 = .ok (.aload_n 0, 1) := by decide +kernel
theorem dX10_endRule_18 : decode cX10_endRule 18 = .ok (.getfield 34, 3) := by decide +kernel
theorem dX10_endRule_21 : decode cX10_endRule 21 = .ok (.iastore, 1) := by decide +kernel
theorem dX10_endRule_22 : decode cX10_endRule 22 = .ok (.aload_n 0, 1) := by decide +kernel
theorem dX10_endRule_23 : decode cX10_endRule 23 = .ok (.dup, 1) := by decide +kernel
theorem dX10_endRule_24 : decode cX10_endRule 24 = .ok (.getfield 30, 3) := by decide +kernel
theorem dX10_endRule_27 : decode cX10_endRule 27 = .ok (.iconst 1, 1) := by decide +kernel
theorem dX10_endRule_28 : decode cX10_endRule 28 = .ok (.iadd, 1) := by decide +kernel
theorem dX10_endRule_29 : decode cX10_endRule 29 = .ok (.putfield 30, 3) := by decide +kernel
theorem dX10_endRule_32 : decode cX10_endRule 32 = .ok (.return_, 1) := by decide +kernel
theorem dX10_firstThatHolds_0 : decode cX10_firstThatHolds 0 = .ok (.iconst 0, 1) := by decide +kernel
theorem dX10_firstThatHolds_1 : decode cX10_firstThatHolds 1 = .ok (.istore_n 3, 1) := by decide +kernel
theorem dX10_firstThatHolds_2 : decode cX10_firstThatHolds 2 = .ok (.iload_n 3, 1) := by decide +kernel
theorem dX10_firstThatHolds_3 : decode cX10_firstThatHolds 3 = .ok (.aload_n 0, 1) := by decide +kernel
theorem dX10_firstThatHolds_4 : decode cX10_firstThatHolds 4 = .ok (.getfield 30, 3) := by decide +kernel
theorem dX10_firstThatHolds_7 : decode cX10_firstThatHolds 7 = .ok (.if_icmp .ge 68, 3) := by decide +kernel
theorem dX10_firstThatHolds_10 : decode cX10_firstThatHolds 10 = .ok (.aload_n 0, 1) := by decide +kernel
theorem dX10_firstThatHolds_11 : decode cX10_firstThatHolds 11 = .ok (.getfield 18, 3) := by decide +kernel
theorem dX10_firstThatHolds_14 : decode cX10_firstThatHolds 14 = .ok (.iload_n 3, 1) := by decide +kernel
theorem dX10_firstThatHolds_15 : decode cX10_firstThatHolds 15 = .ok (.iaload, 1) := by decide +kernel
theorem dX10_firstThatHolds_16 : decode cX10_firstThatHolds 16 = .ok (.aload_n 0, 1) := by decide +kernel
theorem dX10_firstThatHolds_17 : decode cX10_firstThatHolds 17 = .ok (.getfield 21, 3) := by decide +kernel
theorem dX10_firstThatHolds_20 : decode cX10_firstThatHolds 20 = .ok (.iload_n 3, 1) := by decide +kernel
theorem dX10_firstThatHolds_21 : decode cX10_firstThatHolds 21 = .ok (.iaload, 1) := by decide +kernel
theorem dX10_firstThatHolds_22 : decode cX10_firstThatHolds 22 = .ok (.if_icmp .ne 7, 3) := by decide +kernel
theorem dX10_firstThatHolds_25 : decode cX10_firstThatHolds 25 = .ok (.iconst 1, 1) := by decide +kernel
theorem dX10_firstThatHolds_26 : decode cX10_firstThatHolds 26 = .ok (.goto 4, 3) := by decide +kernel
theorem dX10_firstThatHolds_29 : decode cX10_firstThatHolds 29 = .ok (.iconst 0, 1) := by decide +kernel
theorem dX10_firstThatHolds_30 : decode cX10_firstThatHolds 30 = .ok (.istore 4, 2) := by decide +kernel
theorem dX10_firstThatHolds_32 : decode cX10_firstThatHolds 32 = .ok (.aload_n 0, 1) := by decide +kernel
theorem dX10_firstThatHolds_33 : decode cX10_firstThatHolds 33 = .ok (.getfield 11, 3) := by decide +kernel
theorem dX10_firstThatHolds_36 : decode cX10_firstThatHolds 36 = .ok (.iload_n 3, 1) := by decide +kernel
theorem dX10_firstThatHolds_37 : decode cX10_firstThatHolds 37 = .ok (.iaload, 1) := by decide +kernel
theorem dX10_firstThatHolds_38 : decode cX10_firstThatHolds 38 = .ok (.iload_n 1, 1) := by decide +kernel
theorem dX10_firstThatHolds_39 : decode cX10_firstThatHolds 39 = .ok (.if_icmp .ne 30, 3) := by decide +kernel
theorem dX10_firstThatHolds_42 : decode cX10_firstThatHolds 42 = .ok (.iload 4, 2) := by decide +kernel
theorem dX10_firstThatHolds_44 : decode cX10_firstThatHolds 44 = .ok (.ifCond .ne 23, 3) := by decide +kernel
theorem dX10_firstThatHolds_47 : decode cX10_firstThatHolds 47 = .ok (.aload_n 0, 1) := by decide +kernel
theorem dX10_firstThatHolds_48 : decode cX10_firstThatHolds 48 = .ok (.aload_n 0, 1) := by decide +kernel
theorem dX10_firstThatHolds_49 : decode cX10_firstThatHolds 49 = .ok (.getfield 18, 3) := by decide +kernel
theorem dX10_firstThatHolds_52 : decode cX10_firstThatHolds 52 = .ok (.iload_n 3, 1) := by decide +kernel
theorem dX10_firstThatHolds_53 : decode cX10_firstThatHolds 53 = .ok (.iaload, 1) := by decide +kernel
theorem dX10_firstThatHolds_54 : decode cX10_firstThatHolds 54 = .ok (.aload_n 0, 1) := by decide +kernel
theorem dX10_firstThatHolds_55 : decode cX10_firstThatHolds 55 = .ok (.getfield 21, 3) := by decide +kernel
theorem dX10_firstThatHolds_58 : decode cX10_firstThatHolds 58 = .ok (.iload_n 3, 1) := by decide +kernel
theorem dX10_firstThatHolds_59 : decode cX10_firstThatHolds 59 = .ok (.iaload, 1) := by decide +kernel
theorem dX10_firstThatHolds_60 : decode cX10_firstThatHolds 60 = .ok (.aload_n 2, 1) := by decide +kernel
theorem dX10_firstThatHolds_61 : decode cX10_firstThatHolds 61 = .ok (.invokevirtual 37, 3) := by decide +kernel
theorem dX10_firstThatHolds_64 : decode cX10_firstThatHolds 64 = .ok (.ifCond .eq 5, 3) := by decide +kernel
theorem dX10_firstThatHolds_67 : decode cX10_firstThatHolds 67 = .ok (.iload_n 3, 1) := by decide +kernel
theorem dX10_firstThatHolds_68 : decode cX10_firstThatHolds 68 = .ok (.ireturn, 1) := by decide +kernel
theorem dX10_firstThatHolds_69 : decode cX10_firstThatHolds 69 = .ok (.iinc 3 1, 3) := by decide +kernel
theorem dX10_firstThatHolds_72 : decode cX10_firstThatHolds 72 = .ok (.goto (-70), 3) := by decide +kernel
theorem dX10_firstThatHolds_75 : decode cX10_firstThatHolds 75 = .ok (.iconst (-1), 1) := by decide +kernel
theorem dX10_firstThatHolds_76 : decode cX10_firstThatHolds 76 = .ok (.ireturn, 1) := by decide +kernel
theorem dX10_valueOrElse_0 : decode cX10_valueOrElse 0 = .ok (.aload_n 0, 1) := by decide +kernel
theorem dX10_valueOrElse_1 : decode cX10_valueOrElse 1 = .ok (.iload_n 1, 1) := by decide +kernel
theorem dX10_valueOrElse_2 : decode cX10_valueOrElse 2 = .ok (.aload_n 2, 1) := by decide +kernel
theorem dX10_valueOrElse_3 : decode cX10_valueOrElse 3 = .ok (.invokevirtual 41, 3) := by decide +kernel
theorem dX10_valueOrElse_6 : decode cX10_valueOrElse 6 = .ok (.istore 4, 2) := by decide +kernel
theorem dX10_valueOrElse_8 : decode cX10_valueOrElse 8 = .ok (.iload 4, 2) := by decide +kernel
theorem dX10_valueOrElse_10 : decode cX10_valueOrElse 10 = .ok (.iconst (-1), 1) := by decide +kernel
theorem dX10_valueOrElse_11 : decode cX10_valueOrElse 11 = .ok (.if_icmp .ne 7, 3) := by decide +kernel
theorem dX10_valueOrElse_14 : decode cX10_valueOrElse 14 = .ok (.iload_n 3, 1) := by decide +kernel
theorem dX10_valueOrElse_15 : decode cX10_valueOrElse 15 = .ok (.goto 22, 3) := by decide +kernel
theorem dX10_valueOrElse_18 : decode cX10_valueOrElse 18 = .ok (.aload_n 0, 1) := by decide +kernel
theorem dX10_valueOrElse_19 : decode cX10_valueOrElse 19 = .ok (.aload_n 0, 1) := by decide +kernel
theorem dX10_valueOrElse_20 : decode cX10_valueOrElse 20 = .ok (.getfield 15, 3) := by decide +kernel
theorem dX10_valueOrElse_23 : decode cX10_valueOrElse 23 = .ok (.iload 4, 2) := by decide +kernel
theorem dX10_valueOrElse_25 : decode cX10_valueOrElse 25 = .ok (.iaload, 1) := by decide +kernel
theorem dX10_valueOrElse_26 : decode cX10_valueOrElse 26 = .ok (.aload_n 0, 1) := by decide +kernel
theorem dX10_valueOrElse_27 : decode cX10_valueOrElse 27 = .ok (.getfield 18, 3) := by decide +kernel
theorem dX10_valueOrElse_30 : decode cX10_valueOrElse 30 = .ok (.iload 4, 2) := by decide +kernel
theorem dX10_valueOrElse_32 : decode cX10_valueOrElse 32 = .ok (.iaload, 1) := by decide +kernel
theorem dX10_valueOrElse_33 : decode cX10_valueOrElse 33 = .ok (.aload_n 2, 1) := by decide +kernel
theorem dX10_valueOrElse_34 : decode cX10_valueOrElse 34 = .ok (.invokevirtual 37, 3) := by decide +kernel
theorem dX10_valueOrElse_37 : decode cX10_valueOrElse 37 = .ok (.ireturn, 1) := by decide +kernel
theorem dX10_compute_0 : decode cX10_compute 0 = .ok (.iconst 0, 1) := by decide +kernel
theorem dX10_compute_1 : decode cX10_compute 1 = .ok (.istore 4, 2) := by decide +kernel
theorem dX10_compute_3 : decode cX10_compute 3 = .ok (.iload_n 1, 1) := by decide +kernel
theorem dX10_compute_4 : decode cX10_compute 4 = .ok (.istore 5, 2) := by decide +kernel
theorem dX10_compute_6 : decode cX10_compute 6 = .ok (.iload 5, 2) := by decide +kernel
theorem dX10_compute_8 : decode cX10_compute 8 = .ok (.iload_n 2, 1) := by decide +kernel
theorem dX10_compute_9 : decode cX10_compute 9 = .ok (.if_icmp .ge 102, 3) := by decide +kernel
theorem dX10_compute_12 : decode cX10_compute 12 = .ok (.iload 5, 2) := by decide +kernel
theorem dX10_compute_14 : decode cX10_compute 14 = .ok (.aload_n 0, 1) := by decide +kernel
theorem dX10_compute_15 : decode cX10_compute 15 = .ok (.getfield 34, 3) := by decide +kernel
theorem dX10_compute_18 : decode cX10_compute 18 = .ok (.if_icmp .ge 93, 3) := by decide +kernel
theorem dX10_compute_21 : decode cX10_compute 21 = .ok (.aload_n 0, 1) := by decide +kernel
theorem dX10_compute_22 : decode cX10_compute 22 = .ok (.getfield 24, 3) := by decide +kernel
theorem dX10_compute_25 : decode cX10_compute 25 = .ok (.iload 5, 2) := by decide +kernel
theorem dX10_compute_27 : decode cX10_compute 27 = .ok (.iaload, 1) := by decide +kernel
theorem dX10_compute_28 : decode cX10_compute 28 = .ok (.istore 6, 2) := by decide +kernel
theorem dX10_compute_30 : decode cX10_compute 30 = .ok (.iload 6, 2) := by decide +kernel
theorem dX10_compute_32 : decode cX10_compute 32 = .ok (.invokestatic 45, 3) := by decide +kernel
theorem dX10_compute_35 : decode cX10_compute 35 = .ok (.ifCond .eq 29, 3) := by decide +kernel
theorem dX10_compute_38 : decode cX10_compute 38 = .ok (.iload 4, 2) := by decide +kernel
theorem dX10_compute_40 : decode cX10_compute 40 = .ok (.bipush 32, 2) := by decide +kernel
theorem dX10_compute_42 : decode cX10_compute 42 = .ok (.if_icmp .ge 63, 3) := by decide +kernel
theorem dX10_compute_45 : decode cX10_compute 45 = .ok (.aload_n 0, 1) := by decide +kernel
theorem dX10_compute_46 : decode cX10_compute 46 = .ok (.getfield 27, 3) := by decide +kernel
theorem dX10_compute_49 : decode cX10_compute 49 = .ok (.iload 4, 2) := by decide +kernel
theorem dX10_compute_51 : decode cX10_compute 51 = .ok (.iload 6, 2) := by decide +kernel
theorem dX10_compute_53 : decode cX10_compute 53 = .ok (.aload_n 3, 1) := by decide +kernel
theorem dX10_compute_54 : decode cX10_compute 54 = .ok (.invokestatic 49, 3) := by decide +kernel
theorem dX10_compute_57 : decode cX10_compute 57 = .ok (.iastore, 1) := by decide +kernel
theorem dX10_compute_58 : decode cX10_compute 58 = .ok (.iinc 4 1, 3) := by decide +kernel
theorem dX10_compute_61 : decode cX10_compute 61 = .ok (.goto 44, 3) := by decide +kernel
theorem dX10_compute_64 : decode cX10_compute 64 = .ok (.iload 4, 2) := by decide +kernel
theorem dX10_compute_66 : decode cX10_compute 66 = .ok (.iconst 2, 1) := by decide +kernel
theorem dX10_compute_67 : decode cX10_compute 67 = .ok (.if_icmp .lt 38, 3) := by decide +kernel
theorem dX10_compute_70 : decode cX10_compute 70 = .ok (.aload_n 0, 1) := by decide +kernel
theorem dX10_compute_71 : decode cX10_compute 71 = .ok (.getfield 27, 3) := by decide +kernel
theorem dX10_compute_74 : decode cX10_compute 74 = .ok (.iload 4, 2) := by decide +kernel
theorem dX10_compute_76 : decode cX10_compute 76 = .ok (.iconst 2, 1) := by decide +kernel
theorem dX10_compute_77 : decode cX10_compute 77 = .ok (.isub, 1) := by decide +kernel
theorem dX10_compute_78 : decode cX10_compute 78 = .ok (.iload 6, 2) := by decide +kernel
theorem dX10_compute_80 : decode cX10_compute 80 = .ok (.aload_n 0, 1) := by decide +kernel
theorem dX10_compute_81 : decode cX10_compute 81 = .ok (.getfield 27, 3) := by decide +kernel
theorem dX10_compute_84 : decode cX10_compute 84 = .ok (.iload 4, 2) := by decide +kernel
theorem dX10_compute_86 : decode cX10_compute 86 = .ok (.iconst 2, 1) := by decide +kernel
theorem dX10_compute_87 : decode cX10_compute 87 = .ok (.isub, 1) := by decide +kernel
theorem dX10_compute_88 : decode cX10_compute 88 = .ok (.iaload, 1) := by decide +kernel
theorem dX10_compute_89 : decode cX10_compute 89 = .ok (.aload_n 0, 1) := by decide +kernel
theorem dX10_compute_90 : decode cX10_compute 90 = .ok (.getfield 27, 3) := by decide +kernel
theorem dX10_compute_93 : decode cX10_compute 93 = .ok (.iload 4, 2) := by decide +kernel
theorem dX10_compute_95 : decode cX10_compute 95 = .ok (.iconst 1, 1) := by decide +kernel
theorem dX10_compute_96 : decode cX10_compute 96 = .ok (.isub, 1) := by decide +kernel
theorem dX10_compute_97 : decode cX10_compute 97 = .ok (.iaload, 1) := by decide +kernel
theorem dX10_compute_98 : decode cX10_compute 98 = .ok (.invokestatic 52, 3) := by decide +kernel
theorem dX10_compute_101 : decode cX10_compute 101 = .ok (.iastore, 1) := by decide +kernel
theorem dX10_compute_102 : decode cX10_compute 102 = .ok (.iinc 4 (-1), 3) := by decide +kernel
theorem dX10_compute_105 : decode cX10_compute 105 = .ok (.iinc 5 1, 3) := by decide +kernel
theorem dX10_compute_108 : decode cX10_compute 108 = .ok (.goto (-102), 3) := by decide +kernel
theorem dX10_compute_111 : decode cX10_compute 111 = .ok (.aload_n 0, 1) := by decide +kernel
theorem dX10_compute_112 : decode cX10_compute 112 = .ok (.getfield 27, 3) := by decide +kernel
theorem dX10_compute_115 : decode cX10_compute 115 = .ok (.iconst 0, 1) := by decide +kernel
theorem dX10_compute_116 : decode cX10_compute 116 = .ok (.iaload, 1) := by decide +kernel
theorem dX10_compute_117 : decode cX10_compute 117 = .ok (.ireturn, 1) := by decide +kernel
theorem dX10_worth_0 : decode cX10_worth 0 = .ok (.iload_n 0, 1) := by decide +kernel
theorem dX10_worth_1 : decode cX10_worth 1 = .ok (.bipush 32, 2) := by decide +kernel
theorem dX10_worth_3 : decode cX10_worth 3 = .ok (.if_icmp .lt 8, 3) := by decide +kernel
theorem dX10_worth_6 : decode cX10_worth 6 = .ok (.iload_n 0, 1) := by decide +kernel
theorem dX10_worth_7 : decode cX10_worth 7 = .ok (.bipush 32, 2) := by decide +kernel
theorem dX10_worth_9 : decode cX10_worth 9 = .ok (.isub, 1) := by decide +kernel
theorem dX10_worth_10 : decode cX10_worth 10 = .ok (.ireturn, 1) := by decide +kernel
theorem dX10_worth_11 : decode cX10_worth 11 = .ok (.iload_n 0, 1) := by decide +kernel
theorem dX10_worth_12 : decode cX10_worth 12 = .ok (.bipush 6, 2) := by decide +kernel
theorem dX10_worth_14 : decode cX10_worth 14 = .ok (.isub, 1) := by decide +kernel
theorem dX10_worth_15 : decode cX10_worth 15 = .ok (.istore_n 2, 1) := by decide +kernel
theorem dX10_worth_16 : decode cX10_worth 16 = .ok (.iload_n 2, 1) := by decide +kernel
theorem dX10_worth_17 : decode cX10_worth 17 = .ok (.ifCond .lt 15, 3) := by decide +kernel
theorem dX10_worth_20 : decode cX10_worth 20 = .ok (.iload_n 2, 1) := by decide +kernel
theorem dX10_worth_21 : decode cX10_worth 21 = .ok (.aload_n 1, 1) := by decide +kernel
theorem dX10_worth_22 : decode cX10_worth 22 = .ok (.arraylength, 1) := by decide +kernel
theorem dX10_worth_23 : decode cX10_worth 23 = .ok (.if_icmp .ge 9, 3) := by decide +kernel
theorem dX10_worth_26 : decode cX10_worth 26 = .ok (.aload_n 1, 1) := by decide +kernel
theorem dX10_worth_27 : decode cX10_worth 27 = .ok (.iload_n 2, 1) := by decide +kernel
theorem dX10_worth_28 : decode cX10_worth 28 = .ok (.iaload, 1) := by decide +kernel
theorem dX10_worth_29 : decode cX10_worth 29 = .ok (.goto 4, 3) := by decide +kernel
theorem dX10_worth_32 : decode cX10_worth 32 = .ok (.iconst 0, 1) := by decide +kernel
theorem dX10_worth_33 : decode cX10_worth 33 = .ok (.ireturn, 1) := by decide +kernel
theorem dX10_combine_0 : decode cX10_combine 0 = .ok (.iload_n 0, 1) := by decide +kernel
theorem dX10_combine_1 : decode cX10_combine 1 = .ok (.tableswitch 151 5 23 #[147, 151, 151, 151, 151, 151, 151, 151, 151, 151, 151, 151, 91, 95, 99, 103, 114, 125, 136], 91) := by decide +kernel
theorem dX10_combine_92 : decode cX10_combine 92 = .ok (.iload_n 1, 1) := by decide +kernel
theorem dX10_combine_93 : decode cX10_combine 93 = .ok (.iload_n 2, 1) := by decide +kernel
theorem dX10_combine_94 : decode cX10_combine 94 = .ok (.iadd, 1) := by decide +kernel
theorem dX10_combine_95 : decode cX10_combine 95 = .ok (.ireturn, 1) := by decide +kernel
theorem dX10_combine_96 : decode cX10_combine 96 = .ok (.iload_n 1, 1) := by decide +kernel
theorem dX10_combine_97 : decode cX10_combine 97 = .ok (.iload_n 2, 1) := by decide +kernel
theorem dX10_combine_98 : decode cX10_combine 98 = .ok (.isub, 1) := by decide +kernel
theorem dX10_combine_99 : decode cX10_combine 99 = .ok (.ireturn, 1) := by decide +kernel
theorem dX10_combine_100 : decode cX10_combine 100 = .ok (.iload_n 1, 1) := by decide +kernel
theorem dX10_combine_101 : decode cX10_combine 101 = .ok (.iload_n 2, 1) := by decide +kernel
theorem dX10_combine_102 : decode cX10_combine 102 = .ok (.imul, 1) := by decide +kernel
theorem dX10_combine_103 : decode cX10_combine 103 = .ok (.ireturn, 1) := by decide +kernel
theorem dX10_combine_104 : decode cX10_combine 104 = .ok (.iload_n 1, 1) := by decide +kernel
theorem dX10_combine_105 : decode cX10_combine 105 = .ok (.iload_n 2, 1) := by decide +kernel
theorem dX10_combine_106 : decode cX10_combine 106 = .ok (.if_icmp .ne 7, 3) := by decide +kernel
theorem dX10_combine_109 : decode cX10_combine 109 = .ok (.iconst 1, 1) := by decide +kernel
theorem dX10_combine_110 : decode cX10_combine 110 = .ok (.goto 4, 3) := by decide +kernel
theorem dX10_combine_113 : decode cX10_combine 113 = .ok (.iconst 0, 1) := by decide +kernel
theorem dX10_combine_114 : decode cX10_combine 114 = .ok (.ireturn, 1) := by decide +kernel
theorem dX10_combine_115 : decode cX10_combine 115 = .ok (.iload_n 1, 1) := by decide +kernel
theorem dX10_combine_116 : decode cX10_combine 116 = .ok (.iload_n 2, 1) := by decide +kernel
theorem dX10_combine_117 : decode cX10_combine 117 = .ok (.if_icmp .eq 7, 3) := by decide +kernel
theorem dX10_combine_120 : decode cX10_combine 120 = .ok (.iconst 1, 1) := by decide +kernel
theorem dX10_combine_121 : decode cX10_combine 121 = .ok (.goto 4, 3) := by decide +kernel
theorem dX10_combine_124 : decode cX10_combine 124 = .ok (.iconst 0, 1) := by decide +kernel
theorem dX10_combine_125 : decode cX10_combine 125 = .ok (.ireturn, 1) := by decide +kernel
theorem dX10_combine_126 : decode cX10_combine 126 = .ok (.iload_n 1, 1) := by decide +kernel
theorem dX10_combine_127 : decode cX10_combine 127 = .ok (.iload_n 2, 1) := by decide +kernel
theorem dX10_combine_128 : decode cX10_combine 128 = .ok (.if_icmp .ge 7, 3) := by decide +kernel
theorem dX10_combine_131 : decode cX10_combine 131 = .ok (.iconst 1, 1) := by decide +kernel
theorem dX10_combine_132 : decode cX10_combine 132 = .ok (.goto 4, 3) := by decide +kernel
theorem dX10_combine_135 : decode cX10_combine 135 = .ok (.iconst 0, 1) := by decide +kernel
theorem dX10_combine_136 : decode cX10_combine 136 = .ok (.ireturn, 1) := by decide +kernel
theorem dX10_combine_137 : decode cX10_combine 137 = .ok (.iload_n 1, 1) := by decide +kernel
theorem dX10_combine_138 : decode cX10_combine 138 = .ok (.iload_n 2, 1) := by decide +kernel
theorem dX10_combine_139 : decode cX10_combine 139 = .ok (.if_icmp .gt 7, 3) := by decide +kernel
theorem dX10_combine_142 : decode cX10_combine 142 = .ok (.iconst 1, 1) := by decide +kernel
theorem dX10_combine_143 : decode cX10_combine 143 = .ok (.goto 4, 3) := by decide +kernel
theorem dX10_combine_146 : decode cX10_combine 146 = .ok (.iconst 0, 1) := by decide +kernel
theorem dX10_combine_147 : decode cX10_combine 147 = .ok (.ireturn, 1) := by decide +kernel
theorem dX10_combine_148 : decode cX10_combine 148 = .ok (.iload_n 1, 1) := by decide +kernel
theorem dX10_combine_149 : decode cX10_combine 149 = .ok (.iload_n 2, 1) := by decide +kernel
theorem dX10_combine_150 : decode cX10_combine 150 = .ok (.iand, 1) := by decide +kernel
theorem dX10_combine_151 : decode cX10_combine 151 = .ok (.ireturn, 1) := by decide +kernel
theorem dX10_combine_152 : decode cX10_combine 152 = .ok (.iload_n 1, 1) := by decide +kernel
theorem dX10_combine_153 : decode cX10_combine 153 = .ok (.iload_n 2, 1) := by decide +kernel
theorem dX10_combine_154 : decode cX10_combine 154 = .ok (.ior, 1) := by decide +kernel
theorem dX10_combine_155 : decode cX10_combine 155 = .ok (.ireturn, 1) := by decide +kernel
theorem dX11_init_0 : decode cX11_init 0 = .ok (.aload_n 0, 1) := by decide +kernel
theorem dX11_init_1 : decode cX11_init 1 = .ok (.invokespecial 1, 3) := by decide +kernel
theorem dX11_init_4 : decode cX11_init 4 = .ok (.aload_n 0, 1) := by decide +kernel
theorem dX11_init_5 : decode cX11_init 5 = .ok (.new 7, 3) := by decide +kernel
theorem dX11_init_8 : decode cX11_init 8 = .ok (.dup, 1) := by decide +kernel
theorem dX11_init_9 : decode cX11_init 9 = .ok (.invokespecial 9, 3) := by decide +kernel
theorem dX11_init_12 : decode cX11_init 12 = .ok (.putfield 10, 3) := by decide +kernel
theorem dX11_init_15 : decode cX11_init 15 = .ok (.aload_n 0, 1) := by decide +kernel
theorem dX11_init_16 : decode cX11_init 16 = .ok (.new 16, 3) := by decide +kernel
theorem dX11_init_19 : decode cX11_init 19 = .ok (.dup, 1) := by decide +kernel
theorem dX11_init_20 : decode cX11_init 20 = .ok (.invokespecial 18, 3) := by decide +kernel
theorem dX11_init_23 : decode cX11_init 23 = .ok (.putfield 19, 3) := by decide +kernel
theorem dX11_init_26 : decode cX11_init 26 = .ok (.aload_n 0, 1) := by decide +kernel
theorem dX11_init_27 : decode cX11_init 27 = .ok (.new 23, 3) := by decide +kernel
theorem dX11_init_30 : decode cX11_init 30 = .ok (.dup, 1) := by decide +kernel
theorem dX11_init_31 : decode cX11_init 31 = .ok (.aload_n 0, 1) := by decide +kernel
theorem dX11_init_32 : decode cX11_init 32 = .ok (.getfield 19, 3) := by decide +kernel
theorem dX11_init_35 : decode cX11_init 35 = .ok (.invokespecial 25, 3) := by decide +kernel
theorem dX11_init_38 : decode cX11_init 38 = .ok (.putfield 28, 3) := by decide +kernel
theorem dX11_init_41 : decode cX11_init 41 = .ok (.aload_n 0, 1) := by decide +kernel
theorem dX11_init_42 : decode cX11_init 42 = .ok (.new 23, 3) := by decide +kernel
theorem dX11_init_45 : decode cX11_init 45 = .ok (.dup, 1) := by decide +kernel
theorem dX11_init_46 : decode cX11_init 46 = .ok (.aload_n 0, 1) := by decide +kernel
theorem dX11_init_47 : decode cX11_init 47 = .ok (.getfield 19, 3) := by decide +kernel
theorem dX11_init_50 : decode cX11_init 50 = .ok (.invokespecial 25, 3) := by decide +kernel
theorem dX11_init_53 : decode cX11_init 53 = .ok (.putfield 32, 3) := by decide +kernel
theorem dX11_init_56 : decode cX11_init 56 = .ok (.aload_n 0, 1) := by decide +kernel
theorem dX11_init_57 : decode cX11_init 57 = .ok (.new 35, 3) := by decide +kernel
theorem dX11_init_60 : decode cX11_init 60 = .ok (.dup, 1) := by decide +kernel
theorem dX11_init_61 : decode cX11_init 61 = .ok (.invokespecial 37, 3) := by decide +kernel
theorem dX11_init_64 : decode cX11_init 64 = .ok (.putfield 38, 3) := by decide +kernel
theorem dX11_init_67 : decode cX11_init 67 = .ok (.aload_n 0, 1) := by decide +kernel
theorem dX11_init_68 : decode cX11_init 68 = .ok (.bipush 6, 2) := by decide +kernel
theorem dX11_init_70 : decode cX11_init 70 = .ok (.anewarray 42, 3) := by decide +kernel
theorem dX11_init_73 : decode cX11_init 73 = .ok (.putfield 44, 3) := by decide +kernel
theorem dX11_init_76 : decode cX11_init 76 = .ok (.iconst 0, 1) := by decide +kernel
theorem dX11_init_77 : decode cX11_init 77 = .ok (.istore_n 1, 1) := by decide +kernel
theorem dX11_init_78 : decode cX11_init 78 = .ok (.iload_n 1, 1) := by decide +kernel
theorem dX11_init_79 : decode cX11_init 79 = .ok (.bipush 6, 2) := by decide +kernel
theorem dX11_init_81 : decode cX11_init 81 = .ok (.if_icmp .ge 22, 3) := by decide +kernel
theorem dX11_init_84 : decode cX11_init 84 = .ok (.aload_n 0, 1) := by decide +kernel
theorem dX11_init_85 : decode cX11_init 85 = .ok (.getfield 44, 3) := by decide +kernel
theorem dX11_init_88 : decode cX11_init 88 = .ok (.iload_n 1, 1) := by decide +kernel
theorem dX11_init_89 : decode cX11_init 89 = .ok (.new 42, 3) := by decide +kernel
theorem dX11_init_92 : decode cX11_init 92 = .ok (.dup, 1) := by decide +kernel
theorem dX11_init_93 : decode cX11_init 93 = .ok (.invokespecial 48, 3) := by decide +kernel
theorem dX11_init_96 : decode cX11_init 96 = .ok (.aastore, 1) := by decide +kernel
theorem dX11_init_97 : decode cX11_init 97 = .ok (.iinc 1 1, 3) := by decide +kernel
theorem dX11_init_100 : decode cX11_init 100 = .ok (.goto (-22), 3) := by decide +kernel
theorem dX11_init_103 : decode cX11_init 103 = .ok (.return_, 1) := by decide +kernel
theorem dX11_feed_0 : decode cX11_feed 0 = .ok (.aload_n 0, 1) := by decide +kernel
theorem dX11_feed_1 : decode cX11_feed 1 = .ok (.getfield 10, 3) := by decide +kernel
theorem dX11_feed_4 : decode cX11_feed 4 = .ok (.getfield 49, 3) := by decide +kernel
theorem dX11_feed_7 : decode cX11_feed 7 = .ok (.bipush 20, 2) := by decide +kernel
theorem dX11_feed_9 : decode cX11_feed 9 = .ok (.iadd, 1) := by decide +kernel
theorem dX11_feed_10 : decode cX11_feed 10 = .ok (.sipush 2000, 3) := by decide +kernel
theorem dX11_feed_13 : decode cX11_feed 13 = .ok (.if_icmp .le 5, 3) := by decide +kernel
theorem dX11_feed_16 : decode cX11_feed 16 = .ok (.iconst (-1), 1) := by decide +kernel
theorem dX11_feed_17 : decode cX11_feed 17 = .ok (.ireturn, 1) := by decide +kernel
theorem dX11_feed_18 : decode cX11_feed 18 = .ok (.aload_n 0, 1) := by decide +kernel
theorem dX11_feed_19 : decode cX11_feed 19 = .ok (.getfield 10, 3) := by decide +kernel
theorem dX11_feed_22 : decode cX11_feed 22 = .ok (.iload_n 1, 1) := by decide +kernel
theorem dX11_feed_23 : decode cX11_feed 23 = .ok (.invokevirtual 53, 3) := by decide +kernel
theorem dX11_feed_26 : decode cX11_feed 26 = .ok (.aload_n 0, 1) := by decide +kernel
theorem dX11_feed_27 : decode cX11_feed 27 = .ok (.getfield 10, 3) := by decide +kernel
theorem dX11_feed_30 : decode cX11_feed 30 = .ok (.iload_n 2, 1) := by decide +kernel
theorem dX11_feed_31 : decode cX11_feed 31 = .ok (.invokevirtual 53, 3) := by decide +kernel
theorem dX11_feed_34 : decode cX11_feed 34 = .ok (.aload_n 0, 1) := by decide +kernel
theorem dX11_feed_35 : decode cX11_feed 35 = .ok (.getfield 10, 3) := by decide +kernel
theorem dX11_feed_38 : decode cX11_feed 38 = .ok (.iload_n 3, 1) := by decide +kernel
theorem dX11_feed_39 : decode cX11_feed 39 = .ok (.invokevirtual 53, 3) := by decide +kernel
theorem dX11_feed_42 : decode cX11_feed 42 = .ok (.aload_n 0, 1) := by decide +kernel
theorem dX11_feed_43 : decode cX11_feed 43 = .ok (.getfield 10, 3) := by decide +kernel
theorem dX11_feed_46 : decode cX11_feed 46 = .ok (.iload 4, 2) := by decide +kernel
theorem dX11_feed_48 : decode cX11_feed 48 = .ok (.invokevirtual 53, 3) := by decide +kernel
theorem dX11_feed_51 : decode cX11_feed 51 = .ok (.aload_n 0, 1) := by decide +kernel
theorem dX11_feed_52 : decode cX11_feed 52 = .ok (.getfield 10, 3) := by decide +kernel
theorem dX11_feed_55 : decode cX11_feed 55 = .ok (.iload 5, 2) := by decide +kernel
theorem dX11_feed_57 : decode cX11_feed 57 = .ok (.invokevirtual 53, 3) := by decide +kernel
theorem dX11_feed_60 : decode cX11_feed 60 = .ok (.aload_n 0, 1) := by decide +kernel
theorem dX11_feed_61 : decode cX11_feed 61 = .ok (.getfield 10, 3) := by decide +kernel
theorem dX11_feed_64 : decode cX11_feed 64 = .ok (.getfield 49, 3) := by decide +kernel
theorem dX11_feed_67 : decode cX11_feed 67 = .ok (.ireturn, 1) := by decide +kernel
theorem dX11_back_0 : decode cX11_back 0 = .ok (.iload_n 1, 1) := by decide +kernel
theorem dX11_back_1 : decode cX11_back 1 = .ok (.ifCond .lt 14, 3) := by decide +kernel
theorem dX11_back_4 : decode cX11_back 4 = .ok (.iload_n 1, 1) := by decide +kernel
theorem dX11_back_5 : decode cX11_back 5 = .ok (.aload_n 0, 1) := by decide +kernel
theorem dX11_back_6 : decode cX11_back 6 = .ok (.getfield 10, 3) := by decide +kernel
theorem dX11_back_9 : decode cX11_back 9 = .ok (.getfield 49, 3) := by decide +kernel
theorem dX11_back_12 : decode cX11_back 12 = .ok (.if_icmp .le 5, 3) := by decide +kernel
theorem dX11_back_15 : decode cX11_back 15 = .ok (.iconst (-1), 1) := by decide +kernel
theorem dX11_back_16 : decode cX11_back 16 = .ok (.ireturn, 1) := by decide +kernel
theorem dX11_back_17 : decode cX11_back 17 = .ok (.aload_n 0, 1) := by decide +kernel
theorem dX11_back_18 : decode cX11_back 18 = .ok (.getfield 10, 3) := by decide +kernel
theorem dX11_back_21 : decode cX11_back 21 = .ok (.dup, 1) := by decide +kernel
theorem dX11_back_22 : decode cX11_back 22 = .ok (.getfield 49, 3) := by decide +kernel
theorem dX11_back_25 : decode cX11_back 25 = .ok (.iload_n 1, 1) := by decide +kernel
theorem dX11_back_26 : decode cX11_back 26 = .ok (.isub, 1) := by decide +kernel
theorem dX11_back_27 : decode cX11_back 27 = .ok (.putfield 49, 3) := by decide +kernel
theorem dX11_back_30 : decode cX11_back 30 = .ok (.aload_n 0, 1) := by decide +kernel
theorem dX11_back_31 : decode cX11_back 31 = .ok (.getfield 10, 3) := by decide +kernel
theorem dX11_back_34 : decode cX11_back 34 = .ok (.getfield 49, 3) := by decide +kernel
theorem dX11_back_37 : decode cX11_back 37 = .ok (.ireturn, 1) := by decide +kernel
theorem dX11_read_0 : decode cX11_read 0 = .ok (.iload_n 1, 1) := by decide +kernel
theorem dX11_read_1 : decode cX11_read 1 = .ok (.iconst (-1), 1) := by decide +kernel
theorem dX11_read_2 : decode cX11_read 2 = .ok (.if_icmp .eq 17, 3) := by decide +kernel
theorem dX11_read_5 : decode cX11_read 5 = .ok (.aload_n 0, 1) := by decide +kernel
theorem dX11_read_6 : decode cX11_read 6 = .ok (.getfield 19, 3) := by decide +kernel
theorem dX11_read_9 : decode cX11_read 9 = .ok (.iload_n 1, 1) := by decide +kernel
theorem dX11_read_10 : decode cX11_read 10 = .ok (.invokevirtual 57, 3) := by decide +kernel
theorem dX11_read_13 : decode cX11_read 13 = .ok (.ifCond .ne 6, 3) := by decide +kernel
theorem dX11_read_16 : decode cX11_read 16 = .ok (.bipush (-2), 2) := by decide +kernel
theorem dX11_read_18 : decode cX11_read 18 = .ok (.ireturn, 1) := by decide +kernel
theorem dX11_read_19 : decode cX11_read 19 = .ok (.aload_n 0, 1) := by decide +kernel
theorem dX11_read_20 : decode cX11_read 20 = .ok (.getfield 10, 3) := by decide +kernel
theorem dX11_read_23 : decode cX11_read 23 = .ok (.invokevirtual 61, 3) := by decide +kernel
theorem dX11_read_26 : decode cX11_read 26 = .ok (.istore_n 2, 1) := by decide +kernel
theorem dX11_read_27 : decode cX11_read 27 = .ok (.aload_n 0, 1) := by decide +kernel
theorem dX11_read_28 : decode cX11_read 28 = .ok (.getfield 10, 3) := by decide +kernel
theorem dX11_read_31 : decode cX11_read 31 = .ok (.iconst 0, 1) := by decide +kernel
theorem dX11_read_32 : decode cX11_read 32 = .ok (.putfield 49, 3) := by decide +kernel
theorem dX11_read_35 : decode cX11_read 35 = .ok (.iload_n 2, 1) := by decide +kernel
theorem dX11_read_36 : decode cX11_read 36 = .ok (.ifCond .ne 25, 3) := by decide +kernel
theorem dX11_read_39 : decode cX11_read 39 = .ok (.aload_n 0, 1) := by decide +kernel
theorem dX11_read_40 : decode cX11_read 40 = .ok (.getfield 10, 3) := by decide +kernel
theorem dX11_read_43 : decode cX11_read 43 = .ok (.aload_n 0, 1) := by decide +kernel
theorem dX11_read_44 : decode cX11_read 44 = .ok (.getfield 19, 3) := by decide +kernel
theorem dX11_read_47 : decode cX11_read 47 = .ok (.iload_n 1, 1) := by decide +kernel
theorem dX11_read_48 : decode cX11_read 48 = .ok (.aload_n 0, 1) := by decide +kernel
theorem dX11_read_49 : decode cX11_read 49 = .ok (.getfield 10, 3) := by decide +kernel
theorem dX11_read_52 : decode cX11_read 52 = .ok (.getfield 65, 3) := by decide +kernel
theorem dX11_read_55 : decode cX11_read 55 = .ok (.invokevirtual 69, 3) := by decide +kernel
theorem dX11_read_58 : decode cX11_read 58 = .ok (.putfield 65, 3) := by decide +kernel
theorem dX11_read_61 : decode cX11_read 61 = .ok (.iload_n 2, 1) := by decide +kernel
theorem dX11_read_62 : decode cX11_read 62 = .ok (.ireturn, 1) := by decide +kernel
theorem dX11_place_0 : decode cX11_place 0 = .ok (.aload_n 0, 1) := by decide +kernel
theorem dX11_place_1 : decode cX11_place 1 = .ok (.getfield 10, 3) := by decide +kernel
theorem dX11_place_4 : decode cX11_place 4 = .ok (.getfield 73, 3) := by decide +kernel
theorem dX11_place_7 : decode cX11_place 7 = .ok (.ireturn, 1) := by decide +kernel
theorem dX11_lot_0 : decode cX11_lot 0 = .ok (.aload_n 0, 1) := by decide +kernel
theorem dX11_lot_1 : decode cX11_lot 1 = .ok (.getfield 76, 3) := by decide +kernel
theorem dX11_lot_4 : decode cX11_lot 4 = .ok (.ifCond .eq 5, 3) := by decide +kernel
theorem dX11_lot_7 : decode cX11_lot 7 = .ok (.iconst (-1), 1) := by decide +kernel
theorem dX11_lot_8 : decode cX11_lot 8 = .ok (.ireturn, 1) := by decide +kernel
theorem dX11_lot_9 : decode cX11_lot 9 = .ok (.iload_n 1, 1) := by decide +kernel
theorem dX11_lot_10 : decode cX11_lot 10 = .ok (.bipush 6, 2) := by decide +kernel
theorem dX11_lot_12 : decode cX11_lot 12 = .ok (.invokestatic 80, 3) := by decide +kernel
theorem dX11_lot_15 : decode cX11_lot 15 = .ok (.ifCond .eq 20, 3) := by decide +kernel
theorem dX11_lot_18 : decode cX11_lot 18 = .ok (.iload_n 2, 1) := by decide +kernel
theorem dX11_lot_19 : decode cX11_lot 19 = .ok (.bipush 6, 2) := by decide +kernel
theorem dX11_lot_21 : decode cX11_lot 21 = .ok (.invokestatic 80, 3) := by decide +kernel
theorem dX11_lot_24 : decode cX11_lot 24 = .ok (.ifCond .eq 11, 3) := by decide +kernel
theorem dX11_lot_27 : decode cX11_lot 27 = .ok (.iload_n 3, 1) := by decide +kernel
theorem dX11_lot_28 : decode cX11_lot 28 = .ok (.iconst 4, 1) := by decide +kernel
theorem dX11_lot_29 : decode cX11_lot 29 = .ok (.invokestatic 80, 3) := by decide +kernel
theorem dX11_lot_32 : decode cX11_lot 32 = .ok (.ifCond .ne 5, 3) := by decide +kernel
theorem dX11_lot_35 : decode cX11_lot 35 = .ok (.iconst (-1), 1) := by decide +kernel
theorem dX11_lot_36 : decode cX11_lot 36 = .ok (.ireturn, 1) := by decide +kernel
theorem dX11_lot_37 : decode cX11_lot 37 = .ok (.iload 4, 2) := by decide +kernel
theorem dX11_lot_39 : decode cX11_lot 39 = .ok (.iconst 1, 1) := by decide +kernel
theorem dX11_lot_40 : decode cX11_lot 40 = .ok (.bipush 20, 2) := by decide +kernel
theorem dX11_lot_42 : decode cX11_lot 42 = .ok (.invokestatic 84, 3) := by decide +kernel
theorem dX11_lot_45 : decode cX11_lot 45 = .ok (.ifCond .eq 13, 3) := by decide +kernel
theorem dX11_lot_48 : decode cX11_lot 48 = .ok (.iload 5, 2) := by decide +kernel
theorem dX11_lot_50 : decode cX11_lot 50 = .ok (.bipush 10, 2) := by decide +kernel
theorem dX11_lot_52 : decode cX11_lot 52 = .ok (.invokestatic 80, 3) := by decide +kernel
theorem dX11_lot_55 : decode cX11_lot 55 = .ok (.ifCond .ne 5, 3) := by decide +kernel
theorem dX11_lot_58 : decode cX11_lot 58 = .ok (.iconst (-1), 1) := by decide +kernel
theorem dX11_lot_59 : decode cX11_lot 59 = .ok (.ireturn, 1) := by decide +kernel
theorem dX11_lot_60 : decode cX11_lot 60 = .ok (.aload_n 0, 1) := by decide +kernel
theorem dX11_lot_61 : decode cX11_lot 61 = .ok (.getfield 19, 3) := by decide +kernel
theorem dX11_lot_64 : decode cX11_lot 64 = .ok (.iload_n 1, 1) := by decide +kernel
theorem dX11_lot_65 : decode cX11_lot 65 = .ok (.iload_n 2, 1) := by decide +kernel
theorem dX11_lot_66 : decode cX11_lot 66 = .ok (.iload_n 3, 1) := by decide +kernel
theorem dX11_lot_67 : decode cX11_lot 67 = .ok (.iload 4, 2) := by decide +kernel
theorem dX11_lot_69 : decode cX11_lot 69 = .ok (.iload 5, 2) := by decide +kernel
theorem dX11_lot_71 : decode cX11_lot 71 = .ok (.invokevirtual 88, 3) := by decide +kernel
theorem dX11_lot_74 : decode cX11_lot 74 = .ok (.ireturn, 1) := by decide +kernel
theorem dX11_buyer_0 : decode cX11_buyer 0 = .ok (.iload_n 1, 1) := by decide +kernel
theorem dX11_buyer_1 : decode cX11_buyer 1 = .ok (.iconst 4, 1) := by decide +kernel
theorem dX11_buyer_2 : decode cX11_buyer 2 = .ok (.invokestatic 80, 3) := by decide +kernel
theorem dX11_buyer_5 : decode cX11_buyer 5 = .ok (.ifCond .eq 13, 3) := by decide +kernel
theorem dX11_buyer_8 : decode cX11_buyer 8 = .ok (.iload_n 2, 1) := by decide +kernel
theorem dX11_buyer_9 : decode cX11_buyer 9 = .ok (.iconst 0, 1) := by decide +kernel
theorem dX11_buyer_10 : decode cX11_buyer 10 = .ok (.ldc 92, 2) := by decide +kernel
theorem dX11_buyer_12 : decode cX11_buyer 12 = .ok (.invokestatic 84, 3) := by decide +kernel
theorem dX11_buyer_15 : decode cX11_buyer 15 = .ok (.ifCond .ne 5, 3) := by decide +kernel
theorem dX11_buyer_18 : decode cX11_buyer 18 = .ok (.iconst (-1), 1) := by decide +kernel
theorem dX11_buyer_19 : decode cX11_buyer 19 = .ok (.ireturn, 1) := by decide +kernel
theorem dX11_buyer_20 : decode cX11_buyer 20 = .ok (.aload_n 0, 1) := by decide +kernel
theorem dX11_buyer_21 : decode cX11_buyer 21 = .ok (.getfield 19, 3) := by decide +kernel
theorem dX11_buyer_24 : decode cX11_buyer 24 = .ok (.iload_n 1, 1) := by decide +kernel
theorem dX11_buyer_25 : decode cX11_buyer 25 = .ok (.iload_n 2, 1) := by decide +kernel
theorem dX11_buyer_26 : decode cX11_buyer 26 = .ok (.invokevirtual 93, 3) := by decide +kernel
theorem dX11_buyer_29 : decode cX11_buyer 29 = .ok (.istore_n 3, 1) := by decide +kernel
theorem dX11_buyer_30 : decode cX11_buyer 30 = .ok (.iload_n 3, 1) := by decide +kernel
theorem dX11_buyer_31 : decode cX11_buyer 31 = .ok (.iconst (-1), 1) := by decide +kernel
theorem dX11_buyer_32 : decode cX11_buyer 32 = .ok (.if_icmp .eq 16, 3) := by decide +kernel
theorem dX11_buyer_35 : decode cX11_buyer 35 = .ok (.aload_n 0, 1) := by decide +kernel
theorem dX11_buyer_36 : decode cX11_buyer 36 = .ok (.getfield 28, 3) := by decide +kernel
theorem dX11_buyer_39 : decode cX11_buyer 39 = .ok (.getfield 97, 3) := by decide +kernel
theorem dX11_buyer_42 : decode cX11_buyer 42 = .ok (.iload_n 3, 1) := by decide +kernel
theorem dX11_buyer_43 : decode cX11_buyer 43 = .ok (.aaload, 1) := by decide +kernel
theorem dX11_buyer_44 : decode cX11_buyer 44 = .ok (.iload_n 2, 1) := by decide +kernel
theorem dX11_buyer_45 : decode cX11_buyer 45 = .ok (.invokevirtual 101, 3) := by decide +kernel
theorem dX11_buyer_48 : decode cX11_buyer 48 = .ok (.iload_n 3, 1) := by decide +kernel
theorem dX11_buyer_49 : decode cX11_buyer 49 = .ok (.ireturn, 1) := by decide +kernel
theorem dX11_want_0 : decode cX11_want 0 = .ok (.aload_n 0, 1) := by decide +kernel
theorem dX11_want_1 : decode cX11_want 1 = .ok (.getfield 19, 3) := by decide +kernel
theorem dX11_want_4 : decode cX11_want 4 = .ok (.iload_n 1, 1) := by decide +kernel
theorem dX11_want_5 : decode cX11_want 5 = .ok (.invokevirtual 57, 3) := by decide +kernel
theorem dX11_want_8 : decode cX11_want 8 = .ok (.ifCond .eq 23, 3) := by decide +kernel
theorem dX11_want_11 : decode cX11_want 11 = .ok (.iload_n 2, 1) := by decide +kernel
theorem dX11_want_12 : decode cX11_want 12 = .ok (.bipush 6, 2) := by decide +kernel
theorem dX11_want_14 : decode cX11_want 14 = .ok (.invokestatic 80, 3) := by decide +kernel
theorem dX11_want_17 : decode cX11_want 17 = .ok (.ifCond .eq 14, 3) := by decide +kernel
theorem dX11_want_20 : decode cX11_want 20 = .ok (.iload_n 3, 1) := by decide +kernel
theorem dX11_want_21 : decode cX11_want 21 = .ok (.iconst 0, 1) := by decide +kernel
theorem dX11_want_22 : decode cX11_want 22 = .ok (.sipush 500, 3) := by decide +kernel
theorem dX11_want_25 : decode cX11_want 25 = .ok (.invokestatic 84, 3) := by decide +kernel
theorem dX11_want_28 : decode cX11_want 28 = .ok (.ifCond .ne 5, 3) := by decide +kernel
theorem dX11_want_31 : decode cX11_want 31 = .ok (.iconst 0, 1) := by decide +kernel
theorem dX11_want_32 : decode cX11_want 32 = .ok (.ireturn, 1) := by decide +kernel
theorem dX11_want_33 : decode cX11_want 33 = .ok (.aload_n 0, 1) := by decide +kernel
theorem dX11_want_34 : decode cX11_want 34 = .ok (.getfield 19, 3) := by decide +kernel
theorem dX11_want_37 : decode cX11_want 37 = .ok (.getfield 106, 3) := by decide +kernel
theorem dX11_want_40 : decode cX11_want 40 = .ok (.iload_n 1, 1) := by decide +kernel
theorem dX11_want_41 : decode cX11_want 41 = .ok (.aaload, 1) := by decide +kernel
theorem dX11_want_42 : decode cX11_want 42 = .ok (.getfield 110, 3) := by decide +kernel
theorem dX11_want_45 : decode cX11_want 45 = .ok (.iload_n 2, 1) := by decide +kernel
theorem dX11_want_46 : decode cX11_want 46 = .ok (.iload_n 3, 1) := by decide +kernel
theorem dX11_want_47 : decode cX11_want 47 = .ok (.iastore, 1) := by decide +kernel
theorem dX11_want_48 : decode cX11_want 48 = .ok (.iconst 1, 1) := by decide +kernel
theorem dX11_want_49 : decode cX11_want 49 = .ok (.ireturn, 1) := by decide +kernel
theorem dX11_lorry_0 : decode cX11_lorry 0 = .ok (.aload_n 0, 1) := by decide +kernel
theorem dX11_lorry_1 : decode cX11_lorry 1 = .ok (.getfield 116, 3) := by decide +kernel
theorem dX11_lorry_4 : decode cX11_lorry 4 = .ok (.bipush 6, 2) := by decide +kernel
theorem dX11_lorry_6 : decode cX11_lorry 6 = .ok (.if_icmp .ge 11, 3) := by decide +kernel
theorem dX11_lorry_9 : decode cX11_lorry 9 = .ok (.iload_n 1, 1) := by decide +kernel
theorem dX11_lorry_10 : decode cX11_lorry 10 = .ok (.iconst 4, 1) := by decide +kernel
theorem dX11_lorry_11 : decode cX11_lorry 11 = .ok (.invokestatic 80, 3) := by decide +kernel
theorem dX11_lorry_14 : decode cX11_lorry 14 = .ok (.ifCond .ne 5, 3) := by decide +kernel
theorem dX11_lorry_17 : decode cX11_lorry 17 = .ok (.iconst (-1), 1) := by decide +kernel
theorem dX11_lorry_18 : decode cX11_lorry 18 = .ok (.ireturn, 1) := by decide +kernel
theorem dX11_lorry_19 : decode cX11_lorry 19 = .ok (.iload_n 2, 1) := by decide +kernel
theorem dX11_lorry_20 : decode cX11_lorry 20 = .ok (.iconst 1, 1) := by decide +kernel
theorem dX11_lorry_21 : decode cX11_lorry 21 = .ok (.bipush 60, 2) := by decide +kernel
theorem dX11_lorry_23 : decode cX11_lorry 23 = .ok (.invokestatic 84, 3) := by decide +kernel
theorem dX11_lorry_26 : decode cX11_lorry 26 = .ok (.ifCond .eq 13, 3) := by decide +kernel
theorem dX11_lorry_29 : decode cX11_lorry 29 = .ok (.iload_n 3, 1) := by decide +kernel
theorem dX11_lorry_30 : decode cX11_lorry 30 = .ok (.iconst 0, 1) := by decide +kernel
theorem dX11_lorry_31 : decode cX11_lorry 31 = .ok (.ldc 119, 2) := by decide +kernel
theorem dX11_lorry_33 : decode cX11_lorry 33 = .ok (.invokestatic 84, 3) := by decide +kernel
theorem dX11_lorry_36 : decode cX11_lorry 36 = .ok (.ifCond .ne 5, 3) := by decide +kernel
theorem dX11_lorry_39 : decode cX11_lorry 39 = .ok (.iconst (-1), 1) := by decide +kernel
theorem dX11_lorry_40 : decode cX11_lorry 40 = .ok (.ireturn, 1) := by decide +kernel
theorem dX11_lorry_41 : decode cX11_lorry 41 = .ok (.aload_n 0, 1) := by decide +kernel
theorem dX11_lorry_42 : decode cX11_lorry 42 = .ok (.getfield 116, 3) := by decide +kernel
theorem dX11_lorry_45 : decode cX11_lorry 45 = .ok (.istore 4, 2) := by decide +kernel
theorem dX11_lorry_47 : decode cX11_lorry 47 = .ok (.aload_n 0, 1) := by decide +kernel
theorem dX11_lorry_48 : decode cX11_lorry 48 = .ok (.dup, 1) := by decide +kernel
theorem dX11_lorry_49 : decode cX11_lorry 49 = .ok (.getfield 116, 3) := by decide +kernel
theorem dX11_lorry_52 : decode cX11_lorry 52 = .ok (.iconst 1, 1) := by decide +kernel
theorem dX11_lorry_53 : decode cX11_lorry 53 = .ok (.iadd, 1) := by decide +kernel
theorem dX11_lorry_54 : decode cX11_lorry 54 = .ok (.putfield 116, 3) := by decide +kernel
theorem dX11_lorry_57 : decode cX11_lorry 57 = .ok (.aload_n 0, 1) := by decide +kernel
theorem dX11_lorry_58 : decode cX11_lorry 58 = .ok (.getfield 44, 3) := by decide +kernel
theorem dX11_lorry_61 : decode cX11_lorry 61 = .ok (.iload 4, 2) := by decide +kernel
theorem dX11_lorry_63 : decode cX11_lorry 63 = .ok (.aaload, 1) := by decide +kernel
theorem dX11_lorry_64 : decode cX11_lorry 64 = .ok (.iload_n 1, 1) := by decide +kernel
theorem dX11_lorry_65 : decode cX11_lorry 65 = .ok (.iload_n 2, 1) := by decide +kernel
theorem dX11_lorry_66 : decode cX11_lorry 66 = .ok (.iload_n 3, 1) := by decide +kernel
theorem dX11_lorry_67 : decode cX11_lorry 67 = .ok (.invokevirtual 120, 3) := by decide +kernel
theorem dX11_lorry_70 : decode cX11_lorry 70 = .ok (.aload_n 0, 1) := by decide +kernel
theorem dX11_lorry_71 : decode cX11_lorry 71 = .ok (.getfield 76, 3) := by decide +kernel
theorem dX11_lorry_74 : decode cX11_lorry 74 = .ok (.ifCond .eq 27, 3) := by decide +kernel
theorem dX11_lorry_77 : decode cX11_lorry 77 = .ok (.aload_n 0, 1) := by decide +kernel
theorem dX11_lorry_78 : decode cX11_lorry 78 = .ok (.getfield 38, 3) := by decide +kernel
theorem dX11_lorry_81 : decode cX11_lorry 81 = .ok (.aload_n 0, 1) := by decide +kernel
theorem dX11_lorry_82 : decode cX11_lorry 82 = .ok (.getfield 44, 3) := by decide +kernel
theorem dX11_lorry_85 : decode cX11_lorry 85 = .ok (.iload 4, 2) := by decide +kernel
theorem dX11_lorry_87 : decode cX11_lorry 87 = .ok (.aaload, 1) := by decide +kernel
theorem dX11_lorry_88 : decode cX11_lorry 88 = .ok (.iload 4, 2) := by decide +kernel
theorem dX11_lorry_90 : decode cX11_lorry 90 = .ok (.aload_n 0, 1) := by decide +kernel
theorem dX11_lorry_91 : decode cX11_lorry 91 = .ok (.getfield 19, 3) := by decide +kernel
theorem dX11_lorry_94 : decode cX11_lorry 94 = .ok (.aload_n 0, 1) := by decide +kernel
theorem dX11_lorry_95 : decode cX11_lorry 95 = .ok (.getfield 28, 3) := by decide +kernel
theorem dX11_lorry_98 : decode cX11_lorry 98 = .ok (.invokevirtual 124, 3) := by decide +kernel
theorem dX11_lorry_101 : decode cX11_lorry 101 = .ok (.iload 4, 2) := by decide +kernel
theorem dX11_lorry_103 : decode cX11_lorry 103 = .ok (.ireturn, 1) := by decide +kernel
theorem dX11_sale_0 : decode cX11_sale 0 = .ok (.aload_n 0, 1) := by decide +kernel
theorem dX11_sale_1 : decode cX11_sale 1 = .ok (.getfield 76, 3) := by decide +kernel
theorem dX11_sale_4 : decode cX11_sale 4 = .ok (.ifCond .eq 6, 3) := by decide +kernel
theorem dX11_sale_7 : decode cX11_sale 7 = .ok (.bipush (-2), 2) := by decide +kernel
theorem dX11_sale_9 : decode cX11_sale 9 = .ok (.ireturn, 1) := by decide +kernel
theorem dX11_sale_10 : decode cX11_sale 10 = .ok (.aload_n 0, 1) := by decide +kernel
theorem dX11_sale_11 : decode cX11_sale 11 = .ok (.iconst 1, 1) := by decide +kernel
theorem dX11_sale_12 : decode cX11_sale 12 = .ok (.putfield 76, 3) := by decide +kernel
theorem dX11_sale_15 : decode cX11_sale 15 = .ok (.aload_n 0, 1) := by decide +kernel
theorem dX11_sale_16 : decode cX11_sale 16 = .ok (.getfield 28, 3) := by decide +kernel
theorem dX11_sale_19 : decode cX11_sale 19 = .ok (.iconst (-1), 1) := by decide +kernel
theorem dX11_sale_20 : decode cX11_sale 20 = .ok (.invokevirtual 128, 3) := by decide +kernel
theorem dX11_sale_23 : decode cX11_sale 23 = .ok (.iconst 0, 1) := by decide +kernel
theorem dX11_sale_24 : decode cX11_sale 24 = .ok (.istore_n 1, 1) := by decide +kernel
theorem dX11_sale_25 : decode cX11_sale 25 = .ok (.iload_n 1, 1) := by decide +kernel
theorem dX11_sale_26 : decode cX11_sale 26 = .ok (.aload_n 0, 1) := by decide +kernel
theorem dX11_sale_27 : decode cX11_sale 27 = .ok (.getfield 116, 3) := by decide +kernel
theorem dX11_sale_30 : decode cX11_sale 30 = .ok (.if_icmp .ge 31, 3) := by decide +kernel
theorem dX11_sale_33 : decode cX11_sale 33 = .ok (.aload_n 0, 1) := by decide +kernel
theorem dX11_sale_34 : decode cX11_sale 34 = .ok (.getfield 38, 3) := by decide +kernel
theorem dX11_sale_37 : decode cX11_sale 37 = .ok (.aload_n 0, 1) := by decide +kernel
theorem dX11_sale_38 : decode cX11_sale 38 = .ok (.getfield 44, 3) := by decide +kernel
theorem dX11_sale_41 : decode cX11_sale 41 = .ok (.iload_n 1, 1) := by decide +kernel
theorem dX11_sale_42 : decode cX11_sale 42 = .ok (.aaload, 1) := by decide +kernel
theorem dX11_sale_43 : decode cX11_sale 43 = .ok (.iload_n 1, 1) := by decide +kernel
theorem dX11_sale_44 : decode cX11_sale 44 = .ok (.aload_n 0, 1) := by decide +kernel
theorem dX11_sale_45 : decode cX11_sale 45 = .ok (.getfield 19, 3) := by decide +kernel
theorem dX11_sale_48 : decode cX11_sale 48 = .ok (.aload_n 0, 1) := by decide +kernel
theorem dX11_sale_49 : decode cX11_sale 49 = .ok (.getfield 28, 3) := by decide +kernel
theorem dX11_sale_52 : decode cX11_sale 52 = .ok (.invokevirtual 124, 3) := by decide +kernel
theorem dX11_sale_55 : decode cX11_sale 55 = .ok (.iinc 1 1, 3) := by decide +kernel
theorem dX11_sale_58 : decode cX11_sale 58 = .ok (.goto (-33), 3) := by decide +kernel
theorem dX11_sale_61 : decode cX11_sale 61 = .ok (.aload_n 0, 1) := by decide +kernel
theorem dX11_sale_62 : decode cX11_sale 62 = .ok (.getfield 28, 3) := by decide +kernel
theorem dX11_sale_65 : decode cX11_sale 65 = .ok (.getfield 131, 3) := by decide +kernel
theorem dX11_sale_68 : decode cX11_sale 68 = .ok (.ireturn, 1) := by decide +kernel
theorem dX11_day_0 : decode cX11_day 0 = .ok (.aload_n 0, 1) := by decide +kernel
theorem dX11_day_1 : decode cX11_day 1 = .ok (.getfield 76, 3) := by decide +kernel
theorem dX11_day_4 : decode cX11_day 4 = .ok (.ifCond .ne 5, 3) := by decide +kernel
theorem dX11_day_7 : decode cX11_day 7 = .ok (.iconst (-1), 1) := by decide +kernel
theorem dX11_day_8 : decode cX11_day 8 = .ok (.ireturn, 1) := by decide +kernel
theorem dX11_day_9 : decode cX11_day 9 = .ok (.aload_n 0, 1) := by decide +kernel
theorem dX11_day_10 : decode cX11_day 10 = .ok (.getfield 28, 3) := by decide +kernel
theorem dX11_day_13 : decode cX11_day 13 = .ok (.invokevirtual 134, 3) := by decide +kernel
theorem dX11_day_16 : decode cX11_day 16 = .ok (.aload_n 0, 1) := by decide +kernel
theorem dX11_day_17 : decode cX11_day 17 = .ok (.getfield 19, 3) := by decide +kernel
theorem dX11_day_20 : decode cX11_day 20 = .ok (.iconst 0, 1) := by decide +kernel
theorem dX11_day_21 : decode cX11_day 21 = .ok (.putfield 137, 3) := by decide +kernel
theorem dX11_day_24 : decode cX11_day 24 = .ok (.aload_n 0, 1) := by decide +kernel
theorem dX11_day_25 : decode cX11_day 25 = .ok (.getfield 28, 3) := by decide +kernel
theorem dX11_day_28 : decode cX11_day 28 = .ok (.invokevirtual 140, 3) := by decide +kernel
theorem dX11_day_31 : decode cX11_day 31 = .ok (.aload_n 0, 1) := by decide +kernel
theorem dX11_day_32 : decode cX11_day 32 = .ok (.iconst 0, 1) := by decide +kernel
theorem dX11_day_33 : decode cX11_day 33 = .ok (.putfield 76, 3) := by decide +kernel
theorem dX11_day_36 : decode cX11_day 36 = .ok (.aload_n 0, 1) := by decide +kernel
theorem dX11_day_37 : decode cX11_day 37 = .ok (.dup, 1) := by decide +kernel
theorem dX11_day_38 : decode cX11_day 38 = .ok (.getfield 143, 3) := by decide +kernel
theorem dX11_day_41 : decode cX11_day 41 = .ok (.iconst 1, 1) := by decide +kernel
theorem dX11_day_42 : decode cX11_day 42 = .ok (.iadd, 1) := by decide +kernel
theorem dX11_day_43 : decode cX11_day 43 = .ok (.putfield 143, 3) := by decide +kernel
theorem dX11_day_46 : decode cX11_day 46 = .ok (.aload_n 0, 1) := by decide +kernel
theorem dX11_day_47 : decode cX11_day 47 = .ok (.getfield 143, 3) := by decide +kernel
theorem dX11_day_50 : decode cX11_day 50 = .ok (.ireturn, 1) := by decide +kernel
theorem dX11_told_0 : decode cX11_told 0 = .ok (.aload_n 0, 1) := by decide +kernel
theorem dX11_told_1 : decode cX11_told 1 = .ok (.getfield 76, 3) := by decide +kernel
theorem dX11_told_4 : decode cX11_told 4 = .ok (.ifCond .eq 14, 3) := by decide +kernel
theorem dX11_told_7 : decode cX11_told 7 = .ok (.aload_n 0, 1) := by decide +kernel
theorem dX11_told_8 : decode cX11_told 8 = .ok (.getfield 19, 3) := by decide +kernel
theorem dX11_told_11 : decode cX11_told 11 = .ok (.iload_n 1, 1) := by decide +kernel
theorem dX11_told_12 : decode cX11_told 12 = .ok (.invokevirtual 146, 3) := by decide +kernel
theorem dX11_told_15 : decode cX11_told 15 = .ok (.ifCond .ne 5, 3) := by decide +kernel
theorem dX11_told_18 : decode cX11_told 18 = .ok (.iconst (-1), 1) := by decide +kernel
theorem dX11_told_19 : decode cX11_told 19 = .ok (.ireturn, 1) := by decide +kernel
theorem dX11_told_20 : decode cX11_told 20 = .ok (.aload_n 0, 1) := by decide +kernel
theorem dX11_told_21 : decode cX11_told 21 = .ok (.getfield 28, 3) := by decide +kernel
theorem dX11_told_24 : decode cX11_told 24 = .ok (.getfield 149, 3) := by decide +kernel
theorem dX11_told_27 : decode cX11_told 27 = .ok (.iload_n 1, 1) := by decide +kernel
theorem dX11_told_28 : decode cX11_told 28 = .ok (.aaload, 1) := by decide +kernel
theorem dX11_told_29 : decode cX11_told 29 = .ok (.iload_n 2, 1) := by decide +kernel
theorem dX11_told_30 : decode cX11_told 30 = .ok (.invokevirtual 153, 3) := by decide +kernel
theorem dX11_told_33 : decode cX11_told 33 = .ok (.ireturn, 1) := by decide +kernel
theorem dX11_limit_0 : decode cX11_limit 0 = .ok (.aload_n 0, 1) := by decide +kernel
theorem dX11_limit_1 : decode cX11_limit 1 = .ok (.getfield 19, 3) := by decide +kernel
theorem dX11_limit_4 : decode cX11_limit 4 = .ok (.iload_n 1, 1) := by decide +kernel
theorem dX11_limit_5 : decode cX11_limit 5 = .ok (.invokevirtual 57, 3) := by decide +kernel
theorem dX11_limit_8 : decode cX11_limit 8 = .ok (.ifCond .eq 14, 3) := by decide +kernel
theorem dX11_limit_11 : decode cX11_limit 11 = .ok (.aload_n 0, 1) := by decide +kernel
theorem dX11_limit_12 : decode cX11_limit 12 = .ok (.getfield 19, 3) := by decide +kernel
theorem dX11_limit_15 : decode cX11_limit 15 = .ok (.iload_n 2, 1) := by decide +kernel
theorem dX11_limit_16 : decode cX11_limit 16 = .ok (.invokevirtual 146, 3) := by decide +kernel
theorem dX11_limit_19 : decode cX11_limit 19 = .ok (.ifCond .ne 5, 3) := by decide +kernel
theorem dX11_limit_22 : decode cX11_limit 22 = .ok (.iconst (-1), 1) := by decide +kernel
theorem dX11_limit_23 : decode cX11_limit 23 = .ok (.ireturn, 1) := by decide +kernel
theorem dX11_limit_24 : decode cX11_limit 24 = .ok (.aload_n 0, 1) := by decide +kernel
theorem dX11_limit_25 : decode cX11_limit 25 = .ok (.getfield 19, 3) := by decide +kernel
theorem dX11_limit_28 : decode cX11_limit 28 = .ok (.iload_n 1, 1) := by decide +kernel
theorem dX11_limit_29 : decode cX11_limit 29 = .ok (.iload_n 2, 1) := by decide +kernel
theorem dX11_limit_30 : decode cX11_limit 30 = .ok (.aload_n 0, 1) := by decide +kernel
theorem dX11_limit_31 : decode cX11_limit 31 = .ok (.getfield 28, 3) := by decide +kernel
theorem dX11_limit_34 : decode cX11_limit 34 = .ok (.getfield 97, 3) := by decide +kernel
theorem dX11_limit_37 : decode cX11_limit 37 = .ok (.iload_n 1, 1) := by decide +kernel
theorem dX11_limit_38 : decode cX11_limit 38 = .ok (.aaload, 1) := by decide +kernel
theorem dX11_limit_39 : decode cX11_limit 39 = .ok (.invokevirtual 159, 3) := by decide +kernel
theorem dX11_limit_42 : decode cX11_limit 42 = .ok (.ireturn, 1) := by decide +kernel
theorem dX11_rule_0 : decode cX11_rule 0 = .ok (.aload_n 0, 1) := by decide +kernel
theorem dX11_rule_1 : decode cX11_rule 1 = .ok (.getfield 19, 3) := by decide +kernel
theorem dX11_rule_4 : decode cX11_rule 4 = .ok (.iload_n 1, 1) := by decide +kernel
theorem dX11_rule_5 : decode cX11_rule 5 = .ok (.invokevirtual 57, 3) := by decide +kernel
theorem dX11_rule_8 : decode cX11_rule 8 = .ok (.ifCond .eq 14, 3) := by decide +kernel
theorem dX11_rule_11 : decode cX11_rule 11 = .ok (.aload_n 0, 1) := by decide +kernel
theorem dX11_rule_12 : decode cX11_rule 12 = .ok (.getfield 19, 3) := by decide +kernel
theorem dX11_rule_15 : decode cX11_rule 15 = .ok (.iload_n 2, 1) := by decide +kernel
theorem dX11_rule_16 : decode cX11_rule 16 = .ok (.invokevirtual 146, 3) := by decide +kernel
theorem dX11_rule_19 : decode cX11_rule 19 = .ok (.ifCond .ne 5, 3) := by decide +kernel
theorem dX11_rule_22 : decode cX11_rule 22 = .ok (.iconst (-1), 1) := by decide +kernel
theorem dX11_rule_23 : decode cX11_rule 23 = .ok (.ireturn, 1) := by decide +kernel
theorem dX11_rule_24 : decode cX11_rule 24 = .ok (.aload_n 0, 1) := by decide +kernel
theorem dX11_rule_25 : decode cX11_rule 25 = .ok (.getfield 19, 3) := by decide +kernel
theorem dX11_rule_28 : decode cX11_rule 28 = .ok (.iload_n 1, 1) := by decide +kernel
theorem dX11_rule_29 : decode cX11_rule 29 = .ok (.iload_n 2, 1) := by decide +kernel
theorem dX11_rule_30 : decode cX11_rule 30 = .ok (.aload_n 0, 1) := by decide +kernel
theorem dX11_rule_31 : decode cX11_rule 31 = .ok (.getfield 28, 3) := by decide +kernel
theorem dX11_rule_34 : decode cX11_rule 34 = .ok (.getfield 97, 3) := by decide +kernel
theorem dX11_rule_37 : decode cX11_rule 37 = .ok (.iload_n 1, 1) := by decide +kernel
theorem dX11_rule_38 : decode cX11_rule 38 = .ok (.aaload, 1) := by decide +kernel
theorem dX11_rule_39 : decode cX11_rule 39 = .ok (.invokevirtual 163, 3) := by decide +kernel
theorem dX11_rule_42 : decode cX11_rule 42 = .ok (.ireturn, 1) := by decide +kernel
theorem dX11_bought_0 : decode cX11_bought 0 = .ok (.aload_n 0, 1) := by decide +kernel
theorem dX11_bought_1 : decode cX11_bought 1 = .ok (.getfield 19, 3) := by decide +kernel
theorem dX11_bought_4 : decode cX11_bought 4 = .ok (.iload_n 1, 1) := by decide +kernel
theorem dX11_bought_5 : decode cX11_bought 5 = .ok (.invokevirtual 57, 3) := by decide +kernel
theorem dX11_bought_8 : decode cX11_bought 8 = .ok (.ifCond .ne 5, 3) := by decide +kernel
theorem dX11_bought_11 : decode cX11_bought 11 = .ok (.iconst (-1), 1) := by decide +kernel
theorem dX11_bought_12 : decode cX11_bought 12 = .ok (.ireturn, 1) := by decide +kernel
theorem dX11_bought_13 : decode cX11_bought 13 = .ok (.aload_n 0, 1) := by decide +kernel
theorem dX11_bought_14 : decode cX11_bought 14 = .ok (.getfield 28, 3) := by decide +kernel
theorem dX11_bought_17 : decode cX11_bought 17 = .ok (.getfield 97, 3) := by decide +kernel
theorem dX11_bought_20 : decode cX11_bought 20 = .ok (.iload_n 1, 1) := by decide +kernel
theorem dX11_bought_21 : decode cX11_bought 21 = .ok (.aaload, 1) := by decide +kernel
theorem dX11_bought_22 : decode cX11_bought 22 = .ok (.astore_n 3, 1) := by decide +kernel
theorem dX11_bought_23 : decode cX11_bought 23 = .ok (.iload_n 2, 1) := by decide +kernel
theorem dX11_bought_24 : decode cX11_bought 24 = .ok (.bipush 10, 2) := by decide +kernel
theorem dX11_bought_26 : decode cX11_bought 26 = .ok (.isub, 1) := by decide +kernel
theorem dX11_bought_27 : decode cX11_bought 27 = .ok (.bipush 6, 2) := by decide +kernel
theorem dX11_bought_29 : decode cX11_bought 29 = .ok (.invokestatic 80, 3) := by decide +kernel
theorem dX11_bought_32 : decode cX11_bought 32 = .ok (.ifCond .eq 13, 3) := by decide +kernel
theorem dX11_bought_35 : decode cX11_bought 35 = .ok (.aload_n 3, 1) := by decide +kernel
theorem dX11_bought_36 : decode cX11_bought 36 = .ok (.getfield 166, 3) := by decide +kernel
theorem dX11_bought_39 : decode cX11_bought 39 = .ok (.iload_n 2, 1) := by decide +kernel
theorem dX11_bought_40 : decode cX11_bought 40 = .ok (.bipush 10, 2) := by decide +kernel
theorem dX11_bought_42 : decode cX11_bought 42 = .ok (.isub, 1) := by decide +kernel
theorem dX11_bought_43 : decode cX11_bought 43 = .ok (.iaload, 1) := by decide +kernel
theorem dX11_bought_44 : decode cX11_bought 44 = .ok (.ireturn, 1) := by decide +kernel
theorem dX11_bought_45 : decode cX11_bought 45 = .ok (.iload_n 2, 1) := by decide +kernel
theorem dX11_bought_46 : decode cX11_bought 46 = .ok (.bipush 20, 2) := by decide +kernel
theorem dX11_bought_48 : decode cX11_bought 48 = .ok (.isub, 1) := by decide +kernel
theorem dX11_bought_49 : decode cX11_bought 49 = .ok (.bipush 6, 2) := by decide +kernel
theorem dX11_bought_51 : decode cX11_bought 51 = .ok (.invokestatic 80, 3) := by decide +kernel
theorem dX11_bought_54 : decode cX11_bought 54 = .ok (.ifCond .eq 17, 3) := by decide +kernel
theorem dX11_bought_57 : decode cX11_bought 57 = .ok (.aload_n 0, 1) := by decide +kernel
theorem dX11_bought_58 : decode cX11_bought 58 = .ok (.getfield 19, 3) := by decide +kernel
theorem dX11_bought_61 : decode cX11_bought 61 = .ok (.iload_n 1, 1) := by decide +kernel
theorem dX11_bought_62 : decode cX11_bought 62 = .ok (.iload_n 2, 1) := by decide +kernel
theorem dX11_bought_63 : decode cX11_bought 63 = .ok (.bipush 20, 2) := by decide +kernel
theorem dX11_bought_65 : decode cX11_bought 65 = .ok (.isub, 1) := by decide +kernel
theorem dX11_bought_66 : decode cX11_bought 66 = .ok (.aload_n 3, 1) := by decide +kernel
theorem dX11_bought_67 : decode cX11_bought 67 = .ok (.invokevirtual 169, 3) := by decide +kernel
theorem dX11_bought_70 : decode cX11_bought 70 = .ok (.ireturn, 1) := by decide +kernel
theorem dX11_bought_71 : decode cX11_bought 71 = .ok (.iload_n 2, 1) := by decide +kernel
theorem dX11_bought_72 : decode cX11_bought 72 = .ok (.tableswitch 43 0 2 #[28, 33, 38], 28) := by decide +kernel
theorem dX11_bought_100 : decode cX11_bought 100 = .ok (.aload_n 3, 1) := by decide +kernel
theorem dX11_bought_101 : decode cX11_bought 101 = .ok (.getfield 172, 3) := by decide +kernel
theorem dX11_bought_104 : decode cX11_bought 104 = .ok (.ireturn, 1) := by decide +kernel
theorem dX11_bought_105 : decode cX11_bought 105 = .ok (.aload_n 3, 1) := by decide +kernel
theorem dX11_bought_106 : decode cX11_bought 106 = .ok (.getfield 175, 3) := by decide +kernel
theorem dX11_bought_109 : decode cX11_bought 109 = .ok (.ireturn, 1) := by decide +kernel
theorem dX11_bought_110 : decode cX11_bought 110 = .ok (.aload_n 3, 1) := by decide +kernel
theorem dX11_bought_111 : decode cX11_bought 111 = .ok (.getfield 178, 3) := by decide +kernel
theorem dX11_bought_114 : decode cX11_bought 114 = .ok (.ireturn, 1) := by decide +kernel
theorem dX11_bought_115 : decode cX11_bought 115 = .ok (.iconst (-1), 1) := by decide +kernel
theorem dX11_bought_116 : decode cX11_bought 116 = .ok (.ireturn, 1) := by decide +kernel
theorem dX11_last_0 : decode cX11_last 0 = .ok (.iload_n 1, 1) := by decide +kernel
theorem dX11_last_1 : decode cX11_last 1 = .ok (.bipush 6, 2) := by decide +kernel
theorem dX11_last_3 : decode cX11_last 3 = .ok (.invokestatic 80, 3) := by decide +kernel
theorem dX11_last_6 : decode cX11_last 6 = .ok (.ifCond .eq 15, 3) := by decide +kernel
theorem dX11_last_9 : decode cX11_last 9 = .ok (.aload_n 0, 1) := by decide +kernel
theorem dX11_last_10 : decode cX11_last 10 = .ok (.getfield 19, 3) := by decide +kernel
theorem dX11_last_13 : decode cX11_last 13 = .ok (.getfield 181, 3) := by decide +kernel
theorem dX11_last_16 : decode cX11_last 16 = .ok (.iload_n 1, 1) := by decide +kernel
theorem dX11_last_17 : decode cX11_last 17 = .ok (.iaload, 1) := by decide +kernel
theorem dX11_last_18 : decode cX11_last 18 = .ok (.goto 4, 3) := by decide +kernel
theorem dX11_last_21 : decode cX11_last 21 = .ok (.iconst 0, 1) := by decide +kernel
theorem dX11_last_22 : decode cX11_last 22 = .ok (.ireturn, 1) := by decide +kernel
theorem dX11_gets_0 : decode cX11_gets 0 = .ok (.aload_n 0, 1) := by decide +kernel
theorem dX11_gets_1 : decode cX11_gets 1 = .ok (.getfield 76, 3) := by decide +kernel
theorem dX11_gets_4 : decode cX11_gets 4 = .ok (.ifCond .eq 23, 3) := by decide +kernel
theorem dX11_gets_7 : decode cX11_gets 7 = .ok (.iload_n 1, 1) := by decide +kernel
theorem dX11_gets_8 : decode cX11_gets 8 = .ok (.bipush 6, 2) := by decide +kernel
theorem dX11_gets_10 : decode cX11_gets 10 = .ok (.invokestatic 80, 3) := by decide +kernel
theorem dX11_gets_13 : decode cX11_gets 13 = .ok (.ifCond .eq 14, 3) := by decide +kernel
theorem dX11_gets_16 : decode cX11_gets 16 = .ok (.aload_n 0, 1) := by decide +kernel
theorem dX11_gets_17 : decode cX11_gets 17 = .ok (.getfield 28, 3) := by decide +kernel
theorem dX11_gets_20 : decode cX11_gets 20 = .ok (.iload_n 1, 1) := by decide +kernel
theorem dX11_gets_21 : decode cX11_gets 21 = .ok (.invokevirtual 184, 3) := by decide +kernel
theorem dX11_gets_24 : decode cX11_gets 24 = .ok (.goto 4, 3) := by decide +kernel
theorem dX11_gets_27 : decode cX11_gets 27 = .ok (.iconst (-1), 1) := by decide +kernel
theorem dX11_gets_28 : decode cX11_gets 28 = .ok (.ireturn, 1) := by decide +kernel
theorem dX11_sum_0 : decode cX11_sum 0 = .ok (.aload_n 0, 1) := by decide +kernel
theorem dX11_sum_1 : decode cX11_sum 1 = .ok (.getfield 76, 3) := by decide +kernel
theorem dX11_sum_4 : decode cX11_sum 4 = .ok (.ifCond .eq 14, 3) := by decide +kernel
theorem dX11_sum_7 : decode cX11_sum 7 = .ok (.aload_n 0, 1) := by decide +kernel
theorem dX11_sum_8 : decode cX11_sum 8 = .ok (.getfield 28, 3) := by decide +kernel
theorem dX11_sum_11 : decode cX11_sum 11 = .ok (.iload_n 1, 1) := by decide +kernel
theorem dX11_sum_12 : decode cX11_sum 12 = .ok (.invokevirtual 187, 3) := by decide +kernel
theorem dX11_sum_15 : decode cX11_sum 15 = .ok (.goto 4, 3) := by decide +kernel
theorem dX11_sum_18 : decode cX11_sum 18 = .ok (.iconst (-1), 1) := by decide +kernel
theorem dX11_sum_19 : decode cX11_sum 19 = .ok (.ireturn, 1) := by decide +kernel
theorem dX11_without_0 : decode cX11_without 0 = .ok (.aload_n 0, 1) := by decide +kernel
theorem dX11_without_1 : decode cX11_without 1 = .ok (.getfield 76, 3) := by decide +kernel
theorem dX11_without_4 : decode cX11_without 4 = .ok (.ifCond .eq 14, 3) := by decide +kernel
theorem dX11_without_7 : decode cX11_without 7 = .ok (.aload_n 0, 1) := by decide +kernel
theorem dX11_without_8 : decode cX11_without 8 = .ok (.getfield 19, 3) := by decide +kernel
theorem dX11_without_11 : decode cX11_without 11 = .ok (.iload_n 1, 1) := by decide +kernel
theorem dX11_without_12 : decode cX11_without 12 = .ok (.invokevirtual 57, 3) := by decide +kernel
theorem dX11_without_15 : decode cX11_without 15 = .ok (.ifCond .ne 5, 3) := by decide +kernel
theorem dX11_without_18 : decode cX11_without 18 = .ok (.iconst (-1), 1) := by decide +kernel
theorem dX11_without_19 : decode cX11_without 19 = .ok (.ireturn, 1) := by decide +kernel
theorem dX11_without_20 : decode cX11_without 20 = .ok (.aload_n 0, 1) := by decide +kernel
theorem dX11_without_21 : decode cX11_without 21 = .ok (.getfield 32, 3) := by decide +kernel
theorem dX11_without_24 : decode cX11_without 24 = .ok (.iload_n 1, 1) := by decide +kernel
theorem dX11_without_25 : decode cX11_without 25 = .ok (.invokevirtual 128, 3) := by decide +kernel
theorem dX11_without_28 : decode cX11_without 28 = .ok (.aload_n 0, 1) := by decide +kernel
theorem dX11_without_29 : decode cX11_without 29 = .ok (.getfield 32, 3) := by decide +kernel
theorem dX11_without_32 : decode cX11_without 32 = .ok (.invokevirtual 190, 3) := by decide +kernel
theorem dX11_without_35 : decode cX11_without 35 = .ok (.ireturn, 1) := by decide +kernel
theorem dX11_load_0 : decode cX11_load 0 = .ok (.aload_n 0, 1) := by decide +kernel
theorem dX11_load_1 : decode cX11_load 1 = .ok (.getfield 76, 3) := by decide +kernel
theorem dX11_load_4 : decode cX11_load 4 = .ok (.ifCond .eq 15, 3) := by decide +kernel
theorem dX11_load_7 : decode cX11_load 7 = .ok (.iload_n 1, 1) := by decide +kernel
theorem dX11_load_8 : decode cX11_load 8 = .ok (.ifCond .lt 11, 3) := by decide +kernel
theorem dX11_load_11 : decode cX11_load 11 = .ok (.iload_n 1, 1) := by decide +kernel
theorem dX11_load_12 : decode cX11_load 12 = .ok (.aload_n 0, 1) := by decide +kernel
theorem dX11_load_13 : decode cX11_load 13 = .ok (.getfield 116, 3) := by decide +kernel
theorem dX11_load_16 : decode cX11_load 16 = .ok (.if_icmp .lt 5, 3) := by decide +kernel
theorem dX11_load_19 : decode cX11_load 19 = .ok (.iconst (-1), 1) := by decide +kernel
theorem dX11_load_20 : decode cX11_load 20 = .ok (.ireturn, 1) := by decide +kernel
theorem dX11_load_21 : decode cX11_load 21 = .ok (.aload_n 0, 1) := by decide +kernel
theorem dX11_load_22 : decode cX11_load 22 = .ok (.getfield 44, 3) := by decide +kernel
theorem dX11_load_25 : decode cX11_load 25 = .ok (.iload_n 1, 1) := by decide +kernel
theorem dX11_load_26 : decode cX11_load 26 = .ok (.aaload, 1) := by decide +kernel
theorem dX11_load_27 : decode cX11_load 27 = .ok (.iload_n 2, 1) := by decide +kernel
theorem dX11_load_28 : decode cX11_load 28 = .ok (.invokevirtual 193, 3) := by decide +kernel
theorem dX11_load_31 : decode cX11_load 31 = .ok (.ireturn, 1) := by decide +kernel
theorem dX11_stays_0 : decode cX11_stays 0 = .ok (.aload_n 0, 1) := by decide +kernel
theorem dX11_stays_1 : decode cX11_stays 1 = .ok (.getfield 76, 3) := by decide +kernel
theorem dX11_stays_4 : decode cX11_stays 4 = .ok (.ifCond .eq 22, 3) := by decide +kernel
theorem dX11_stays_7 : decode cX11_stays 7 = .ok (.iload_n 1, 1) := by decide +kernel
theorem dX11_stays_8 : decode cX11_stays 8 = .ok (.iconst 4, 1) := by decide +kernel
theorem dX11_stays_9 : decode cX11_stays 9 = .ok (.invokestatic 80, 3) := by decide +kernel
theorem dX11_stays_12 : decode cX11_stays 12 = .ok (.ifCond .eq 14, 3) := by decide +kernel
theorem dX11_stays_15 : decode cX11_stays 15 = .ok (.aload_n 0, 1) := by decide +kernel
theorem dX11_stays_16 : decode cX11_stays 16 = .ok (.getfield 28, 3) := by decide +kernel
theorem dX11_stays_19 : decode cX11_stays 19 = .ok (.iload_n 1, 1) := by decide +kernel
theorem dX11_stays_20 : decode cX11_stays 20 = .ok (.invokevirtual 194, 3) := by decide +kernel
theorem dX11_stays_23 : decode cX11_stays 23 = .ok (.goto 4, 3) := by decide +kernel
theorem dX11_stays_26 : decode cX11_stays 26 = .ok (.iconst (-1), 1) := by decide +kernel
theorem dX11_stays_27 : decode cX11_stays 27 = .ok (.ireturn, 1) := by decide +kernel
theorem dX11_count_0 : decode cX11_count 0 = .ok (.iload_n 1, 1) := by decide +kernel
theorem dX11_count_1 : decode cX11_count 1 = .ok (.tableswitch 101 0 6 #[43, 51, 59, 64, 69, 82, 93], 43) := by decide +kernel
theorem dX11_count_44 : decode cX11_count 44 = .ok (.aload_n 0, 1) := by decide +kernel
theorem dX11_count_45 : decode cX11_count 45 = .ok (.getfield 19, 3) := by decide +kernel
theorem dX11_count_48 : decode cX11_count 48 = .ok (.getfield 137, 3) := by decide +kernel
theorem dX11_count_51 : decode cX11_count 51 = .ok (.ireturn, 1) := by decide +kernel
theorem dX11_count_52 : decode cX11_count 52 = .ok (.aload_n 0, 1) := by decide +kernel
theorem dX11_count_53 : decode cX11_count 53 = .ok (.getfield 19, 3) := by decide +kernel
theorem dX11_count_56 : decode cX11_count 56 = .ok (.getfield 197, 3) := by decide +kernel
theorem dX11_count_59 : decode cX11_count 59 = .ok (.ireturn, 1) := by decide +kernel
theorem dX11_count_60 : decode cX11_count 60 = .ok (.aload_n 0, 1) := by decide +kernel
theorem dX11_count_61 : decode cX11_count 61 = .ok (.getfield 116, 3) := by decide +kernel
theorem dX11_count_64 : decode cX11_count 64 = .ok (.ireturn, 1) := by decide +kernel
theorem dX11_count_65 : decode cX11_count 65 = .ok (.aload_n 0, 1) := by decide +kernel
theorem dX11_count_66 : decode cX11_count 66 = .ok (.getfield 143, 3) := by decide +kernel
theorem dX11_count_69 : decode cX11_count 69 = .ok (.ireturn, 1) := by decide +kernel
theorem dX11_count_70 : decode cX11_count 70 = .ok (.aload_n 0, 1) := by decide +kernel
theorem dX11_count_71 : decode cX11_count 71 = .ok (.getfield 76, 3) := by decide +kernel
theorem dX11_count_74 : decode cX11_count 74 = .ok (.ifCond .eq 7, 3) := by decide +kernel
theorem dX11_count_77 : decode cX11_count 77 = .ok (.iconst 1, 1) := by decide +kernel
theorem dX11_count_78 : decode cX11_count 78 = .ok (.goto 4, 3) := by decide +kernel
theorem dX11_count_81 : decode cX11_count 81 = .ok (.iconst 0, 1) := by decide +kernel
theorem dX11_count_82 : decode cX11_count 82 = .ok (.ireturn, 1) := by decide +kernel
theorem dX11_count_83 : decode cX11_count 83 = .ok (.aload_n 0, 1) := by decide +kernel
theorem dX11_count_84 : decode cX11_count 84 = .ok (.getfield 19, 3) := by decide +kernel
theorem dX11_count_87 : decode cX11_count 87 = .ok (.getfield 200, 3) := by decide +kernel
theorem dX11_count_90 : decode cX11_count 90 = .ok (.getfield 201, 3) := by decide +kernel
theorem dX11_count_93 : decode cX11_count 93 = .ok (.ireturn, 1) := by decide +kernel
theorem dX11_count_94 : decode cX11_count 94 = .ok (.aload_n 0, 1) := by decide +kernel
theorem dX11_count_95 : decode cX11_count 95 = .ok (.getfield 10, 3) := by decide +kernel
theorem dX11_count_98 : decode cX11_count 98 = .ok (.getfield 49, 3) := by decide +kernel
theorem dX11_count_101 : decode cX11_count 101 = .ok (.ireturn, 1) := by decide +kernel
theorem dX11_count_102 : decode cX11_count 102 = .ok (.iconst (-1), 1) := by decide +kernel
theorem dX11_count_103 : decode cX11_count 103 = .ok (.ireturn, 1) := by decide +kernel
theorem dX11_isBelow_0 : decode cX11_isBelow 0 = .ok (.iload_n 0, 1) := by decide +kernel
theorem dX11_isBelow_1 : decode cX11_isBelow 1 = .ok (.ifCond .lt 12, 3) := by decide +kernel
theorem dX11_isBelow_4 : decode cX11_isBelow 4 = .ok (.iload_n 0, 1) := by decide +kernel
theorem dX11_isBelow_5 : decode cX11_isBelow 5 = .ok (.iload_n 1, 1) := by decide +kernel
theorem dX11_isBelow_6 : decode cX11_isBelow 6 = .ok (.if_icmp .ge 7, 3) := by decide +kernel
theorem dX11_isBelow_9 : decode cX11_isBelow 9 = .ok (.iconst 1, 1) := by decide +kernel
theorem dX11_isBelow_10 : decode cX11_isBelow 10 = .ok (.goto 4, 3) := by decide +kernel
theorem dX11_isBelow_13 : decode cX11_isBelow 13 = .ok (.iconst 0, 1) := by decide +kernel
theorem dX11_isBelow_14 : decode cX11_isBelow 14 = .ok (.ireturn, 1) := by decide +kernel
theorem dX11_isWithin_0 : decode cX11_isWithin 0 = .ok (.iload_n 0, 1) := by decide +kernel
theorem dX11_isWithin_1 : decode cX11_isWithin 1 = .ok (.iload_n 1, 1) := by decide +kernel
theorem dX11_isWithin_2 : decode cX11_isWithin 2 = .ok (.if_icmp .lt 12, 3) := by decide +kernel
theorem dX11_isWithin_5 : decode cX11_isWithin 5 = .ok (.iload_n 0, 1) := by decide +kernel
theorem dX11_isWithin_6 : decode cX11_isWithin 6 = .ok (.iload_n 2, 1) := by decide +kernel
theorem dX11_isWithin_7 : decode cX11_isWithin 7 = .ok (.if_icmp .gt 7, 3) := by decide +kernel
theorem dX11_isWithin_10 : decode cX11_isWithin 10 = .ok (.iconst 1, 1) := by decide +kernel
theorem dX11_isWithin_11 : decode cX11_isWithin 11 = .ok (.goto 4, 3) := by decide +kernel
theorem dX11_isWithin_14 : decode cX11_isWithin 14 = .ok (.iconst 0, 1) := by decide +kernel
theorem dX11_isWithin_15 : decode cX11_isWithin 15 = .ok (.ireturn, 1) := by decide +kernel
theorem dX12_init_0 : decode cX12_init 0 = .ok (.aload_n 0, 1) := by decide +kernel
theorem dX12_init_1 : decode cX12_init 1 = .ok (.invokespecial 7, 3) := by decide +kernel
theorem dX12_init_4 : decode cX12_init 4 = .ok (.aload_n 0, 1) := by decide +kernel
theorem dX12_init_5 : decode cX12_init 5 = .ok (.sipush 2000, 3) := by decide +kernel
theorem dX12_init_8 : decode cX12_init 8 = .ok (.newarray .byte, 2) := by decide +kernel
theorem dX12_init_10 : decode cX12_init 10 = .ok (.putfield 13, 3) := by decide +kernel
theorem dX12_init_13 : decode cX12_init 13 = .ok (.aload_n 0, 1) := by decide +kernel
theorem dX12_init_14 : decode cX12_init 14 = .ok (.sipush 2000, 3) := by decide +kernel
theorem dX12_init_17 : decode cX12_init 17 = .ok (.newarray .byte, 2) := by decide +kernel
theorem dX12_init_19 : decode cX12_init 19 = .ok (.putfield 17, 3) := by decide +kernel
theorem dX12_init_22 : decode cX12_init 22 = .ok (.aload_n 0, 1) := by decide +kernel
theorem dX12_init_23 : decode cX12_init 23 = .ok (.sipush 403, 3) := by decide +kernel
theorem dX12_init_26 : decode cX12_init 26 = .ok (.newarray .int, 2) := by decide +kernel
theorem dX12_init_28 : decode cX12_init 28 = .ok (.putfield 20, 3) := by decide +kernel
theorem dX12_init_31 : decode cX12_init 31 = .ok (.aload_n 0, 1) := by decide +kernel
theorem dX12_init_32 : decode cX12_init 32 = .ok (.sipush 403, 3) := by decide +kernel
theorem dX12_init_35 : decode cX12_init 35 = .ok (.newarray .int, 2) := by decide +kernel
theorem dX12_init_37 : decode cX12_init 37 = .ok (.putfield 24, 3) := by decide +kernel
theorem dX12_init_40 : decode cX12_init 40 = .ok (.aload_n 0, 1) := by decide +kernel
theorem dX12_init_41 : decode cX12_init 41 = .ok (.sipush 403, 3) := by decide +kernel
theorem dX12_init_44 : decode cX12_init 44 = .ok (.newarray .int, 2) := by decide +kernel
theorem dX12_init_46 : decode cX12_init 46 = .ok (.putfield 27, 3) := by decide +kernel
theorem dX12_init_49 : decode cX12_init 49 = .ok (.aload_n 0, 1) := by decide +kernel
theorem dX12_init_50 : decode cX12_init 50 = .ok (.sipush 403, 3) := by decide +kernel
theorem dX12_init_53 : decode cX12_init 53 = .ok (.newarray .long, 2) := by decide +kernel
theorem dX12_init_55 : decode cX12_init 55 = .ok (.putfield 30, 3) := by decide +kernel
theorem dX12_init_58 : decode cX12_init 58 = .ok (.aload_n 0, 1) := by decide +kernel
theorem dX12_init_59 : decode cX12_init 59 = .ok (.bipush 16, 2) := by decide +kernel
theorem dX12_init_61 : decode cX12_init 61 = .ok (.newarray .long, 2) := by decide +kernel
theorem dX12_init_63 : decode cX12_init 63 = .ok (.putfield 34, 3) := by decide +kernel
theorem dX12_init_66 : decode cX12_init 66 = .ok (.aload_n 0, 1) := by decide +kernel
theorem dX12_init_67 : decode cX12_init 67 = .ok (.iconst (-1), 1) := by decide +kernel
theorem dX12_init_68 : decode cX12_init 68 = .ok (.putfield 37, 3) := by decide +kernel
theorem dX12_init_71 : decode cX12_init 71 = .ok (.aload_n 0, 1) := by decide +kernel
theorem dX12_init_72 : decode cX12_init 72 = .ok (.bipush 7, 2) := by decide +kernel
theorem dX12_init_74 : decode cX12_init 74 = .ok (.newarray .int, 2) := by decide +kernel
theorem dX12_init_76 : decode cX12_init 76 = .ok (.putfield 40, 3) := by decide +kernel
theorem dX12_init_79 : decode cX12_init 79 = .ok (.aload_n 0, 1) := by decide +kernel
theorem dX12_init_80 : decode cX12_init 80 = .ok (.bipush 14, 2) := by decide +kernel
theorem dX12_init_82 : decode cX12_init 82 = .ok (.newarray .int, 2) := by decide +kernel
theorem dX12_init_84 : decode cX12_init 84 = .ok (.putfield 43, 3) := by decide +kernel
theorem dX12_init_87 : decode cX12_init 87 = .ok (.aload_n 0, 1) := by decide +kernel
theorem dX12_init_88 : decode cX12_init 88 = .ok (.sipush 280, 3) := by decide +kernel
theorem dX12_init_91 : decode cX12_init 91 = .ok (.newarray .int, 2) := by decide +kernel
theorem dX12_init_93 : decode cX12_init 93 = .ok (.putfield 46, 3) := by decide +kernel
theorem dX12_init_96 : decode cX12_init 96 = .ok (.aload_n 0, 1) := by decide +kernel
theorem dX12_init_97 : decode cX12_init 97 = .ok (.sipush 280, 3) := by decide +kernel
theorem dX12_init_100 : decode cX12_init 100 = .ok (.newarray .int, 2) := by decide +kernel
theorem dX12_init_102 : decode cX12_init 102 = .ok (.putfield 49, 3) := by decide +kernel
theorem dX12_init_105 : decode cX12_init 105 = .ok (.aload_n 0, 1) := by decide +kernel
theorem dX12_init_106 : decode cX12_init 106 = .ok (.sipush 280, 3) := by decide +kernel
theorem dX12_init_109 : decode cX12_init 109 = .ok (.newarray .int, 2) := by decide +kernel
theorem dX12_init_111 : decode cX12_init 111 = .ok (.putfield 52, 3) := by decide +kernel
theorem dX12_init_114 : decode cX12_init 114 = .ok (.aload_n 0, 1) := by decide +kernel
theorem dX12_init_115 : decode cX12_init 115 = .ok (.sipush 280, 3) := by decide +kernel
theorem dX12_init_118 : decode cX12_init 118 = .ok (.newarray .int, 2) := by decide +kernel
theorem dX12_init_120 : decode cX12_init 120 = .ok (.putfield 55, 3) := by decide +kernel
theorem dX12_init_123 : decode cX12_init 123 = .ok (.aload_n 0, 1) := by decide +kernel
theorem dX12_init_124 : decode cX12_init 124 = .ok (.sipush 280, 3) := by decide +kernel
theorem dX12_init_127 : decode cX12_init 127 = .ok (.newarray .int, 2) := by decide +kernel
theorem dX12_init_129 : decode cX12_init 129 = .ok (.putfield 58, 3) := by decide +kernel
theorem dX12_init_132 : decode cX12_init 132 = .ok (.aload_n 0, 1) := by decide +kernel
theorem dX12_init_133 : decode cX12_init 133 = .ok (.bipush 14, 2) := by decide +kernel
theorem dX12_init_135 : decode cX12_init 135 = .ok (.newarray .int, 2) := by decide +kernel
theorem dX12_init_137 : decode cX12_init 137 = .ok (.putfield 61, 3) := by decide +kernel
theorem dX12_init_140 : decode cX12_init 140 = .ok (.aload_n 0, 1) := by decide +kernel
theorem dX12_init_141 : decode cX12_init 141 = .ok (.sipush 2800, 3) := by decide +kernel
theorem dX12_init_144 : decode cX12_init 144 = .ok (.newarray .int, 2) := by decide +kernel
theorem dX12_init_146 : decode cX12_init 146 = .ok (.putfield 64, 3) := by decide +kernel
theorem dX12_init_149 : decode cX12_init 149 = .ok (.aload_n 0, 1) := by decide +kernel
theorem dX12_init_150 : decode cX12_init 150 = .ok (.sipush 2800, 3) := by decide +kernel
theorem dX12_init_153 : decode cX12_init 153 = .ok (.newarray .int, 2) := by decide +kernel
theorem dX12_init_155 : decode cX12_init 155 = .ok (.putfield 67, 3) := by decide +kernel
theorem dX12_init_158 : decode cX12_init 158 = .ok (.aload_n 0, 1) := by decide +kernel
theorem dX12_init_159 : decode cX12_init 159 = .ok (.sipush 2800, 3) := by decide +kernel
theorem dX12_init_162 : decode cX12_init 162 = .ok (.newarray .int, 2) := by decide +kernel
theorem dX12_init_164 : decode cX12_init 164 = .ok (.putfield 70, 3) := by decide +kernel
theorem dX12_init_167 : decode cX12_init 167 = .ok (.aload_n 0, 1) := by decide +kernel
theorem dX12_init_168 : decode cX12_init 168 = .ok (.sipush 2800, 3) := by decide +kernel
theorem dX12_init_171 : decode cX12_init 171 = .ok (.newarray .int, 2) := by decide +kernel
theorem dX12_init_173 : decode cX12_init 173 = .ok (.putfield 73, 3) := by decide +kernel
theorem dX12_init_176 : decode cX12_init 176 = .ok (.aload_n 0, 1) := by decide +kernel
theorem dX12_init_177 : decode cX12_init 177 = .ok (.sipush 2800, 3) := by decide +kernel
theorem dX12_init_180 : decode cX12_init 180 = .ok (.newarray .boolean, 2) := by decide +kernel
theorem dX12_init_182 : decode cX12_init 182 = .ok (.putfield 76, 3) := by decide +kernel
theorem dX12_init_185 : decode cX12_init 185 = .ok (.aload_n 0, 1) := by decide +kernel
theorem dX12_init_186 : decode cX12_init 186 = .ok (.sipush 7000, 3) := by decide +kernel
theorem dX12_init_189 : decode cX12_init 189 = .ok (.newarray .int, 2) := by decide +kernel
theorem dX12_init_191 : decode cX12_init 191 = .ok (.putfield 80, 3) := by decide +kernel
theorem dX12_init_194 : decode cX12_init 194 = .ok (.aload_n 0, 1) := by decide +kernel
theorem dX12_init_195 : decode cX12_init 195 = .ok (.sipush 7000, 3) := by decide +kernel
theorem dX12_init_198 : decode cX12_init 198 = .ok (.newarray .int, 2) := by decide +kernel
theorem dX12_init_200 : decode cX12_init 200 = .ok (.putfield 83, 3) := by decide +kernel
theorem dX12_init_203 : decode cX12_init 203 = .ok (.aload_n 0, 1) := by decide +kernel
theorem dX12_init_204 : decode cX12_init 204 = .ok (.bipush 48, 2) := by decide +kernel
theorem dX12_init_206 : decode cX12_init 206 = .ok (.newarray .int, 2) := by decide +kernel
theorem dX12_init_208 : decode cX12_init 208 = .ok (.putfield 86, 3) := by decide +kernel
theorem dX12_init_211 : decode cX12_init 211 = .ok (.aload_n 0, 1) := by decide +kernel
theorem dX12_init_212 : decode cX12_init 212 = .ok (.bipush 24, 2) := by decide +kernel
theorem dX12_init_214 : decode cX12_init 214 = .ok (.newarray .int, 2) := by decide +kernel
theorem dX12_init_216 : decode cX12_init 216 = .ok (.putfield 89, 3) := by decide +kernel
theorem dX12_init_219 : decode cX12_init 219 = .ok (.aload_n 0, 1) := by decide +kernel
theorem dX12_init_220 : decode cX12_init 220 = .ok (.bipush 24, 2) := by decide +kernel
theorem dX12_init_222 : decode cX12_init 222 = .ok (.newarray .int, 2) := by decide +kernel
theorem dX12_init_224 : decode cX12_init 224 = .ok (.putfield 92, 3) := by decide +kernel
theorem dX12_init_227 : decode cX12_init 227 = .ok (.aload_n 0, 1) := by decide +kernel
theorem dX12_init_228 : decode cX12_init 228 = .ok (.bipush 24, 2) := by decide +kernel
theorem dX12_init_230 : decode cX12_init 230 = .ok (.newarray .int, 2) := by decide +kernel
theorem dX12_init_232 : decode cX12_init 232 = .ok (.putfield 95, 3) := by decide +kernel
theorem dX12_init_235 : decode cX12_init 235 = .ok (.aload_n 0, 1) := by decide +kernel
theorem dX12_init_236 : decode cX12_init 236 = .ok (.bipush 24, 2) := by decide +kernel
theorem dX12_init_238 : decode cX12_init 238 = .ok (.newarray .int, 2) := by decide +kernel
theorem dX12_init_240 : decode cX12_init 240 = .ok (.putfield 98, 3) := by decide +kernel
theorem dX12_init_243 : decode cX12_init 243 = .ok (.aload_n 0, 1) := by decide +kernel
theorem dX12_init_244 : decode cX12_init 244 = .ok (.bipush 24, 2) := by decide +kernel
theorem dX12_init_246 : decode cX12_init 246 = .ok (.newarray .int, 2) := by decide +kernel
theorem dX12_init_248 : decode cX12_init 248 = .ok (.putfield 101, 3) := by decide +kernel
theorem dX12_init_251 : decode cX12_init 251 = .ok (.aload_n 0, 1) := by decide +kernel
theorem dX12_init_252 : decode cX12_init 252 = .ok (.bipush 6, 2) := by decide +kernel
theorem dX12_init_254 : decode cX12_init 254 = .ok (.newarray .int, 2) := by decide +kernel
theorem dX12_init_256 : decode cX12_init 256 = .ok (.putfield 104, 3) := by decide +kernel
theorem dX12_init_259 : decode cX12_init 259 = .ok (.aload_n 0, 1) := by decide +kernel
theorem dX12_init_260 : decode cX12_init 260 = .ok (.bipush 6, 2) := by decide +kernel
theorem dX12_init_262 : decode cX12_init 262 = .ok (.newarray .int, 2) := by decide +kernel
theorem dX12_init_264 : decode cX12_init 264 = .ok (.putfield 107, 3) := by decide +kernel
theorem dX12_init_267 : decode cX12_init 267 = .ok (.aload_n 0, 1) := by decide +kernel
theorem dX12_init_268 : decode cX12_init 268 = .ok (.bipush 36, 2) := by decide +kernel
theorem dX12_init_270 : decode cX12_init 270 = .ok (.newarray .int, 2) := by decide +kernel
theorem dX12_init_272 : decode cX12_init 272 = .ok (.putfield 110, 3) := by decide +kernel
theorem dX12_init_275 : decode cX12_init 275 = .ok (.aload_n 0, 1) := by decide +kernel
theorem dX12_init_276 : decode cX12_init 276 = .ok (.bipush 6, 2) := by decide +kernel
theorem dX12_init_278 : decode cX12_init 278 = .ok (.newarray .int, 2) := by decide +kernel
theorem dX12_init_280 : decode cX12_init 280 = .ok (.putfield 113, 3) := by decide +kernel
theorem dX12_init_283 : decode cX12_init 283 = .ok (.aload_n 0, 1) := by decide +kernel
theorem dX12_init_284 : decode cX12_init 284 = .ok (.bipush 6, 2) := by decide +kernel
theorem dX12_init_286 : decode cX12_init 286 = .ok (.newarray .int, 2) := by decide +kernel
theorem dX12_init_288 : decode cX12_init 288 = .ok (.putfield 116, 3) := by decide +kernel
theorem dX12_init_291 : decode cX12_init 291 = .ok (.aload_n 0, 1) := by decide +kernel
theorem dX12_init_292 : decode cX12_init 292 = .ok (.bipush 6, 2) := by decide +kernel
theorem dX12_init_294 : decode cX12_init 294 = .ok (.newarray .int, 2) := by decide +kernel
theorem dX12_init_296 : decode cX12_init 296 = .ok (.putfield 119, 3) := by decide +kernel
theorem dX12_init_299 : decode cX12_init 299 = .ok (.aload_n 0, 1) := by decide +kernel
theorem dX12_init_300 : decode cX12_init 300 = .ok (.bipush 6, 2) := by decide +kernel
theorem dX12_init_302 : decode cX12_init 302 = .ok (.newarray .int, 2) := by decide +kernel
theorem dX12_init_304 : decode cX12_init 304 = .ok (.putfield 122, 3) := by decide +kernel
theorem dX12_init_307 : decode cX12_init 307 = .ok (.aload_n 0, 1) := by decide +kernel
theorem dX12_init_308 : decode cX12_init 308 = .ok (.bipush 36, 2) := by decide +kernel
theorem dX12_init_310 : decode cX12_init 310 = .ok (.newarray .int, 2) := by decide +kernel
theorem dX12_init_312 : decode cX12_init 312 = .ok (.putfield 125, 3) := by decide +kernel
theorem dX12_init_315 : decode cX12_init 315 = .ok (.aload_n 0, 1) := by decide +kernel
theorem dX12_init_316 : decode cX12_init 316 = .ok (.bipush 6, 2) := by decide +kernel
theorem dX12_init_318 : decode cX12_init 318 = .ok (.newarray .int, 2) := by decide +kernel
theorem dX12_init_320 : decode cX12_init 320 = .ok (.putfield 128, 3) := by decide +kernel
theorem dX12_init_323 : decode cX12_init 323 = .ok (.aload_n 0, 1) := by decide +kernel
theorem dX12_init_324 : decode cX12_init 324 = .ok (.bipush 6, 2) := by decide +kernel
theorem dX12_init_326 : decode cX12_init 326 = .ok (.newarray .int, 2) := by decide +kernel
theorem dX12_init_328 : decode cX12_init 328 = .ok (.putfield 131, 3) := by decide +kernel
theorem dX12_init_331 : decode cX12_init 331 = .ok (.aload_n 0, 1) := by decide +kernel
theorem dX12_init_332 : decode cX12_init 332 = .ok (.bipush 10, 2) := by decide +kernel
theorem dX12_init_334 : decode cX12_init 334 = .ok (.newarray .int, 2) := by decide +kernel
theorem dX12_init_336 : decode cX12_init 336 = .ok (.putfield 134, 3) := by decide +kernel
theorem dX12_init_339 : decode cX12_init 339 = .ok (.aload_n 0, 1) := by decide +kernel
theorem dX12_init_340 : decode cX12_init 340 = .ok (.sipush 500, 3) := by decide +kernel
theorem dX12_init_343 : decode cX12_init 343 = .ok (.newarray .int, 2) := by decide +kernel
theorem dX12_init_345 : decode cX12_init 345 = .ok (.putfield 137, 3) := by decide +kernel
theorem dX12_init_348 : decode cX12_init 348 = .ok (.aload_n 0, 1) := by decide +kernel
theorem dX12_init_349 : decode cX12_init 349 = .ok (.bipush 36, 2) := by decide +kernel
theorem dX12_init_351 : decode cX12_init 351 = .ok (.newarray .int, 2) := by decide +kernel
theorem dX12_init_353 : decode cX12_init 353 = .ok (.putfield 140, 3) := by decide +kernel
theorem dX12_init_356 : decode cX12_init 356 = .ok (.aload_n 0, 1) := by decide +kernel
theorem dX12_init_357 : decode cX12_init 357 = .ok (.bipush 6, 2) := by decide +kernel
theorem dX12_init_359 : decode cX12_init 359 = .ok (.newarray .int, 2) := by decide +kernel
theorem dX12_init_361 : decode cX12_init 361 = .ok (.putfield 143, 3) := by decide +kernel
theorem dX12_init_364 : decode cX12_init 364 = .ok (.aload_n 0, 1) := by decide +kernel
theorem dX12_init_365 : decode cX12_init 365 = .ok (.iconst 3, 1) := by decide +kernel
theorem dX12_init_366 : decode cX12_init 366 = .ok (.newarray .int, 2) := by decide +kernel
theorem dX12_init_368 : decode cX12_init 368 = .ok (.putfield 146, 3) := by decide +kernel
theorem dX12_init_371 : decode cX12_init 371 = .ok (.aload_n 0, 1) := by decide +kernel
theorem dX12_init_372 : decode cX12_init 372 = .ok (.iconst 3, 1) := by decide +kernel
theorem dX12_init_373 : decode cX12_init 373 = .ok (.newarray .int, 2) := by decide +kernel
theorem dX12_init_375 : decode cX12_init 375 = .ok (.putfield 149, 3) := by decide +kernel
theorem dX12_init_378 : decode cX12_init 378 = .ok (.aload_n 0, 1) := by decide +kernel
theorem dX12_init_379 : decode cX12_init 379 = .ok (.bipush 24, 2) := by decide +kernel
theorem dX12_init_381 : decode cX12_init 381 = .ok (.newarray .int, 2) := by decide +kernel
theorem dX12_init_383 : decode cX12_init 383 = .ok (.putfield 152, 3) := by decide +kernel
theorem dX12_init_386 : decode cX12_init 386 = .ok (.aload_n 0, 1) := by decide +kernel
theorem dX12_init_387 : decode cX12_init 387 = .ok (.bipush 24, 2) := by decide +kernel
theorem dX12_init_389 : decode cX12_init 389 = .ok (.newarray .int, 2) := by decide +kernel
theorem dX12_init_391 : decode cX12_init 391 = .ok (.putfield 155, 3) := by decide +kernel
theorem dX12_init_394 : decode cX12_init 394 = .ok (.aload_n 0, 1) := by decide +kernel
theorem dX12_init_395 : decode cX12_init 395 = .ok (.bipush 24, 2) := by decide +kernel
theorem dX12_init_397 : decode cX12_init 397 = .ok (.newarray .int, 2) := by decide +kernel
theorem dX12_init_399 : decode cX12_init 399 = .ok (.putfield 158, 3) := by decide +kernel
theorem dX12_init_402 : decode cX12_init 402 = .ok (.aload_n 0, 1) := by decide +kernel
theorem dX12_init_403 : decode cX12_init 403 = .ok (.bipush 24, 2) := by decide +kernel
theorem dX12_init_405 : decode cX12_init 405 = .ok (.newarray .int, 2) := by decide +kernel
theorem dX12_init_407 : decode cX12_init 407 = .ok (.putfield 161, 3) := by decide +kernel
theorem dX12_init_410 : decode cX12_init 410 = .ok (.aload_n 0, 1) := by decide +kernel
theorem dX12_init_411 : decode cX12_init 411 = .ok (.bipush 24, 2) := by decide +kernel
theorem dX12_init_413 : decode cX12_init 413 = .ok (.newarray .int, 2) := by decide +kernel
theorem dX12_init_415 : decode cX12_init 415 = .ok (.putfield 164, 3) := by decide +kernel
theorem dX12_init_418 : decode cX12_init 418 = .ok (.aload_n 0, 1) := by decide +kernel
theorem dX12_init_419 : decode cX12_init 419 = .ok (.bipush 24, 2) := by decide +kernel
theorem dX12_init_421 : decode cX12_init 421 = .ok (.newarray .int, 2) := by decide +kernel
theorem dX12_init_423 : decode cX12_init 423 = .ok (.putfield 167, 3) := by decide +kernel
theorem dX12_init_426 : decode cX12_init 426 = .ok (.aload_n 0, 1) := by decide +kernel
theorem dX12_init_427 : decode cX12_init 427 = .ok (.bipush 6, 2) := by decide +kernel
theorem dX12_init_429 : decode cX12_init 429 = .ok (.newarray .boolean, 2) := by decide +kernel
theorem dX12_init_431 : decode cX12_init 431 = .ok (.putfield 170, 3) := by decide +kernel
theorem dX12_init_434 : decode cX12_init 434 = .ok (.aload_n 0, 1) := by decide +kernel
theorem dX12_init_435 : decode cX12_init 435 = .ok (.bipush 24, 2) := by decide +kernel
theorem dX12_init_437 : decode cX12_init 437 = .ok (.newarray .int, 2) := by decide +kernel
theorem dX12_init_439 : decode cX12_init 439 = .ok (.putfield 173, 3) := by decide +kernel
theorem dX12_init_442 : decode cX12_init 442 = .ok (.aload_n 0, 1) := by decide +kernel
theorem dX12_init_443 : decode cX12_init 443 = .ok (.bipush 24, 2) := by decide +kernel
theorem dX12_init_445 : decode cX12_init 445 = .ok (.newarray .int, 2) := by decide +kernel
theorem dX12_init_447 : decode cX12_init 447 = .ok (.putfield 176, 3) := by decide +kernel
theorem dX12_init_450 : decode cX12_init 450 = .ok (.aload_n 0, 1) := by decide +kernel
theorem dX12_init_451 : decode cX12_init 451 = .ok (.bipush 24, 2) := by decide +kernel
theorem dX12_init_453 : decode cX12_init 453 = .ok (.newarray .int, 2) := by decide +kernel
theorem dX12_init_455 : decode cX12_init 455 = .ok (.putfield 179, 3) := by decide +kernel
theorem dX12_init_458 : decode cX12_init 458 = .ok (.aload_n 0, 1) := by decide +kernel
theorem dX12_init_459 : decode cX12_init 459 = .ok (.bipush 24, 2) := by decide +kernel
theorem dX12_init_461 : decode cX12_init 461 = .ok (.newarray .int, 2) := by decide +kernel
theorem dX12_init_463 : decode cX12_init 463 = .ok (.putfield 182, 3) := by decide +kernel
theorem dX12_init_466 : decode cX12_init 466 = .ok (.aload_n 0, 1) := by decide +kernel
theorem dX12_init_467 : decode cX12_init 467 = .ok (.bipush 24, 2) := by decide +kernel
theorem dX12_init_469 : decode cX12_init 469 = .ok (.newarray .int, 2) := by decide +kernel
theorem dX12_init_471 : decode cX12_init 471 = .ok (.putfield 185, 3) := by decide +kernel
