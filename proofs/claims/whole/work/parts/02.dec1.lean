theorem dX0_init_0 : decode cX0_init 0 = .ok (.aload_n 0, 1) := by decide +kernel
theorem dX0_init_1 : decode cX0_init 1 = .ok (.invokespecial 3, 3) := by decide +kernel
theorem dX0_init_4 : decode cX0_init 4 = .ok (.aload_n 0, 1) := by decide +kernel
theorem dX0_init_5 : decode cX0_init 5 = .ok (.bipush 6, 2) := by decide +kernel
theorem dX0_init_7 : decode cX0_init 7 = .ok (.newarray .int, 2) := by decide +kernel
theorem dX0_init_9 : decode cX0_init 9 = .ok (.putfield 9, 3) := by decide +kernel
theorem dX0_init_12 : decode cX0_init 12 = .ok (.aload_n 0, 1) := by decide +kernel
theorem dX0_init_13 : decode cX0_init 13 = .ok (.new 15, 3) := by decide +kernel
theorem dX0_init_16 : decode cX0_init 16 = .ok (.dup, 1) := by decide +kernel
theorem dX0_init_17 : decode cX0_init 17 = .ok (.invokespecial 17, 3) := by decide +kernel
theorem dX0_init_20 : decode cX0_init 20 = .ok (.putfield 18, 3) := by decide +kernel
theorem dX0_init_23 : decode cX0_init 23 = .ok (.return_, 1) := by decide +kernel
theorem dX1_init_0 : decode cX1_init 0 = .ok (.aload_n 0, 1) := by decide +kernel
theorem dX1_init_1 : decode cX1_init 1 = .ok (.invokespecial 3, 3) := by decide +kernel
theorem dX1_init_4 : decode cX1_init 4 = .ok (.aload_n 0, 1) := by decide +kernel
theorem dX1_init_5 : decode cX1_init 5 = .ok (.bipush 6, 2) := by decide +kernel
theorem dX1_init_7 : decode cX1_init 7 = .ok (.newarray .int, 2) := by decide +kernel
theorem dX1_init_9 : decode cX1_init 9 = .ok (.putfield 9, 3) := by decide +kernel
theorem dX1_init_12 : decode cX1_init 12 = .ok (.return_, 1) := by decide +kernel
theorem dX1_isEmpty_0 : decode cX1_isEmpty 0 = .ok (.aload_n 0, 1) := by decide +kernel
theorem dX1_isEmpty_1 : decode cX1_isEmpty 1 = .ok (.getfield 15, 3) := by decide +kernel
theorem dX1_isEmpty_4 : decode cX1_isEmpty 4 = .ok (.iconst (-1), 1) := by decide +kernel
theorem dX1_isEmpty_5 : decode cX1_isEmpty 5 = .ok (.if_icmp .ne 7, 3) := by decide +kernel
theorem dX1_isEmpty_8 : decode cX1_isEmpty 8 = .ok (.iconst 1, 1) := by decide +kernel
theorem dX1_isEmpty_9 : decode cX1_isEmpty 9 = .ok (.goto 4, 3) := by decide +kernel
theorem dX1_isEmpty_12 : decode cX1_isEmpty 12 = .ok (.iconst 0, 1) := by decide +kernel
theorem dX1_isEmpty_13 : decode cX1_isEmpty 13 = .ok (.ireturn, 1) := by decide +kernel
theorem dX1_quietSeconds_0 : decode cX1_quietSeconds 0 = .ok (.aload_n 0, 1) := by decide +kernel
theorem dX1_quietSeconds_1 : decode cX1_quietSeconds 1 = .ok (.getfield 19, 3) := by decide +kernel
theorem dX1_quietSeconds_4 : decode cX1_quietSeconds 4 = .ok (.istore_n 2, 1) := by decide +kernel
theorem dX1_quietSeconds_5 : decode cX1_quietSeconds 5 = .ok (.iconst 0, 1) := by decide +kernel
theorem dX1_quietSeconds_6 : decode cX1_quietSeconds 6 = .ok (.istore_n 3, 1) := by decide +kernel
theorem dX1_quietSeconds_7 : decode cX1_quietSeconds 7 = .ok (.iload_n 3, 1) := by decide +kernel
theorem dX1_quietSeconds_8 : decode cX1_quietSeconds 8 = .ok (.iload_n 1, 1) := by decide +kernel
theorem dX1_quietSeconds_9 : decode cX1_quietSeconds 9 = .ok (.if_icmp .ge 26, 3) := by decide +kernel
theorem dX1_quietSeconds_12 : decode cX1_quietSeconds 12 = .ok (.iload_n 3, 1) := by decide +kernel
theorem dX1_quietSeconds_13 : decode cX1_quietSeconds 13 = .ok (.bipush 6, 2) := by decide +kernel
theorem dX1_quietSeconds_15 : decode cX1_quietSeconds 15 = .ok (.if_icmp .ge 20, 3) := by decide +kernel
theorem dX1_quietSeconds_18 : decode cX1_quietSeconds 18 = .ok (.iload_n 2, 1) := by decide +kernel
theorem dX1_quietSeconds_19 : decode cX1_quietSeconds 19 = .ok (.aload_n 0, 1) := by decide +kernel
theorem dX1_quietSeconds_20 : decode cX1_quietSeconds 20 = .ok (.getfield 9, 3) := by decide +kernel
theorem dX1_quietSeconds_23 : decode cX1_quietSeconds 23 = .ok (.iload_n 3, 1) := by decide +kernel
theorem dX1_quietSeconds_24 : decode cX1_quietSeconds 24 = .ok (.iaload, 1) := by decide +kernel
theorem dX1_quietSeconds_25 : decode cX1_quietSeconds 25 = .ok (.invokestatic 22, 3) := by decide +kernel
theorem dX1_quietSeconds_28 : decode cX1_quietSeconds 28 = .ok (.istore_n 2, 1) := by decide +kernel
theorem dX1_quietSeconds_29 : decode cX1_quietSeconds 29 = .ok (.iinc 3 1, 3) := by decide +kernel
theorem dX1_quietSeconds_32 : decode cX1_quietSeconds 32 = .ok (.goto (-25), 3) := by decide +kernel
theorem dX1_quietSeconds_35 : decode cX1_quietSeconds 35 = .ok (.iload_n 2, 1) := by decide +kernel
theorem dX1_quietSeconds_36 : decode cX1_quietSeconds 36 = .ok (.aload_n 0, 1) := by decide +kernel
theorem dX1_quietSeconds_37 : decode cX1_quietSeconds 37 = .ok (.getfield 28, 3) := by decide +kernel
theorem dX1_quietSeconds_40 : decode cX1_quietSeconds 40 = .ok (.if_icmp .ge 12, 3) := by decide +kernel
theorem dX1_quietSeconds_43 : decode cX1_quietSeconds 43 = .ok (.aload_n 0, 1) := by decide +kernel
theorem dX1_quietSeconds_44 : decode cX1_quietSeconds 44 = .ok (.getfield 28, 3) := by decide +kernel
theorem dX1_quietSeconds_47 : decode cX1_quietSeconds 47 = .ok (.iload_n 2, 1) := by decide +kernel
theorem dX1_quietSeconds_48 : decode cX1_quietSeconds 48 = .ok (.isub, 1) := by decide +kernel
theorem dX1_quietSeconds_49 : decode cX1_quietSeconds 49 = .ok (.goto 4, 3) := by decide +kernel
theorem dX1_quietSeconds_52 : decode cX1_quietSeconds 52 = .ok (.iconst 0, 1) := by decide +kernel
theorem dX1_quietSeconds_53 : decode cX1_quietSeconds 53 = .ok (.ireturn, 1) := by decide +kernel
theorem dX2_init_0 : decode cX2_init 0 = .ok (.aload_n 0, 1) := by decide +kernel
theorem dX2_init_1 : decode cX2_init 1 = .ok (.invokespecial 3, 3) := by decide +kernel
theorem dX2_init_4 : decode cX2_init 4 = .ok (.aload_n 0, 1) := by decide +kernel
theorem dX2_init_5 : decode cX2_init 5 = .ok (.bipush 24, 2) := by decide +kernel
theorem dX2_init_7 : decode cX2_init 7 = .ok (.anewarray 9, 3) := by decide +kernel
theorem dX2_init_10 : decode cX2_init 10 = .ok (.putfield 11, 3) := by decide +kernel
theorem dX2_init_13 : decode cX2_init 13 = .ok (.aload_n 0, 1) := by decide +kernel
theorem dX2_init_14 : decode cX2_init 14 = .ok (.bipush 6, 2) := by decide +kernel
theorem dX2_init_16 : decode cX2_init 16 = .ok (.anewarray 17, 3) := by decide +kernel
theorem dX2_init_19 : decode cX2_init 19 = .ok (.putfield 19, 3) := by decide +kernel
theorem dX2_init_22 : decode cX2_init 22 = .ok (.aload_n 0, 1) := by decide +kernel
theorem dX2_init_23 : decode cX2_init 23 = .ok (.bipush 6, 2) := by decide +kernel
theorem dX2_init_25 : decode cX2_init 25 = .ok (.newarray .int, 2) := by decide +kernel
theorem dX2_init_27 : decode cX2_init 27 = .ok (.putfield 23, 3) := by decide +kernel
theorem dX2_init_30 : decode cX2_init 30 = .ok (.aload_n 0, 1) := by decide +kernel
theorem dX2_init_31 : decode cX2_init 31 = .ok (.new 27, 3) := by decide +kernel
theorem dX2_init_34 : decode cX2_init 34 = .ok (.dup, 1) := by decide +kernel
theorem dX2_init_35 : decode cX2_init 35 = .ok (.invokespecial 29, 3) := by decide +kernel
theorem dX2_init_38 : decode cX2_init 38 = .ok (.putfield 30, 3) := by decide +kernel
theorem dX2_init_41 : decode cX2_init 41 = .ok (.aload_n 0, 1) := by decide +kernel
theorem dX2_init_42 : decode cX2_init 42 = .ok (.bipush 10, 2) := by decide +kernel
theorem dX2_init_44 : decode cX2_init 44 = .ok (.newarray .int, 2) := by decide +kernel
theorem dX2_init_46 : decode cX2_init 46 = .ok (.putfield 34, 3) := by decide +kernel
theorem dX2_init_49 : decode cX2_init 49 = .ok (.iconst 0, 1) := by decide +kernel
theorem dX2_init_50 : decode cX2_init 50 = .ok (.istore_n 1, 1) := by decide +kernel
theorem dX2_init_51 : decode cX2_init 51 = .ok (.iload_n 1, 1) := by decide +kernel
theorem dX2_init_52 : decode cX2_init 52 = .ok (.bipush 24, 2) := by decide +kernel
theorem dX2_init_54 : decode cX2_init 54 = .ok (.if_icmp .ge 22, 3) := by decide +kernel
theorem dX2_init_57 : decode cX2_init 57 = .ok (.aload_n 0, 1) := by decide +kernel
theorem dX2_init_58 : decode cX2_init 58 = .ok (.getfield 11, 3) := by decide +kernel
theorem dX2_init_61 : decode cX2_init 61 = .ok (.iload_n 1, 1) := by decide +kernel
theorem dX2_init_62 : decode cX2_init 62 = .ok (.new 9, 3) := by decide +kernel
theorem dX2_init_65 : decode cX2_init 65 = .ok (.dup, 1) := by decide +kernel
theorem dX2_init_66 : decode cX2_init 66 = .ok (.invokespecial 37, 3) := by decide +kernel
theorem dX2_init_69 : decode cX2_init 69 = .ok (.aastore, 1) := by decide +kernel
theorem dX2_init_70 : decode cX2_init 70 = .ok (.iinc 1 1, 3) := by decide +kernel
theorem dX2_init_73 : decode cX2_init 73 = .ok (.goto (-22), 3) := by decide +kernel
theorem dX2_init_76 : decode cX2_init 76 = .ok (.iconst 0, 1) := by decide +kernel
theorem dX2_init_77 : decode cX2_init 77 = .ok (.istore_n 1, 1) := by decide +kernel
theorem dX2_init_78 : decode cX2_init 78 = .ok (.iload_n 1, 1) := by decide +kernel
theorem dX2_init_79 : decode cX2_init 79 = .ok (.bipush 6, 2) := by decide +kernel
theorem dX2_init_81 : decode cX2_init 81 = .ok (.if_icmp .ge 22, 3) := by decide +kernel
theorem dX2_init_84 : decode cX2_init 84 = .ok (.aload_n 0, 1) := by decide +kernel
theorem dX2_init_85 : decode cX2_init 85 = .ok (.getfield 19, 3) := by decide +kernel
theorem dX2_init_88 : decode cX2_init 88 = .ok (.iload_n 1, 1) := by decide +kernel
theorem dX2_init_89 : decode cX2_init 89 = .ok (.new 17, 3) := by decide +kernel
theorem dX2_init_92 : decode cX2_init 92 = .ok (.dup, 1) := by decide +kernel
theorem dX2_init_93 : decode cX2_init 93 = .ok (.invokespecial 38, 3) := by decide +kernel
theorem dX2_init_96 : decode cX2_init 96 = .ok (.aastore, 1) := by decide +kernel
theorem dX2_init_97 : decode cX2_init 97 = .ok (.iinc 1 1, 3) := by decide +kernel
theorem dX2_init_100 : decode cX2_init 100 = .ok (.goto (-22), 3) := by decide +kernel
theorem dX2_init_103 : decode cX2_init 103 = .ok (.return_, 1) := by decide +kernel
theorem dX2_hasLot_0 : decode cX2_hasLot 0 = .ok (.iload_n 1, 1) := by decide +kernel
theorem dX2_hasLot_1 : decode cX2_hasLot 1 = .ok (.ifCond .lt 15, 3) := by decide +kernel
theorem dX2_hasLot_4 : decode cX2_hasLot 4 = .ok (.iload_n 1, 1) := by decide +kernel
theorem dX2_hasLot_5 : decode cX2_hasLot 5 = .ok (.aload_n 0, 1) := by decide +kernel
theorem dX2_hasLot_6 : decode cX2_hasLot 6 = .ok (.getfield 39, 3) := by decide +kernel
theorem dX2_hasLot_9 : decode cX2_hasLot 9 = .ok (.if_icmp .ge 7, 3) := by decide +kernel
theorem dX2_hasLot_12 : decode cX2_hasLot 12 = .ok (.iconst 1, 1) := by decide +kernel
theorem dX2_hasLot_13 : decode cX2_hasLot 13 = .ok (.goto 4, 3) := by decide +kernel
theorem dX2_hasLot_16 : decode cX2_hasLot 16 = .ok (.iconst 0, 1) := by decide +kernel
theorem dX2_hasLot_17 : decode cX2_hasLot 17 = .ok (.ireturn, 1) := by decide +kernel
theorem dX2_hasBuyer_0 : decode cX2_hasBuyer 0 = .ok (.iload_n 1, 1) := by decide +kernel
theorem dX2_hasBuyer_1 : decode cX2_hasBuyer 1 = .ok (.ifCond .lt 15, 3) := by decide +kernel
theorem dX2_hasBuyer_4 : decode cX2_hasBuyer 4 = .ok (.iload_n 1, 1) := by decide +kernel
theorem dX2_hasBuyer_5 : decode cX2_hasBuyer 5 = .ok (.aload_n 0, 1) := by decide +kernel
theorem dX2_hasBuyer_6 : decode cX2_hasBuyer 6 = .ok (.getfield 43, 3) := by decide +kernel
theorem dX2_hasBuyer_9 : decode cX2_hasBuyer 9 = .ok (.if_icmp .ge 7, 3) := by decide +kernel
theorem dX2_hasBuyer_12 : decode cX2_hasBuyer 12 = .ok (.iconst 1, 1) := by decide +kernel
theorem dX2_hasBuyer_13 : decode cX2_hasBuyer 13 = .ok (.goto 4, 3) := by decide +kernel
theorem dX2_hasBuyer_16 : decode cX2_hasBuyer 16 = .ok (.iconst 0, 1) := by decide +kernel
theorem dX2_hasBuyer_17 : decode cX2_hasBuyer 17 = .ok (.ireturn, 1) := by decide +kernel
theorem dX2_land_0 : decode cX2_land 0 = .ok (.aload_n 0, 1) := by decide +kernel
theorem dX2_land_1 : decode cX2_land 1 = .ok (.getfield 39, 3) := by decide +kernel
theorem dX2_land_4 : decode cX2_land 4 = .ok (.bipush 24, 2) := by decide +kernel
theorem dX2_land_6 : decode cX2_land 6 = .ok (.if_icmp .lt 5, 3) := by decide +kernel
theorem dX2_land_9 : decode cX2_land 9 = .ok (.iconst (-1), 1) := by decide +kernel
theorem dX2_land_10 : decode cX2_land 10 = .ok (.ireturn, 1) := by decide +kernel
theorem dX2_land_11 : decode cX2_land 11 = .ok (.aload_n 0, 1) := by decide +kernel
theorem dX2_land_12 : decode cX2_land 12 = .ok (.getfield 11, 3) := by decide +kernel
theorem dX2_land_15 : decode cX2_land 15 = .ok (.aload_n 0, 1) := by decide +kernel
theorem dX2_land_16 : decode cX2_land 16 = .ok (.getfield 39, 3) := by decide +kernel
theorem dX2_land_19 : decode cX2_land 19 = .ok (.aaload, 1) := by decide +kernel
theorem dX2_land_20 : decode cX2_land 20 = .ok (.astore 6, 2) := by decide +kernel
theorem dX2_land_22 : decode cX2_land 22 = .ok (.aload 6, 2) := by decide +kernel
theorem dX2_land_24 : decode cX2_land 24 = .ok (.iload_n 1, 1) := by decide +kernel
theorem dX2_land_25 : decode cX2_land 25 = .ok (.putfield 46, 3) := by decide +kernel
theorem dX2_land_28 : decode cX2_land 28 = .ok (.aload 6, 2) := by decide +kernel
theorem dX2_land_30 : decode cX2_land 30 = .ok (.iload_n 2, 1) := by decide +kernel
theorem dX2_land_31 : decode cX2_land 31 = .ok (.putfield 49, 3) := by decide +kernel
theorem dX2_land_34 : decode cX2_land 34 = .ok (.aload 6, 2) := by decide +kernel
theorem dX2_land_36 : decode cX2_land 36 = .ok (.iload_n 3, 1) := by decide +kernel
theorem dX2_land_37 : decode cX2_land 37 = .ok (.putfield 52, 3) := by decide +kernel
theorem dX2_land_40 : decode cX2_land 40 = .ok (.aload 6, 2) := by decide +kernel
theorem dX2_land_42 : decode cX2_land 42 = .ok (.iload 4, 2) := by decide +kernel
theorem dX2_land_44 : decode cX2_land 44 = .ok (.putfield 55, 3) := by decide +kernel
theorem dX2_land_47 : decode cX2_land 47 = .ok (.aload 6, 2) := by decide +kernel
theorem dX2_land_49 : decode cX2_land 49 = .ok (.iload 5, 2) := by decide +kernel
theorem dX2_land_51 : decode cX2_land 51 = .ok (.putfield 58, 3) := by decide +kernel
theorem dX2_land_54 : decode cX2_land 54 = .ok (.aload_n 0, 1) := by decide +kernel
theorem dX2_land_55 : decode cX2_land 55 = .ok (.dup, 1) := by decide +kernel
theorem dX2_land_56 : decode cX2_land 56 = .ok (.getfield 39, 3) := by decide +kernel
theorem dX2_land_59 : decode cX2_land 59 = .ok (.iconst 1, 1) := by decide +kernel
theorem dX2_land_60 : decode cX2_land 60 = .ok (.iadd, 1) := by decide +kernel
theorem dX2_land_61 : decode cX2_land 61 = .ok (.putfield 39, 3) := by decide +kernel
theorem dX2_land_64 : decode cX2_land 64 = .ok (.aload_n 0, 1) := by decide +kernel
theorem dX2_land_65 : decode cX2_land 65 = .ok (.getfield 39, 3) := by decide +kernel
theorem dX2_land_68 : decode cX2_land 68 = .ok (.iconst 1, 1) := by decide +kernel
theorem dX2_land_69 : decode cX2_land 69 = .ok (.isub, 1) := by decide +kernel
theorem dX2_land_70 : decode cX2_land 70 = .ok (.ireturn, 1) := by decide +kernel
theorem dX2_admit_0 : decode cX2_admit 0 = .ok (.aload_n 0, 1) := by decide +kernel
theorem dX2_admit_1 : decode cX2_admit 1 = .ok (.getfield 43, 3) := by decide +kernel
theorem dX2_admit_4 : decode cX2_admit 4 = .ok (.bipush 6, 2) := by decide +kernel
theorem dX2_admit_6 : decode cX2_admit 6 = .ok (.if_icmp .lt 5, 3) := by decide +kernel
theorem dX2_admit_9 : decode cX2_admit 9 = .ok (.iconst (-1), 1) := by decide +kernel
theorem dX2_admit_10 : decode cX2_admit 10 = .ok (.ireturn, 1) := by decide +kernel
theorem dX2_admit_11 : decode cX2_admit 11 = .ok (.aload_n 0, 1) := by decide +kernel
theorem dX2_admit_12 : decode cX2_admit 12 = .ok (.getfield 19, 3) := by decide +kernel
theorem dX2_admit_15 : decode cX2_admit 15 = .ok (.aload_n 0, 1) := by decide +kernel
theorem dX2_admit_16 : decode cX2_admit 16 = .ok (.getfield 43, 3) := by decide +kernel
theorem dX2_admit_19 : decode cX2_admit 19 = .ok (.aaload, 1) := by decide +kernel
theorem dX2_admit_20 : decode cX2_admit 20 = .ok (.iload_n 1, 1) := by decide +kernel
theorem dX2_admit_21 : decode cX2_admit 21 = .ok (.putfield 61, 3) := by decide +kernel
theorem dX2_admit_24 : decode cX2_admit 24 = .ok (.aload_n 0, 1) := by decide +kernel
theorem dX2_admit_25 : decode cX2_admit 25 = .ok (.getfield 19, 3) := by decide +kernel
theorem dX2_admit_28 : decode cX2_admit 28 = .ok (.aload_n 0, 1) := by decide +kernel
theorem dX2_admit_29 : decode cX2_admit 29 = .ok (.getfield 43, 3) := by decide +kernel
theorem dX2_admit_32 : decode cX2_admit 32 = .ok (.aaload, 1) := by decide +kernel
theorem dX2_admit_33 : decode cX2_admit 33 = .ok (.iload_n 2, 1) := by decide +kernel
theorem dX2_admit_34 : decode cX2_admit 34 = .ok (.putfield 64, 3) := by decide +kernel
theorem dX2_admit_37 : decode cX2_admit 37 = .ok (.aload_n 0, 1) := by decide +kernel
theorem dX2_admit_38 : decode cX2_admit 38 = .ok (.dup, 1) := by decide +kernel
theorem dX2_admit_39 : decode cX2_admit 39 = .ok (.getfield 43, 3) := by decide +kernel
theorem dX2_admit_42 : decode cX2_admit 42 = .ok (.iconst 1, 1) := by decide +kernel
theorem dX2_admit_43 : decode cX2_admit 43 = .ok (.iadd, 1) := by decide +kernel
theorem dX2_admit_44 : decode cX2_admit 44 = .ok (.putfield 43, 3) := by decide +kernel
theorem dX2_admit_47 : decode cX2_admit 47 = .ok (.aload_n 0, 1) := by decide +kernel
theorem dX2_admit_48 : decode cX2_admit 48 = .ok (.getfield 43, 3) := by decide +kernel
theorem dX2_admit_51 : decode cX2_admit 51 = .ok (.iconst 1, 1) := by decide +kernel
theorem dX2_admit_52 : decode cX2_admit 52 = .ok (.isub, 1) := by decide +kernel
theorem dX2_admit_53 : decode cX2_admit 53 = .ok (.ireturn, 1) := by decide +kernel
theorem dX2_exchangeText_0 : decode cX2_exchangeText 0 = .ok (.aload_n 0, 1) := by decide +kernel
theorem dX2_exchangeText_1 : decode cX2_exchangeText 1 = .ok (.getfield 30, 3) := by decide +kernel
theorem dX2_exchangeText_4 : decode cX2_exchangeText 4 = .ok (.astore_n 3, 1) := by decide +kernel
theorem dX2_exchangeText_5 : decode cX2_exchangeText 5 = .ok (.aload_n 0, 1) := by decide +kernel
theorem dX2_exchangeText_6 : decode cX2_exchangeText 6 = .ok (.iload_n 1, 1) := by decide +kernel
theorem dX2_exchangeText_7 : decode cX2_exchangeText 7 = .ok (.invokevirtual 67, 3) := by decide +kernel
theorem dX2_exchangeText_10 : decode cX2_exchangeText 10 = .ok (.ifCond .eq 26, 3) := by decide +kernel
theorem dX2_exchangeText_13 : decode cX2_exchangeText 13 = .ok (.aload_n 0, 1) := by decide +kernel
theorem dX2_exchangeText_14 : decode cX2_exchangeText 14 = .ok (.getfield 19, 3) := by decide +kernel
theorem dX2_exchangeText_17 : decode cX2_exchangeText 17 = .ok (.iload_n 1, 1) := by decide +kernel
theorem dX2_exchangeText_18 : decode cX2_exchangeText 18 = .ok (.aaload, 1) := by decide +kernel
theorem dX2_exchangeText_19 : decode cX2_exchangeText 19 = .ok (.getfield 71, 3) := by decide +kernel
theorem dX2_exchangeText_22 : decode cX2_exchangeText 22 = .ok (.astore_n 3, 1) := by decide +kernel
theorem dX2_exchangeText_23 : decode cX2_exchangeText 23 = .ok (.aload_n 0, 1) := by decide +kernel
theorem dX2_exchangeText_24 : decode cX2_exchangeText 24 = .ok (.getfield 19, 3) := by decide +kernel
theorem dX2_exchangeText_27 : decode cX2_exchangeText 27 = .ok (.iload_n 1, 1) := by decide +kernel
theorem dX2_exchangeText_28 : decode cX2_exchangeText 28 = .ok (.aaload, 1) := by decide +kernel
theorem dX2_exchangeText_29 : decode cX2_exchangeText 29 = .ok (.aload_n 2, 1) := by decide +kernel
theorem dX2_exchangeText_30 : decode cX2_exchangeText 30 = .ok (.putfield 71, 3) := by decide +kernel
theorem dX2_exchangeText_33 : decode cX2_exchangeText 33 = .ok (.goto 8, 3) := by decide +kernel
theorem dX2_exchangeText_36 : decode cX2_exchangeText 36 = .ok (.aload_n 0, 1) := by decide +kernel
theorem dX2_exchangeText_37 : decode cX2_exchangeText 37 = .ok (.aload_n 2, 1) := by decide +kernel
theorem dX2_exchangeText_38 : decode cX2_exchangeText 38 = .ok (.putfield 30, 3) := by decide +kernel
theorem dX2_exchangeText_41 : decode cX2_exchangeText 41 = .ok (.aload_n 3, 1) := by decide +kernel
theorem dX2_exchangeText_42 : decode cX2_exchangeText 42 = .ok (.areturn, 1) := by decide +kernel
theorem dX2_startOf_0 : decode cX2_startOf 0 = .ok (.aload_n 0, 1) := by decide +kernel
theorem dX2_startOf_1 : decode cX2_startOf 1 = .ok (.iload_n 1, 1) := by decide +kernel
theorem dX2_startOf_2 : decode cX2_startOf 2 = .ok (.invokevirtual 72, 3) := by decide +kernel
theorem dX2_startOf_5 : decode cX2_startOf 5 = .ok (.aload_n 0, 1) := by decide +kernel
theorem dX2_startOf_6 : decode cX2_startOf 6 = .ok (.getfield 30, 3) := by decide +kernel
theorem dX2_startOf_9 : decode cX2_startOf 9 = .ok (.iconst 1, 1) := by decide +kernel
theorem dX2_startOf_10 : decode cX2_startOf 10 = .ok (.aload_n 0, 1) := by decide +kernel
theorem dX2_startOf_11 : decode cX2_startOf 11 = .ok (.getfield 34, 3) := by decide +kernel
theorem dX2_startOf_14 : decode cX2_startOf 14 = .ok (.bipush 100, 2) := by decide +kernel
theorem dX2_startOf_16 : decode cX2_startOf 16 = .ok (.invokevirtual 76, 3) := by decide +kernel
theorem dX2_startOf_19 : decode cX2_startOf 19 = .ok (.sipush 999, 3) := by decide +kernel
theorem dX2_startOf_22 : decode cX2_startOf 22 = .ok (.invokestatic 80, 3) := by decide +kernel
theorem dX2_startOf_25 : decode cX2_startOf 25 = .ok (.ireturn, 1) := by decide +kernel
theorem dX2_leastOf_0 : decode cX2_leastOf 0 = .ok (.aload_n 0, 1) := by decide +kernel
theorem dX2_leastOf_1 : decode cX2_leastOf 1 = .ok (.iload_n 1, 1) := by decide +kernel
theorem dX2_leastOf_2 : decode cX2_leastOf 2 = .ok (.invokevirtual 72, 3) := by decide +kernel
theorem dX2_leastOf_5 : decode cX2_leastOf 5 = .ok (.aload_n 0, 1) := by decide +kernel
theorem dX2_leastOf_6 : decode cX2_leastOf 6 = .ok (.getfield 30, 3) := by decide +kernel
theorem dX2_leastOf_9 : decode cX2_leastOf 9 = .ok (.iconst 2, 1) := by decide +kernel
theorem dX2_leastOf_10 : decode cX2_leastOf 10 = .ok (.aload_n 0, 1) := by decide +kernel
theorem dX2_leastOf_11 : decode cX2_leastOf 11 = .ok (.getfield 34, 3) := by decide +kernel
theorem dX2_leastOf_14 : decode cX2_leastOf 14 = .ok (.iconst 1, 1) := by decide +kernel
theorem dX2_leastOf_15 : decode cX2_leastOf 15 = .ok (.invokevirtual 76, 3) := by decide +kernel
theorem dX2_leastOf_18 : decode cX2_leastOf 18 = .ok (.iload_n 2, 1) := by decide +kernel
theorem dX2_leastOf_19 : decode cX2_leastOf 19 = .ok (.invokestatic 80, 3) := by decide +kernel
theorem dX2_leastOf_22 : decode cX2_leastOf 22 = .ok (.ireturn, 1) := by decide +kernel
theorem dX2_heldTo_0 : decode cX2_heldTo 0 = .ok (.iconst 1, 1) := by decide +kernel
theorem dX2_heldTo_1 : decode cX2_heldTo 1 = .ok (.iload_n 0, 1) := by decide +kernel
theorem dX2_heldTo_2 : decode cX2_heldTo 2 = .ok (.iload_n 1, 1) := by decide +kernel
theorem dX2_heldTo_3 : decode cX2_heldTo 3 = .ok (.invokestatic 84, 3) := by decide +kernel
theorem dX2_heldTo_6 : decode cX2_heldTo 6 = .ok (.invokestatic 89, 3) := by decide +kernel
theorem dX2_heldTo_9 : decode cX2_heldTo 9 = .ok (.ireturn, 1) := by decide +kernel
theorem dX2_limitOf_0 : decode cX2_limitOf 0 = .ok (.aload_n 0, 1) := by decide +kernel
theorem dX2_limitOf_1 : decode cX2_limitOf 1 = .ok (.getfield 11, 3) := by decide +kernel
theorem dX2_limitOf_4 : decode cX2_limitOf 4 = .ok (.iload_n 2, 1) := by decide +kernel
theorem dX2_limitOf_5 : decode cX2_limitOf 5 = .ok (.aaload, 1) := by decide +kernel
theorem dX2_limitOf_6 : decode cX2_limitOf 6 = .ok (.getfield 55, 3) := by decide +kernel
theorem dX2_limitOf_9 : decode cX2_limitOf 9 = .ok (.istore 4, 2) := by decide +kernel
theorem dX2_limitOf_11 : decode cX2_limitOf 11 = .ok (.aload_n 0, 1) := by decide +kernel
theorem dX2_limitOf_12 : decode cX2_limitOf 12 = .ok (.iload_n 1, 1) := by decide +kernel
theorem dX2_limitOf_13 : decode cX2_limitOf 13 = .ok (.iload_n 2, 1) := by decide +kernel
theorem dX2_limitOf_14 : decode cX2_limitOf 14 = .ok (.aload_n 3, 1) := by decide +kernel
theorem dX2_limitOf_15 : decode cX2_limitOf 15 = .ok (.invokevirtual 92, 3) := by decide +kernel
theorem dX2_limitOf_18 : decode cX2_limitOf 18 = .ok (.iload 4, 2) := by decide +kernel
theorem dX2_limitOf_20 : decode cX2_limitOf 20 = .ok (.iconst 1, 1) := by decide +kernel
theorem dX2_limitOf_21 : decode cX2_limitOf 21 = .ok (.if_icmp .lt 15, 3) := by decide +kernel
theorem dX2_limitOf_24 : decode cX2_limitOf 24 = .ok (.aload_n 0, 1) := by decide +kernel
theorem dX2_limitOf_25 : decode cX2_limitOf 25 = .ok (.getfield 34, 3) := by decide +kernel
theorem dX2_limitOf_28 : decode cX2_limitOf 28 = .ok (.bipush 7, 2) := by decide +kernel
theorem dX2_limitOf_30 : decode cX2_limitOf 30 = .ok (.iaload, 1) := by decide +kernel
theorem dX2_limitOf_31 : decode cX2_limitOf 31 = .ok (.iload 4, 2) := by decide +kernel
theorem dX2_limitOf_33 : decode cX2_limitOf 33 = .ok (.if_icmp .ge 5, 3) := by decide +kernel
theorem dX2_limitOf_36 : decode cX2_limitOf 36 = .ok (.iconst 0, 1) := by decide +kernel
theorem dX2_limitOf_37 : decode cX2_limitOf 37 = .ok (.ireturn, 1) := by decide +kernel
theorem dX2_limitOf_38 : decode cX2_limitOf 38 = .ok (.aload_n 0, 1) := by decide +kernel
theorem dX2_limitOf_39 : decode cX2_limitOf 39 = .ok (.getfield 19, 3) := by decide +kernel
theorem dX2_limitOf_42 : decode cX2_limitOf 42 = .ok (.iload_n 1, 1) := by decide +kernel
theorem dX2_limitOf_43 : decode cX2_limitOf 43 = .ok (.aaload, 1) := by decide +kernel
theorem dX2_limitOf_44 : decode cX2_limitOf 44 = .ok (.getfield 71, 3) := by decide +kernel
theorem dX2_limitOf_47 : decode cX2_limitOf 47 = .ok (.iconst 0, 1) := by decide +kernel
theorem dX2_limitOf_48 : decode cX2_limitOf 48 = .ok (.aload_n 0, 1) := by decide +kernel
theorem dX2_limitOf_49 : decode cX2_limitOf 49 = .ok (.getfield 34, 3) := by decide +kernel
theorem dX2_limitOf_52 : decode cX2_limitOf 52 = .ok (.iconst 0, 1) := by decide +kernel
theorem dX2_limitOf_53 : decode cX2_limitOf 53 = .ok (.invokevirtual 76, 3) := by decide +kernel
theorem dX2_limitOf_56 : decode cX2_limitOf 56 = .ok (.istore 5, 2) := by decide +kernel
theorem dX2_limitOf_58 : decode cX2_limitOf 58 = .ok (.iload 5, 2) := by decide +kernel
theorem dX2_limitOf_60 : decode cX2_limitOf 60 = .ok (.aload_n 3, 1) := by decide +kernel
theorem dX2_limitOf_61 : decode cX2_limitOf 61 = .ok (.getfield 96, 3) := by decide +kernel
theorem dX2_limitOf_64 : decode cX2_limitOf 64 = .ok (.iload 4, 2) := by decide +kernel
theorem dX2_limitOf_66 : decode cX2_limitOf 66 = .ok (.idiv, 1) := by decide +kernel
theorem dX2_limitOf_67 : decode cX2_limitOf 67 = .ok (.invokestatic 84, 3) := by decide +kernel
theorem dX2_limitOf_70 : decode cX2_limitOf 70 = .ok (.ireturn, 1) := by decide +kernel
theorem dX2_bidRuleOf_0 : decode cX2_bidRuleOf 0 = .ok (.aload_n 0, 1) := by decide +kernel
theorem dX2_bidRuleOf_1 : decode cX2_bidRuleOf 1 = .ok (.iload_n 1, 1) := by decide +kernel
theorem dX2_bidRuleOf_2 : decode cX2_bidRuleOf 2 = .ok (.iload_n 2, 1) := by decide +kernel
theorem dX2_bidRuleOf_3 : decode cX2_bidRuleOf 3 = .ok (.aload_n 3, 1) := by decide +kernel
theorem dX2_bidRuleOf_4 : decode cX2_bidRuleOf 4 = .ok (.invokevirtual 92, 3) := by decide +kernel
theorem dX2_bidRuleOf_7 : decode cX2_bidRuleOf 7 = .ok (.aload_n 0, 1) := by decide +kernel
theorem dX2_bidRuleOf_8 : decode cX2_bidRuleOf 8 = .ok (.getfield 19, 3) := by decide +kernel
theorem dX2_bidRuleOf_11 : decode cX2_bidRuleOf 11 = .ok (.iload_n 1, 1) := by decide +kernel
theorem dX2_bidRuleOf_12 : decode cX2_bidRuleOf 12 = .ok (.aaload, 1) := by decide +kernel
theorem dX2_bidRuleOf_13 : decode cX2_bidRuleOf 13 = .ok (.getfield 71, 3) := by decide +kernel
theorem dX2_bidRuleOf_16 : decode cX2_bidRuleOf 16 = .ok (.iconst 0, 1) := by decide +kernel
theorem dX2_bidRuleOf_17 : decode cX2_bidRuleOf 17 = .ok (.aload_n 0, 1) := by decide +kernel
theorem dX2_bidRuleOf_18 : decode cX2_bidRuleOf 18 = .ok (.getfield 34, 3) := by decide +kernel
theorem dX2_bidRuleOf_21 : decode cX2_bidRuleOf 21 = .ok (.invokevirtual 101, 3) := by decide +kernel
theorem dX2_bidRuleOf_24 : decode cX2_bidRuleOf 24 = .ok (.ireturn, 1) := by decide +kernel
theorem dX2_stillWanted_0 : decode cX2_stillWanted 0 = .ok (.iconst 0, 1) := by decide +kernel
theorem dX2_stillWanted_1 : decode cX2_stillWanted 1 = .ok (.aload_n 0, 1) := by decide +kernel
theorem dX2_stillWanted_2 : decode cX2_stillWanted 2 = .ok (.getfield 19, 3) := by decide +kernel
theorem dX2_stillWanted_5 : decode cX2_stillWanted 5 = .ok (.iload_n 1, 1) := by decide +kernel
theorem dX2_stillWanted_6 : decode cX2_stillWanted 6 = .ok (.aaload, 1) := by decide +kernel
theorem dX2_stillWanted_7 : decode cX2_stillWanted 7 = .ok (.getfield 105, 3) := by decide +kernel
theorem dX2_stillWanted_10 : decode cX2_stillWanted 10 = .ok (.iload_n 2, 1) := by decide +kernel
theorem dX2_stillWanted_11 : decode cX2_stillWanted 11 = .ok (.iaload, 1) := by decide +kernel
theorem dX2_stillWanted_12 : decode cX2_stillWanted 12 = .ok (.aload_n 3, 1) := by decide +kernel
theorem dX2_stillWanted_13 : decode cX2_stillWanted 13 = .ok (.getfield 108, 3) := by decide +kernel
theorem dX2_stillWanted_16 : decode cX2_stillWanted 16 = .ok (.iload_n 2, 1) := by decide +kernel
theorem dX2_stillWanted_17 : decode cX2_stillWanted 17 = .ok (.iaload, 1) := by decide +kernel
theorem dX2_stillWanted_18 : decode cX2_stillWanted 18 = .ok (.isub, 1) := by decide +kernel
theorem dX2_stillWanted_19 : decode cX2_stillWanted 19 = .ok (.invokestatic 89, 3) := by decide +kernel
theorem dX2_stillWanted_22 : decode cX2_stillWanted 22 = .ok (.ireturn, 1) := by decide +kernel
theorem dX2_setLotVariables_0 : decode cX2_setLotVariables 0 = .ok (.aload_n 0, 1) := by decide +kernel
theorem dX2_setLotVariables_1 : decode cX2_setLotVariables 1 = .ok (.getfield 11, 3) := by decide +kernel
theorem dX2_setLotVariables_4 : decode cX2_setLotVariables 4 = .ok (.iload_n 1, 1) := by decide +kernel
theorem dX2_setLotVariables_5 : decode cX2_setLotVariables 5 = .ok (.aaload, 1) := by decide +kernel
theorem dX2_setLotVariables_6 : decode cX2_setLotVariables 6 = .ok (.astore_n 2, 1) := by decide +kernel
theorem dX2_setLotVariables_7 : decode cX2_setLotVariables 7 = .ok (.aload_n 0, 1) := by decide +kernel
theorem dX2_setLotVariables_8 : decode cX2_setLotVariables 8 = .ok (.getfield 34, 3) := by decide +kernel
theorem dX2_setLotVariables_11 : decode cX2_setLotVariables 11 = .ok (.iconst 0, 1) := by decide +kernel
theorem dX2_setLotVariables_12 : decode cX2_setLotVariables 12 = .ok (.aload_n 2, 1) := by decide +kernel
theorem dX2_setLotVariables_13 : decode cX2_setLotVariables 13 = .ok (.getfield 46, 3) := by decide +kernel
theorem dX2_setLotVariables_16 : decode cX2_setLotVariables 16 = .ok (.iastore, 1) := by decide +kernel
theorem dX2_setLotVariables_17 : decode cX2_setLotVariables 17 = .ok (.aload_n 0, 1) := by decide +kernel
theorem dX2_setLotVariables_18 : decode cX2_setLotVariables 18 = .ok (.getfield 34, 3) := by decide +kernel
theorem dX2_setLotVariables_21 : decode cX2_setLotVariables 21 = .ok (.iconst 1, 1) := by decide +kernel
theorem dX2_setLotVariables_22 : decode cX2_setLotVariables 22 = .ok (.aload_n 2, 1) := by decide +kernel
theorem dX2_setLotVariables_23 : decode cX2_setLotVariables 23 = .ok (.getfield 49, 3) := by decide +kernel
theorem dX2_setLotVariables_26 : decode cX2_setLotVariables 26 = .ok (.iastore, 1) := by decide +kernel
theorem dX2_setLotVariables_27 : decode cX2_setLotVariables 27 = .ok (.aload_n 0, 1) := by decide +kernel
theorem dX2_setLotVariables_28 : decode cX2_setLotVariables 28 = .ok (.getfield 34, 3) := by decide +kernel
theorem dX2_setLotVariables_31 : decode cX2_setLotVariables 31 = .ok (.iconst 2, 1) := by decide +kernel
theorem dX2_setLotVariables_32 : decode cX2_setLotVariables 32 = .ok (.aload_n 2, 1) := by decide +kernel
theorem dX2_setLotVariables_33 : decode cX2_setLotVariables 33 = .ok (.getfield 52, 3) := by decide +kernel
theorem dX2_setLotVariables_36 : decode cX2_setLotVariables 36 = .ok (.iastore, 1) := by decide +kernel
theorem dX2_setLotVariables_37 : decode cX2_setLotVariables 37 = .ok (.aload_n 0, 1) := by decide +kernel
theorem dX2_setLotVariables_38 : decode cX2_setLotVariables 38 = .ok (.getfield 34, 3) := by decide +kernel
theorem dX2_setLotVariables_41 : decode cX2_setLotVariables 41 = .ok (.iconst 3, 1) := by decide +kernel
theorem dX2_setLotVariables_42 : decode cX2_setLotVariables 42 = .ok (.aload_n 2, 1) := by decide +kernel
theorem dX2_setLotVariables_43 : decode cX2_setLotVariables 43 = .ok (.getfield 55, 3) := by decide +kernel
theorem dX2_setLotVariables_46 : decode cX2_setLotVariables 46 = .ok (.iastore, 1) := by decide +kernel
theorem dX2_setLotVariables_47 : decode cX2_setLotVariables 47 = .ok (.aload_n 0, 1) := by decide +kernel
theorem dX2_setLotVariables_48 : decode cX2_setLotVariables 48 = .ok (.getfield 34, 3) := by decide +kernel
theorem dX2_setLotVariables_51 : decode cX2_setLotVariables 51 = .ok (.iconst 4, 1) := by decide +kernel
theorem dX2_setLotVariables_52 : decode cX2_setLotVariables 52 = .ok (.aload_n 2, 1) := by decide +kernel
theorem dX2_setLotVariables_53 : decode cX2_setLotVariables 53 = .ok (.getfield 58, 3) := by decide +kernel
theorem dX2_setLotVariables_56 : decode cX2_setLotVariables 56 = .ok (.iastore, 1) := by decide +kernel
theorem dX2_setLotVariables_57 : decode cX2_setLotVariables 57 = .ok (.aload_n 0, 1) := by decide +kernel
theorem dX2_setLotVariables_58 : decode cX2_setLotVariables 58 = .ok (.getfield 34, 3) := by decide +kernel
theorem dX2_setLotVariables_61 : decode cX2_setLotVariables 61 = .ok (.iconst 5, 1) := by decide +kernel
theorem dX2_setLotVariables_62 : decode cX2_setLotVariables 62 = .ok (.aload_n 0, 1) := by decide +kernel
theorem dX2_setLotVariables_63 : decode cX2_setLotVariables 63 = .ok (.getfield 23, 3) := by decide +kernel
theorem dX2_setLotVariables_66 : decode cX2_setLotVariables 66 = .ok (.aload_n 2, 1) := by decide +kernel
theorem dX2_setLotVariables_67 : decode cX2_setLotVariables 67 = .ok (.getfield 49, 3) := by decide +kernel
theorem dX2_setLotVariables_70 : decode cX2_setLotVariables 70 = .ok (.iaload, 1) := by decide +kernel
theorem dX2_setLotVariables_71 : decode cX2_setLotVariables 71 = .ok (.iastore, 1) := by decide +kernel
theorem dX2_setLotVariables_72 : decode cX2_setLotVariables 72 = .ok (.aload_n 0, 1) := by decide +kernel
theorem dX2_setLotVariables_73 : decode cX2_setLotVariables 73 = .ok (.getfield 34, 3) := by decide +kernel
theorem dX2_setLotVariables_76 : decode cX2_setLotVariables 76 = .ok (.bipush 6, 2) := by decide +kernel
theorem dX2_setLotVariables_78 : decode cX2_setLotVariables 78 = .ok (.iconst 0, 1) := by decide +kernel
theorem dX2_setLotVariables_79 : decode cX2_setLotVariables 79 = .ok (.iastore, 1) := by decide +kernel
theorem dX2_setLotVariables_80 : decode cX2_setLotVariables 80 = .ok (.aload_n 0, 1) := by decide +kernel
theorem dX2_setLotVariables_81 : decode cX2_setLotVariables 81 = .ok (.getfield 34, 3) := by decide +kernel
theorem dX2_setLotVariables_84 : decode cX2_setLotVariables 84 = .ok (.bipush 7, 2) := by decide +kernel
theorem dX2_setLotVariables_86 : decode cX2_setLotVariables 86 = .ok (.iconst 0, 1) := by decide +kernel
theorem dX2_setLotVariables_87 : decode cX2_setLotVariables 87 = .ok (.iastore, 1) := by decide +kernel
theorem dX2_setLotVariables_88 : decode cX2_setLotVariables 88 = .ok (.aload_n 0, 1) := by decide +kernel
theorem dX2_setLotVariables_89 : decode cX2_setLotVariables 89 = .ok (.getfield 34, 3) := by decide +kernel
theorem dX2_setLotVariables_92 : decode cX2_setLotVariables 92 = .ok (.bipush 8, 2) := by decide +kernel
theorem dX2_setLotVariables_94 : decode cX2_setLotVariables 94 = .ok (.iconst 0, 1) := by decide +kernel
theorem dX2_setLotVariables_95 : decode cX2_setLotVariables 95 = .ok (.iastore, 1) := by decide +kernel
theorem dX2_setLotVariables_96 : decode cX2_setLotVariables 96 = .ok (.aload_n 0, 1) := by decide +kernel
theorem dX2_setLotVariables_97 : decode cX2_setLotVariables 97 = .ok (.getfield 34, 3) := by decide +kernel
theorem dX2_setLotVariables_100 : decode cX2_setLotVariables 100 = .ok (.bipush 9, 2) := by decide +kernel
theorem dX2_setLotVariables_102 : decode cX2_setLotVariables 102 = .ok (.iload_n 1, 1) := by decide +kernel
theorem dX2_setLotVariables_103 : decode cX2_setLotVariables 103 = .ok (.iastore, 1) := by decide +kernel
theorem dX2_setLotVariables_104 : decode cX2_setLotVariables 104 = .ok (.return_, 1) := by decide +kernel
theorem dX2_setBuyerVariables_0 : decode cX2_setBuyerVariables 0 = .ok (.aload_n 0, 1) := by decide +kernel
theorem dX2_setBuyerVariables_1 : decode cX2_setBuyerVariables 1 = .ok (.iload_n 2, 1) := by decide +kernel
theorem dX2_setBuyerVariables_2 : decode cX2_setBuyerVariables 2 = .ok (.invokevirtual 72, 3) := by decide +kernel
theorem dX2_setBuyerVariables_5 : decode cX2_setBuyerVariables 5 = .ok (.aload_n 0, 1) := by decide +kernel
theorem dX2_setBuyerVariables_6 : decode cX2_setBuyerVariables 6 = .ok (.getfield 11, 3) := by decide +kernel
theorem dX2_setBuyerVariables_9 : decode cX2_setBuyerVariables 9 = .ok (.iload_n 2, 1) := by decide +kernel
theorem dX2_setBuyerVariables_10 : decode cX2_setBuyerVariables 10 = .ok (.aaload, 1) := by decide +kernel
theorem dX2_setBuyerVariables_11 : decode cX2_setBuyerVariables 11 = .ok (.getfield 49, 3) := by decide +kernel
theorem dX2_setBuyerVariables_14 : decode cX2_setBuyerVariables 14 = .ok (.istore 4, 2) := by decide +kernel
theorem dX2_setBuyerVariables_16 : decode cX2_setBuyerVariables 16 = .ok (.aload_n 0, 1) := by decide +kernel
theorem dX2_setBuyerVariables_17 : decode cX2_setBuyerVariables 17 = .ok (.getfield 34, 3) := by decide +kernel
theorem dX2_setBuyerVariables_20 : decode cX2_setBuyerVariables 20 = .ok (.bipush 6, 2) := by decide +kernel
theorem dX2_setBuyerVariables_22 : decode cX2_setBuyerVariables 22 = .ok (.aload_n 3, 1) := by decide +kernel
theorem dX2_setBuyerVariables_23 : decode cX2_setBuyerVariables 23 = .ok (.getfield 108, 3) := by decide +kernel
theorem dX2_setBuyerVariables_26 : decode cX2_setBuyerVariables 26 = .ok (.iload 4, 2) := by decide +kernel
theorem dX2_setBuyerVariables_28 : decode cX2_setBuyerVariables 28 = .ok (.iaload, 1) := by decide +kernel
theorem dX2_setBuyerVariables_29 : decode cX2_setBuyerVariables 29 = .ok (.iastore, 1) := by decide +kernel
theorem dX2_setBuyerVariables_30 : decode cX2_setBuyerVariables 30 = .ok (.aload_n 0, 1) := by decide +kernel
theorem dX2_setBuyerVariables_31 : decode cX2_setBuyerVariables 31 = .ok (.getfield 34, 3) := by decide +kernel
theorem dX2_setBuyerVariables_34 : decode cX2_setBuyerVariables 34 = .ok (.bipush 7, 2) := by decide +kernel
theorem dX2_setBuyerVariables_36 : decode cX2_setBuyerVariables 36 = .ok (.aload_n 0, 1) := by decide +kernel
theorem dX2_setBuyerVariables_37 : decode cX2_setBuyerVariables 37 = .ok (.iload_n 1, 1) := by decide +kernel
theorem dX2_setBuyerVariables_38 : decode cX2_setBuyerVariables 38 = .ok (.iload 4, 2) := by decide +kernel
theorem dX2_setBuyerVariables_40 : decode cX2_setBuyerVariables 40 = .ok (.aload_n 3, 1) := by decide +kernel
theorem dX2_setBuyerVariables_41 : decode cX2_setBuyerVariables 41 = .ok (.invokevirtual 111, 3) := by decide +kernel
theorem dX2_setBuyerVariables_44 : decode cX2_setBuyerVariables 44 = .ok (.iastore, 1) := by decide +kernel
theorem dX2_setBuyerVariables_45 : decode cX2_setBuyerVariables 45 = .ok (.aload_n 0, 1) := by decide +kernel
theorem dX2_setBuyerVariables_46 : decode cX2_setBuyerVariables 46 = .ok (.getfield 34, 3) := by decide +kernel
theorem dX2_setBuyerVariables_49 : decode cX2_setBuyerVariables 49 = .ok (.bipush 8, 2) := by decide +kernel
theorem dX2_setBuyerVariables_51 : decode cX2_setBuyerVariables 51 = .ok (.aload_n 3, 1) := by decide +kernel
theorem dX2_setBuyerVariables_52 : decode cX2_setBuyerVariables 52 = .ok (.getfield 96, 3) := by decide +kernel
theorem dX2_setBuyerVariables_55 : decode cX2_setBuyerVariables 55 = .ok (.iastore, 1) := by decide +kernel
theorem dX2_setBuyerVariables_56 : decode cX2_setBuyerVariables 56 = .ok (.return_, 1) := by decide +kernel
theorem dX3_init_0 : decode cX3_init 0 = .ok (.aload_n 0, 1) := by decide +kernel
theorem dX3_init_1 : decode cX3_init 1 = .ok (.invokespecial 3, 3) := by decide +kernel
theorem dX3_init_4 : decode cX3_init 4 = .ok (.aload_n 0, 1) := by decide +kernel
theorem dX3_init_5 : decode cX3_init 5 = .ok (.bipush 24, 2) := by decide +kernel
theorem dX3_init_7 : decode cX3_init 7 = .ok (.newarray .int, 2) := by decide +kernel
theorem dX3_init_9 : decode cX3_init 9 = .ok (.putfield 9, 3) := by decide +kernel
theorem dX3_init_12 : decode cX3_init 12 = .ok (.aload_n 0, 1) := by decide +kernel
theorem dX3_init_13 : decode cX3_init 13 = .ok (.bipush 24, 2) := by decide +kernel
theorem dX3_init_15 : decode cX3_init 15 = .ok (.newarray .int, 2) := by decide +kernel
theorem dX3_init_17 : decode cX3_init 17 = .ok (.putfield 15, 3) := by decide +kernel
theorem dX3_init_20 : decode cX3_init 20 = .ok (.aload_n 0, 1) := by decide +kernel
theorem dX3_init_21 : decode cX3_init 21 = .ok (.bipush 25, 2) := by decide +kernel
theorem dX3_init_23 : decode cX3_init 23 = .ok (.bipush 61, 2) := by decide +kernel
theorem dX3_init_25 : decode cX3_init 25 = .ok (.multianewarray 18 2, 4) := by decide +kernel
theorem dX3_init_29 : decode cX3_init 29 = .ok (.putfield 20, 3) := by decide +kernel
theorem dX3_init_32 : decode cX3_init 32 = .ok (.return_, 1) := by decide +kernel
theorem dX3_fill_0 : decode cX3_fill 0 = .ok (.aload_n 1, 1) := by decide +kernel
theorem dX3_fill_1 : decode cX3_fill 1 = .ok (.getfield 23, 3) := by decide +kernel
theorem dX3_fill_4 : decode cX3_fill 4 = .ok (.bipush 60, 2) := by decide +kernel
theorem dX3_fill_6 : decode cX3_fill 6 = .ok (.invokestatic 29, 3) := by decide +kernel
theorem dX3_fill_9 : decode cX3_fill 9 = .ok (.istore 5, 2) := by decide +kernel
theorem dX3_fill_11 : decode cX3_fill 11 = .ok (.aload_n 0, 1) := by decide +kernel
theorem dX3_fill_12 : decode cX3_fill 12 = .ok (.aload_n 1, 1) := by decide +kernel
theorem dX3_fill_13 : decode cX3_fill 13 = .ok (.aload_n 3, 1) := by decide +kernel
theorem dX3_fill_14 : decode cX3_fill 14 = .ok (.aload 4, 2) := by decide +kernel
theorem dX3_fill_16 : decode cX3_fill 16 = .ok (.invokevirtual 35, 3) := by decide +kernel
theorem dX3_fill_19 : decode cX3_fill 19 = .ok (.aload_n 0, 1) := by decide +kernel
theorem dX3_fill_20 : decode cX3_fill 20 = .ok (.iload 5, 2) := by decide +kernel
theorem dX3_fill_22 : decode cX3_fill 22 = .ok (.invokevirtual 39, 3) := by decide +kernel
theorem dX3_fill_25 : decode cX3_fill 25 = .ok (.aload_n 1, 1) := by decide +kernel
theorem dX3_fill_26 : decode cX3_fill 26 = .ok (.invokevirtual 43, 3) := by decide +kernel
theorem dX3_fill_29 : decode cX3_fill 29 = .ok (.aload_n 0, 1) := by decide +kernel
theorem dX3_fill_30 : decode cX3_fill 30 = .ok (.iload 5, 2) := by decide +kernel
theorem dX3_fill_32 : decode cX3_fill 32 = .ok (.invokevirtual 46, 3) := by decide +kernel
theorem dX3_fill_35 : decode cX3_fill 35 = .ok (.istore 6, 2) := by decide +kernel
theorem dX3_fill_37 : decode cX3_fill 37 = .ok (.iconst 0, 1) := by decide +kernel
theorem dX3_fill_38 : decode cX3_fill 38 = .ok (.istore 7, 2) := by decide +kernel
theorem dX3_fill_40 : decode cX3_fill 40 = .ok (.iload 7, 2) := by decide +kernel
theorem dX3_fill_42 : decode cX3_fill 42 = .ok (.aload_n 0, 1) := by decide +kernel
theorem dX3_fill_43 : decode cX3_fill 43 = .ok (.getfield 50, 3) := by decide +kernel
theorem dX3_fill_46 : decode cX3_fill 46 = .ok (.if_icmp .ge 107, 3) := by decide +kernel
theorem dX3_fill_49 : decode cX3_fill 49 = .ok (.aload_n 0, 1) := by decide +kernel
theorem dX3_fill_50 : decode cX3_fill 50 = .ok (.getfield 20, 3) := by decide +kernel
theorem dX3_fill_53 : decode cX3_fill 53 = .ok (.iload 7, 2) := by decide +kernel
theorem dX3_fill_55 : decode cX3_fill 55 = .ok (.aaload, 1) := by decide +kernel
theorem dX3_fill_56 : decode cX3_fill 56 = .ok (.iload 6, 2) := by decide +kernel
theorem dX3_fill_58 : decode cX3_fill 58 = .ok (.iaload, 1) := by decide +kernel
theorem dX3_fill_59 : decode cX3_fill 59 = .ok (.istore 8, 2) := by decide +kernel
theorem dX3_fill_61 : decode cX3_fill 61 = .ok (.aload_n 0, 1) := by decide +kernel
theorem dX3_fill_62 : decode cX3_fill 62 = .ok (.getfield 15, 3) := by decide +kernel
theorem dX3_fill_65 : decode cX3_fill 65 = .ok (.iload 7, 2) := by decide +kernel
theorem dX3_fill_67 : decode cX3_fill 67 = .ok (.iaload, 1) := by decide +kernel
theorem dX3_fill_68 : decode cX3_fill 68 = .ok (.iload 6, 2) := by decide +kernel
theorem dX3_fill_70 : decode cX3_fill 70 = .ok (.if_icmp .gt 77, 3) := by decide +kernel
theorem dX3_fill_73 : decode cX3_fill 73 = .ok (.aload_n 0, 1) := by decide +kernel
theorem dX3_fill_74 : decode cX3_fill 74 = .ok (.getfield 20, 3) := by decide +kernel
theorem dX3_fill_77 : decode cX3_fill 77 = .ok (.iload 7, 2) := by decide +kernel
theorem dX3_fill_79 : decode cX3_fill 79 = .ok (.iconst 1, 1) := by decide +kernel
theorem dX3_fill_80 : decode cX3_fill 80 = .ok (.iadd, 1) := by decide +kernel
theorem dX3_fill_81 : decode cX3_fill 81 = .ok (.aaload, 1) := by decide +kernel
theorem dX3_fill_82 : decode cX3_fill 82 = .ok (.iload 6, 2) := by decide +kernel
theorem dX3_fill_84 : decode cX3_fill 84 = .ok (.aload_n 0, 1) := by decide +kernel
theorem dX3_fill_85 : decode cX3_fill 85 = .ok (.getfield 15, 3) := by decide +kernel
theorem dX3_fill_88 : decode cX3_fill 88 = .ok (.iload 7, 2) := by decide +kernel
theorem dX3_fill_90 : decode cX3_fill 90 = .ok (.iaload, 1) := by decide +kernel
theorem dX3_fill_91 : decode cX3_fill 91 = .ok (.isub, 1) := by decide +kernel
theorem dX3_fill_92 : decode cX3_fill 92 = .ok (.iaload, 1) := by decide +kernel
theorem dX3_fill_93 : decode cX3_fill 93 = .ok (.iconst 1, 1) := by decide +kernel
theorem dX3_fill_94 : decode cX3_fill 94 = .ok (.iadd, 1) := by decide +kernel
theorem dX3_fill_95 : decode cX3_fill 95 = .ok (.iload 8, 2) := by decide +kernel
theorem dX3_fill_97 : decode cX3_fill 97 = .ok (.if_icmp .ne 50, 3) := by decide +kernel
theorem dX3_fill_100 : decode cX3_fill 100 = .ok (.iload 6, 2) := by decide +kernel
theorem dX3_fill_102 : decode cX3_fill 102 = .ok (.aload_n 0, 1) := by decide +kernel
theorem dX3_fill_103 : decode cX3_fill 103 = .ok (.getfield 15, 3) := by decide +kernel
theorem dX3_fill_106 : decode cX3_fill 106 = .ok (.iload 7, 2) := by decide +kernel
theorem dX3_fill_108 : decode cX3_fill 108 = .ok (.iaload, 1) := by decide +kernel
theorem dX3_fill_109 : decode cX3_fill 109 = .ok (.isub, 1) := by decide +kernel
theorem dX3_fill_110 : decode cX3_fill 110 = .ok (.istore 6, 2) := by decide +kernel
theorem dX3_fill_112 : decode cX3_fill 112 = .ok (.aload_n 1, 1) := by decide +kernel
theorem dX3_fill_113 : decode cX3_fill 113 = .ok (.aload_n 0, 1) := by decide +kernel
theorem dX3_fill_114 : decode cX3_fill 114 = .ok (.getfield 9, 3) := by decide +kernel
theorem dX3_fill_117 : decode cX3_fill 117 = .ok (.iload 7, 2) := by decide +kernel
theorem dX3_fill_119 : decode cX3_fill 119 = .ok (.iaload, 1) := by decide +kernel
theorem dX3_fill_120 : decode cX3_fill 120 = .ok (.aload_n 0, 1) := by decide +kernel
theorem dX3_fill_121 : decode cX3_fill 121 = .ok (.getfield 15, 3) := by decide +kernel
theorem dX3_fill_124 : decode cX3_fill 124 = .ok (.iload 7, 2) := by decide +kernel
theorem dX3_fill_126 : decode cX3_fill 126 = .ok (.iaload, 1) := by decide +kernel
theorem dX3_fill_127 : decode cX3_fill 127 = .ok (.invokevirtual 53, 3) := by decide +kernel
theorem dX3_fill_130 : decode cX3_fill 130 = .ok (.aload 4, 2) := by decide +kernel
theorem dX3_fill_132 : decode cX3_fill 132 = .ok (.getfield 57, 3) := by decide +kernel
theorem dX3_fill_135 : decode cX3_fill 135 = .ok (.aload_n 0, 1) := by decide +kernel
theorem dX3_fill_136 : decode cX3_fill 136 = .ok (.getfield 9, 3) := by decide +kernel
theorem dX3_fill_139 : decode cX3_fill 139 = .ok (.iload 7, 2) := by decide +kernel
theorem dX3_fill_141 : decode cX3_fill 141 = .ok (.iaload, 1) := by decide +kernel
theorem dX3_fill_142 : decode cX3_fill 142 = .ok (.aaload, 1) := by decide +kernel
theorem dX3_fill_143 : decode cX3_fill 143 = .ok (.iload_n 2, 1) := by decide +kernel
theorem dX3_fill_144 : decode cX3_fill 144 = .ok (.putfield 63, 3) := by decide +kernel
theorem dX3_fill_147 : decode cX3_fill 147 = .ok (.iinc 7 1, 3) := by decide +kernel
theorem dX3_fill_150 : decode cX3_fill 150 = .ok (.goto (-110), 3) := by decide +kernel
theorem dX3_fill_153 : decode cX3_fill 153 = .ok (.return_, 1) := by decide +kernel
theorem dX3_gather_0 : decode cX3_gather 0 = .ok (.aload_n 0, 1) := by decide +kernel
theorem dX3_gather_1 : decode cX3_gather 1 = .ok (.iconst 0, 1) := by decide +kernel
theorem dX3_gather_2 : decode cX3_gather 2 = .ok (.putfield 50, 3) := by decide +kernel
theorem dX3_gather_5 : decode cX3_gather 5 = .ok (.iconst 0, 1) := by decide +kernel
theorem dX3_gather_6 : decode cX3_gather 6 = .ok (.istore 4, 2) := by decide +kernel
theorem dX3_gather_8 : decode cX3_gather 8 = .ok (.iload 4, 2) := by decide +kernel
theorem dX3_gather_10 : decode cX3_gather 10 = .ok (.aload_n 2, 1) := by decide +kernel
theorem dX3_gather_11 : decode cX3_gather 11 = .ok (.getfield 68, 3) := by decide +kernel
theorem dX3_gather_14 : decode cX3_gather 14 = .ok (.if_icmp .ge 111, 3) := by decide +kernel
theorem dX3_gather_17 : decode cX3_gather 17 = .ok (.aload_n 3, 1) := by decide +kernel
theorem dX3_gather_18 : decode cX3_gather 18 = .ok (.getfield 57, 3) := by decide +kernel
theorem dX3_gather_21 : decode cX3_gather 21 = .ok (.iload 4, 2) := by decide +kernel
theorem dX3_gather_23 : decode cX3_gather 23 = .ok (.aaload, 1) := by decide +kernel
theorem dX3_gather_24 : decode cX3_gather 24 = .ok (.astore 5, 2) := by decide +kernel
theorem dX3_gather_26 : decode cX3_gather 26 = .ok (.aload_n 2, 1) := by decide +kernel
theorem dX3_gather_27 : decode cX3_gather 27 = .ok (.getfield 71, 3) := by decide +kernel
theorem dX3_gather_30 : decode cX3_gather 30 = .ok (.iload 4, 2) := by decide +kernel
theorem dX3_gather_32 : decode cX3_gather 32 = .ok (.aaload, 1) := by decide +kernel
theorem dX3_gather_33 : decode cX3_gather 33 = .ok (.getfield 74, 3) := by decide +kernel
theorem dX3_gather_36 : decode cX3_gather 36 = .ok (.istore 6, 2) := by decide +kernel
theorem dX3_gather_38 : decode cX3_gather 38 = .ok (.aload 5, 2) := by decide +kernel
theorem dX3_gather_40 : decode cX3_gather 40 = .ok (.getfield 63, 3) := by decide +kernel
theorem dX3_gather_43 : decode cX3_gather 43 = .ok (.iconst (-1), 1) := by decide +kernel
theorem dX3_gather_44 : decode cX3_gather 44 = .ok (.if_icmp .ne 20, 3) := by decide +kernel
theorem dX3_gather_47 : decode cX3_gather 47 = .ok (.aload_n 3, 1) := by decide +kernel
theorem dX3_gather_48 : decode cX3_gather 48 = .ok (.aload_n 1, 1) := by decide +kernel
theorem dX3_gather_49 : decode cX3_gather 49 = .ok (.getfield 78, 3) := by decide +kernel
theorem dX3_gather_52 : decode cX3_gather 52 = .ok (.iload 4, 2) := by decide +kernel
theorem dX3_gather_54 : decode cX3_gather 54 = .ok (.invokevirtual 81, 3) := by decide +kernel
theorem dX3_gather_57 : decode cX3_gather 57 = .ok (.ifCond .eq 7, 3) := by decide +kernel
theorem dX3_gather_60 : decode cX3_gather 60 = .ok (.iconst 1, 1) := by decide +kernel
theorem dX3_gather_61 : decode cX3_gather 61 = .ok (.goto 4, 3) := by decide +kernel
theorem dX3_gather_64 : decode cX3_gather 64 = .ok (.iconst 0, 1) := by decide +kernel
theorem dX3_gather_65 : decode cX3_gather 65 = .ok (.istore 7, 2) := by decide +kernel
theorem dX3_gather_67 : decode cX3_gather 67 = .ok (.iload 7, 2) := by decide +kernel
theorem dX3_gather_69 : decode cX3_gather 69 = .ok (.ifCond .eq 50, 3) := by decide +kernel
theorem dX3_gather_72 : decode cX3_gather 72 = .ok (.aload 5, 2) := by decide +kernel
theorem dX3_gather_74 : decode cX3_gather 74 = .ok (.getfield 85, 3) := by decide +kernel
theorem dX3_gather_77 : decode cX3_gather 77 = .ok (.iload 6, 2) := by decide +kernel
theorem dX3_gather_79 : decode cX3_gather 79 = .ok (.iadd, 1) := by decide +kernel
theorem dX3_gather_80 : decode cX3_gather 80 = .ok (.aload_n 1, 1) := by decide +kernel
theorem dX3_gather_81 : decode cX3_gather 81 = .ok (.getfield 88, 3) := by decide +kernel
theorem dX3_gather_84 : decode cX3_gather 84 = .ok (.if_icmp .gt 35, 3) := by decide +kernel
theorem dX3_gather_87 : decode cX3_gather 87 = .ok (.aload_n 0, 1) := by decide +kernel
theorem dX3_gather_88 : decode cX3_gather 88 = .ok (.getfield 9, 3) := by decide +kernel
theorem dX3_gather_91 : decode cX3_gather 91 = .ok (.aload_n 0, 1) := by decide +kernel
theorem dX3_gather_92 : decode cX3_gather 92 = .ok (.getfield 50, 3) := by decide +kernel
theorem dX3_gather_95 : decode cX3_gather 95 = .ok (.iload 4, 2) := by decide +kernel
theorem dX3_gather_97 : decode cX3_gather 97 = .ok (.iastore, 1) := by decide +kernel
theorem dX3_gather_98 : decode cX3_gather 98 = .ok (.aload_n 0, 1) := by decide +kernel
theorem dX3_gather_99 : decode cX3_gather 99 = .ok (.getfield 15, 3) := by decide +kernel
theorem dX3_gather_102 : decode cX3_gather 102 = .ok (.aload_n 0, 1) := by decide +kernel
theorem dX3_gather_103 : decode cX3_gather 103 = .ok (.getfield 50, 3) := by decide +kernel
theorem dX3_gather_106 : decode cX3_gather 106 = .ok (.iload 6, 2) := by decide +kernel
theorem dX3_gather_108 : decode cX3_gather 108 = .ok (.iastore, 1) := by decide +kernel
theorem dX3_gather_109 : decode cX3_gather 109 = .ok (.aload_n 0, 1) := by decide +kernel
theorem dX3_gather_110 : decode cX3_gather 110 = .ok (.dup, 1) := by decide +kernel
theorem dX3_gather_111 : decode cX3_gather 111 = .ok (.getfield 50, 3) := by decide +kernel
theorem dX3_gather_114 : decode cX3_gather 114 = .ok (.iconst 1, 1) := by decide +kernel
theorem dX3_gather_115 : decode cX3_gather 115 = .ok (.iadd, 1) := by decide +kernel
theorem dX3_gather_116 : decode cX3_gather 116 = .ok (.putfield 50, 3) := by decide +kernel
theorem dX3_gather_119 : decode cX3_gather 119 = .ok (.iinc 4 1, 3) := by decide +kernel
theorem dX3_gather_122 : decode cX3_gather 122 = .ok (.goto (-114), 3) := by decide +kernel
theorem dX3_gather_125 : decode cX3_gather 125 = .ok (.return_, 1) := by decide +kernel
theorem dX3_countFewest_0 : decode cX3_countFewest 0 = .ok (.iconst 0, 1) := by decide +kernel
theorem dX3_countFewest_1 : decode cX3_countFewest 1 = .ok (.istore_n 2, 1) := by decide +kernel
theorem dX3_countFewest_2 : decode cX3_countFewest 2 = .ok (.iload_n 2, 1) := by decide +kernel
theorem dX3_countFewest_3 : decode cX3_countFewest 3 = .ok (.iload_n 1, 1) := by decide +kernel
theorem dX3_countFewest_4 : decode cX3_countFewest 4 = .ok (.if_icmp .gt 31, 3) := by decide +kernel
theorem dX3_countFewest_7 : decode cX3_countFewest 7 = .ok (.aload_n 0, 1) := by decide +kernel
theorem dX3_countFewest_8 : decode cX3_countFewest 8 = .ok (.getfield 20, 3) := by decide +kernel
theorem dX3_countFewest_11 : decode cX3_countFewest 11 = .ok (.aload_n 0, 1) := by decide +kernel
theorem dX3_countFewest_12 : decode cX3_countFewest 12 = .ok (.getfield 50, 3) := by decide +kernel
theorem dX3_countFewest_15 : decode cX3_countFewest 15 = .ok (.aaload, 1) := by decide +kernel
theorem dX3_countFewest_16 : decode cX3_countFewest 16 = .ok (.iload_n 2, 1) := by decide +kernel
theorem dX3_countFewest_17 : decode cX3_countFewest 17 = .ok (.iload_n 2, 1) := by decide +kernel
theorem dX3_countFewest_18 : decode cX3_countFewest 18 = .ok (.ifCond .ne 7, 3) := by decide +kernel
theorem dX3_countFewest_21 : decode cX3_countFewest 21 = .ok (.iconst 0, 1) := by decide +kernel
theorem dX3_countFewest_22 : decode cX3_countFewest 22 = .ok (.goto 6, 3) := by decide +kernel
theorem dX3_countFewest_25 : decode cX3_countFewest 25 = .ok (.sipush 1000, 3) := by decide +kernel
theorem dX3_countFewest_28 : decode cX3_countFewest 28 = .ok (.iastore, 1) := by decide +kernel
theorem dX3_countFewest_29 : decode cX3_countFewest 29 = .ok (.iinc 2 1, 3) := by decide +kernel
theorem dX3_countFewest_32 : decode cX3_countFewest 32 = .ok (.goto (-30), 3) := by decide +kernel
theorem dX3_countFewest_35 : decode cX3_countFewest 35 = .ok (.aload_n 0, 1) := by decide +kernel
theorem dX3_countFewest_36 : decode cX3_countFewest 36 = .ok (.getfield 50, 3) := by decide +kernel
theorem dX3_countFewest_39 : decode cX3_countFewest 39 = .ok (.iconst 1, 1) := by decide +kernel
theorem dX3_countFewest_40 : decode cX3_countFewest 40 = .ok (.isub, 1) := by decide +kernel
theorem dX3_countFewest_41 : decode cX3_countFewest 41 = .ok (.istore_n 2, 1) := by decide +kernel
theorem dX3_countFewest_42 : decode cX3_countFewest 42 = .ok (.iload_n 2, 1) := by decide +kernel
theorem dX3_countFewest_43 : decode cX3_countFewest 43 = .ok (.ifCond .lt 86, 3) := by decide +kernel
theorem dX3_countFewest_46 : decode cX3_countFewest 46 = .ok (.iconst 0, 1) := by decide +kernel
theorem dX3_countFewest_47 : decode cX3_countFewest 47 = .ok (.istore_n 3, 1) := by decide +kernel
theorem dX3_countFewest_48 : decode cX3_countFewest 48 = .ok (.iload_n 3, 1) := by decide +kernel
theorem dX3_countFewest_49 : decode cX3_countFewest 49 = .ok (.iload_n 1, 1) := by decide +kernel
theorem dX3_countFewest_50 : decode cX3_countFewest 50 = .ok (.if_icmp .gt 73, 3) := by decide +kernel
theorem dX3_countFewest_53 : decode cX3_countFewest 53 = .ok (.aload_n 0, 1) := by decide +kernel
theorem dX3_countFewest_54 : decode cX3_countFewest 54 = .ok (.getfield 20, 3) := by decide +kernel
theorem dX3_countFewest_57 : decode cX3_countFewest 57 = .ok (.iload_n 2, 1) := by decide +kernel
theorem dX3_countFewest_58 : decode cX3_countFewest 58 = .ok (.iconst 1, 1) := by decide +kernel
theorem dX3_countFewest_59 : decode cX3_countFewest 59 = .ok (.iadd, 1) := by decide +kernel
theorem dX3_countFewest_60 : decode cX3_countFewest 60 = .ok (.aaload, 1) := by decide +kernel
theorem dX3_countFewest_61 : decode cX3_countFewest 61 = .ok (.iload_n 3, 1) := by decide +kernel
theorem dX3_countFewest_62 : decode cX3_countFewest 62 = .ok (.iaload, 1) := by decide +kernel
theorem dX3_countFewest_63 : decode cX3_countFewest 63 = .ok (.istore 4, 2) := by decide +kernel
theorem dX3_countFewest_65 : decode cX3_countFewest 65 = .ok (.aload_n 0, 1) := by decide +kernel
theorem dX3_countFewest_66 : decode cX3_countFewest 66 = .ok (.getfield 15, 3) := by decide +kernel
theorem dX3_countFewest_69 : decode cX3_countFewest 69 = .ok (.iload_n 2, 1) := by decide +kernel
theorem dX3_countFewest_70 : decode cX3_countFewest 70 = .ok (.iaload, 1) := by decide +kernel
theorem dX3_countFewest_71 : decode cX3_countFewest 71 = .ok (.iload_n 3, 1) := by decide +kernel
theorem dX3_countFewest_72 : decode cX3_countFewest 72 = .ok (.if_icmp .gt 25, 3) := by decide +kernel
theorem dX3_countFewest_75 : decode cX3_countFewest 75 = .ok (.aload_n 0, 1) := by decide +kernel
theorem dX3_countFewest_76 : decode cX3_countFewest 76 = .ok (.getfield 20, 3) := by decide +kernel
theorem dX3_countFewest_79 : decode cX3_countFewest 79 = .ok (.iload_n 2, 1) := by decide +kernel
theorem dX3_countFewest_80 : decode cX3_countFewest 80 = .ok (.iconst 1, 1) := by decide +kernel
theorem dX3_countFewest_81 : decode cX3_countFewest 81 = .ok (.iadd, 1) := by decide +kernel
theorem dX3_countFewest_82 : decode cX3_countFewest 82 = .ok (.aaload, 1) := by decide +kernel
theorem dX3_countFewest_83 : decode cX3_countFewest 83 = .ok (.iload_n 3, 1) := by decide +kernel
theorem dX3_countFewest_84 : decode cX3_countFewest 84 = .ok (.aload_n 0, 1) := by decide +kernel
theorem dX3_countFewest_85 : decode cX3_countFewest 85 = .ok (.getfield 15, 3) := by decide +kernel
theorem dX3_countFewest_88 : decode cX3_countFewest 88 = .ok (.iload_n 2, 1) := by decide +kernel
theorem dX3_countFewest_89 : decode cX3_countFewest 89 = .ok (.iaload, 1) := by decide +kernel
theorem dX3_countFewest_90 : decode cX3_countFewest 90 = .ok (.isub, 1) := by decide +kernel
theorem dX3_countFewest_91 : decode cX3_countFewest 91 = .ok (.iaload, 1) := by decide +kernel
theorem dX3_countFewest_92 : decode cX3_countFewest 92 = .ok (.iconst 1, 1) := by decide +kernel
theorem dX3_countFewest_93 : decode cX3_countFewest 93 = .ok (.iadd, 1) := by decide +kernel
theorem dX3_countFewest_94 : decode cX3_countFewest 94 = .ok (.goto 6, 3) := by decide +kernel
theorem dX3_countFewest_97 : decode cX3_countFewest 97 = .ok (.sipush 1000, 3) := by decide +kernel
theorem dX3_countFewest_100 : decode cX3_countFewest 100 = .ok (.istore 5, 2) := by decide +kernel
theorem dX3_countFewest_102 : decode cX3_countFewest 102 = .ok (.aload_n 0, 1) := by decide +kernel
theorem dX3_countFewest_103 : decode cX3_countFewest 103 = .ok (.getfield 20, 3) := by decide +kernel
theorem dX3_countFewest_106 : decode cX3_countFewest 106 = .ok (.iload_n 2, 1) := by decide +kernel
theorem dX3_countFewest_107 : decode cX3_countFewest 107 = .ok (.aaload, 1) := by decide +kernel
theorem dX3_countFewest_108 : decode cX3_countFewest 108 = .ok (.iload_n 3, 1) := by decide +kernel
theorem dX3_countFewest_109 : decode cX3_countFewest 109 = .ok (.iload 4, 2) := by decide +kernel
theorem dX3_countFewest_111 : decode cX3_countFewest 111 = .ok (.iload 5, 2) := by decide +kernel
theorem dX3_countFewest_113 : decode cX3_countFewest 113 = .ok (.invokestatic 29, 3) := by decide +kernel
theorem dX3_countFewest_116 : decode cX3_countFewest 116 = .ok (.iastore, 1) := by decide +kernel
theorem dX3_countFewest_117 : decode cX3_countFewest 117 = .ok (.iinc 3 1, 3) := by decide +kernel
theorem dX3_countFewest_120 : decode cX3_countFewest 120 = .ok (.goto (-72), 3) := by decide +kernel
theorem dX3_countFewest_123 : decode cX3_countFewest 123 = .ok (.iinc 2 (-1), 3) := by decide +kernel
theorem dX3_countFewest_126 : decode cX3_countFewest 126 = .ok (.goto (-84), 3) := by decide +kernel
theorem dX3_countFewest_129 : decode cX3_countFewest 129 = .ok (.return_, 1) := by decide +kernel
theorem dX3_mostBoxes_0 : decode cX3_mostBoxes 0 = .ok (.iconst 0, 1) := by decide +kernel
theorem dX3_mostBoxes_1 : decode cX3_mostBoxes 1 = .ok (.istore_n 2, 1) := by decide +kernel
theorem dX3_mostBoxes_2 : decode cX3_mostBoxes 2 = .ok (.iconst 1, 1) := by decide +kernel
theorem dX3_mostBoxes_3 : decode cX3_mostBoxes 3 = .ok (.istore_n 3, 1) := by decide +kernel
theorem dX3_mostBoxes_4 : decode cX3_mostBoxes 4 = .ok (.iload_n 3, 1) := by decide +kernel
theorem dX3_mostBoxes_5 : decode cX3_mostBoxes 5 = .ok (.iload_n 1, 1) := by decide +kernel
theorem dX3_mostBoxes_6 : decode cX3_mostBoxes 6 = .ok (.if_icmp .gt 25, 3) := by decide +kernel
theorem dX3_mostBoxes_9 : decode cX3_mostBoxes 9 = .ok (.aload_n 0, 1) := by decide +kernel
theorem dX3_mostBoxes_10 : decode cX3_mostBoxes 10 = .ok (.getfield 20, 3) := by decide +kernel
theorem dX3_mostBoxes_13 : decode cX3_mostBoxes 13 = .ok (.iconst 0, 1) := by decide +kernel
theorem dX3_mostBoxes_14 : decode cX3_mostBoxes 14 = .ok (.aaload, 1) := by decide +kernel
theorem dX3_mostBoxes_15 : decode cX3_mostBoxes 15 = .ok (.iload_n 3, 1) := by decide +kernel
theorem dX3_mostBoxes_16 : decode cX3_mostBoxes 16 = .ok (.iaload, 1) := by decide +kernel
theorem dX3_mostBoxes_17 : decode cX3_mostBoxes 17 = .ok (.sipush 1000, 3) := by decide +kernel
theorem dX3_mostBoxes_20 : decode cX3_mostBoxes 20 = .ok (.if_icmp .ge 5, 3) := by decide +kernel
theorem dX3_mostBoxes_23 : decode cX3_mostBoxes 23 = .ok (.iload_n 3, 1) := by decide +kernel
theorem dX3_mostBoxes_24 : decode cX3_mostBoxes 24 = .ok (.istore_n 2, 1) := by decide +kernel
theorem dX3_mostBoxes_25 : decode cX3_mostBoxes 25 = .ok (.iinc 3 1, 3) := by decide +kernel
theorem dX3_mostBoxes_28 : decode cX3_mostBoxes 28 = .ok (.goto (-24), 3) := by decide +kernel
theorem dX3_mostBoxes_31 : decode cX3_mostBoxes 31 = .ok (.iload_n 2, 1) := by decide +kernel
theorem dX3_mostBoxes_32 : decode cX3_mostBoxes 32 = .ok (.ireturn, 1) := by decide +kernel
theorem dX4_init_0 : decode cX4_init 0 = .ok (.aload_n 0, 1) := by decide +kernel
theorem dX4_init_1 : decode cX4_init 1 = .ok (.invokespecial 3, 3) := by decide +kernel
theorem dX4_init_4 : decode cX4_init 4 = .ok (.aload_n 0, 1) := by decide +kernel
theorem dX4_init_5 : decode cX4_init 5 = .ok (.bipush 24, 2) := by decide +kernel
theorem dX4_init_7 : decode cX4_init 7 = .ok (.newarray .int, 2) := by decide +kernel
theorem dX4_init_9 : decode cX4_init 9 = .ok (.putfield 9, 3) := by decide +kernel
theorem dX4_init_12 : decode cX4_init 12 = .ok (.return_, 1) := by decide +kernel
theorem dX4_order_0 : decode cX4_order 0 = .ok (.aload_n 0, 1) := by decide +kernel
theorem dX4_order_1 : decode cX4_order 1 = .ok (.iload_n 1, 1) := by decide +kernel
theorem dX4_order_2 : decode cX4_order 2 = .ok (.putfield 15, 3) := by decide +kernel
theorem dX4_order_5 : decode cX4_order 5 = .ok (.aload_n 0, 1) := by decide +kernel
theorem dX4_order_6 : decode cX4_order 6 = .ok (.iload_n 2, 1) := by decide +kernel
theorem dX4_order_7 : decode cX4_order 7 = .ok (.putfield 19, 3) := by decide +kernel
theorem dX4_order_10 : decode cX4_order 10 = .ok (.aload_n 0, 1) := by decide +kernel
theorem dX4_order_11 : decode cX4_order 11 = .ok (.iload_n 3, 1) := by decide +kernel
theorem dX4_order_12 : decode cX4_order 12 = .ok (.putfield 22, 3) := by decide +kernel
theorem dX4_order_15 : decode cX4_order 15 = .ok (.return_, 1) := by decide +kernel
theorem dX4_empty_0 : decode cX4_empty 0 = .ok (.aload_n 0, 1) := by decide +kernel
theorem dX4_empty_1 : decode cX4_empty 1 = .ok (.iconst 0, 1) := by decide +kernel
theorem dX4_empty_2 : decode cX4_empty 2 = .ok (.putfield 25, 3) := by decide +kernel
theorem dX4_empty_5 : decode cX4_empty 5 = .ok (.aload_n 0, 1) := by decide +kernel
theorem dX4_empty_6 : decode cX4_empty 6 = .ok (.iconst 0, 1) := by decide +kernel
theorem dX4_empty_7 : decode cX4_empty 7 = .ok (.putfield 28, 3) := by decide +kernel
theorem dX4_empty_10 : decode cX4_empty 10 = .ok (.return_, 1) := by decide +kernel
theorem dX4_put_0 : decode cX4_put 0 = .ok (.aload_n 0, 1) := by decide +kernel
theorem dX4_put_1 : decode cX4_put 1 = .ok (.getfield 28, 3) := by decide +kernel
theorem dX4_put_4 : decode cX4_put 4 = .ok (.bipush 24, 2) := by decide +kernel
theorem dX4_put_6 : decode cX4_put 6 = .ok (.if_icmp .ge 33, 3) := by decide +kernel
theorem dX4_put_9 : decode cX4_put 9 = .ok (.aload_n 0, 1) := by decide +kernel
theorem dX4_put_10 : decode cX4_put 10 = .ok (.getfield 9, 3) := by decide +kernel
theorem dX4_put_13 : decode cX4_put 13 = .ok (.aload_n 0, 1) := by decide +kernel
theorem dX4_put_14 : decode cX4_put 14 = .ok (.getfield 28, 3) := by decide +kernel
theorem dX4_put_17 : decode cX4_put 17 = .ok (.iload_n 1, 1) := by decide +kernel
theorem dX4_put_18 : decode cX4_put 18 = .ok (.iastore, 1) := by decide +kernel
theorem dX4_put_19 : decode cX4_put 19 = .ok (.aload_n 0, 1) := by decide +kernel
theorem dX4_put_20 : decode cX4_put 20 = .ok (.dup, 1) := by decide +kernel
theorem dX4_put_21 : decode cX4_put 21 = .ok (.getfield 28, 3) := by decide +kernel
theorem dX4_put_24 : decode cX4_put 24 = .ok (.iconst 1, 1) := by decide +kernel
theorem dX4_put_25 : decode cX4_put 25 = .ok (.iadd, 1) := by decide +kernel
theorem dX4_put_26 : decode cX4_put 26 = .ok (.putfield 28, 3) := by decide +kernel
theorem dX4_put_29 : decode cX4_put 29 = .ok (.aload_n 0, 1) := by decide +kernel
theorem dX4_put_30 : decode cX4_put 30 = .ok (.dup, 1) := by decide +kernel
theorem dX4_put_31 : decode cX4_put 31 = .ok (.getfield 25, 3) := by decide +kernel
theorem dX4_put_34 : decode cX4_put 34 = .ok (.iload_n 2, 1) := by decide +kernel
theorem dX4_put_35 : decode cX4_put 35 = .ok (.iadd, 1) := by decide +kernel
theorem dX4_put_36 : decode cX4_put 36 = .ok (.putfield 25, 3) := by decide +kernel
theorem dX4_put_39 : decode cX4_put 39 = .ok (.return_, 1) := by decide +kernel
theorem dX4_tell_0 : decode cX4_tell 0 = .ok (.iload_n 1, 1) := by decide +kernel
theorem dX4_tell_1 : decode cX4_tell 1 = .ok (.bipush 10, 2) := by decide +kernel
theorem dX4_tell_3 : decode cX4_tell 3 = .ok (.if_icmp .lt 24, 3) := by decide +kernel
theorem dX4_tell_6 : decode cX4_tell 6 = .ok (.iload_n 1, 1) := by decide +kernel
theorem dX4_tell_7 : decode cX4_tell 7 = .ok (.bipush 10, 2) := by decide +kernel
theorem dX4_tell_9 : decode cX4_tell 9 = .ok (.isub, 1) := by decide +kernel
theorem dX4_tell_10 : decode cX4_tell 10 = .ok (.aload_n 0, 1) := by decide +kernel
theorem dX4_tell_11 : decode cX4_tell 11 = .ok (.getfield 28, 3) := by decide +kernel
theorem dX4_tell_14 : decode cX4_tell 14 = .ok (.if_icmp .ge 13, 3) := by decide +kernel
theorem dX4_tell_17 : decode cX4_tell 17 = .ok (.aload_n 0, 1) := by decide +kernel
theorem dX4_tell_18 : decode cX4_tell 18 = .ok (.getfield 9, 3) := by decide +kernel
theorem dX4_tell_21 : decode cX4_tell 21 = .ok (.iload_n 1, 1) := by decide +kernel
theorem dX4_tell_22 : decode cX4_tell 22 = .ok (.bipush 10, 2) := by decide +kernel
theorem dX4_tell_24 : decode cX4_tell 24 = .ok (.isub, 1) := by decide +kernel
theorem dX4_tell_25 : decode cX4_tell 25 = .ok (.iaload, 1) := by decide +kernel
theorem dX4_tell_26 : decode cX4_tell 26 = .ok (.ireturn, 1) := by decide +kernel
theorem dX4_tell_27 : decode cX4_tell 27 = .ok (.iload_n 1, 1) := by decide +kernel
theorem dX4_tell_28 : decode cX4_tell 28 = .ok (.lookupswitch 38 #[(0, 28), (1, 33)], 28) := by decide +kernel
theorem dX4_tell_56 : decode cX4_tell 56 = .ok (.aload_n 0, 1) := by decide +kernel
theorem dX4_tell_57 : decode cX4_tell 57 = .ok (.getfield 25, 3) := by decide +kernel
theorem dX4_tell_60 : decode cX4_tell 60 = .ok (.ireturn, 1) := by decide +kernel
theorem dX4_tell_61 : decode cX4_tell 61 = .ok (.aload_n 0, 1) := by decide +kernel
theorem dX4_tell_62 : decode cX4_tell 62 = .ok (.getfield 28, 3) := by decide +kernel
theorem dX4_tell_65 : decode cX4_tell 65 = .ok (.ireturn, 1) := by decide +kernel
theorem dX4_tell_66 : decode cX4_tell 66 = .ok (.iconst (-1), 1) := by decide +kernel
theorem dX4_tell_67 : decode cX4_tell 67 = .ok (.ireturn, 1) := by decide +kernel
theorem dX5_init_0 : decode cX5_init 0 = .ok (.aload_n 0, 1) := by decide +kernel
theorem dX5_init_1 : decode cX5_init 1 = .ok (.invokespecial 1, 3) := by decide +kernel
theorem dX5_init_4 : decode cX5_init 4 = .ok (.return_, 1) := by decide +kernel
theorem dX6_init_0 : decode cX6_init 0 = .ok (.aload_n 0, 1) := by decide +kernel
theorem dX6_init_1 : decode cX6_init 1 = .ok (.invokespecial 3, 3) := by decide +kernel
theorem dX6_init_4 : decode cX6_init 4 = .ok (.return_, 1) := by decide +kernel
theorem dX6_isSold_0 : decode cX6_isSold 0 = .ok (.aload_n 0, 1) := by decide +kernel
theorem dX6_isSold_1 : decode cX6_isSold 1 = .ok (.getfield 9, 3) := by decide +kernel
theorem dX6_isSold_4 : decode cX6_isSold 4 = .ok (.iconst (-1), 1) := by decide +kernel
theorem dX6_isSold_5 : decode cX6_isSold 5 = .ok (.if_icmp .eq 7, 3) := by decide +kernel
theorem dX6_isSold_8 : decode cX6_isSold 8 = .ok (.iconst 1, 1) := by decide +kernel
theorem dX6_isSold_9 : decode cX6_isSold 9 = .ok (.goto 4, 3) := by decide +kernel
theorem dX6_isSold_12 : decode cX6_isSold 12 = .ok (.iconst 0, 1) := by decide +kernel
theorem dX6_isSold_13 : decode cX6_isSold 13 = .ok (.ireturn, 1) := by decide +kernel
theorem dX6_tell_0 : decode cX6_tell 0 = .ok (.iload_n 1, 1) := by decide +kernel
theorem dX6_tell_1 : decode cX6_tell 1 = .ok (.tableswitch 87 0 7 #[47, 52, 57, 62, 67, 72, 77, 82], 47) := by decide +kernel
theorem dX6_tell_48 : decode cX6_tell 48 = .ok (.aload_n 0, 1) := by decide +kernel
theorem dX6_tell_49 : decode cX6_tell 49 = .ok (.getfield 9, 3) := by decide +kernel
theorem dX6_tell_52 : decode cX6_tell 52 = .ok (.ireturn, 1) := by decide +kernel
theorem dX6_tell_53 : decode cX6_tell 53 = .ok (.aload_n 0, 1) := by decide +kernel
theorem dX6_tell_54 : decode cX6_tell 54 = .ok (.getfield 15, 3) := by decide +kernel
theorem dX6_tell_57 : decode cX6_tell 57 = .ok (.ireturn, 1) := by decide +kernel
theorem dX6_tell_58 : decode cX6_tell 58 = .ok (.aload_n 0, 1) := by decide +kernel
theorem dX6_tell_59 : decode cX6_tell 59 = .ok (.getfield 18, 3) := by decide +kernel
theorem dX6_tell_62 : decode cX6_tell 62 = .ok (.ireturn, 1) := by decide +kernel
theorem dX6_tell_63 : decode cX6_tell 63 = .ok (.aload_n 0, 1) := by decide +kernel
theorem dX6_tell_64 : decode cX6_tell 64 = .ok (.getfield 21, 3) := by decide +kernel
theorem dX6_tell_67 : decode cX6_tell 67 = .ok (.ireturn, 1) := by decide +kernel
theorem dX6_tell_68 : decode cX6_tell 68 = .ok (.aload_n 0, 1) := by decide +kernel
theorem dX6_tell_69 : decode cX6_tell 69 = .ok (.getfield 24, 3) := by decide +kernel
theorem dX6_tell_72 : decode cX6_tell 72 = .ok (.ireturn, 1) := by decide +kernel
theorem dX6_tell_73 : decode cX6_tell 73 = .ok (.aload_n 0, 1) := by decide +kernel
theorem dX6_tell_74 : decode cX6_tell 74 = .ok (.getfield 27, 3) := by decide +kernel
theorem dX6_tell_77 : decode cX6_tell 77 = .ok (.ireturn, 1) := by decide +kernel
theorem dX6_tell_78 : decode cX6_tell 78 = .ok (.aload_n 0, 1) := by decide +kernel
theorem dX6_tell_79 : decode cX6_tell 79 = .ok (.getfield 30, 3) := by decide +kernel
theorem dX6_tell_82 : decode cX6_tell 82 = .ok (.ireturn, 1) := by decide +kernel
theorem dX6_tell_83 : decode cX6_tell 83 = .ok (.aload_n 0, 1) := by decide +kernel
theorem dX6_tell_84 : decode cX6_tell 84 = .ok (.getfield 33, 3) := by decide +kernel
theorem dX6_tell_87 : decode cX6_tell 87 = .ok (.ireturn, 1) := by decide +kernel
theorem dX6_tell_88 : decode cX6_tell 88 = .ok (.iconst (-1), 1) := by decide +kernel
theorem dX6_tell_89 : decode cX6_tell 89 = .ok (.ireturn, 1) := by decide +kernel
theorem dX7_init_0 : decode cX7_init 0 = .ok (.aload_n 0, 1) := by decide +kernel
theorem dX7_init_1 : decode cX7_init 1 = .ok (.invokespecial 3, 3) := by decide +kernel
theorem dX7_init_4 : decode cX7_init 4 = .ok (.aload_n 0, 1) := by decide +kernel
theorem dX7_init_5 : decode cX7_init 5 = .ok (.bipush 6, 2) := by decide +kernel
theorem dX7_init_7 : decode cX7_init 7 = .ok (.newarray .int, 2) := by decide +kernel
theorem dX7_init_9 : decode cX7_init 9 = .ok (.putfield 9, 3) := by decide +kernel
theorem dX7_init_12 : decode cX7_init 12 = .ok (.return_, 1) := by decide +kernel
theorem dX7_open_0 : decode cX7_open 0 = .ok (.aload_n 0, 1) := by decide +kernel
theorem dX7_open_1 : decode cX7_open 1 = .ok (.iload_n 1, 1) := by decide +kernel
theorem dX7_open_2 : decode cX7_open 2 = .ok (.putfield 15, 3) := by decide +kernel
theorem dX7_open_5 : decode cX7_open 5 = .ok (.aload_n 0, 1) := by decide +kernel
theorem dX7_open_6 : decode cX7_open 6 = .ok (.iconst 0, 1) := by decide +kernel
theorem dX7_open_7 : decode cX7_open 7 = .ok (.putfield 19, 3) := by decide +kernel
theorem dX7_open_10 : decode cX7_open 10 = .ok (.aload_n 0, 1) := by decide +kernel
theorem dX7_open_11 : decode cX7_open 11 = .ok (.iconst 0, 1) := by decide +kernel
theorem dX7_open_12 : decode cX7_open 12 = .ok (.putfield 22, 3) := by decide +kernel
theorem dX7_open_15 : decode cX7_open 15 = .ok (.aload_n 0, 1) := by decide +kernel
theorem dX7_open_16 : decode cX7_open 16 = .ok (.iconst (-1), 1) := by decide +kernel
theorem dX7_open_17 : decode cX7_open 17 = .ok (.putfield 25, 3) := by decide +kernel
theorem dX7_open_20 : decode cX7_open 20 = .ok (.iconst 0, 1) := by decide +kernel
theorem dX7_open_21 : decode cX7_open 21 = .ok (.istore_n 2, 1) := by decide +kernel
theorem dX7_open_22 : decode cX7_open 22 = .ok (.iload_n 2, 1) := by decide +kernel
theorem dX7_open_23 : decode cX7_open 23 = .ok (.bipush 6, 2) := by decide +kernel
theorem dX7_open_25 : decode cX7_open 25 = .ok (.if_icmp .ge 16, 3) := by decide +kernel
theorem dX7_open_28 : decode cX7_open 28 = .ok (.aload_n 0, 1) := by decide +kernel
theorem dX7_open_29 : decode cX7_open 29 = .ok (.getfield 9, 3) := by decide +kernel
theorem dX7_open_32 : decode cX7_open 32 = .ok (.iload_n 2, 1) := by decide +kernel
theorem dX7_open_33 : decode cX7_open 33 = .ok (.iconst 0, 1) := by decide +kernel
theorem dX7_open_34 : decode cX7_open 34 = .ok (.iastore, 1) := by decide +kernel
theorem dX7_open_35 : decode cX7_open 35 = .ok (.iinc 2 1, 3) := by decide +kernel
theorem dX7_open_38 : decode cX7_open 38 = .ok (.goto (-16), 3) := by decide +kernel
theorem dX7_open_41 : decode cX7_open 41 = .ok (.return_, 1) := by decide +kernel
theorem dX7_pay_0 : decode cX7_pay 0 = .ok (.aload_n 0, 1) := by decide +kernel
theorem dX7_pay_1 : decode cX7_pay 1 = .ok (.dup, 1) := by decide +kernel
theorem dX7_pay_2 : decode cX7_pay 2 = .ok (.getfield 15, 3) := by decide +kernel
theorem dX7_pay_5 : decode cX7_pay 5 = .ok (.iload_n 1, 1) := by decide +kernel
theorem dX7_pay_6 : decode cX7_pay 6 = .ok (.isub, 1) := by decide +kernel
theorem dX7_pay_7 : decode cX7_pay 7 = .ok (.putfield 15, 3) := by decide +kernel
theorem dX7_pay_10 : decode cX7_pay 10 = .ok (.aload_n 0, 1) := by decide +kernel
theorem dX7_pay_11 : decode cX7_pay 11 = .ok (.dup, 1) := by decide +kernel
theorem dX7_pay_12 : decode cX7_pay 12 = .ok (.getfield 19, 3) := by decide +kernel
theorem dX7_pay_15 : decode cX7_pay 15 = .ok (.aload_n 2, 1) := by decide +kernel
theorem dX7_pay_16 : decode cX7_pay 16 = .ok (.getfield 28, 3) := by decide +kernel
theorem dX7_pay_19 : decode cX7_pay 19 = .ok (.iadd, 1) := by decide +kernel
theorem dX7_pay_20 : decode cX7_pay 20 = .ok (.putfield 19, 3) := by decide +kernel
theorem dX7_pay_23 : decode cX7_pay 23 = .ok (.aload_n 0, 1) := by decide +kernel
theorem dX7_pay_24 : decode cX7_pay 24 = .ok (.dup, 1) := by decide +kernel
theorem dX7_pay_25 : decode cX7_pay 25 = .ok (.getfield 22, 3) := by decide +kernel
theorem dX7_pay_28 : decode cX7_pay 28 = .ok (.iconst 1, 1) := by decide +kernel
theorem dX7_pay_29 : decode cX7_pay 29 = .ok (.iadd, 1) := by decide +kernel
theorem dX7_pay_30 : decode cX7_pay 30 = .ok (.putfield 22, 3) := by decide +kernel
theorem dX7_pay_33 : decode cX7_pay 33 = .ok (.aload_n 0, 1) := by decide +kernel
theorem dX7_pay_34 : decode cX7_pay 34 = .ok (.getfield 9, 3) := by decide +kernel
theorem dX7_pay_37 : decode cX7_pay 37 = .ok (.aload_n 2, 1) := by decide +kernel
theorem dX7_pay_38 : decode cX7_pay 38 = .ok (.getfield 31, 3) := by decide +kernel
theorem dX7_pay_41 : decode cX7_pay 41 = .ok (.dup2, 1) := by decide +kernel
theorem dX7_pay_42 : decode cX7_pay 42 = .ok (.iaload, 1) := by decide +kernel
theorem dX7_pay_43 : decode cX7_pay 43 = .ok (.aload_n 2, 1) := by decide +kernel
theorem dX7_pay_44 : decode cX7_pay 44 = .ok (.getfield 28, 3) := by decide +kernel
theorem dX7_pay_47 : decode cX7_pay 47 = .ok (.iadd, 1) := by decide +kernel
theorem dX7_pay_48 : decode cX7_pay 48 = .ok (.iastore, 1) := by decide +kernel
theorem dX7_pay_49 : decode cX7_pay 49 = .ok (.aload_n 0, 1) := by decide +kernel
theorem dX7_pay_50 : decode cX7_pay 50 = .ok (.iload_n 3, 1) := by decide +kernel
theorem dX7_pay_51 : decode cX7_pay 51 = .ok (.putfield 25, 3) := by decide +kernel
theorem dX7_pay_54 : decode cX7_pay 54 = .ok (.return_, 1) := by decide +kernel
theorem dX8_init_0 : decode cX8_init 0 = .ok (.aload_n 0, 1) := by decide +kernel
theorem dX8_init_1 : decode cX8_init 1 = .ok (.invokespecial 3, 3) := by decide +kernel
theorem dX8_init_4 : decode cX8_init 4 = .ok (.aload_n 0, 1) := by decide +kernel
theorem dX8_init_5 : decode cX8_init 5 = .ok (.iconst (-1), 1) := by decide +kernel
theorem dX8_init_6 : decode cX8_init 6 = .ok (.putfield 9, 3) := by decide +kernel
theorem dX8_init_9 : decode cX8_init 9 = .ok (.aload_n 0, 1) := by decide +kernel
theorem dX8_init_10 : decode cX8_init 10 = .ok (.new 15, 3) := by decide +kernel
theorem dX8_init_13 : decode cX8_init 13 = .ok (.dup, 1) := by decide +kernel
theorem dX8_init_14 : decode cX8_init 14 = .ok (.invokespecial 17, 3) := by decide +kernel
theorem dX8_init_17 : decode cX8_init 17 = .ok (.putfield 18, 3) := by decide +kernel
theorem dX8_init_20 : decode cX8_init 20 = .ok (.aload_n 0, 1) := by decide +kernel
theorem dX8_init_21 : decode cX8_init 21 = .ok (.sipush 2000, 3) := by decide +kernel
theorem dX8_init_24 : decode cX8_init 24 = .ok (.newarray .char, 2) := by decide +kernel
theorem dX8_init_26 : decode cX8_init 26 = .ok (.putfield 22, 3) := by decide +kernel
theorem dX8_init_29 : decode cX8_init 29 = .ok (.aload_n 0, 1) := by decide +kernel
theorem dX8_init_30 : decode cX8_init 30 = .ok (.bipush 32, 2) := by decide +kernel
theorem dX8_init_32 : decode cX8_init 32 = .ok (.newarray .int, 2) := by decide +kernel
theorem dX8_init_34 : decode cX8_init 34 = .ok (.putfield 26, 3) := by decide +kernel
theorem dX8_init_37 : decode cX8_init 37 = .ok (.return_, 1) := by decide +kernel
theorem dX8_putFourBytes_0 : decode cX8_putFourBytes 0 = .ok (.bipush 24, 2) := by decide +kernel
theorem dX8_putFourBytes_2 : decode cX8_putFourBytes 2 = .ok (.istore_n 2, 1) := by decide +kernel
theorem dX8_putFourBytes_3 : decode cX8_putFourBytes 3 = .ok (.iload_n 2, 1) := by decide +kernel
theorem dX8_putFourBytes_4 : decode cX8_putFourBytes 4 = .ok (.ifCond .lt 46, 3) := by decide +kernel
theorem dX8_putFourBytes_7 : decode cX8_putFourBytes 7 = .ok (.aload_n 0, 1) := by decide +kernel
theorem dX8_putFourBytes_8 : decode cX8_putFourBytes 8 = .ok (.getfield 30, 3) := by decide +kernel
theorem dX8_putFourBytes_11 : decode cX8_putFourBytes 11 = .ok (.sipush 2000, 3) := by decide +kernel
theorem dX8_putFourBytes_14 : decode cX8_putFourBytes 14 = .ok (.if_icmp .ge 36, 3) := by decide +kernel
theorem dX8_putFourBytes_17 : decode cX8_putFourBytes 17 = .ok (.aload_n 0, 1) := by decide +kernel
theorem dX8_putFourBytes_18 : decode cX8_putFourBytes 18 = .ok (.getfield 22, 3) := by decide +kernel
theorem dX8_putFourBytes_21 : decode cX8_putFourBytes 21 = .ok (.aload_n 0, 1) := by decide +kernel
theorem dX8_putFourBytes_22 : decode cX8_putFourBytes 22 = .ok (.getfield 30, 3) := by decide +kernel
theorem dX8_putFourBytes_25 : decode cX8_putFourBytes 25 = .ok (.iload_n 1, 1) := by decide +kernel
theorem dX8_putFourBytes_26 : decode cX8_putFourBytes 26 = .ok (.iload_n 2, 1) := by decide +kernel
theorem dX8_putFourBytes_27 : decode cX8_putFourBytes 27 = .ok (.iushr, 1) := by decide +kernel
theorem dX8_putFourBytes_28 : decode cX8_putFourBytes 28 = .ok (.sipush 255, 3) := by decide +kernel
theorem dX8_putFourBytes_31 : decode cX8_putFourBytes 31 = .ok (.iand, 1) := by decide +kernel
theorem dX8_putFourBytes_32 : decode cX8_putFourBytes 32 = .ok (.i2c, 1) := by decide +kernel
theorem dX8_putFourBytes_33 : decode cX8_putFourBytes 33 = .ok (.castore, 1) := by decide +kernel
theorem dX8_putFourBytes_34 : decode cX8_putFourBytes 34 = .ok (.aload_n 0, 1) := by decide +kernel
theorem dX8_putFourBytes_35 : decode cX8_putFourBytes 35 = .ok (.dup, 1) := by decide +kernel
theorem dX8_putFourBytes_36 : decode cX8_putFourBytes 36 = .ok (.getfield 30, 3) := by decide +kernel
theorem dX8_putFourBytes_39 : decode cX8_putFourBytes 39 = .ok (.iconst 1, 1) := by decide +kernel
theorem dX8_putFourBytes_40 : decode cX8_putFourBytes 40 = .ok (.iadd, 1) := by decide +kernel
theorem dX8_putFourBytes_41 : decode cX8_putFourBytes 41 = .ok (.putfield 30, 3) := by decide +kernel
theorem dX8_putFourBytes_44 : decode cX8_putFourBytes 44 = .ok (.iinc 2 (-8), 3) := by decide +kernel
theorem dX8_putFourBytes_47 : decode cX8_putFourBytes 47 = .ok (.goto (-44), 3) := by decide +kernel
theorem dX8_putFourBytes_50 : decode cX8_putFourBytes 50 = .ok (.return_, 1) := by decide +kernel
theorem dX8_parse_0 : decode cX8_parse 0 = .ok (.aload_n 0, 1) := by decide +kernel
theorem dX8_parse_1 : decode cX8_parse 1 = .ok (.invokevirtual 33, 3) := by decide +kernel
theorem dX8_parse_4 : decode cX8_parse 4 = .ok (.iconst 0, 1) := by decide +kernel
theorem dX8_parse_5 : decode cX8_parse 5 = .ok (.istore_n 1, 1) := by decide +kernel
theorem dX8_parse_6 : decode cX8_parse 6 = .ok (.iconst 0, 1) := by decide +kernel
theorem dX8_parse_7 : decode cX8_parse 7 = .ok (.istore_n 2, 1) := by decide +kernel
theorem dX8_parse_8 : decode cX8_parse 8 = .ok (.iconst 0, 1) := by decide +kernel
theorem dX8_parse_9 : decode cX8_parse 9 = .ok (.istore_n 3, 1) := by decide +kernel
theorem dX8_parse_10 : decode cX8_parse 10 = .ok (.iload_n 3, 1) := by decide +kernel
theorem dX8_parse_11 : decode cX8_parse 11 = .ok (.aload_n 0, 1) := by decide +kernel
theorem dX8_parse_12 : decode cX8_parse 12 = .ok (.getfield 30, 3) := by decide +kernel
theorem dX8_parse_15 : decode cX8_parse 15 = .ok (.if_icmp .gt 53, 3) := by decide +kernel
theorem dX8_parse_18 : decode cX8_parse 18 = .ok (.iload_n 2, 1) := by decide +kernel
theorem dX8_parse_19 : decode cX8_parse 19 = .ok (.ifCond .ne 49, 3) := by decide +kernel
theorem dX8_parse_22 : decode cX8_parse 22 = .ok (.aload_n 0, 1) := by decide +kernel
theorem dX8_parse_23 : decode cX8_parse 23 = .ok (.invokevirtual 36, 3) := by decide +kernel
theorem dX8_parse_26 : decode cX8_parse 26 = .ok (.istore 4, 2) := by decide +kernel
theorem dX8_parse_28 : decode cX8_parse 28 = .ok (.aload_n 0, 1) := by decide +kernel
theorem dX8_parse_29 : decode cX8_parse 29 = .ok (.iload 4, 2) := by decide +kernel
theorem dX8_parse_31 : decode cX8_parse 31 = .ok (.invokevirtual 40, 3) := by decide +kernel
theorem dX8_parse_34 : decode cX8_parse 34 = .ok (.istore_n 1, 1) := by decide +kernel
theorem dX8_parse_35 : decode cX8_parse 35 = .ok (.iload_n 1, 1) := by decide +kernel
theorem dX8_parse_36 : decode cX8_parse 36 = .ok (.ifCond .ne 10, 3) := by decide +kernel
theorem dX8_parse_39 : decode cX8_parse 39 = .ok (.iload 4, 2) := by decide +kernel
theorem dX8_parse_41 : decode cX8_parse 41 = .ok (.bipush 27, 2) := by decide +kernel
theorem dX8_parse_43 : decode cX8_parse 43 = .ok (.if_icmp .ne 7, 3) := by decide +kernel
theorem dX8_parse_46 : decode cX8_parse 46 = .ok (.iconst 1, 1) := by decide +kernel
theorem dX8_parse_47 : decode cX8_parse 47 = .ok (.goto 4, 3) := by decide +kernel
theorem dX8_parse_50 : decode cX8_parse 50 = .ok (.iconst 0, 1) := by decide +kernel
theorem dX8_parse_51 : decode cX8_parse 51 = .ok (.istore_n 2, 1) := by decide +kernel
theorem dX8_parse_52 : decode cX8_parse 52 = .ok (.iload_n 2, 1) := by decide +kernel
theorem dX8_parse_53 : decode cX8_parse 53 = .ok (.ifCond .ne 9, 3) := by decide +kernel
theorem dX8_parse_56 : decode cX8_parse 56 = .ok (.aload_n 0, 1) := by decide +kernel
theorem dX8_parse_57 : decode cX8_parse 57 = .ok (.iload 4, 2) := by decide +kernel
theorem dX8_parse_59 : decode cX8_parse 59 = .ok (.invokevirtual 44, 3) := by decide +kernel
theorem dX8_parse_62 : decode cX8_parse 62 = .ok (.iinc 3 1, 3) := by decide +kernel
theorem dX8_parse_65 : decode cX8_parse 65 = .ok (.goto (-55), 3) := by decide +kernel
theorem dX8_parse_68 : decode cX8_parse 68 = .ok (.aload_n 0, 1) := by decide +kernel
theorem dX8_parse_69 : decode cX8_parse 69 = .ok (.iload_n 1, 1) := by decide +kernel
theorem dX8_parse_70 : decode cX8_parse 70 = .ok (.ifCond .ne 7, 3) := by decide +kernel
theorem dX8_parse_73 : decode cX8_parse 73 = .ok (.iconst (-1), 1) := by decide +kernel
theorem dX8_parse_74 : decode cX8_parse 74 = .ok (.goto 7, 3) := by decide +kernel
theorem dX8_parse_77 : decode cX8_parse 77 = .ok (.aload_n 0, 1) := by decide +kernel
theorem dX8_parse_78 : decode cX8_parse 78 = .ok (.getfield 48, 3) := by decide +kernel
theorem dX8_parse_81 : decode cX8_parse 81 = .ok (.putfield 9, 3) := by decide +kernel
theorem dX8_parse_84 : decode cX8_parse 84 = .ok (.iload_n 1, 1) := by decide +kernel
theorem dX8_parse_85 : decode cX8_parse 85 = .ok (.ireturn, 1) := by decide +kernel
theorem dX8_begin_0 : decode cX8_begin 0 = .ok (.aload_n 0, 1) := by decide +kernel
theorem dX8_begin_1 : decode cX8_begin 1 = .ok (.getfield 18, 3) := by decide +kernel
theorem dX8_begin_4 : decode cX8_begin 4 = .ok (.invokevirtual 51, 3) := by decide +kernel
theorem dX8_begin_7 : decode cX8_begin 7 = .ok (.aload_n 0, 1) := by decide +kernel
theorem dX8_begin_8 : decode cX8_begin 8 = .ok (.iconst 0, 1) := by decide +kernel
theorem dX8_begin_9 : decode cX8_begin 9 = .ok (.putfield 54, 3) := by decide +kernel
theorem dX8_begin_12 : decode cX8_begin 12 = .ok (.aload_n 0, 1) := by decide +kernel
theorem dX8_begin_13 : decode cX8_begin 13 = .ok (.iconst 0, 1) := by decide +kernel
theorem dX8_begin_14 : decode cX8_begin 14 = .ok (.putfield 57, 3) := by decide +kernel
theorem dX8_begin_17 : decode cX8_begin 17 = .ok (.aload_n 0, 1) := by decide +kernel
theorem dX8_begin_18 : decode cX8_begin 18 = .ok (.iconst 0, 1) := by decide +kernel
theorem dX8_begin_19 : decode cX8_begin 19 = .ok (.putfield 60, 3) := by decide +kernel
theorem dX8_begin_22 : decode cX8_begin 22 = .ok (.aload_n 0, 1) := by decide +kernel
theorem dX8_begin_23 : decode cX8_begin 23 = .ok (.iconst 0, 1) := by decide +kernel
theorem dX8_begin_24 : decode cX8_begin 24 = .ok (.putfield 63, 3) := by decide +kernel
theorem dX8_begin_27 : decode cX8_begin 27 = .ok (.aload_n 0, 1) := by decide +kernel
theorem dX8_begin_28 : decode cX8_begin 28 = .ok (.iconst 0, 1) := by decide +kernel
theorem dX8_begin_29 : decode cX8_begin 29 = .ok (.putfield 66, 3) := by decide +kernel
theorem dX8_begin_32 : decode cX8_begin 32 = .ok (.return_, 1) := by decide +kernel
theorem dX8_faultOf_0 : decode cX8_faultOf 0 = .ok (.aload_n 0, 1) := by decide +kernel
theorem dX8_faultOf_1 : decode cX8_faultOf 1 = .ok (.iload_n 1, 1) := by decide +kernel
theorem dX8_faultOf_2 : decode cX8_faultOf 2 = .ok (.invokevirtual 69, 3) := by decide +kernel
theorem dX8_faultOf_5 : decode cX8_faultOf 5 = .ok (.ifCond .ne 5, 3) := by decide +kernel
theorem dX8_faultOf_8 : decode cX8_faultOf 8 = .ok (.iconst 1, 1) := by decide +kernel
theorem dX8_faultOf_9 : decode cX8_faultOf 9 = .ok (.ireturn, 1) := by decide +kernel
theorem dX8_faultOf_10 : decode cX8_faultOf 10 = .ok (.aload_n 0, 1) := by decide +kernel
theorem dX8_faultOf_11 : decode cX8_faultOf 11 = .ok (.iload_n 1, 1) := by decide +kernel
theorem dX8_faultOf_12 : decode cX8_faultOf 12 = .ok (.invokevirtual 73, 3) := by decide +kernel
theorem dX8_faultOf_15 : decode cX8_faultOf 15 = .ok (.ifCond .eq 7, 3) := by decide +kernel
theorem dX8_faultOf_18 : decode cX8_faultOf 18 = .ok (.iconst 0, 1) := by decide +kernel
theorem dX8_faultOf_19 : decode cX8_faultOf 19 = .ok (.goto 4, 3) := by decide +kernel
theorem dX8_faultOf_22 : decode cX8_faultOf 22 = .ok (.iconst 2, 1) := by decide +kernel
theorem dX8_faultOf_23 : decode cX8_faultOf 23 = .ok (.ireturn, 1) := by decide +kernel
theorem dX8_fits_0 : decode cX8_fits 0 = .ok (.aload_n 0, 1) := by decide +kernel
theorem dX8_fits_1 : decode cX8_fits 1 = .ok (.getfield 60, 3) := by decide +kernel
theorem dX8_fits_4 : decode cX8_fits 4 = .ok (.ifCond .ne 29, 3) := by decide +kernel
theorem dX8_fits_7 : decode cX8_fits 7 = .ok (.iload_n 1, 1) := by decide +kernel
theorem dX8_fits_8 : decode cX8_fits 8 = .ok (.ifCond .eq 19, 3) := by decide +kernel
theorem dX8_fits_11 : decode cX8_fits 11 = .ok (.iload_n 1, 1) := by decide +kernel
theorem dX8_fits_12 : decode cX8_fits 12 = .ok (.iconst 1, 1) := by decide +kernel
theorem dX8_fits_13 : decode cX8_fits 13 = .ok (.if_icmp .eq 14, 3) := by decide +kernel
theorem dX8_fits_16 : decode cX8_fits 16 = .ok (.iload_n 1, 1) := by decide +kernel
theorem dX8_fits_17 : decode cX8_fits 17 = .ok (.iconst 2, 1) := by decide +kernel
theorem dX8_fits_18 : decode cX8_fits 18 = .ok (.if_icmp .eq 9, 3) := by decide +kernel
theorem dX8_fits_21 : decode cX8_fits 21 = .ok (.iload_n 1, 1) := by decide +kernel
theorem dX8_fits_22 : decode cX8_fits 22 = .ok (.bipush 27, 2) := by decide +kernel
theorem dX8_fits_24 : decode cX8_fits 24 = .ok (.if_icmp .ne 7, 3) := by decide +kernel
theorem dX8_fits_27 : decode cX8_fits 27 = .ok (.iconst 1, 1) := by decide +kernel
theorem dX8_fits_28 : decode cX8_fits 28 = .ok (.goto 4, 3) := by decide +kernel
theorem dX8_fits_31 : decode cX8_fits 31 = .ok (.iconst 0, 1) := by decide +kernel
theorem dX8_fits_32 : decode cX8_fits 32 = .ok (.ireturn, 1) := by decide +kernel
theorem dX8_fits_33 : decode cX8_fits 33 = .ok (.aload_n 0, 1) := by decide +kernel
theorem dX8_fits_34 : decode cX8_fits 34 = .ok (.getfield 60, 3) := by decide +kernel
theorem dX8_fits_37 : decode cX8_fits 37 = .ok (.iconst 1, 1) := by decide +kernel
theorem dX8_fits_38 : decode cX8_fits 38 = .ok (.if_icmp .ne 22, 3) := by decide +kernel
theorem dX8_fits_41 : decode cX8_fits 41 = .ok (.iload_n 1, 1) := by decide +kernel
theorem dX8_fits_42 : decode cX8_fits 42 = .ok (.bipush 24, 2) := by decide +kernel
theorem dX8_fits_44 : decode cX8_fits 44 = .ok (.if_icmp .eq 10, 3) := by decide +kernel
theorem dX8_fits_47 : decode cX8_fits 47 = .ok (.iload_n 1, 1) := by decide +kernel
theorem dX8_fits_48 : decode cX8_fits 48 = .ok (.invokestatic 76, 3) := by decide +kernel
theorem dX8_fits_51 : decode cX8_fits 51 = .ok (.ifCond .eq 7, 3) := by decide +kernel
theorem dX8_fits_54 : decode cX8_fits 54 = .ok (.iconst 1, 1) := by decide +kernel
theorem dX8_fits_55 : decode cX8_fits 55 = .ok (.goto 4, 3) := by decide +kernel
theorem dX8_fits_58 : decode cX8_fits 58 = .ok (.iconst 0, 1) := by decide +kernel
theorem dX8_fits_59 : decode cX8_fits 59 = .ok (.ireturn, 1) := by decide +kernel
theorem dX8_fits_60 : decode cX8_fits 60 = .ok (.iload_n 1, 1) := by decide +kernel
theorem dX8_fits_61 : decode cX8_fits 61 = .ok (.bipush 17, 2) := by decide +kernel
theorem dX8_fits_63 : decode cX8_fits 63 = .ok (.if_icmp .eq 15, 3) := by decide +kernel
theorem dX8_fits_66 : decode cX8_fits 66 = .ok (.iload_n 1, 1) := by decide +kernel
theorem dX8_fits_67 : decode cX8_fits 67 = .ok (.bipush 18, 2) := by decide +kernel
theorem dX8_fits_69 : decode cX8_fits 69 = .ok (.if_icmp .eq 9, 3) := by decide +kernel
theorem dX8_fits_72 : decode cX8_fits 72 = .ok (.iload_n 1, 1) := by decide +kernel
theorem dX8_fits_73 : decode cX8_fits 73 = .ok (.bipush 19, 2) := by decide +kernel
theorem dX8_fits_75 : decode cX8_fits 75 = .ok (.if_icmp .ne 5, 3) := by decide +kernel
theorem dX8_fits_78 : decode cX8_fits 78 = .ok (.iconst 1, 1) := by decide +kernel
theorem dX8_fits_79 : decode cX8_fits 79 = .ok (.ireturn, 1) := by decide +kernel
theorem dX8_fits_80 : decode cX8_fits 80 = .ok (.aload_n 0, 1) := by decide +kernel
theorem dX8_fits_81 : decode cX8_fits 81 = .ok (.getfield 63, 3) := by decide +kernel
theorem dX8_fits_84 : decode cX8_fits 84 = .ok (.ifCond .le 15, 3) := by decide +kernel
theorem dX8_fits_87 : decode cX8_fits 87 = .ok (.iload_n 1, 1) := by decide +kernel
theorem dX8_fits_88 : decode cX8_fits 88 = .ok (.bipush 25, 2) := by decide +kernel
theorem dX8_fits_90 : decode cX8_fits 90 = .ok (.if_icmp .ne 7, 3) := by decide +kernel
theorem dX8_fits_93 : decode cX8_fits 93 = .ok (.iconst 1, 1) := by decide +kernel
theorem dX8_fits_94 : decode cX8_fits 94 = .ok (.goto 4, 3) := by decide +kernel
theorem dX8_fits_97 : decode cX8_fits 97 = .ok (.iconst 0, 1) := by decide +kernel
theorem dX8_fits_98 : decode cX8_fits 98 = .ok (.ireturn, 1) := by decide +kernel
theorem dX8_fits_99 : decode cX8_fits 99 = .ok (.aload_n 0, 1) := by decide +kernel
theorem dX8_fits_100 : decode cX8_fits 100 = .ok (.getfield 79, 3) := by decide +kernel
theorem dX8_fits_103 : decode cX8_fits 103 = .ok (.iconst 1, 1) := by decide +kernel
theorem dX8_fits_104 : decode cX8_fits 104 = .ok (.if_icmp .ne 8, 3) := by decide +kernel
theorem dX8_fits_107 : decode cX8_fits 107 = .ok (.iload_n 1, 1) := by decide +kernel
theorem dX8_fits_108 : decode cX8_fits 108 = .ok (.invokestatic 82, 3) := by decide +kernel
theorem dX8_fits_111 : decode cX8_fits 111 = .ok (.ireturn, 1) := by decide +kernel
theorem dX8_fits_112 : decode cX8_fits 112 = .ok (.aload_n 0, 1) := by decide +kernel
theorem dX8_fits_113 : decode cX8_fits 113 = .ok (.getfield 79, 3) := by decide +kernel
theorem dX8_fits_116 : decode cX8_fits 116 = .ok (.iconst 2, 1) := by decide +kernel
theorem dX8_fits_117 : decode cX8_fits 117 = .ok (.if_icmp .ne 25, 3) := by decide +kernel
theorem dX8_fits_120 : decode cX8_fits 120 = .ok (.iload_n 1, 1) := by decide +kernel
theorem dX8_fits_121 : decode cX8_fits 121 = .ok (.iconst 5, 1) := by decide +kernel
theorem dX8_fits_122 : decode cX8_fits 122 = .ok (.if_icmp .eq 14, 3) := by decide +kernel
theorem dX8_fits_125 : decode cX8_fits 125 = .ok (.iload_n 1, 1) := by decide +kernel
theorem dX8_fits_126 : decode cX8_fits 126 = .ok (.iconst 4, 1) := by decide +kernel
theorem dX8_fits_127 : decode cX8_fits 127 = .ok (.if_icmp .eq 9, 3) := by decide +kernel
theorem dX8_fits_130 : decode cX8_fits 130 = .ok (.iload_n 1, 1) := by decide +kernel
theorem dX8_fits_131 : decode cX8_fits 131 = .ok (.bipush 16, 2) := by decide +kernel
theorem dX8_fits_133 : decode cX8_fits 133 = .ok (.if_icmp .ne 7, 3) := by decide +kernel
theorem dX8_fits_136 : decode cX8_fits 136 = .ok (.iconst 1, 1) := by decide +kernel
theorem dX8_fits_137 : decode cX8_fits 137 = .ok (.goto 4, 3) := by decide +kernel
theorem dX8_fits_140 : decode cX8_fits 140 = .ok (.iconst 0, 1) := by decide +kernel
theorem dX8_fits_141 : decode cX8_fits 141 = .ok (.ireturn, 1) := by decide +kernel
theorem dX8_fits_142 : decode cX8_fits 142 = .ok (.iload_n 1, 1) := by decide +kernel
theorem dX8_fits_143 : decode cX8_fits 143 = .ok (.iconst 3, 1) := by decide +kernel
theorem dX8_fits_144 : decode cX8_fits 144 = .ok (.if_icmp .eq 9, 3) := by decide +kernel
theorem dX8_fits_147 : decode cX8_fits 147 = .ok (.iload_n 1, 1) := by decide +kernel
theorem dX8_fits_148 : decode cX8_fits 148 = .ok (.bipush 16, 2) := by decide +kernel
theorem dX8_fits_150 : decode cX8_fits 150 = .ok (.if_icmp .ne 7, 3) := by decide +kernel
theorem dX8_fits_153 : decode cX8_fits 153 = .ok (.iconst 1, 1) := by decide +kernel
theorem dX8_fits_154 : decode cX8_fits 154 = .ok (.goto 4, 3) := by decide +kernel
theorem dX8_fits_157 : decode cX8_fits 157 = .ok (.iconst 0, 1) := by decide +kernel
theorem dX8_fits_158 : decode cX8_fits 158 = .ok (.ireturn, 1) := by decide +kernel
theorem dX8_hasRoomFor_0 : decode cX8_hasRoomFor 0 = .ok (.iload_n 1, 1) := by decide +kernel
theorem dX8_hasRoomFor_1 : decode cX8_hasRoomFor 1 = .ok (.bipush 27, 2) := by decide +kernel
theorem dX8_hasRoomFor_3 : decode cX8_hasRoomFor 3 = .ok (.if_icmp .ne 5, 3) := by decide +kernel
theorem dX8_hasRoomFor_6 : decode cX8_hasRoomFor 6 = .ok (.iconst 1, 1) := by decide +kernel
theorem dX8_hasRoomFor_7 : decode cX8_hasRoomFor 7 = .ok (.ireturn, 1) := by decide +kernel
theorem dX8_hasRoomFor_8 : decode cX8_hasRoomFor 8 = .ok (.aload_n 0, 1) := by decide +kernel
theorem dX8_hasRoomFor_9 : decode cX8_hasRoomFor 9 = .ok (.getfield 57, 3) := by decide +kernel
theorem dX8_hasRoomFor_12 : decode cX8_hasRoomFor 12 = .ok (.sipush 400, 3) := by decide +kernel
theorem dX8_hasRoomFor_15 : decode cX8_hasRoomFor 15 = .ok (.if_icmp .lt 5, 3) := by decide +kernel
theorem dX8_hasRoomFor_18 : decode cX8_hasRoomFor 18 = .ok (.iconst 0, 1) := by decide +kernel
theorem dX8_hasRoomFor_19 : decode cX8_hasRoomFor 19 = .ok (.ireturn, 1) := by decide +kernel
theorem dX8_hasRoomFor_20 : decode cX8_hasRoomFor 20 = .ok (.aload_n 0, 1) := by decide +kernel
theorem dX8_hasRoomFor_21 : decode cX8_hasRoomFor 21 = .ok (.getfield 60, 3) := by decide +kernel
theorem dX8_hasRoomFor_24 : decode cX8_hasRoomFor 24 = .ok (.ifCond .ne 21, 3) := by decide +kernel
theorem dX8_hasRoomFor_27 : decode cX8_hasRoomFor 27 = .ok (.aload_n 0, 1) := by decide +kernel
theorem dX8_hasRoomFor_28 : decode cX8_hasRoomFor 28 = .ok (.getfield 18, 3) := by decide +kernel
theorem dX8_hasRoomFor_31 : decode cX8_hasRoomFor 31 = .ok (.getfield 85, 3) := by decide +kernel
theorem dX8_hasRoomFor_34 : decode cX8_hasRoomFor 34 = .ok (.bipush 20, 2) := by decide +kernel
theorem dX8_hasRoomFor_36 : decode cX8_hasRoomFor 36 = .ok (.if_icmp .ge 7, 3) := by decide +kernel
theorem dX8_hasRoomFor_39 : decode cX8_hasRoomFor 39 = .ok (.iconst 1, 1) := by decide +kernel
theorem dX8_hasRoomFor_40 : decode cX8_hasRoomFor 40 = .ok (.goto 4, 3) := by decide +kernel
theorem dX8_hasRoomFor_43 : decode cX8_hasRoomFor 43 = .ok (.iconst 0, 1) := by decide +kernel
theorem dX8_hasRoomFor_44 : decode cX8_hasRoomFor 44 = .ok (.ireturn, 1) := by decide +kernel
theorem dX8_hasRoomFor_45 : decode cX8_hasRoomFor 45 = .ok (.iload_n 1, 1) := by decide +kernel
theorem dX8_hasRoomFor_46 : decode cX8_hasRoomFor 46 = .ok (.bipush 24, 2) := by decide +kernel
theorem dX8_hasRoomFor_48 : decode cX8_hasRoomFor 48 = .ok (.if_icmp .ne 12, 3) := by decide +kernel
theorem dX8_hasRoomFor_51 : decode cX8_hasRoomFor 51 = .ok (.aload_n 0, 1) := by decide +kernel
theorem dX8_hasRoomFor_52 : decode cX8_hasRoomFor 52 = .ok (.getfield 63, 3) := by decide +kernel
theorem dX8_hasRoomFor_55 : decode cX8_hasRoomFor 55 = .ok (.bipush 6, 2) := by decide +kernel
theorem dX8_hasRoomFor_57 : decode cX8_hasRoomFor 57 = .ok (.if_icmp .ge 7, 3) := by decide +kernel
theorem dX8_hasRoomFor_60 : decode cX8_hasRoomFor 60 = .ok (.iconst 1, 1) := by decide +kernel
theorem dX8_hasRoomFor_61 : decode cX8_hasRoomFor 61 = .ok (.goto 4, 3) := by decide +kernel
theorem dX8_hasRoomFor_64 : decode cX8_hasRoomFor 64 = .ok (.iconst 0, 1) := by decide +kernel
theorem dX8_hasRoomFor_65 : decode cX8_hasRoomFor 65 = .ok (.ireturn, 1) := by decide +kernel
theorem dX8_take_0 : decode cX8_take 0 = .ok (.aload_n 0, 1) := by decide +kernel
theorem dX8_take_1 : decode cX8_take 1 = .ok (.dup, 1) := by decide +kernel
theorem dX8_take_2 : decode cX8_take 2 = .ok (.getfield 57, 3) := by decide +kernel
theorem dX8_take_5 : decode cX8_take 5 = .ok (.iconst 1, 1) := by decide +kernel
theorem dX8_take_6 : decode cX8_take 6 = .ok (.iadd, 1) := by decide +kernel
theorem dX8_take_7 : decode cX8_take 7 = .ok (.putfield 57, 3) := by decide +kernel
theorem dX8_take_10 : decode cX8_take 10 = .ok (.aload_n 0, 1) := by decide +kernel
theorem dX8_take_11 : decode cX8_take 11 = .ok (.getfield 60, 3) := by decide +kernel
theorem dX8_take_14 : decode cX8_take 14 = .ok (.ifCond .ne 24, 3) := by decide +kernel
theorem dX8_take_17 : decode cX8_take 17 = .ok (.aload_n 0, 1) := by decide +kernel
theorem dX8_take_18 : decode cX8_take 18 = .ok (.getfield 18, 3) := by decide +kernel
theorem dX8_take_21 : decode cX8_take 21 = .ok (.iload_n 1, 1) := by decide +kernel
theorem dX8_take_22 : decode cX8_take 22 = .ok (.invokevirtual 88, 3) := by decide +kernel
theorem dX8_take_25 : decode cX8_take 25 = .ok (.aload_n 0, 1) := by decide +kernel
theorem dX8_take_26 : decode cX8_take 26 = .ok (.iconst 0, 1) := by decide +kernel
theorem dX8_take_27 : decode cX8_take 27 = .ok (.putfield 79, 3) := by decide +kernel
theorem dX8_take_30 : decode cX8_take 30 = .ok (.aload_n 0, 1) := by decide +kernel
theorem dX8_take_31 : decode cX8_take 31 = .ok (.iconst 1, 1) := by decide +kernel
theorem dX8_take_32 : decode cX8_take 32 = .ok (.putfield 60, 3) := by decide +kernel
theorem dX8_take_35 : decode cX8_take 35 = .ok (.goto 56, 3) := by decide +kernel
theorem dX8_take_38 : decode cX8_take 38 = .ok (.aload_n 0, 1) := by decide +kernel
theorem dX8_take_39 : decode cX8_take 39 = .ok (.getfield 60, 3) := by decide +kernel
theorem dX8_take_42 : decode cX8_take 42 = .ok (.iconst 2, 1) := by decide +kernel
theorem dX8_take_43 : decode cX8_take 43 = .ok (.if_icmp .ne 11, 3) := by decide +kernel
theorem dX8_take_46 : decode cX8_take 46 = .ok (.aload_n 0, 1) := by decide +kernel
theorem dX8_take_47 : decode cX8_take 47 = .ok (.iload_n 1, 1) := by decide +kernel
theorem dX8_take_48 : decode cX8_take 48 = .ok (.invokevirtual 91, 3) := by decide +kernel
theorem dX8_take_51 : decode cX8_take 51 = .ok (.goto 40, 3) := by decide +kernel
theorem dX8_take_54 : decode cX8_take 54 = .ok (.iload_n 1, 1) := by decide +kernel
theorem dX8_take_55 : decode cX8_take 55 = .ok (.bipush 24, 2) := by decide +kernel
theorem dX8_take_57 : decode cX8_take 57 = .ok (.if_icmp .ne 21, 3) := by decide +kernel
theorem dX8_take_60 : decode cX8_take 60 = .ok (.aload_n 0, 1) := by decide +kernel
theorem dX8_take_61 : decode cX8_take 61 = .ok (.dup, 1) := by decide +kernel
theorem dX8_take_62 : decode cX8_take 62 = .ok (.getfield 63, 3) := by decide +kernel
theorem dX8_take_65 : decode cX8_take 65 = .ok (.iconst 1, 1) := by decide +kernel
theorem dX8_take_66 : decode cX8_take 66 = .ok (.iadd, 1) := by decide +kernel
theorem dX8_take_67 : decode cX8_take 67 = .ok (.putfield 63, 3) := by decide +kernel
theorem dX8_take_70 : decode cX8_take 70 = .ok (.aload_n 0, 1) := by decide +kernel
theorem dX8_take_71 : decode cX8_take 71 = .ok (.iload_n 1, 1) := by decide +kernel
theorem dX8_take_72 : decode cX8_take 72 = .ok (.invokevirtual 94, 3) := by decide +kernel
theorem dX8_take_75 : decode cX8_take 75 = .ok (.goto 16, 3) := by decide +kernel
theorem dX8_take_78 : decode cX8_take 78 = .ok (.aload_n 0, 1) := by decide +kernel
theorem dX8_take_79 : decode cX8_take 79 = .ok (.getfield 18, 3) := by decide +kernel
theorem dX8_take_82 : decode cX8_take 82 = .ok (.iload_n 1, 1) := by decide +kernel
theorem dX8_take_83 : decode cX8_take 83 = .ok (.invokevirtual 97, 3) := by decide +kernel
theorem dX8_take_86 : decode cX8_take 86 = .ok (.aload_n 0, 1) := by decide +kernel
theorem dX8_take_87 : decode cX8_take 87 = .ok (.iconst 2, 1) := by decide +kernel
theorem dX8_take_88 : decode cX8_take 88 = .ok (.putfield 60, 3) := by decide +kernel
theorem dX8_take_91 : decode cX8_take 91 = .ok (.return_, 1) := by decide +kernel
theorem dX8_takeBehindUnit_0 : decode cX8_takeBehindUnit 0 = .ok (.aload_n 0, 1) := by decide +kernel
theorem dX8_takeBehindUnit_1 : decode cX8_takeBehindUnit 1 = .ok (.iload_n 1, 1) := by decide +kernel
theorem dX8_takeBehindUnit_2 : decode cX8_takeBehindUnit 2 = .ok (.invokestatic 100, 3) := by decide +kernel
theorem dX8_takeBehindUnit_5 : decode cX8_takeBehindUnit 5 = .ok (.invokevirtual 103, 3) := by decide +kernel
theorem dX8_takeBehindUnit_8 : decode cX8_takeBehindUnit 8 = .ok (.iload_n 1, 1) := by decide +kernel
theorem dX8_takeBehindUnit_9 : decode cX8_takeBehindUnit 9 = .ok (.bipush 25, 2) := by decide +kernel
theorem dX8_takeBehindUnit_11 : decode cX8_takeBehindUnit 11 = .ok (.if_icmp .ne 20, 3) := by decide +kernel
theorem dX8_takeBehindUnit_14 : decode cX8_takeBehindUnit 14 = .ok (.aload_n 0, 1) := by decide +kernel
theorem dX8_takeBehindUnit_15 : decode cX8_takeBehindUnit 15 = .ok (.dup, 1) := by decide +kernel
theorem dX8_takeBehindUnit_16 : decode cX8_takeBehindUnit 16 = .ok (.getfield 63, 3) := by decide +kernel
theorem dX8_takeBehindUnit_19 : decode cX8_takeBehindUnit 19 = .ok (.iconst 1, 1) := by decide +kernel
theorem dX8_takeBehindUnit_20 : decode cX8_takeBehindUnit 20 = .ok (.isub, 1) := by decide +kernel
theorem dX8_takeBehindUnit_21 : decode cX8_takeBehindUnit 21 = .ok (.putfield 63, 3) := by decide +kernel
theorem dX8_takeBehindUnit_24 : decode cX8_takeBehindUnit 24 = .ok (.aload_n 0, 1) := by decide +kernel
theorem dX8_takeBehindUnit_25 : decode cX8_takeBehindUnit 25 = .ok (.invokevirtual 106, 3) := by decide +kernel
theorem dX8_takeBehindUnit_28 : decode cX8_takeBehindUnit 28 = .ok (.goto 68, 3) := by decide +kernel
theorem dX8_takeBehindUnit_31 : decode cX8_takeBehindUnit 31 = .ok (.iload_n 1, 1) := by decide +kernel
theorem dX8_takeBehindUnit_32 : decode cX8_takeBehindUnit 32 = .ok (.bipush 16, 2) := by decide +kernel
theorem dX8_takeBehindUnit_34 : decode cX8_takeBehindUnit 34 = .ok (.if_icmp .ne 32, 3) := by decide +kernel
theorem dX8_takeBehindUnit_37 : decode cX8_takeBehindUnit 37 = .ok (.aload_n 0, 1) := by decide +kernel
theorem dX8_takeBehindUnit_38 : decode cX8_takeBehindUnit 38 = .ok (.getfield 79, 3) := by decide +kernel
theorem dX8_takeBehindUnit_41 : decode cX8_takeBehindUnit 41 = .ok (.ifCond .ne 10, 3) := by decide +kernel
theorem dX8_takeBehindUnit_44 : decode cX8_takeBehindUnit 44 = .ok (.aload_n 0, 1) := by decide +kernel
theorem dX8_takeBehindUnit_45 : decode cX8_takeBehindUnit 45 = .ok (.getfield 18, 3) := by decide +kernel
theorem dX8_takeBehindUnit_48 : decode cX8_takeBehindUnit 48 = .ok (.invokevirtual 109, 3) := by decide +kernel
theorem dX8_takeBehindUnit_51 : decode cX8_takeBehindUnit 51 = .ok (.aload_n 0, 1) := by decide +kernel
theorem dX8_takeBehindUnit_52 : decode cX8_takeBehindUnit 52 = .ok (.getfield 18, 3) := by decide +kernel
theorem dX8_takeBehindUnit_55 : decode cX8_takeBehindUnit 55 = .ok (.invokevirtual 112, 3) := by decide +kernel
theorem dX8_takeBehindUnit_58 : decode cX8_takeBehindUnit 58 = .ok (.aload_n 0, 1) := by decide +kernel
theorem dX8_takeBehindUnit_59 : decode cX8_takeBehindUnit 59 = .ok (.iconst 0, 1) := by decide +kernel
theorem dX8_takeBehindUnit_60 : decode cX8_takeBehindUnit 60 = .ok (.putfield 60, 3) := by decide +kernel
theorem dX8_takeBehindUnit_63 : decode cX8_takeBehindUnit 63 = .ok (.goto 33, 3) := by decide +kernel
theorem dX8_takeBehindUnit_66 : decode cX8_takeBehindUnit 66 = .ok (.iload_n 1, 1) := by decide +kernel
theorem dX8_takeBehindUnit_67 : decode cX8_takeBehindUnit 67 = .ok (.iconst 3, 1) := by decide +kernel
theorem dX8_takeBehindUnit_68 : decode cX8_takeBehindUnit 68 = .ok (.if_icmp .ne 23, 3) := by decide +kernel
theorem dX8_takeBehindUnit_71 : decode cX8_takeBehindUnit 71 = .ok (.aload_n 0, 1) := by decide +kernel
theorem dX8_takeBehindUnit_72 : decode cX8_takeBehindUnit 72 = .ok (.getfield 18, 3) := by decide +kernel
theorem dX8_takeBehindUnit_75 : decode cX8_takeBehindUnit 75 = .ok (.invokevirtual 109, 3) := by decide +kernel
theorem dX8_takeBehindUnit_78 : decode cX8_takeBehindUnit 78 = .ok (.aload_n 0, 1) := by decide +kernel
theorem dX8_takeBehindUnit_79 : decode cX8_takeBehindUnit 79 = .ok (.iconst 1, 1) := by decide +kernel
theorem dX8_takeBehindUnit_80 : decode cX8_takeBehindUnit 80 = .ok (.putfield 79, 3) := by decide +kernel
theorem dX8_takeBehindUnit_83 : decode cX8_takeBehindUnit 83 = .ok (.aload_n 0, 1) := by decide +kernel
theorem dX8_takeBehindUnit_84 : decode cX8_takeBehindUnit 84 = .ok (.iconst 1, 1) := by decide +kernel
theorem dX8_takeBehindUnit_85 : decode cX8_takeBehindUnit 85 = .ok (.putfield 60, 3) := by decide +kernel
theorem dX8_takeBehindUnit_88 : decode cX8_takeBehindUnit 88 = .ok (.goto 8, 3) := by decide +kernel
theorem dX8_takeBehindUnit_91 : decode cX8_takeBehindUnit 91 = .ok (.aload_n 0, 1) := by decide +kernel
theorem dX8_takeBehindUnit_92 : decode cX8_takeBehindUnit 92 = .ok (.iload_n 1, 1) := by decide +kernel
theorem dX8_takeBehindUnit_93 : decode cX8_takeBehindUnit 93 = .ok (.invokevirtual 115, 3) := by decide +kernel
theorem dX8_takeBehindUnit_96 : decode cX8_takeBehindUnit 96 = .ok (.return_, 1) := by decide +kernel
theorem dX8_takeOperator_0 : decode cX8_takeOperator 0 = .ok (.aload_n 0, 1) := by decide +kernel
theorem dX8_takeOperator_1 : decode cX8_takeOperator 1 = .ok (.iload_n 1, 1) := by decide +kernel
theorem dX8_takeOperator_2 : decode cX8_takeOperator 2 = .ok (.invokevirtual 94, 3) := by decide +kernel
theorem dX8_takeOperator_5 : decode cX8_takeOperator 5 = .ok (.aload_n 0, 1) := by decide +kernel
theorem dX8_takeOperator_6 : decode cX8_takeOperator 6 = .ok (.iconst 1, 1) := by decide +kernel
theorem dX8_takeOperator_7 : decode cX8_takeOperator 7 = .ok (.putfield 60, 3) := by decide +kernel
theorem dX8_takeOperator_10 : decode cX8_takeOperator 10 = .ok (.iload_n 1, 1) := by decide +kernel
theorem dX8_takeOperator_11 : decode cX8_takeOperator 11 = .ok (.invokestatic 82, 3) := by decide +kernel
theorem dX8_takeOperator_14 : decode cX8_takeOperator 14 = .ok (.ifCond .eq 11, 3) := by decide +kernel
theorem dX8_takeOperator_17 : decode cX8_takeOperator 17 = .ok (.aload_n 0, 1) := by decide +kernel
theorem dX8_takeOperator_18 : decode cX8_takeOperator 18 = .ok (.iconst 2, 1) := by decide +kernel
theorem dX8_takeOperator_19 : decode cX8_takeOperator 19 = .ok (.putfield 79, 3) := by decide +kernel
theorem dX8_takeOperator_22 : decode cX8_takeOperator 22 = .ok (.goto 18, 3) := by decide +kernel
theorem dX8_takeOperator_25 : decode cX8_takeOperator 25 = .ok (.iload_n 1, 1) := by decide +kernel
theorem dX8_takeOperator_26 : decode cX8_takeOperator 26 = .ok (.iconst 5, 1) := by decide +kernel
theorem dX8_takeOperator_27 : decode cX8_takeOperator 27 = .ok (.if_icmp .eq 8, 3) := by decide +kernel
theorem dX8_takeOperator_30 : decode cX8_takeOperator 30 = .ok (.iload_n 1, 1) := by decide +kernel
theorem dX8_takeOperator_31 : decode cX8_takeOperator 31 = .ok (.iconst 4, 1) := by decide +kernel
theorem dX8_takeOperator_32 : decode cX8_takeOperator 32 = .ok (.if_icmp .ne 8, 3) := by decide +kernel
theorem dX8_takeOperator_35 : decode cX8_takeOperator 35 = .ok (.aload_n 0, 1) := by decide +kernel
theorem dX8_takeOperator_36 : decode cX8_takeOperator 36 = .ok (.iconst 1, 1) := by decide +kernel
theorem dX8_takeOperator_37 : decode cX8_takeOperator 37 = .ok (.putfield 79, 3) := by decide +kernel
theorem dX8_takeOperator_40 : decode cX8_takeOperator 40 = .ok (.return_, 1) := by decide +kernel
theorem dX8_pend_0 : decode cX8_pend 0 = .ok (.aload_n 0, 1) := by decide +kernel
theorem dX8_pend_1 : decode cX8_pend 1 = .ok (.getfield 66, 3) := by decide +kernel
theorem dX8_pend_4 : decode cX8_pend 4 = .ok (.aload_n 0, 1) := by decide +kernel
theorem dX8_pend_5 : decode cX8_pend 5 = .ok (.getfield 26, 3) := by decide +kernel
theorem dX8_pend_8 : decode cX8_pend 8 = .ok (.arraylength, 1) := by decide +kernel
theorem dX8_pend_9 : decode cX8_pend 9 = .ok (.if_icmp .ge 23, 3) := by decide +kernel
theorem dX8_pend_12 : decode cX8_pend 12 = .ok (.aload_n 0, 1) := by decide +kernel
theorem dX8_pend_13 : decode cX8_pend 13 = .ok (.getfield 26, 3) := by decide +kernel
theorem dX8_pend_16 : decode cX8_pend 16 = .ok (.aload_n 0, 1) := by decide +kernel
theorem dX8_pend_17 : decode cX8_pend 17 = .ok (.getfield 66, 3) := by decide +kernel
theorem dX8_pend_20 : decode cX8_pend 20 = .ok (.iload_n 1, 1) := by decide +kernel
theorem dX8_pend_21 : decode cX8_pend 21 = .ok (.iastore, 1) := by decide +kernel
theorem dX8_pend_22 : decode cX8_pend 22 = .ok (.aload_n 0, 1) := by decide +kernel
theorem dX8_pend_23 : decode cX8_pend 23 = .ok (.dup, 1) := by decide +kernel
theorem dX8_pend_24 : decode cX8_pend 24 = .ok (.getfield 66, 3) := by decide +kernel
theorem dX8_pend_27 : decode cX8_pend 27 = .ok (.iconst 1, 1) := by decide +kernel
theorem dX8_pend_28 : decode cX8_pend 28 = .ok (.iadd, 1) := by decide +kernel
theorem dX8_pend_29 : decode cX8_pend 29 = .ok (.putfield 66, 3) := by decide +kernel
theorem dX8_pend_32 : decode cX8_pend 32 = .ok (.return_, 1) := by decide +kernel
theorem dX8_settle_0 : decode cX8_settle 0 = .ok (.aload_n 0, 1) := by decide +kernel
theorem dX8_settle_1 : decode cX8_settle 1 = .ok (.getfield 66, 3) := by decide +kernel
theorem dX8_settle_4 : decode cX8_settle 4 = .ok (.ifCond .le 50, 3) := by decide +kernel
theorem dX8_settle_7 : decode cX8_settle 7 = .ok (.aload_n 0, 1) := by decide +kernel
theorem dX8_settle_8 : decode cX8_settle 8 = .ok (.getfield 26, 3) := by decide +kernel
theorem dX8_settle_11 : decode cX8_settle 11 = .ok (.aload_n 0, 1) := by decide +kernel
theorem dX8_settle_12 : decode cX8_settle 12 = .ok (.getfield 66, 3) := by decide +kernel
theorem dX8_settle_15 : decode cX8_settle 15 = .ok (.iconst 1, 1) := by decide +kernel
theorem dX8_settle_16 : decode cX8_settle 16 = .ok (.isub, 1) := by decide +kernel
theorem dX8_settle_17 : decode cX8_settle 17 = .ok (.iaload, 1) := by decide +kernel
theorem dX8_settle_18 : decode cX8_settle 18 = .ok (.invokestatic 100, 3) := by decide +kernel
theorem dX8_settle_21 : decode cX8_settle 21 = .ok (.iload_n 1, 1) := by decide +kernel
theorem dX8_settle_22 : decode cX8_settle 22 = .ok (.if_icmp .lt 32, 3) := by decide +kernel
theorem dX8_settle_25 : decode cX8_settle 25 = .ok (.aload_n 0, 1) := by decide +kernel
theorem dX8_settle_26 : decode cX8_settle 26 = .ok (.dup, 1) := by decide +kernel
theorem dX8_settle_27 : decode cX8_settle 27 = .ok (.getfield 66, 3) := by decide +kernel
theorem dX8_settle_30 : decode cX8_settle 30 = .ok (.iconst 1, 1) := by decide +kernel
theorem dX8_settle_31 : decode cX8_settle 31 = .ok (.isub, 1) := by decide +kernel
theorem dX8_settle_32 : decode cX8_settle 32 = .ok (.putfield 66, 3) := by decide +kernel
theorem dX8_settle_35 : decode cX8_settle 35 = .ok (.aload_n 0, 1) := by decide +kernel
theorem dX8_settle_36 : decode cX8_settle 36 = .ok (.getfield 18, 3) := by decide +kernel
theorem dX8_settle_39 : decode cX8_settle 39 = .ok (.aload_n 0, 1) := by decide +kernel
theorem dX8_settle_40 : decode cX8_settle 40 = .ok (.getfield 26, 3) := by decide +kernel
theorem dX8_settle_43 : decode cX8_settle 43 = .ok (.aload_n 0, 1) := by decide +kernel
theorem dX8_settle_44 : decode cX8_settle 44 = .ok (.getfield 66, 3) := by decide +kernel
theorem dX8_settle_47 : decode cX8_settle 47 = .ok (.iaload, 1) := by decide +kernel
theorem dX8_settle_48 : decode cX8_settle 48 = .ok (.invokevirtual 97, 3) := by decide +kernel
theorem dX8_settle_51 : decode cX8_settle 51 = .ok (.goto (-51), 3) := by decide +kernel
theorem dX8_settle_54 : decode cX8_settle 54 = .ok (.return_, 1) := by decide +kernel
theorem dX8_dropOpen_0 : decode cX8_dropOpen 0 = .ok (.aload_n 0, 1) := by decide +kernel
theorem dX8_dropOpen_1 : decode cX8_dropOpen 1 = .ok (.getfield 66, 3) := by decide +kernel
theorem dX8_dropOpen_4 : decode cX8_dropOpen 4 = .ok (.ifCond .le 13, 3) := by decide +kernel
theorem dX8_dropOpen_7 : decode cX8_dropOpen 7 = .ok (.aload_n 0, 1) := by decide +kernel
theorem dX8_dropOpen_8 : decode cX8_dropOpen 8 = .ok (.dup, 1) := by decide +kernel
theorem dX8_dropOpen_9 : decode cX8_dropOpen 9 = .ok (.getfield 66, 3) := by decide +kernel
theorem dX8_dropOpen_12 : decode cX8_dropOpen 12 = .ok (.iconst 1, 1) := by decide +kernel
theorem dX8_dropOpen_13 : decode cX8_dropOpen 13 = .ok (.isub, 1) := by decide +kernel
theorem dX8_dropOpen_14 : decode cX8_dropOpen 14 = .ok (.putfield 66, 3) := by decide +kernel
theorem dX8_dropOpen_17 : decode cX8_dropOpen 17 = .ok (.return_, 1) := by decide +kernel
theorem dX8_rank_0 : decode cX8_rank 0 = .ok (.iload_n 0, 1) := by decide +kernel
theorem dX8_rank_1 : decode cX8_rank 1 = .ok (.tableswitch 105 5 24 #[101, 105, 105, 105, 105, 105, 105, 105, 105, 105, 105, 105, 97, 97, 95, 99, 99, 99, 99, 103], 95) := by decide +kernel
theorem dX8_rank_96 : decode cX8_rank 96 = .ok (.iconst 5, 1) := by decide +kernel
theorem dX8_rank_97 : decode cX8_rank 97 = .ok (.ireturn, 1) := by decide +kernel
theorem dX8_rank_98 : decode cX8_rank 98 = .ok (.iconst 4, 1) := by decide +kernel
theorem dX8_rank_99 : decode cX8_rank 99 = .ok (.ireturn, 1) := by decide +kernel
theorem dX8_rank_100 : decode cX8_rank 100 = .ok (.iconst 3, 1) := by decide +kernel
theorem dX8_rank_101 : decode cX8_rank 101 = .ok (.ireturn, 1) := by decide +kernel
theorem dX8_rank_102 : decode cX8_rank 102 = .ok (.iconst 2, 1) := by decide +kernel
theorem dX8_rank_103 : decode cX8_rank 103 = .ok (.ireturn, 1) := by decide +kernel
theorem dX8_rank_104 : decode cX8_rank 104 = .ok (.iconst 0, 1) := by decide +kernel
theorem dX8_rank_105 : decode cX8_rank 105 = .ok (.ireturn, 1) := by decide +kernel
theorem dX8_rank_106 : decode cX8_rank 106 = .ok (.iconst 1, 1) := by decide +kernel
theorem dX8_rank_107 : decode cX8_rank 107 = .ok (.ireturn, 1) := by decide +kernel
theorem dX8_nextToken_0 : decode cX8_nextToken 0 = .ok (.aload_n 0, 1) := by decide +kernel
theorem dX8_nextToken_1 : decode cX8_nextToken 1 = .ok (.getfield 54, 3) := by decide +kernel
theorem dX8_nextToken_4 : decode cX8_nextToken 4 = .ok (.aload_n 0, 1) := by decide +kernel
theorem dX8_nextToken_5 : decode cX8_nextToken 5 = .ok (.getfield 30, 3) := by decide +kernel
theorem dX8_nextToken_8 : decode cX8_nextToken 8 = .ok (.if_icmp .ge 31, 3) := by decide +kernel
theorem dX8_nextToken_11 : decode cX8_nextToken 11 = .ok (.aload_n 0, 1) := by decide +kernel
theorem dX8_nextToken_12 : decode cX8_nextToken 12 = .ok (.getfield 22, 3) := by decide +kernel
theorem dX8_nextToken_15 : decode cX8_nextToken 15 = .ok (.aload_n 0, 1) := by decide +kernel
theorem dX8_nextToken_16 : decode cX8_nextToken 16 = .ok (.getfield 54, 3) := by decide +kernel
theorem dX8_nextToken_19 : decode cX8_nextToken 19 = .ok (.caload, 1) := by decide +kernel
theorem dX8_nextToken_20 : decode cX8_nextToken 20 = .ok (.invokestatic 118, 3) := by decide +kernel
theorem dX8_nextToken_23 : decode cX8_nextToken 23 = .ok (.ifCond .eq 16, 3) := by decide +kernel
theorem dX8_nextToken_26 : decode cX8_nextToken 26 = .ok (.aload_n 0, 1) := by decide +kernel
theorem dX8_nextToken_27 : decode cX8_nextToken 27 = .ok (.dup, 1) := by decide +kernel
theorem dX8_nextToken_28 : decode cX8_nextToken 28 = .ok (.getfield 54, 3) := by decide +kernel
theorem dX8_nextToken_31 : decode cX8_nextToken 31 = .ok (.iconst 1, 1) := by decide +kernel
theorem dX8_nextToken_32 : decode cX8_nextToken 32 = .ok (.iadd, 1) := by decide +kernel
theorem dX8_nextToken_33 : decode cX8_nextToken 33 = .ok (.putfield 54, 3) := by decide +kernel
theorem dX8_nextToken_36 : decode cX8_nextToken 36 = .ok (.goto (-36), 3) := by decide +kernel
theorem dX8_nextToken_39 : decode cX8_nextToken 39 = .ok (.aload_n 0, 1) := by decide +kernel
theorem dX8_nextToken_40 : decode cX8_nextToken 40 = .ok (.aload_n 0, 1) := by decide +kernel
theorem dX8_nextToken_41 : decode cX8_nextToken 41 = .ok (.getfield 54, 3) := by decide +kernel
theorem dX8_nextToken_44 : decode cX8_nextToken 44 = .ok (.putfield 48, 3) := by decide +kernel
theorem dX8_nextToken_47 : decode cX8_nextToken 47 = .ok (.aload_n 0, 1) := by decide +kernel
theorem dX8_nextToken_48 : decode cX8_nextToken 48 = .ok (.getfield 54, 3) := by decide +kernel
theorem dX8_nextToken_51 : decode cX8_nextToken 51 = .ok (.aload_n 0, 1) := by decide +kernel
theorem dX8_nextToken_52 : decode cX8_nextToken 52 = .ok (.getfield 30, 3) := by decide +kernel
theorem dX8_nextToken_55 : decode cX8_nextToken 55 = .ok (.if_icmp .lt 6, 3) := by decide +kernel
theorem dX8_nextToken_58 : decode cX8_nextToken 58 = .ok (.bipush 27, 2) := by decide +kernel
theorem dX8_nextToken_60 : decode cX8_nextToken 60 = .ok (.ireturn, 1) := by decide +kernel
theorem dX8_nextToken_61 : decode cX8_nextToken 61 = .ok (.aload_n 0, 1) := by decide +kernel
theorem dX8_nextToken_62 : decode cX8_nextToken 62 = .ok (.getfield 22, 3) := by decide +kernel
theorem dX8_nextToken_65 : decode cX8_nextToken 65 = .ok (.aload_n 0, 1) := by decide +kernel
theorem dX8_nextToken_66 : decode cX8_nextToken 66 = .ok (.getfield 54, 3) := by decide +kernel
theorem dX8_nextToken_69 : decode cX8_nextToken 69 = .ok (.caload, 1) := by decide +kernel
theorem dX8_nextToken_70 : decode cX8_nextToken 70 = .ok (.istore_n 1, 1) := by decide +kernel
theorem dX8_nextToken_71 : decode cX8_nextToken 71 = .ok (.iload_n 1, 1) := by decide +kernel
theorem dX8_nextToken_72 : decode cX8_nextToken 72 = .ok (.invokestatic 122, 3) := by decide +kernel
theorem dX8_nextToken_75 : decode cX8_nextToken 75 = .ok (.ifCond .eq 8, 3) := by decide +kernel
theorem dX8_nextToken_78 : decode cX8_nextToken 78 = .ok (.aload_n 0, 1) := by decide +kernel
theorem dX8_nextToken_79 : decode cX8_nextToken 79 = .ok (.invokevirtual 125, 3) := by decide +kernel
theorem dX8_nextToken_82 : decode cX8_nextToken 82 = .ok (.ireturn, 1) := by decide +kernel
theorem dX8_nextToken_83 : decode cX8_nextToken 83 = .ok (.iload_n 1, 1) := by decide +kernel
theorem dX8_nextToken_84 : decode cX8_nextToken 84 = .ok (.invokestatic 128, 3) := by decide +kernel
theorem dX8_nextToken_87 : decode cX8_nextToken 87 = .ok (.ifCond .eq 10, 3) := by decide +kernel
theorem dX8_nextToken_90 : decode cX8_nextToken 90 = .ok (.aload_n 0, 1) := by decide +kernel
theorem dX8_nextToken_91 : decode cX8_nextToken 91 = .ok (.invokevirtual 131, 3) := by decide +kernel
theorem dX8_nextToken_94 : decode cX8_nextToken 94 = .ok (.goto 8, 3) := by decide +kernel
theorem dX8_nextToken_97 : decode cX8_nextToken 97 = .ok (.aload_n 0, 1) := by decide +kernel
theorem dX8_nextToken_98 : decode cX8_nextToken 98 = .ok (.iload_n 1, 1) := by decide +kernel
theorem dX8_nextToken_99 : decode cX8_nextToken 99 = .ok (.invokevirtual 134, 3) := by decide +kernel
theorem dX8_nextToken_102 : decode cX8_nextToken 102 = .ok (.ireturn, 1) := by decide +kernel
theorem dX8_wordToken_0 : decode cX8_wordToken 0 = .ok (.aload_n 0, 1) := by decide +kernel
theorem dX8_wordToken_1 : decode cX8_wordToken 1 = .ok (.getfield 54, 3) := by decide +kernel
theorem dX8_wordToken_4 : decode cX8_wordToken 4 = .ok (.aload_n 0, 1) := by decide +kernel
theorem dX8_wordToken_5 : decode cX8_wordToken 5 = .ok (.getfield 30, 3) := by decide +kernel
theorem dX8_wordToken_8 : decode cX8_wordToken 8 = .ok (.if_icmp .ge 31, 3) := by decide +kernel
theorem dX8_wordToken_11 : decode cX8_wordToken 11 = .ok (.aload_n 0, 1) := by decide +kernel
theorem dX8_wordToken_12 : decode cX8_wordToken 12 = .ok (.getfield 22, 3) := by decide +kernel
theorem dX8_wordToken_15 : decode cX8_wordToken 15 = .ok (.aload_n 0, 1) := by decide +kernel
theorem dX8_wordToken_16 : decode cX8_wordToken 16 = .ok (.getfield 54, 3) := by decide +kernel
theorem dX8_wordToken_19 : decode cX8_wordToken 19 = .ok (.caload, 1) := by decide +kernel
theorem dX8_wordToken_20 : decode cX8_wordToken 20 = .ok (.invokestatic 122, 3) := by decide +kernel
theorem dX8_wordToken_23 : decode cX8_wordToken 23 = .ok (.ifCond .eq 16, 3) := by decide +kernel
theorem dX8_wordToken_26 : decode cX8_wordToken 26 = .ok (.aload_n 0, 1) := by decide +kernel
theorem dX8_wordToken_27 : decode cX8_wordToken 27 = .ok (.dup, 1) := by decide +kernel
theorem dX8_wordToken_28 : decode cX8_wordToken 28 = .ok (.getfield 54, 3) := by decide +kernel
theorem dX8_wordToken_31 : decode cX8_wordToken 31 = .ok (.iconst 1, 1) := by decide +kernel
theorem dX8_wordToken_32 : decode cX8_wordToken 32 = .ok (.iadd, 1) := by decide +kernel
theorem dX8_wordToken_33 : decode cX8_wordToken 33 = .ok (.putfield 54, 3) := by decide +kernel
theorem dX8_wordToken_36 : decode cX8_wordToken 36 = .ok (.goto (-36), 3) := by decide +kernel
theorem dX8_wordToken_39 : decode cX8_wordToken 39 = .ok (.aload_n 0, 1) := by decide +kernel
theorem dX8_wordToken_40 : decode cX8_wordToken 40 = .ok (.getfield 54, 3) := by decide +kernel
theorem dX8_wordToken_43 : decode cX8_wordToken 43 = .ok (.aload_n 0, 1) := by decide +kernel
theorem dX8_wordToken_44 : decode cX8_wordToken 44 = .ok (.getfield 48, 3) := by decide +kernel
theorem dX8_wordToken_47 : decode cX8_wordToken 47 = .ok (.isub, 1) := by decide +kernel
theorem dX8_wordToken_48 : decode cX8_wordToken 48 = .ok (.bipush 8, 2) := by decide +kernel
theorem dX8_wordToken_50 : decode cX8_wordToken 50 = .ok (.if_icmp .le 6, 3) := by decide +kernel
theorem dX8_wordToken_53 : decode cX8_wordToken 53 = .ok (.bipush 26, 2) := by decide +kernel
theorem dX8_wordToken_55 : decode cX8_wordToken 55 = .ok (.ireturn, 1) := by decide +kernel
theorem dX8_wordToken_56 : decode cX8_wordToken 56 = .ok (.iconst 0, 1) := by decide +kernel
theorem dX8_wordToken_57 : decode cX8_wordToken 57 = .ok (.istore_n 1, 1) := by decide +kernel
theorem dX8_wordToken_58 : decode cX8_wordToken 58 = .ok (.iload_n 1, 1) := by decide +kernel
theorem dX8_wordToken_59 : decode cX8_wordToken 59 = .ok (.bipush 16, 2) := by decide +kernel
theorem dX8_wordToken_61 : decode cX8_wordToken 61 = .ok (.if_icmp .ge 19, 3) := by decide +kernel
theorem dX8_wordToken_64 : decode cX8_wordToken 64 = .ok (.aload_n 0, 1) := by decide +kernel
theorem dX8_wordToken_65 : decode cX8_wordToken 65 = .ok (.iload_n 1, 1) := by decide +kernel
theorem dX8_wordToken_66 : decode cX8_wordToken 66 = .ok (.invokevirtual 138, 3) := by decide +kernel
theorem dX8_wordToken_69 : decode cX8_wordToken 69 = .ok (.ifCond .eq 5, 3) := by decide +kernel
theorem dX8_wordToken_72 : decode cX8_wordToken 72 = .ok (.iload_n 1, 1) := by decide +kernel
theorem dX8_wordToken_73 : decode cX8_wordToken 73 = .ok (.ireturn, 1) := by decide +kernel
theorem dX8_wordToken_74 : decode cX8_wordToken 74 = .ok (.iinc 1 1, 3) := by decide +kernel
theorem dX8_wordToken_77 : decode cX8_wordToken 77 = .ok (.goto (-19), 3) := by decide +kernel
theorem dX8_wordToken_80 : decode cX8_wordToken 80 = .ok (.bipush 26, 2) := by decide +kernel
theorem dX8_wordToken_82 : decode cX8_wordToken 82 = .ok (.ireturn, 1) := by decide +kernel
theorem dX8_isTokenTheWord_0 : decode cX8_isTokenTheWord 0 = .ok (.iload_n 1, 1) := by decide +kernel
theorem dX8_isTokenTheWord_1 : decode cX8_isTokenTheWord 1 = .ok (.bipush 8, 2) := by decide +kernel
theorem dX8_isTokenTheWord_3 : decode cX8_isTokenTheWord 3 = .ok (.imul, 1) := by decide +kernel
theorem dX8_isTokenTheWord_4 : decode cX8_isTokenTheWord 4 = .ok (.istore_n 2, 1) := by decide +kernel
theorem dX8_isTokenTheWord_5 : decode cX8_isTokenTheWord 5 = .ok (.iconst 0, 1) := by decide +kernel
theorem dX8_isTokenTheWord_6 : decode cX8_isTokenTheWord 6 = .ok (.istore_n 3, 1) := by decide +kernel
theorem dX8_isTokenTheWord_7 : decode cX8_isTokenTheWord 7 = .ok (.iload_n 3, 1) := by decide +kernel
theorem dX8_isTokenTheWord_8 : decode cX8_isTokenTheWord 8 = .ok (.bipush 8, 2) := by decide +kernel
theorem dX8_isTokenTheWord_10 : decode cX8_isTokenTheWord 10 = .ok (.if_icmp .ge 66, 3) := by decide +kernel
theorem dX8_isTokenTheWord_13 : decode cX8_isTokenTheWord 13 = .ok (.iload_n 2, 1) := by decide +kernel
theorem dX8_isTokenTheWord_14 : decode cX8_isTokenTheWord 14 = .ok (.iload_n 3, 1) := by decide +kernel
theorem dX8_isTokenTheWord_15 : decode cX8_isTokenTheWord 15 = .ok (.iadd, 1) := by decide +kernel
theorem dX8_isTokenTheWord_16 : decode cX8_isTokenTheWord 16 = .ok (.ldc 141, 2) := by decide +kernel
theorem dX8_isTokenTheWord_18 : decode cX8_isTokenTheWord 18 = .ok (.invokevirtual 143, 3) := by decide +kernel
theorem dX8_isTokenTheWord_21 : decode cX8_isTokenTheWord 21 = .ok (.if_icmp .ge 55, 3) := by decide +kernel
theorem dX8_isTokenTheWord_24 : decode cX8_isTokenTheWord 24 = .ok (.aload_n 0, 1) := by decide +kernel
theorem dX8_isTokenTheWord_25 : decode cX8_isTokenTheWord 25 = .ok (.getfield 48, 3) := by decide +kernel
theorem dX8_isTokenTheWord_28 : decode cX8_isTokenTheWord 28 = .ok (.iload_n 3, 1) := by decide +kernel
theorem dX8_isTokenTheWord_29 : decode cX8_isTokenTheWord 29 = .ok (.iadd, 1) := by decide +kernel
theorem dX8_isTokenTheWord_30 : decode cX8_isTokenTheWord 30 = .ok (.aload_n 0, 1) := by decide +kernel
theorem dX8_isTokenTheWord_31 : decode cX8_isTokenTheWord 31 = .ok (.getfield 54, 3) := by decide +kernel
theorem dX8_isTokenTheWord_34 : decode cX8_isTokenTheWord 34 = .ok (.if_icmp .ge 17, 3) := by decide +kernel
theorem dX8_isTokenTheWord_37 : decode cX8_isTokenTheWord 37 = .ok (.aload_n 0, 1) := by decide +kernel
theorem dX8_isTokenTheWord_38 : decode cX8_isTokenTheWord 38 = .ok (.getfield 22, 3) := by decide +kernel
theorem dX8_isTokenTheWord_41 : decode cX8_isTokenTheWord 41 = .ok (.aload_n 0, 1) := by decide +kernel
theorem dX8_isTokenTheWord_42 : decode cX8_isTokenTheWord 42 = .ok (.getfield 48, 3) := by decide +kernel
theorem dX8_isTokenTheWord_45 : decode cX8_isTokenTheWord 45 = .ok (.iload_n 3, 1) := by decide +kernel
theorem dX8_isTokenTheWord_46 : decode cX8_isTokenTheWord 46 = .ok (.iadd, 1) := by decide +kernel
theorem dX8_isTokenTheWord_47 : decode cX8_isTokenTheWord 47 = .ok (.caload, 1) := by decide +kernel
theorem dX8_isTokenTheWord_48 : decode cX8_isTokenTheWord 48 = .ok (.goto 5, 3) := by decide +kernel
theorem dX8_isTokenTheWord_51 : decode cX8_isTokenTheWord 51 = .ok (.bipush 32, 2) := by decide +kernel
theorem dX8_isTokenTheWord_53 : decode cX8_isTokenTheWord 53 = .ok (.istore 4, 2) := by decide +kernel
theorem dX8_isTokenTheWord_55 : decode cX8_isTokenTheWord 55 = .ok (.ldc 141, 2) := by decide +kernel
theorem dX8_isTokenTheWord_57 : decode cX8_isTokenTheWord 57 = .ok (.iload_n 2, 1) := by decide +kernel
theorem dX8_isTokenTheWord_58 : decode cX8_isTokenTheWord 58 = .ok (.iload_n 3, 1) := by decide +kernel
theorem dX8_isTokenTheWord_59 : decode cX8_isTokenTheWord 59 = .ok (.iadd, 1) := by decide +kernel
theorem dX8_isTokenTheWord_60 : decode cX8_isTokenTheWord 60 = .ok (.invokevirtual 147, 3) := by decide +kernel
theorem dX8_isTokenTheWord_63 : decode cX8_isTokenTheWord 63 = .ok (.iload 4, 2) := by decide +kernel
theorem dX8_isTokenTheWord_65 : decode cX8_isTokenTheWord 65 = .ok (.if_icmp .eq 5, 3) := by decide +kernel
theorem dX8_isTokenTheWord_68 : decode cX8_isTokenTheWord 68 = .ok (.iconst 0, 1) := by decide +kernel
theorem dX8_isTokenTheWord_69 : decode cX8_isTokenTheWord 69 = .ok (.ireturn, 1) := by decide +kernel
theorem dX8_isTokenTheWord_70 : decode cX8_isTokenTheWord 70 = .ok (.iinc 3 1, 3) := by decide +kernel
theorem dX8_isTokenTheWord_73 : decode cX8_isTokenTheWord 73 = .ok (.goto (-66), 3) := by decide +kernel
theorem dX8_isTokenTheWord_76 : decode cX8_isTokenTheWord 76 = .ok (.iconst 1, 1) := by decide +kernel
theorem dX8_isTokenTheWord_77 : decode cX8_isTokenTheWord 77 = .ok (.ireturn, 1) := by decide +kernel
theorem dX8_intToken_0 : decode cX8_intToken 0 = .ok (.iconst 0, 1) := by decide +kernel
theorem dX8_intToken_1 : decode cX8_intToken 1 = .ok (.istore_n 1, 1) := by decide +kernel
theorem dX8_intToken_2 : decode cX8_intToken 2 = .ok (.aload_n 0, 1) := by decide +kernel
theorem dX8_intToken_3 : decode cX8_intToken 3 = .ok (.getfield 54, 3) := by decide +kernel
theorem dX8_intToken_6 : decode cX8_intToken 6 = .ok (.aload_n 0, 1) := by decide +kernel
theorem dX8_intToken_7 : decode cX8_intToken 7 = .ok (.getfield 30, 3) := by decide +kernel
theorem dX8_intToken_10 : decode cX8_intToken 10 = .ok (.if_icmp .ge 49, 3) := by decide +kernel
theorem dX8_intToken_13 : decode cX8_intToken 13 = .ok (.aload_n 0, 1) := by decide +kernel
theorem dX8_intToken_14 : decode cX8_intToken 14 = .ok (.getfield 22, 3) := by decide +kernel
theorem dX8_intToken_17 : decode cX8_intToken 17 = .ok (.aload_n 0, 1) := by decide +kernel
theorem dX8_intToken_18 : decode cX8_intToken 18 = .ok (.getfield 54, 3) := by decide +kernel
theorem dX8_intToken_21 : decode cX8_intToken 21 = .ok (.caload, 1) := by decide +kernel
theorem dX8_intToken_22 : decode cX8_intToken 22 = .ok (.invokestatic 128, 3) := by decide +kernel
theorem dX8_intToken_25 : decode cX8_intToken 25 = .ok (.ifCond .eq 34, 3) := by decide +kernel
theorem dX8_intToken_28 : decode cX8_intToken 28 = .ok (.iload_n 1, 1) := by decide +kernel
theorem dX8_intToken_29 : decode cX8_intToken 29 = .ok (.bipush 10, 2) := by decide +kernel
theorem dX8_intToken_31 : decode cX8_intToken 31 = .ok (.imul, 1) := by decide +kernel
theorem dX8_intToken_32 : decode cX8_intToken 32 = .ok (.aload_n 0, 1) := by decide +kernel
theorem dX8_intToken_33 : decode cX8_intToken 33 = .ok (.getfield 22, 3) := by decide +kernel
theorem dX8_intToken_36 : decode cX8_intToken 36 = .ok (.aload_n 0, 1) := by decide +kernel
theorem dX8_intToken_37 : decode cX8_intToken 37 = .ok (.getfield 54, 3) := by decide +kernel
theorem dX8_intToken_40 : decode cX8_intToken 40 = .ok (.caload, 1) := by decide +kernel
theorem dX8_intToken_41 : decode cX8_intToken 41 = .ok (.bipush 48, 2) := by decide +kernel
theorem dX8_intToken_43 : decode cX8_intToken 43 = .ok (.isub, 1) := by decide +kernel
theorem dX8_intToken_44 : decode cX8_intToken 44 = .ok (.iadd, 1) := by decide +kernel
theorem dX8_intToken_45 : decode cX8_intToken 45 = .ok (.istore_n 1, 1) := by decide +kernel
theorem dX8_intToken_46 : decode cX8_intToken 46 = .ok (.aload_n 0, 1) := by decide +kernel
theorem dX8_intToken_47 : decode cX8_intToken 47 = .ok (.dup, 1) := by decide +kernel
theorem dX8_intToken_48 : decode cX8_intToken 48 = .ok (.getfield 54, 3) := by decide +kernel
theorem dX8_intToken_51 : decode cX8_intToken 51 = .ok (.iconst 1, 1) := by decide +kernel
theorem dX8_intToken_52 : decode cX8_intToken 52 = .ok (.iadd, 1) := by decide +kernel
theorem dX8_intToken_53 : decode cX8_intToken 53 = .ok (.putfield 54, 3) := by decide +kernel
theorem dX8_intToken_56 : decode cX8_intToken 56 = .ok (.goto (-54), 3) := by decide +kernel
theorem dX8_intToken_59 : decode cX8_intToken 59 = .ok (.aload_n 0, 1) := by decide +kernel
theorem dX8_intToken_60 : decode cX8_intToken 60 = .ok (.getfield 54, 3) := by decide +kernel
theorem dX8_intToken_63 : decode cX8_intToken 63 = .ok (.aload_n 0, 1) := by decide +kernel
theorem dX8_intToken_64 : decode cX8_intToken 64 = .ok (.getfield 48, 3) := by decide +kernel
theorem dX8_intToken_67 : decode cX8_intToken 67 = .ok (.isub, 1) := by decide +kernel
theorem dX8_intToken_68 : decode cX8_intToken 68 = .ok (.iconst 4, 1) := by decide +kernel
theorem dX8_intToken_69 : decode cX8_intToken 69 = .ok (.if_icmp .le 8, 3) := by decide +kernel
theorem dX8_intToken_72 : decode cX8_intToken 72 = .ok (.bipush 26, 2) := by decide +kernel
theorem dX8_intToken_74 : decode cX8_intToken 74 = .ok (.goto 7, 3) := by decide +kernel
theorem dX8_intToken_77 : decode cX8_intToken 77 = .ok (.bipush 32, 2) := by decide +kernel
theorem dX8_intToken_79 : decode cX8_intToken 79 = .ok (.iload_n 1, 1) := by decide +kernel
theorem dX8_intToken_80 : decode cX8_intToken 80 = .ok (.iadd, 1) := by decide +kernel
theorem dX8_intToken_81 : decode cX8_intToken 81 = .ok (.ireturn, 1) := by decide +kernel
theorem dX8_signToken_0 : decode cX8_signToken 0 = .ok (.aload_n 0, 1) := by decide +kernel
theorem dX8_signToken_1 : decode cX8_signToken 1 = .ok (.dup, 1) := by decide +kernel
theorem dX8_signToken_2 : decode cX8_signToken 2 = .ok (.getfield 54, 3) := by decide +kernel
theorem dX8_signToken_5 : decode cX8_signToken 5 = .ok (.iconst 1, 1) := by decide +kernel
theorem dX8_signToken_6 : decode cX8_signToken 6 = .ok (.iadd, 1) := by decide +kernel
theorem dX8_signToken_7 : decode cX8_signToken 7 = .ok (.putfield 54, 3) := by decide +kernel
theorem dX8_signToken_10 : decode cX8_signToken 10 = .ok (.iload_n 1, 1) := by decide +kernel
theorem dX8_signToken_11 : decode cX8_signToken 11 = .ok (.tableswitch 174 33 61 #[156, 174, 174, 174, 174, 174, 174, 141, 144, 138, 132, 174, 135, 174, 174, 174, 174, 174, 174, 174, 174, 174, 174, 174, 174, 174, 129, 165, 147], 129) := by decide +kernel
theorem dX8_signToken_140 : decode cX8_signToken 140 = .ok (.bipush 16, 2) := by decide +kernel
theorem dX8_signToken_142 : decode cX8_signToken 142 = .ok (.ireturn, 1) := by decide +kernel
theorem dX8_signToken_143 : decode cX8_signToken 143 = .ok (.bipush 17, 2) := by decide +kernel
theorem dX8_signToken_145 : decode cX8_signToken 145 = .ok (.ireturn, 1) := by decide +kernel
theorem dX8_signToken_146 : decode cX8_signToken 146 = .ok (.bipush 18, 2) := by decide +kernel
theorem dX8_signToken_148 : decode cX8_signToken 148 = .ok (.ireturn, 1) := by decide +kernel
theorem dX8_signToken_149 : decode cX8_signToken 149 = .ok (.bipush 19, 2) := by decide +kernel
theorem dX8_signToken_151 : decode cX8_signToken 151 = .ok (.ireturn, 1) := by decide +kernel
theorem dX8_signToken_152 : decode cX8_signToken 152 = .ok (.bipush 24, 2) := by decide +kernel
theorem dX8_signToken_154 : decode cX8_signToken 154 = .ok (.ireturn, 1) := by decide +kernel
theorem dX8_signToken_155 : decode cX8_signToken 155 = .ok (.bipush 25, 2) := by decide +kernel
theorem dX8_signToken_157 : decode cX8_signToken 157 = .ok (.ireturn, 1) := by decide +kernel
theorem dX8_signToken_158 : decode cX8_signToken 158 = .ok (.aload_n 0, 1) := by decide +kernel
theorem dX8_signToken_159 : decode cX8_signToken 159 = .ok (.bipush 20, 2) := by decide +kernel
theorem dX8_signToken_161 : decode cX8_signToken 161 = .ok (.bipush 26, 2) := by decide +kernel
theorem dX8_signToken_163 : decode cX8_signToken 163 = .ok (.invokevirtual 151, 3) := by decide +kernel
theorem dX8_signToken_166 : decode cX8_signToken 166 = .ok (.ireturn, 1) := by decide +kernel
theorem dX8_signToken_167 : decode cX8_signToken 167 = .ok (.aload_n 0, 1) := by decide +kernel
theorem dX8_signToken_168 : decode cX8_signToken 168 = .ok (.bipush 21, 2) := by decide +kernel
theorem dX8_signToken_170 : decode cX8_signToken 170 = .ok (.bipush 26, 2) := by decide +kernel
theorem dX8_signToken_172 : decode cX8_signToken 172 = .ok (.invokevirtual 151, 3) := by decide +kernel
theorem dX8_signToken_175 : decode cX8_signToken 175 = .ok (.ireturn, 1) := by decide +kernel
theorem dX8_signToken_176 : decode cX8_signToken 176 = .ok (.aload_n 0, 1) := by decide +kernel
theorem dX8_signToken_177 : decode cX8_signToken 177 = .ok (.bipush 23, 2) := by decide +kernel
theorem dX8_signToken_179 : decode cX8_signToken 179 = .ok (.bipush 22, 2) := by decide +kernel
theorem dX8_signToken_181 : decode cX8_signToken 181 = .ok (.invokevirtual 151, 3) := by decide +kernel
theorem dX8_signToken_184 : decode cX8_signToken 184 = .ok (.ireturn, 1) := by decide +kernel
theorem dX8_signToken_185 : decode cX8_signToken 185 = .ok (.bipush 26, 2) := by decide +kernel
theorem dX8_signToken_187 : decode cX8_signToken 187 = .ok (.ireturn, 1) := by decide +kernel
theorem dX8_withEqualSign_0 : decode cX8_withEqualSign 0 = .ok (.aload_n 0, 1) := by decide +kernel
theorem dX8_withEqualSign_1 : decode cX8_withEqualSign 1 = .ok (.getfield 54, 3) := by decide +kernel
theorem dX8_withEqualSign_4 : decode cX8_withEqualSign 4 = .ok (.aload_n 0, 1) := by decide +kernel
theorem dX8_withEqualSign_5 : decode cX8_withEqualSign 5 = .ok (.getfield 30, 3) := by decide +kernel
theorem dX8_withEqualSign_8 : decode cX8_withEqualSign 8 = .ok (.if_icmp .ge 29, 3) := by decide +kernel
theorem dX8_withEqualSign_11 : decode cX8_withEqualSign 11 = .ok (.aload_n 0, 1) := by decide +kernel
theorem dX8_withEqualSign_12 : decode cX8_withEqualSign 12 = .ok (.getfield 22, 3) := by decide +kernel
theorem dX8_withEqualSign_15 : decode cX8_withEqualSign 15 = .ok (.aload_n 0, 1) := by decide +kernel
theorem dX8_withEqualSign_16 : decode cX8_withEqualSign 16 = .ok (.getfield 54, 3) := by decide +kernel
theorem dX8_withEqualSign_19 : decode cX8_withEqualSign 19 = .ok (.caload, 1) := by decide +kernel
theorem dX8_withEqualSign_20 : decode cX8_withEqualSign 20 = .ok (.bipush 61, 2) := by decide +kernel
theorem dX8_withEqualSign_22 : decode cX8_withEqualSign 22 = .ok (.if_icmp .ne 15, 3) := by decide +kernel
theorem dX8_withEqualSign_25 : decode cX8_withEqualSign 25 = .ok (.aload_n 0, 1) := by decide +kernel
theorem dX8_withEqualSign_26 : decode cX8_withEqualSign 26 = .ok (.dup, 1) := by decide +kernel
theorem dX8_withEqualSign_27 : decode cX8_withEqualSign 27 = .ok (.getfield 54, 3) := by decide +kernel
theorem dX8_withEqualSign_30 : decode cX8_withEqualSign 30 = .ok (.iconst 1, 1) := by decide +kernel
theorem dX8_withEqualSign_31 : decode cX8_withEqualSign 31 = .ok (.iadd, 1) := by decide +kernel
theorem dX8_withEqualSign_32 : decode cX8_withEqualSign 32 = .ok (.putfield 54, 3) := by decide +kernel
theorem dX8_withEqualSign_35 : decode cX8_withEqualSign 35 = .ok (.iload_n 1, 1) := by decide +kernel
theorem dX8_withEqualSign_36 : decode cX8_withEqualSign 36 = .ok (.ireturn, 1) := by decide +kernel
theorem dX8_withEqualSign_37 : decode cX8_withEqualSign 37 = .ok (.iload_n 2, 1) := by decide +kernel
theorem dX8_withEqualSign_38 : decode cX8_withEqualSign 38 = .ok (.ireturn, 1) := by decide +kernel
theorem dX8_isBlank_0 : decode cX8_isBlank 0 = .ok (.iload_n 0, 1) := by decide +kernel
theorem dX8_isBlank_1 : decode cX8_isBlank 1 = .ok (.bipush 9, 2) := by decide +kernel
theorem dX8_isBlank_3 : decode cX8_isBlank 3 = .ok (.if_icmp .eq 21, 3) := by decide +kernel
theorem dX8_isBlank_6 : decode cX8_isBlank 6 = .ok (.iload_n 0, 1) := by decide +kernel
theorem dX8_isBlank_7 : decode cX8_isBlank 7 = .ok (.bipush 10, 2) := by decide +kernel
theorem dX8_isBlank_9 : decode cX8_isBlank 9 = .ok (.if_icmp .eq 15, 3) := by decide +kernel
theorem dX8_isBlank_12 : decode cX8_isBlank 12 = .ok (.iload_n 0, 1) := by decide +kernel
theorem dX8_isBlank_13 : decode cX8_isBlank 13 = .ok (.bipush 13, 2) := by decide +kernel
theorem dX8_isBlank_15 : decode cX8_isBlank 15 = .ok (.if_icmp .eq 9, 3) := by decide +kernel
theorem dX8_isBlank_18 : decode cX8_isBlank 18 = .ok (.iload_n 0, 1) := by decide +kernel
theorem dX8_isBlank_19 : decode cX8_isBlank 19 = .ok (.bipush 32, 2) := by decide +kernel
theorem dX8_isBlank_21 : decode cX8_isBlank 21 = .ok (.if_icmp .ne 7, 3) := by decide +kernel
theorem dX8_isBlank_24 : decode cX8_isBlank 24 = .ok (.iconst 1, 1) := by decide +kernel
theorem dX8_isBlank_25 : decode cX8_isBlank 25 = .ok (.goto 4, 3) := by decide +kernel
theorem dX8_isBlank_28 : decode cX8_isBlank 28 = .ok (.iconst 0, 1) := by decide +kernel
theorem dX8_isBlank_29 : decode cX8_isBlank 29 = .ok (.ireturn, 1) := by decide +kernel
theorem dX8_isLetter_0 : decode cX8_isLetter 0 = .ok (.iload_n 0, 1) := by decide +kernel
theorem dX8_isLetter_1 : decode cX8_isLetter 1 = .ok (.bipush 97, 2) := by decide +kernel
theorem dX8_isLetter_3 : decode cX8_isLetter 3 = .ok (.if_icmp .lt 13, 3) := by decide +kernel
theorem dX8_isLetter_6 : decode cX8_isLetter 6 = .ok (.iload_n 0, 1) := by decide +kernel
theorem dX8_isLetter_7 : decode cX8_isLetter 7 = .ok (.bipush 122, 2) := by decide +kernel
theorem dX8_isLetter_9 : decode cX8_isLetter 9 = .ok (.if_icmp .gt 7, 3) := by decide +kernel
theorem dX8_isLetter_12 : decode cX8_isLetter 12 = .ok (.iconst 1, 1) := by decide +kernel
theorem dX8_isLetter_13 : decode cX8_isLetter 13 = .ok (.goto 4, 3) := by decide +kernel
theorem dX8_isLetter_16 : decode cX8_isLetter 16 = .ok (.iconst 0, 1) := by decide +kernel
theorem dX8_isLetter_17 : decode cX8_isLetter 17 = .ok (.ireturn, 1) := by decide +kernel
theorem dX8_isDigit_0 : decode cX8_isDigit 0 = .ok (.iload_n 0, 1) := by decide +kernel
theorem dX8_isDigit_1 : decode cX8_isDigit 1 = .ok (.bipush 48, 2) := by decide +kernel
theorem dX8_isDigit_3 : decode cX8_isDigit 3 = .ok (.if_icmp .lt 13, 3) := by decide +kernel
theorem dX8_isDigit_6 : decode cX8_isDigit 6 = .ok (.iload_n 0, 1) := by decide +kernel
theorem dX8_isDigit_7 : decode cX8_isDigit 7 = .ok (.bipush 57, 2) := by decide +kernel
theorem dX8_isDigit_9 : decode cX8_isDigit 9 = .ok (.if_icmp .gt 7, 3) := by decide +kernel
theorem dX8_isDigit_12 : decode cX8_isDigit 12 = .ok (.iconst 1, 1) := by decide +kernel
theorem dX8_isDigit_13 : decode cX8_isDigit 13 = .ok (.goto 4, 3) := by decide +kernel
theorem dX8_isDigit_16 : decode cX8_isDigit 16 = .ok (.iconst 0, 1) := by decide +kernel
theorem dX8_isDigit_17 : decode cX8_isDigit 17 = .ok (.ireturn, 1) := by decide +kernel
theorem dX9_init_0 : decode cX9_init 0 = .ok (.aload_n 0, 1) := by decide +kernel
theorem dX9_init_1 : decode cX9_init 1 = .ok (.invokespecial 3, 3) := by decide +kernel
theorem dX9_init_4 : decode cX9_init 4 = .ok (.aload_n 0, 1) := by decide +kernel
theorem dX9_init_5 : decode cX9_init 5 = .ok (.bipush 24, 2) := by decide +kernel
theorem dX9_init_7 : decode cX9_init 7 = .ok (.anewarray 9, 3) := by decide +kernel
theorem dX9_init_10 : decode cX9_init 10 = .ok (.putfield 11, 3) := by decide +kernel
theorem dX9_init_13 : decode cX9_init 13 = .ok (.aload_n 0, 1) := by decide +kernel
theorem dX9_init_14 : decode cX9_init 14 = .ok (.bipush 6, 2) := by decide +kernel
theorem dX9_init_16 : decode cX9_init 16 = .ok (.anewarray 17, 3) := by decide +kernel
theorem dX9_init_19 : decode cX9_init 19 = .ok (.putfield 19, 3) := by decide +kernel
theorem dX9_init_22 : decode cX9_init 22 = .ok (.aload_n 0, 1) := by decide +kernel
theorem dX9_init_23 : decode cX9_init 23 = .ok (.iconst 3, 1) := by decide +kernel
theorem dX9_init_24 : decode cX9_init 24 = .ok (.anewarray 23, 3) := by decide +kernel
theorem dX9_init_27 : decode cX9_init 27 = .ok (.putfield 25, 3) := by decide +kernel
theorem dX9_init_30 : decode cX9_init 30 = .ok (.aload_n 0, 1) := by decide +kernel
theorem dX9_init_31 : decode cX9_init 31 = .ok (.aload_n 1, 1) := by decide +kernel
theorem dX9_init_32 : decode cX9_init 32 = .ok (.putfield 29, 3) := by decide +kernel
theorem dX9_init_35 : decode cX9_init 35 = .ok (.iconst 0, 1) := by decide +kernel
theorem dX9_init_36 : decode cX9_init 36 = .ok (.istore_n 2, 1) := by decide +kernel
theorem dX9_init_37 : decode cX9_init 37 = .ok (.iload_n 2, 1) := by decide +kernel
theorem dX9_init_38 : decode cX9_init 38 = .ok (.bipush 24, 2) := by decide +kernel
theorem dX9_init_40 : decode cX9_init 40 = .ok (.if_icmp .ge 22, 3) := by decide +kernel
theorem dX9_init_43 : decode cX9_init 43 = .ok (.aload_n 0, 1) := by decide +kernel
theorem dX9_init_44 : decode cX9_init 44 = .ok (.getfield 11, 3) := by decide +kernel
theorem dX9_init_47 : decode cX9_init 47 = .ok (.iload_n 2, 1) := by decide +kernel
theorem dX9_init_48 : decode cX9_init 48 = .ok (.new 9, 3) := by decide +kernel
theorem dX9_init_51 : decode cX9_init 51 = .ok (.dup, 1) := by decide +kernel
theorem dX9_init_52 : decode cX9_init 52 = .ok (.invokespecial 33, 3) := by decide +kernel
theorem dX9_init_55 : decode cX9_init 55 = .ok (.aastore, 1) := by decide +kernel
theorem dX9_init_56 : decode cX9_init 56 = .ok (.iinc 2 1, 3) := by decide +kernel
theorem dX9_init_59 : decode cX9_init 59 = .ok (.goto (-22), 3) := by decide +kernel
theorem dX9_init_62 : decode cX9_init 62 = .ok (.iconst 0, 1) := by decide +kernel
theorem dX9_init_63 : decode cX9_init 63 = .ok (.istore_n 2, 1) := by decide +kernel
theorem dX9_init_64 : decode cX9_init 64 = .ok (.iload_n 2, 1) := by decide +kernel
theorem dX9_init_65 : decode cX9_init 65 = .ok (.bipush 6, 2) := by decide +kernel
theorem dX9_init_67 : decode cX9_init 67 = .ok (.if_icmp .ge 22, 3) := by decide +kernel
theorem dX9_init_70 : decode cX9_init 70 = .ok (.aload_n 0, 1) := by decide +kernel
theorem dX9_init_71 : decode cX9_init 71 = .ok (.getfield 19, 3) := by decide +kernel
theorem dX9_init_74 : decode cX9_init 74 = .ok (.iload_n 2, 1) := by decide +kernel
theorem dX9_init_75 : decode cX9_init 75 = .ok (.new 17, 3) := by decide +kernel
theorem dX9_init_78 : decode cX9_init 78 = .ok (.dup, 1) := by decide +kernel
theorem dX9_init_79 : decode cX9_init 79 = .ok (.invokespecial 34, 3) := by decide +kernel
theorem dX9_init_82 : decode cX9_init 82 = .ok (.aastore, 1) := by decide +kernel
theorem dX9_init_83 : decode cX9_init 83 = .ok (.iinc 2 1, 3) := by decide +kernel
theorem dX9_init_86 : decode cX9_init 86 = .ok (.goto (-22), 3) := by decide +kernel
theorem dX9_init_89 : decode cX9_init 89 = .ok (.iconst 0, 1) := by decide +kernel
theorem dX9_init_90 : decode cX9_init 90 = .ok (.istore_n 2, 1) := by decide +kernel
theorem dX9_init_91 : decode cX9_init 91 = .ok (.iload_n 2, 1) := by decide +kernel
theorem dX9_init_92 : decode cX9_init 92 = .ok (.iconst 3, 1) := by decide +kernel
theorem dX9_init_93 : decode cX9_init 93 = .ok (.if_icmp .ge 22, 3) := by decide +kernel
theorem dX9_init_96 : decode cX9_init 96 = .ok (.aload_n 0, 1) := by decide +kernel
theorem dX9_init_97 : decode cX9_init 97 = .ok (.getfield 25, 3) := by decide +kernel
theorem dX9_init_100 : decode cX9_init 100 = .ok (.iload_n 2, 1) := by decide +kernel
theorem dX9_init_101 : decode cX9_init 101 = .ok (.new 23, 3) := by decide +kernel
theorem dX9_init_104 : decode cX9_init 104 = .ok (.dup, 1) := by decide +kernel
theorem dX9_init_105 : decode cX9_init 105 = .ok (.invokespecial 35, 3) := by decide +kernel
theorem dX9_init_108 : decode cX9_init 108 = .ok (.aastore, 1) := by decide +kernel
theorem dX9_init_109 : decode cX9_init 109 = .ok (.iinc 2 1, 3) := by decide +kernel
theorem dX9_init_112 : decode cX9_init 112 = .ok (.goto (-21), 3) := by decide +kernel
theorem dX9_init_115 : decode cX9_init 115 = .ok (.return_, 1) := by decide +kernel
theorem dX9_openPurses_0 : decode cX9_openPurses 0 = .ok (.iconst 0, 1) := by decide +kernel
theorem dX9_openPurses_1 : decode cX9_openPurses 1 = .ok (.istore_n 1, 1) := by decide +kernel
theorem dX9_openPurses_2 : decode cX9_openPurses 2 = .ok (.iload_n 1, 1) := by decide +kernel
theorem dX9_openPurses_3 : decode cX9_openPurses 3 = .ok (.aload_n 0, 1) := by decide +kernel
theorem dX9_openPurses_4 : decode cX9_openPurses 4 = .ok (.getfield 29, 3) := by decide +kernel
theorem dX9_openPurses_7 : decode cX9_openPurses 7 = .ok (.getfield 36, 3) := by decide +kernel
theorem dX9_openPurses_10 : decode cX9_openPurses 10 = .ok (.if_icmp .ge 30, 3) := by decide +kernel
theorem dX9_openPurses_13 : decode cX9_openPurses 13 = .ok (.aload_n 0, 1) := by decide +kernel
theorem dX9_openPurses_14 : decode cX9_openPurses 14 = .ok (.getfield 19, 3) := by decide +kernel
theorem dX9_openPurses_17 : decode cX9_openPurses 17 = .ok (.iload_n 1, 1) := by decide +kernel
theorem dX9_openPurses_18 : decode cX9_openPurses 18 = .ok (.aaload, 1) := by decide +kernel
theorem dX9_openPurses_19 : decode cX9_openPurses 19 = .ok (.aload_n 0, 1) := by decide +kernel
theorem dX9_openPurses_20 : decode cX9_openPurses 20 = .ok (.getfield 29, 3) := by decide +kernel
theorem dX9_openPurses_23 : decode cX9_openPurses 23 = .ok (.getfield 42, 3) := by decide +kernel
theorem dX9_openPurses_26 : decode cX9_openPurses 26 = .ok (.iload_n 1, 1) := by decide +kernel
theorem dX9_openPurses_27 : decode cX9_openPurses 27 = .ok (.aaload, 1) := by decide +kernel
theorem dX9_openPurses_28 : decode cX9_openPurses 28 = .ok (.getfield 46, 3) := by decide +kernel
theorem dX9_openPurses_31 : decode cX9_openPurses 31 = .ok (.invokevirtual 51, 3) := by decide +kernel
theorem dX9_openPurses_34 : decode cX9_openPurses 34 = .ok (.iinc 1 1, 3) := by decide +kernel
theorem dX9_openPurses_37 : decode cX9_openPurses 37 = .ok (.goto (-35), 3) := by decide +kernel
theorem dX9_openPurses_40 : decode cX9_openPurses 40 = .ok (.return_, 1) := by decide +kernel
theorem dX9_hold_0 : decode cX9_hold 0 = .ok (.aload_n 0, 1) := by decide +kernel
theorem dX9_hold_1 : decode cX9_hold 1 = .ok (.iload_n 1, 1) := by decide +kernel
theorem dX9_hold_2 : decode cX9_hold 2 = .ok (.invokevirtual 55, 3) := by decide +kernel
theorem dX9_hold_5 : decode cX9_hold 5 = .ok (.iconst 0, 1) := by decide +kernel
theorem dX9_hold_6 : decode cX9_hold 6 = .ok (.istore_n 2, 1) := by decide +kernel
theorem dX9_hold_7 : decode cX9_hold 7 = .ok (.iload_n 2, 1) := by decide +kernel
theorem dX9_hold_8 : decode cX9_hold 8 = .ok (.aload_n 0, 1) := by decide +kernel
theorem dX9_hold_9 : decode cX9_hold 9 = .ok (.getfield 29, 3) := by decide +kernel
theorem dX9_hold_12 : decode cX9_hold 12 = .ok (.getfield 58, 3) := by decide +kernel
theorem dX9_hold_15 : decode cX9_hold 15 = .ok (.if_icmp .ge 53, 3) := by decide +kernel
theorem dX9_hold_18 : decode cX9_hold 18 = .ok (.aload_n 0, 1) := by decide +kernel
theorem dX9_hold_19 : decode cX9_hold 19 = .ok (.getfield 61, 3) := by decide +kernel
theorem dX9_hold_22 : decode cX9_hold 22 = .ok (.aload_n 0, 1) := by decide +kernel
theorem dX9_hold_23 : decode cX9_hold 23 = .ok (.getfield 29, 3) := by decide +kernel
theorem dX9_hold_26 : decode cX9_hold 26 = .ok (.getfield 58, 3) := by decide +kernel
theorem dX9_hold_29 : decode cX9_hold 29 = .ok (.if_icmp .ge 39, 3) := by decide +kernel
theorem dX9_hold_32 : decode cX9_hold 32 = .ok (.aload_n 0, 1) := by decide +kernel
theorem dX9_hold_33 : decode cX9_hold 33 = .ok (.invokevirtual 64, 3) := by decide +kernel
theorem dX9_hold_36 : decode cX9_hold 36 = .ok (.aload_n 0, 1) := by decide +kernel
theorem dX9_hold_37 : decode cX9_hold 37 = .ok (.invokevirtual 67, 3) := by decide +kernel
theorem dX9_hold_40 : decode cX9_hold 40 = .ok (.aload_n 0, 1) := by decide +kernel
theorem dX9_hold_41 : decode cX9_hold 41 = .ok (.invokevirtual 70, 3) := by decide +kernel
theorem dX9_hold_44 : decode cX9_hold 44 = .ok (.aload_n 0, 1) := by decide +kernel
theorem dX9_hold_45 : decode cX9_hold 45 = .ok (.invokevirtual 73, 3) := by decide +kernel
theorem dX9_hold_48 : decode cX9_hold 48 = .ok (.aload_n 0, 1) := by decide +kernel
theorem dX9_hold_49 : decode cX9_hold 49 = .ok (.invokevirtual 76, 3) := by decide +kernel
theorem dX9_hold_52 : decode cX9_hold 52 = .ok (.aload_n 0, 1) := by decide +kernel
theorem dX9_hold_53 : decode cX9_hold 53 = .ok (.dup, 1) := by decide +kernel
theorem dX9_hold_54 : decode cX9_hold 54 = .ok (.getfield 79, 3) := by decide +kernel
theorem dX9_hold_57 : decode cX9_hold 57 = .ok (.iconst 1, 1) := by decide +kernel
theorem dX9_hold_58 : decode cX9_hold 58 = .ok (.iadd, 1) := by decide +kernel
theorem dX9_hold_59 : decode cX9_hold 59 = .ok (.putfield 79, 3) := by decide +kernel
theorem dX9_hold_62 : decode cX9_hold 62 = .ok (.iinc 2 1, 3) := by decide +kernel
theorem dX9_hold_65 : decode cX9_hold 65 = .ok (.goto (-58), 3) := by decide +kernel
theorem dX9_hold_68 : decode cX9_hold 68 = .ok (.return_, 1) := by decide +kernel
theorem dX9_begin_0 : decode cX9_begin 0 = .ok (.aload_n 0, 1) := by decide +kernel
theorem dX9_begin_1 : decode cX9_begin 1 = .ok (.iload_n 1, 1) := by decide +kernel
theorem dX9_begin_2 : decode cX9_begin 2 = .ok (.putfield 82, 3) := by decide +kernel
theorem dX9_begin_5 : decode cX9_begin 5 = .ok (.aload_n 0, 1) := by decide +kernel
theorem dX9_begin_6 : decode cX9_begin 6 = .ok (.iconst (-1), 1) := by decide +kernel
theorem dX9_begin_7 : decode cX9_begin 7 = .ok (.putfield 85, 3) := by decide +kernel
theorem dX9_begin_10 : decode cX9_begin 10 = .ok (.aload_n 0, 1) := by decide +kernel
theorem dX9_begin_11 : decode cX9_begin 11 = .ok (.iconst 0, 1) := by decide +kernel
theorem dX9_begin_12 : decode cX9_begin 12 = .ok (.putfield 79, 3) := by decide +kernel
theorem dX9_begin_15 : decode cX9_begin 15 = .ok (.aload_n 0, 1) := by decide +kernel
theorem dX9_begin_16 : decode cX9_begin 16 = .ok (.iconst 0, 1) := by decide +kernel
theorem dX9_begin_17 : decode cX9_begin 17 = .ok (.putfield 88, 3) := by decide +kernel
theorem dX9_begin_20 : decode cX9_begin 20 = .ok (.aload_n 0, 1) := by decide +kernel
theorem dX9_begin_21 : decode cX9_begin 21 = .ok (.iconst 0, 1) := by decide +kernel
theorem dX9_begin_22 : decode cX9_begin 22 = .ok (.putfield 61, 3) := by decide +kernel
theorem dX9_begin_25 : decode cX9_begin 25 = .ok (.aload_n 0, 1) := by decide +kernel
theorem dX9_begin_26 : decode cX9_begin 26 = .ok (.invokevirtual 91, 3) := by decide +kernel
theorem dX9_begin_29 : decode cX9_begin 29 = .ok (.iconst 0, 1) := by decide +kernel
theorem dX9_begin_30 : decode cX9_begin 30 = .ok (.istore_n 2, 1) := by decide +kernel
theorem dX9_begin_31 : decode cX9_begin 31 = .ok (.iload_n 2, 1) := by decide +kernel
theorem dX9_begin_32 : decode cX9_begin 32 = .ok (.iconst 3, 1) := by decide +kernel
theorem dX9_begin_33 : decode cX9_begin 33 = .ok (.if_icmp .ge 19, 3) := by decide +kernel
theorem dX9_begin_36 : decode cX9_begin 36 = .ok (.aload_n 0, 1) := by decide +kernel
theorem dX9_begin_37 : decode cX9_begin 37 = .ok (.getfield 25, 3) := by decide +kernel
theorem dX9_begin_40 : decode cX9_begin 40 = .ok (.iload_n 2, 1) := by decide +kernel
theorem dX9_begin_41 : decode cX9_begin 41 = .ok (.aaload, 1) := by decide +kernel
theorem dX9_begin_42 : decode cX9_begin 42 = .ok (.iconst (-1), 1) := by decide +kernel
theorem dX9_begin_43 : decode cX9_begin 43 = .ok (.putfield 94, 3) := by decide +kernel
theorem dX9_begin_46 : decode cX9_begin 46 = .ok (.iinc 2 1, 3) := by decide +kernel
theorem dX9_begin_49 : decode cX9_begin 49 = .ok (.goto (-18), 3) := by decide +kernel
theorem dX9_begin_52 : decode cX9_begin 52 = .ok (.iconst 0, 1) := by decide +kernel
theorem dX9_begin_53 : decode cX9_begin 53 = .ok (.istore_n 2, 1) := by decide +kernel
theorem dX9_begin_54 : decode cX9_begin 54 = .ok (.iload_n 2, 1) := by decide +kernel
theorem dX9_begin_55 : decode cX9_begin 55 = .ok (.aload_n 0, 1) := by decide +kernel
theorem dX9_begin_56 : decode cX9_begin 56 = .ok (.getfield 29, 3) := by decide +kernel
theorem dX9_begin_59 : decode cX9_begin 59 = .ok (.getfield 58, 3) := by decide +kernel
theorem dX9_begin_62 : decode cX9_begin 62 = .ok (.if_icmp .ge 54, 3) := by decide +kernel
theorem dX9_begin_65 : decode cX9_begin 65 = .ok (.aload_n 0, 1) := by decide +kernel
theorem dX9_begin_66 : decode cX9_begin 66 = .ok (.getfield 11, 3) := by decide +kernel
theorem dX9_begin_69 : decode cX9_begin 69 = .ok (.iload_n 2, 1) := by decide +kernel
theorem dX9_begin_70 : decode cX9_begin 70 = .ok (.aaload, 1) := by decide +kernel
theorem dX9_begin_71 : decode cX9_begin 71 = .ok (.astore_n 3, 1) := by decide +kernel
theorem dX9_begin_72 : decode cX9_begin 72 = .ok (.aload_n 3, 1) := by decide +kernel
theorem dX9_begin_73 : decode cX9_begin 73 = .ok (.iconst (-1), 1) := by decide +kernel
theorem dX9_begin_74 : decode cX9_begin 74 = .ok (.putfield 97, 3) := by decide +kernel
theorem dX9_begin_77 : decode cX9_begin 77 = .ok (.aload_n 3, 1) := by decide +kernel
theorem dX9_begin_78 : decode cX9_begin 78 = .ok (.iconst (-1), 1) := by decide +kernel
theorem dX9_begin_79 : decode cX9_begin 79 = .ok (.putfield 100, 3) := by decide +kernel
theorem dX9_begin_82 : decode cX9_begin 82 = .ok (.aload_n 3, 1) := by decide +kernel
theorem dX9_begin_83 : decode cX9_begin 83 = .ok (.aload_n 0, 1) := by decide +kernel
theorem dX9_begin_84 : decode cX9_begin 84 = .ok (.getfield 29, 3) := by decide +kernel
theorem dX9_begin_87 : decode cX9_begin 87 = .ok (.iload_n 2, 1) := by decide +kernel
theorem dX9_begin_88 : decode cX9_begin 88 = .ok (.invokevirtual 103, 3) := by decide +kernel
theorem dX9_begin_91 : decode cX9_begin 91 = .ok (.putfield 107, 3) := by decide +kernel
theorem dX9_begin_94 : decode cX9_begin 94 = .ok (.aload_n 3, 1) := by decide +kernel
theorem dX9_begin_95 : decode cX9_begin 95 = .ok (.aload_n 0, 1) := by decide +kernel
theorem dX9_begin_96 : decode cX9_begin 96 = .ok (.getfield 29, 3) := by decide +kernel
theorem dX9_begin_99 : decode cX9_begin 99 = .ok (.iload_n 2, 1) := by decide +kernel
theorem dX9_begin_100 : decode cX9_begin 100 = .ok (.aload_n 3, 1) := by decide +kernel
theorem dX9_begin_101 : decode cX9_begin 101 = .ok (.getfield 107, 3) := by decide +kernel
theorem dX9_begin_104 : decode cX9_begin 104 = .ok (.invokevirtual 110, 3) := by decide +kernel
theorem dX9_begin_107 : decode cX9_begin 107 = .ok (.putfield 114, 3) := by decide +kernel
theorem dX9_begin_110 : decode cX9_begin 110 = .ok (.iinc 2 1, 3) := by decide +kernel
theorem dX9_begin_113 : decode cX9_begin 113 = .ok (.goto (-59), 3) := by decide +kernel
theorem dX9_begin_116 : decode cX9_begin 116 = .ok (.return_, 1) := by decide +kernel
theorem dX9_fillClocks_0 : decode cX9_fillClocks 0 = .ok (.iconst 0, 1) := by decide +kernel
theorem dX9_fillClocks_1 : decode cX9_fillClocks 1 = .ok (.istore_n 1, 1) := by decide +kernel
theorem dX9_fillClocks_2 : decode cX9_fillClocks 2 = .ok (.iload_n 1, 1) := by decide +kernel
theorem dX9_fillClocks_3 : decode cX9_fillClocks 3 = .ok (.iconst 3, 1) := by decide +kernel
theorem dX9_fillClocks_4 : decode cX9_fillClocks 4 = .ok (.if_icmp .ge 95, 3) := by decide +kernel
theorem dX9_fillClocks_7 : decode cX9_fillClocks 7 = .ok (.aload_n 0, 1) := by decide +kernel
theorem dX9_fillClocks_8 : decode cX9_fillClocks 8 = .ok (.getfield 88, 3) := by decide +kernel
theorem dX9_fillClocks_11 : decode cX9_fillClocks 11 = .ok (.aload_n 0, 1) := by decide +kernel
theorem dX9_fillClocks_12 : decode cX9_fillClocks 12 = .ok (.getfield 29, 3) := by decide +kernel
theorem dX9_fillClocks_15 : decode cX9_fillClocks 15 = .ok (.getfield 58, 3) := by decide +kernel
theorem dX9_fillClocks_18 : decode cX9_fillClocks 18 = .ok (.if_icmp .ge 81, 3) := by decide +kernel
theorem dX9_fillClocks_21 : decode cX9_fillClocks 21 = .ok (.aload_n 0, 1) := by decide +kernel
theorem dX9_fillClocks_22 : decode cX9_fillClocks 22 = .ok (.getfield 25, 3) := by decide +kernel
theorem dX9_fillClocks_25 : decode cX9_fillClocks 25 = .ok (.iload_n 1, 1) := by decide +kernel
theorem dX9_fillClocks_26 : decode cX9_fillClocks 26 = .ok (.aaload, 1) := by decide +kernel
theorem dX9_fillClocks_27 : decode cX9_fillClocks 27 = .ok (.astore_n 2, 1) := by decide +kernel
theorem dX9_fillClocks_28 : decode cX9_fillClocks 28 = .ok (.aload_n 2, 1) := by decide +kernel
theorem dX9_fillClocks_29 : decode cX9_fillClocks 29 = .ok (.invokevirtual 117, 3) := by decide +kernel
theorem dX9_fillClocks_32 : decode cX9_fillClocks 32 = .ok (.ifCond .eq 61, 3) := by decide +kernel
theorem dX9_fillClocks_35 : decode cX9_fillClocks 35 = .ok (.aload_n 2, 1) := by decide +kernel
theorem dX9_fillClocks_36 : decode cX9_fillClocks 36 = .ok (.aload_n 0, 1) := by decide +kernel
theorem dX9_fillClocks_37 : decode cX9_fillClocks 37 = .ok (.getfield 88, 3) := by decide +kernel
theorem dX9_fillClocks_40 : decode cX9_fillClocks 40 = .ok (.putfield 94, 3) := by decide +kernel
theorem dX9_fillClocks_43 : decode cX9_fillClocks 43 = .ok (.aload_n 2, 1) := by decide +kernel
theorem dX9_fillClocks_44 : decode cX9_fillClocks 44 = .ok (.aload_n 0, 1) := by decide +kernel
theorem dX9_fillClocks_45 : decode cX9_fillClocks 45 = .ok (.getfield 11, 3) := by decide +kernel
theorem dX9_fillClocks_48 : decode cX9_fillClocks 48 = .ok (.aload_n 0, 1) := by decide +kernel
theorem dX9_fillClocks_49 : decode cX9_fillClocks 49 = .ok (.getfield 88, 3) := by decide +kernel
theorem dX9_fillClocks_52 : decode cX9_fillClocks 52 = .ok (.aaload, 1) := by decide +kernel
theorem dX9_fillClocks_53 : decode cX9_fillClocks 53 = .ok (.getfield 107, 3) := by decide +kernel
