theorem d_C_init_0 : decode b_C_init 0 = .ok (.aload_n 0, 1) := by decide +kernel
theorem d_C_init_1 : decode b_C_init 1 = .ok (.invokespecial 1, 3) := by decide +kernel
theorem d_C_init_4 : decode b_C_init 4 = .ok (.aload_n 0, 1) := by decide +kernel
theorem d_C_init_5 : decode b_C_init 5 = .ok (.iload_n 1, 1) := by decide +kernel
theorem d_C_init_6 : decode b_C_init 6 = .ok (.putfield 7, 3) := by decide +kernel
theorem d_C_init_9 : decode b_C_init 9 = .ok (.aload_n 0, 1) := by decide +kernel
theorem d_C_init_10 : decode b_C_init 10 = .ok (.iload_n 1, 1) := by decide +kernel
theorem d_C_init_11 : decode b_C_init 11 = .ok (.newarray .int, 2) := by decide +kernel
theorem d_C_init_13 : decode b_C_init 13 = .ok (.putfield 13, 3) := by decide +kernel
theorem d_C_init_16 : decode b_C_init 16 = .ok (.aload_n 0, 1) := by decide +kernel
theorem d_C_init_17 : decode b_C_init 17 = .ok (.iload_n 1, 1) := by decide +kernel
theorem d_C_init_18 : decode b_C_init 18 = .ok (.newarray .int, 2) := by decide +kernel
theorem d_C_init_20 : decode b_C_init 20 = .ok (.putfield 17, 3) := by decide +kernel
theorem d_C_init_23 : decode b_C_init 23 = .ok (.return_, 1) := by decide +kernel
theorem d_C_shareAt_0 : decode b_C_shareAt 0 = .ok (.iconst 0, 1) := by decide +kernel
theorem d_C_shareAt_1 : decode b_C_shareAt 1 = .ok (.istore_n 2, 1) := by decide +kernel
theorem d_C_shareAt_2 : decode b_C_shareAt 2 = .ok (.aload_n 0, 1) := by decide +kernel
theorem d_C_shareAt_3 : decode b_C_shareAt 3 = .ok (.getfield 7, 3) := by decide +kernel
theorem d_C_shareAt_6 : decode b_C_shareAt 6 = .ok (.iconst 1, 1) := by decide +kernel
theorem d_C_shareAt_7 : decode b_C_shareAt 7 = .ok (.isub, 1) := by decide +kernel
theorem d_C_shareAt_8 : decode b_C_shareAt 8 = .ok (.istore_n 3, 1) := by decide +kernel
theorem d_C_shareAt_9 : decode b_C_shareAt 9 = .ok (.iload_n 3, 1) := by decide +kernel
theorem d_C_shareAt_10 : decode b_C_shareAt 10 = .ok (.ifCond .lt 25, 3) := by decide +kernel
theorem d_C_shareAt_13 : decode b_C_shareAt 13 = .ok (.iload_n 2, 1) := by decide +kernel
theorem d_C_shareAt_14 : decode b_C_shareAt 14 = .ok (.iload_n 1, 1) := by decide +kernel
theorem d_C_shareAt_15 : decode b_C_shareAt 15 = .ok (.invokestatic 20, 3) := by decide +kernel
theorem d_C_shareAt_18 : decode b_C_shareAt 18 = .ok (.invokestatic 26, 3) := by decide +kernel
theorem d_C_shareAt_21 : decode b_C_shareAt 21 = .ok (.aload_n 0, 1) := by decide +kernel
theorem d_C_shareAt_22 : decode b_C_shareAt 22 = .ok (.getfield 13, 3) := by decide +kernel
theorem d_C_shareAt_25 : decode b_C_shareAt 25 = .ok (.iload_n 3, 1) := by decide +kernel
theorem d_C_shareAt_26 : decode b_C_shareAt 26 = .ok (.iaload, 1) := by decide +kernel
theorem d_C_shareAt_27 : decode b_C_shareAt 27 = .ok (.ixor, 1) := by decide +kernel
theorem d_C_shareAt_28 : decode b_C_shareAt 28 = .ok (.istore_n 2, 1) := by decide +kernel
theorem d_C_shareAt_29 : decode b_C_shareAt 29 = .ok (.iinc 3 (-1), 3) := by decide +kernel
theorem d_C_shareAt_32 : decode b_C_shareAt 32 = .ok (.goto (-23), 3) := by decide +kernel
theorem d_C_shareAt_35 : decode b_C_shareAt 35 = .ok (.iload_n 2, 1) := by decide +kernel
theorem d_C_shareAt_36 : decode b_C_shareAt 36 = .ok (.ireturn, 1) := by decide +kernel
theorem d_C_decodeShares_0 : decode b_C_decodeShares 0 = .ok (.aload_n 0, 1) := by decide +kernel
theorem d_C_decodeShares_1 : decode b_C_decodeShares 1 = .ok (.invokevirtual 30, 3) := by decide +kernel
theorem d_C_decodeShares_4 : decode b_C_decodeShares 4 = .ok (.aload_n 0, 1) := by decide +kernel
theorem d_C_decodeShares_5 : decode b_C_decodeShares 5 = .ok (.invokevirtual 33, 3) := by decide +kernel
theorem d_C_decodeShares_8 : decode b_C_decodeShares 8 = .ok (.return_, 1) := by decide +kernel
theorem d_C_sharesToDifferences_0 : decode b_C_sharesToDifferences 0 = .ok (.iconst 1, 1) := by decide +kernel
theorem d_C_sharesToDifferences_1 : decode b_C_sharesToDifferences 1 = .ok (.istore_n 1, 1) := by decide +kernel
theorem d_C_sharesToDifferences_2 : decode b_C_sharesToDifferences 2 = .ok (.iload_n 1, 1) := by decide +kernel
theorem d_C_sharesToDifferences_3 : decode b_C_sharesToDifferences 3 = .ok (.aload_n 0, 1) := by decide +kernel
theorem d_C_sharesToDifferences_4 : decode b_C_sharesToDifferences 4 = .ok (.getfield 7, 3) := by decide +kernel
theorem d_C_sharesToDifferences_7 : decode b_C_sharesToDifferences 7 = .ok (.if_icmp .ge 71, 3) := by decide +kernel
theorem d_C_sharesToDifferences_10 : decode b_C_sharesToDifferences 10 = .ok (.aload_n 0, 1) := by decide +kernel
theorem d_C_sharesToDifferences_11 : decode b_C_sharesToDifferences 11 = .ok (.getfield 7, 3) := by decide +kernel
theorem d_C_sharesToDifferences_14 : decode b_C_sharesToDifferences 14 = .ok (.iconst 1, 1) := by decide +kernel
theorem d_C_sharesToDifferences_15 : decode b_C_sharesToDifferences 15 = .ok (.isub, 1) := by decide +kernel
theorem d_C_sharesToDifferences_16 : decode b_C_sharesToDifferences 16 = .ok (.istore_n 2, 1) := by decide +kernel
theorem d_C_sharesToDifferences_17 : decode b_C_sharesToDifferences 17 = .ok (.iload_n 2, 1) := by decide +kernel
theorem d_C_sharesToDifferences_18 : decode b_C_sharesToDifferences 18 = .ok (.iload_n 1, 1) := by decide +kernel
theorem d_C_sharesToDifferences_19 : decode b_C_sharesToDifferences 19 = .ok (.if_icmp .lt 53, 3) := by decide +kernel
theorem d_C_sharesToDifferences_22 : decode b_C_sharesToDifferences 22 = .ok (.aload_n 0, 1) := by decide +kernel
theorem d_C_sharesToDifferences_23 : decode b_C_sharesToDifferences 23 = .ok (.getfield 17, 3) := by decide +kernel
theorem d_C_sharesToDifferences_26 : decode b_C_sharesToDifferences 26 = .ok (.iload_n 2, 1) := by decide +kernel
theorem d_C_sharesToDifferences_27 : decode b_C_sharesToDifferences 27 = .ok (.iaload, 1) := by decide +kernel
theorem d_C_sharesToDifferences_28 : decode b_C_sharesToDifferences 28 = .ok (.aload_n 0, 1) := by decide +kernel
theorem d_C_sharesToDifferences_29 : decode b_C_sharesToDifferences 29 = .ok (.getfield 17, 3) := by decide +kernel
theorem d_C_sharesToDifferences_32 : decode b_C_sharesToDifferences 32 = .ok (.iload_n 2, 1) := by decide +kernel
theorem d_C_sharesToDifferences_33 : decode b_C_sharesToDifferences 33 = .ok (.iload_n 1, 1) := by decide +kernel
theorem d_C_sharesToDifferences_34 : decode b_C_sharesToDifferences 34 = .ok (.isub, 1) := by decide +kernel
theorem d_C_sharesToDifferences_35 : decode b_C_sharesToDifferences 35 = .ok (.iaload, 1) := by decide +kernel
theorem d_C_sharesToDifferences_36 : decode b_C_sharesToDifferences 36 = .ok (.ixor, 1) := by decide +kernel
theorem d_C_sharesToDifferences_37 : decode b_C_sharesToDifferences 37 = .ok (.istore_n 3, 1) := by decide +kernel
theorem d_C_sharesToDifferences_38 : decode b_C_sharesToDifferences 38 = .ok (.aload_n 0, 1) := by decide +kernel
theorem d_C_sharesToDifferences_39 : decode b_C_sharesToDifferences 39 = .ok (.getfield 13, 3) := by decide +kernel
theorem d_C_sharesToDifferences_42 : decode b_C_sharesToDifferences 42 = .ok (.iload_n 2, 1) := by decide +kernel
theorem d_C_sharesToDifferences_43 : decode b_C_sharesToDifferences 43 = .ok (.aload_n 0, 1) := by decide +kernel
theorem d_C_sharesToDifferences_44 : decode b_C_sharesToDifferences 44 = .ok (.getfield 13, 3) := by decide +kernel
theorem d_C_sharesToDifferences_47 : decode b_C_sharesToDifferences 47 = .ok (.iload_n 2, 1) := by decide +kernel
theorem d_C_sharesToDifferences_48 : decode b_C_sharesToDifferences 48 = .ok (.iaload, 1) := by decide +kernel
theorem d_C_sharesToDifferences_49 : decode b_C_sharesToDifferences 49 = .ok (.aload_n 0, 1) := by decide +kernel
theorem d_C_sharesToDifferences_50 : decode b_C_sharesToDifferences 50 = .ok (.getfield 13, 3) := by decide +kernel
theorem d_C_sharesToDifferences_53 : decode b_C_sharesToDifferences 53 = .ok (.iload_n 2, 1) := by decide +kernel
theorem d_C_sharesToDifferences_54 : decode b_C_sharesToDifferences 54 = .ok (.iconst 1, 1) := by decide +kernel
theorem d_C_sharesToDifferences_55 : decode b_C_sharesToDifferences 55 = .ok (.isub, 1) := by decide +kernel
theorem d_C_sharesToDifferences_56 : decode b_C_sharesToDifferences 56 = .ok (.iaload, 1) := by decide +kernel
theorem d_C_sharesToDifferences_57 : decode b_C_sharesToDifferences 57 = .ok (.ixor, 1) := by decide +kernel
theorem d_C_sharesToDifferences_58 : decode b_C_sharesToDifferences 58 = .ok (.iload_n 3, 1) := by decide +kernel
theorem d_C_sharesToDifferences_59 : decode b_C_sharesToDifferences 59 = .ok (.invokestatic 36, 3) := by decide +kernel
theorem d_C_sharesToDifferences_62 : decode b_C_sharesToDifferences 62 = .ok (.invokestatic 26, 3) := by decide +kernel
theorem d_C_sharesToDifferences_65 : decode b_C_sharesToDifferences 65 = .ok (.iastore, 1) := by decide +kernel
theorem d_C_sharesToDifferences_66 : decode b_C_sharesToDifferences 66 = .ok (.iinc 2 (-1), 3) := by decide +kernel
theorem d_C_sharesToDifferences_69 : decode b_C_sharesToDifferences 69 = .ok (.goto (-52), 3) := by decide +kernel
theorem d_C_sharesToDifferences_72 : decode b_C_sharesToDifferences 72 = .ok (.iinc 1 1, 3) := by decide +kernel
theorem d_C_sharesToDifferences_75 : decode b_C_sharesToDifferences 75 = .ok (.goto (-73), 3) := by decide +kernel
theorem d_C_sharesToDifferences_78 : decode b_C_sharesToDifferences 78 = .ok (.return_, 1) := by decide +kernel
theorem d_C_differencesToCipherWords_0 : decode b_C_differencesToCipherWords 0 = .ok (.aload_n 0, 1) := by decide +kernel
theorem d_C_differencesToCipherWords_1 : decode b_C_differencesToCipherWords 1 = .ok (.getfield 7, 3) := by decide +kernel
theorem d_C_differencesToCipherWords_4 : decode b_C_differencesToCipherWords 4 = .ok (.iconst 2, 1) := by decide +kernel
theorem d_C_differencesToCipherWords_5 : decode b_C_differencesToCipherWords 5 = .ok (.isub, 1) := by decide +kernel
theorem d_C_differencesToCipherWords_6 : decode b_C_differencesToCipherWords 6 = .ok (.istore_n 1, 1) := by decide +kernel
theorem d_C_differencesToCipherWords_7 : decode b_C_differencesToCipherWords 7 = .ok (.iload_n 1, 1) := by decide +kernel
theorem d_C_differencesToCipherWords_8 : decode b_C_differencesToCipherWords 8 = .ok (.ifCond .lt 53, 3) := by decide +kernel
theorem d_C_differencesToCipherWords_11 : decode b_C_differencesToCipherWords 11 = .ok (.iload_n 1, 1) := by decide +kernel
theorem d_C_differencesToCipherWords_12 : decode b_C_differencesToCipherWords 12 = .ok (.istore_n 2, 1) := by decide +kernel
theorem d_C_differencesToCipherWords_13 : decode b_C_differencesToCipherWords 13 = .ok (.iload_n 2, 1) := by decide +kernel
theorem d_C_differencesToCipherWords_14 : decode b_C_differencesToCipherWords 14 = .ok (.aload_n 0, 1) := by decide +kernel
theorem d_C_differencesToCipherWords_15 : decode b_C_differencesToCipherWords 15 = .ok (.getfield 7, 3) := by decide +kernel
theorem d_C_differencesToCipherWords_18 : decode b_C_differencesToCipherWords 18 = .ok (.iconst 1, 1) := by decide +kernel
theorem d_C_differencesToCipherWords_19 : decode b_C_differencesToCipherWords 19 = .ok (.isub, 1) := by decide +kernel
theorem d_C_differencesToCipherWords_20 : decode b_C_differencesToCipherWords 20 = .ok (.if_icmp .ge 35, 3) := by decide +kernel
theorem d_C_differencesToCipherWords_23 : decode b_C_differencesToCipherWords 23 = .ok (.aload_n 0, 1) := by decide +kernel
theorem d_C_differencesToCipherWords_24 : decode b_C_differencesToCipherWords 24 = .ok (.getfield 13, 3) := by decide +kernel
theorem d_C_differencesToCipherWords_27 : decode b_C_differencesToCipherWords 27 = .ok (.iload_n 2, 1) := by decide +kernel
theorem d_C_differencesToCipherWords_28 : decode b_C_differencesToCipherWords 28 = .ok (.dup2, 1) := by decide +kernel
theorem d_C_differencesToCipherWords_29 : decode b_C_differencesToCipherWords 29 = .ok (.iaload, 1) := by decide +kernel
theorem d_C_differencesToCipherWords_30 : decode b_C_differencesToCipherWords 30 = .ok (.aload_n 0, 1) := by decide +kernel
theorem d_C_differencesToCipherWords_31 : decode b_C_differencesToCipherWords 31 = .ok (.getfield 13, 3) := by decide +kernel
theorem d_C_differencesToCipherWords_34 : decode b_C_differencesToCipherWords 34 = .ok (.iload_n 2, 1) := by decide +kernel
theorem d_C_differencesToCipherWords_35 : decode b_C_differencesToCipherWords 35 = .ok (.iconst 1, 1) := by decide +kernel
theorem d_C_differencesToCipherWords_36 : decode b_C_differencesToCipherWords 36 = .ok (.iadd, 1) := by decide +kernel
theorem d_C_differencesToCipherWords_37 : decode b_C_differencesToCipherWords 37 = .ok (.iaload, 1) := by decide +kernel
theorem d_C_differencesToCipherWords_38 : decode b_C_differencesToCipherWords 38 = .ok (.aload_n 0, 1) := by decide +kernel
theorem d_C_differencesToCipherWords_39 : decode b_C_differencesToCipherWords 39 = .ok (.getfield 17, 3) := by decide +kernel
theorem d_C_differencesToCipherWords_42 : decode b_C_differencesToCipherWords 42 = .ok (.iload_n 1, 1) := by decide +kernel
theorem d_C_differencesToCipherWords_43 : decode b_C_differencesToCipherWords 43 = .ok (.iaload, 1) := by decide +kernel
theorem d_C_differencesToCipherWords_44 : decode b_C_differencesToCipherWords 44 = .ok (.invokestatic 26, 3) := by decide +kernel
theorem d_C_differencesToCipherWords_47 : decode b_C_differencesToCipherWords 47 = .ok (.ixor, 1) := by decide +kernel
theorem d_C_differencesToCipherWords_48 : decode b_C_differencesToCipherWords 48 = .ok (.iastore, 1) := by decide +kernel
theorem d_C_differencesToCipherWords_49 : decode b_C_differencesToCipherWords 49 = .ok (.iinc 2 1, 3) := by decide +kernel
theorem d_C_differencesToCipherWords_52 : decode b_C_differencesToCipherWords 52 = .ok (.goto (-39), 3) := by decide +kernel
theorem d_C_differencesToCipherWords_55 : decode b_C_differencesToCipherWords 55 = .ok (.iinc 1 (-1), 3) := by decide +kernel
theorem d_C_differencesToCipherWords_58 : decode b_C_differencesToCipherWords 58 = .ok (.goto (-51), 3) := by decide +kernel
theorem d_C_differencesToCipherWords_61 : decode b_C_differencesToCipherWords 61 = .ok (.return_, 1) := by decide +kernel
theorem d_R_init_0 : decode b_R_init 0 = .ok (.aload_n 0, 1) := by decide +kernel
theorem d_R_init_1 : decode b_R_init 1 = .ok (.invokespecial 1, 3) := by decide +kernel
theorem d_R_init_4 : decode b_R_init 4 = .ok (.aload_n 0, 1) := by decide +kernel
theorem d_R_init_5 : decode b_R_init 5 = .ok (.iload_n 1, 1) := by decide +kernel
theorem d_R_init_6 : decode b_R_init 6 = .ok (.newarray .int, 2) := by decide +kernel
theorem d_R_init_8 : decode b_R_init 8 = .ok (.putfield 7, 3) := by decide +kernel
theorem d_R_init_11 : decode b_R_init 11 = .ok (.return_, 1) := by decide +kernel
theorem d_R_copyFrom_0 : decode b_R_copyFrom 0 = .ok (.aload_n 0, 1) := by decide +kernel
theorem d_R_copyFrom_1 : decode b_R_copyFrom 1 = .ok (.aload_n 1, 1) := by decide +kernel
theorem d_R_copyFrom_2 : decode b_R_copyFrom 2 = .ok (.getfield 13, 3) := by decide +kernel
theorem d_R_copyFrom_5 : decode b_R_copyFrom 5 = .ok (.putfield 13, 3) := by decide +kernel
theorem d_R_copyFrom_8 : decode b_R_copyFrom 8 = .ok (.aload_n 0, 1) := by decide +kernel
theorem d_R_copyFrom_9 : decode b_R_copyFrom 9 = .ok (.aload_n 1, 1) := by decide +kernel
theorem d_R_copyFrom_10 : decode b_R_copyFrom 10 = .ok (.getfield 17, 3) := by decide +kernel
theorem d_R_copyFrom_13 : decode b_R_copyFrom 13 = .ok (.putfield 17, 3) := by decide +kernel
theorem d_R_copyFrom_16 : decode b_R_copyFrom 16 = .ok (.aload_n 0, 1) := by decide +kernel
theorem d_R_copyFrom_17 : decode b_R_copyFrom 17 = .ok (.aload_n 1, 1) := by decide +kernel
theorem d_R_copyFrom_18 : decode b_R_copyFrom 18 = .ok (.getfield 21, 3) := by decide +kernel
theorem d_R_copyFrom_21 : decode b_R_copyFrom 21 = .ok (.putfield 21, 3) := by decide +kernel
theorem d_R_copyFrom_24 : decode b_R_copyFrom 24 = .ok (.aload_n 0, 1) := by decide +kernel
theorem d_R_copyFrom_25 : decode b_R_copyFrom 25 = .ok (.aload_n 1, 1) := by decide +kernel
theorem d_R_copyFrom_26 : decode b_R_copyFrom 26 = .ok (.getfield 24, 3) := by decide +kernel
theorem d_R_copyFrom_29 : decode b_R_copyFrom 29 = .ok (.putfield 24, 3) := by decide +kernel
theorem d_R_copyFrom_32 : decode b_R_copyFrom 32 = .ok (.aload_n 1, 1) := by decide +kernel
theorem d_R_copyFrom_33 : decode b_R_copyFrom 33 = .ok (.getfield 7, 3) := by decide +kernel
theorem d_R_copyFrom_36 : decode b_R_copyFrom 36 = .ok (.iconst 0, 1) := by decide +kernel
theorem d_R_copyFrom_37 : decode b_R_copyFrom 37 = .ok (.aload_n 0, 1) := by decide +kernel
theorem d_R_copyFrom_38 : decode b_R_copyFrom 38 = .ok (.getfield 7, 3) := by decide +kernel
theorem d_R_copyFrom_41 : decode b_R_copyFrom 41 = .ok (.iconst 0, 1) := by decide +kernel
theorem d_R_copyFrom_42 : decode b_R_copyFrom 42 = .ok (.aload_n 0, 1) := by decide +kernel
theorem d_R_copyFrom_43 : decode b_R_copyFrom 43 = .ok (.getfield 7, 3) := by decide +kernel
theorem d_R_copyFrom_46 : decode b_R_copyFrom 46 = .ok (.arraylength, 1) := by decide +kernel
theorem d_R_copyFrom_47 : decode b_R_copyFrom 47 = .ok (.invokestatic 27, 3) := by decide +kernel
theorem d_R_copyFrom_50 : decode b_R_copyFrom 50 = .ok (.return_, 1) := by decide +kernel
theorem d_R_rootOfFingerprints_0 : decode b_R_rootOfFingerprints 0 = .ok (.bipush 7, 2) := by decide +kernel
theorem d_R_rootOfFingerprints_2 : decode b_R_rootOfFingerprints 2 = .ok (.istore_n 1, 1) := by decide +kernel
theorem d_R_rootOfFingerprints_3 : decode b_R_rootOfFingerprints 3 = .ok (.iconst 0, 1) := by decide +kernel
theorem d_R_rootOfFingerprints_4 : decode b_R_rootOfFingerprints 4 = .ok (.istore_n 2, 1) := by decide +kernel
theorem d_R_rootOfFingerprints_5 : decode b_R_rootOfFingerprints 5 = .ok (.iload_n 2, 1) := by decide +kernel
theorem d_R_rootOfFingerprints_6 : decode b_R_rootOfFingerprints 6 = .ok (.aload_n 0, 1) := by decide +kernel
theorem d_R_rootOfFingerprints_7 : decode b_R_rootOfFingerprints 7 = .ok (.getfield 7, 3) := by decide +kernel
theorem d_R_rootOfFingerprints_10 : decode b_R_rootOfFingerprints 10 = .ok (.arraylength, 1) := by decide +kernel
theorem d_R_rootOfFingerprints_11 : decode b_R_rootOfFingerprints 11 = .ok (.if_icmp .ge 20, 3) := by decide +kernel
theorem d_R_rootOfFingerprints_14 : decode b_R_rootOfFingerprints 14 = .ok (.iload_n 1, 1) := by decide +kernel
theorem d_R_rootOfFingerprints_15 : decode b_R_rootOfFingerprints 15 = .ok (.aload_n 0, 1) := by decide +kernel
theorem d_R_rootOfFingerprints_16 : decode b_R_rootOfFingerprints 16 = .ok (.getfield 7, 3) := by decide +kernel
theorem d_R_rootOfFingerprints_19 : decode b_R_rootOfFingerprints 19 = .ok (.iload_n 2, 1) := by decide +kernel
theorem d_R_rootOfFingerprints_20 : decode b_R_rootOfFingerprints 20 = .ok (.iaload, 1) := by decide +kernel
theorem d_R_rootOfFingerprints_21 : decode b_R_rootOfFingerprints 21 = .ok (.invokestatic 33, 3) := by decide +kernel
theorem d_R_rootOfFingerprints_24 : decode b_R_rootOfFingerprints 24 = .ok (.istore_n 1, 1) := by decide +kernel
theorem d_R_rootOfFingerprints_25 : decode b_R_rootOfFingerprints 25 = .ok (.iinc 2 1, 3) := by decide +kernel
theorem d_R_rootOfFingerprints_28 : decode b_R_rootOfFingerprints 28 = .ok (.goto (-23), 3) := by decide +kernel
theorem d_R_rootOfFingerprints_31 : decode b_R_rootOfFingerprints 31 = .ok (.iload_n 1, 1) := by decide +kernel
theorem d_R_rootOfFingerprints_32 : decode b_R_rootOfFingerprints 32 = .ok (.aload_n 0, 1) := by decide +kernel
theorem d_R_rootOfFingerprints_33 : decode b_R_rootOfFingerprints 33 = .ok (.getfield 21, 3) := by decide +kernel
theorem d_R_rootOfFingerprints_36 : decode b_R_rootOfFingerprints 36 = .ok (.invokestatic 33, 3) := by decide +kernel
theorem d_R_rootOfFingerprints_39 : decode b_R_rootOfFingerprints 39 = .ok (.ireturn, 1) := by decide +kernel
theorem d_F_init_0 : decode b_F_init 0 = .ok (.aload_n 0, 1) := by decide +kernel
theorem d_F_init_1 : decode b_F_init 1 = .ok (.invokespecial 3, 3) := by decide +kernel
theorem d_F_init_4 : decode b_F_init 4 = .ok (.aload_n 0, 1) := by decide +kernel
theorem d_F_init_5 : decode b_F_init 5 = .ok (.iload_n 1, 1) := by decide +kernel
theorem d_F_init_6 : decode b_F_init 6 = .ok (.anewarray 9, 3) := by decide +kernel
theorem d_F_init_9 : decode b_F_init 9 = .ok (.putfield 11, 3) := by decide +kernel
theorem d_F_init_12 : decode b_F_init 12 = .ok (.aload_n 0, 1) := by decide +kernel
theorem d_F_init_13 : decode b_F_init 13 = .ok (.iload_n 1, 1) := by decide +kernel
theorem d_F_init_14 : decode b_F_init 14 = .ok (.anewarray 9, 3) := by decide +kernel
theorem d_F_init_17 : decode b_F_init 17 = .ok (.putfield 17, 3) := by decide +kernel
theorem d_F_init_20 : decode b_F_init 20 = .ok (.iconst 0, 1) := by decide +kernel
theorem d_F_init_21 : decode b_F_init 21 = .ok (.istore_n 2, 1) := by decide +kernel
theorem d_F_init_22 : decode b_F_init 22 = .ok (.iload_n 2, 1) := by decide +kernel
theorem d_F_init_23 : decode b_F_init 23 = .ok (.iload_n 1, 1) := by decide +kernel
theorem d_F_init_24 : decode b_F_init 24 = .ok (.if_icmp .ge 37, 3) := by decide +kernel
theorem d_F_init_27 : decode b_F_init 27 = .ok (.aload_n 0, 1) := by decide +kernel
theorem d_F_init_28 : decode b_F_init 28 = .ok (.getfield 11, 3) := by decide +kernel
theorem d_F_init_31 : decode b_F_init 31 = .ok (.iload_n 2, 1) := by decide +kernel
theorem d_F_init_32 : decode b_F_init 32 = .ok (.new 9, 3) := by decide +kernel
theorem d_F_init_35 : decode b_F_init 35 = .ok (.dup, 1) := by decide +kernel
theorem d_F_init_36 : decode b_F_init 36 = .ok (.iload_n 1, 1) := by decide +kernel
theorem d_F_init_37 : decode b_F_init 37 = .ok (.invokespecial 20, 3) := by decide +kernel
theorem d_F_init_40 : decode b_F_init 40 = .ok (.aastore, 1) := by decide +kernel
theorem d_F_init_41 : decode b_F_init 41 = .ok (.aload_n 0, 1) := by decide +kernel
theorem d_F_init_42 : decode b_F_init 42 = .ok (.getfield 17, 3) := by decide +kernel
theorem d_F_init_45 : decode b_F_init 45 = .ok (.iload_n 2, 1) := by decide +kernel
theorem d_F_init_46 : decode b_F_init 46 = .ok (.new 9, 3) := by decide +kernel
theorem d_F_init_49 : decode b_F_init 49 = .ok (.dup, 1) := by decide +kernel
theorem d_F_init_50 : decode b_F_init 50 = .ok (.iload_n 1, 1) := by decide +kernel
theorem d_F_init_51 : decode b_F_init 51 = .ok (.invokespecial 20, 3) := by decide +kernel
theorem d_F_init_54 : decode b_F_init 54 = .ok (.aastore, 1) := by decide +kernel
theorem d_F_init_55 : decode b_F_init 55 = .ok (.iinc 2 1, 3) := by decide +kernel
theorem d_F_init_58 : decode b_F_init 58 = .ok (.goto (-36), 3) := by decide +kernel
theorem d_F_init_61 : decode b_F_init 61 = .ok (.aload_n 0, 1) := by decide +kernel
theorem d_F_init_62 : decode b_F_init 62 = .ok (.bipush 31, 2) := by decide +kernel
theorem d_F_init_64 : decode b_F_init 64 = .ok (.newarray .int, 2) := by decide +kernel
theorem d_F_init_66 : decode b_F_init 66 = .ok (.putfield 23, 3) := by decide +kernel
theorem d_F_init_69 : decode b_F_init 69 = .ok (.aload_n 0, 1) := by decide +kernel
theorem d_F_init_70 : decode b_F_init 70 = .ok (.bipush 31, 2) := by decide +kernel
theorem d_F_init_72 : decode b_F_init 72 = .ok (.newarray .int, 2) := by decide +kernel
theorem d_F_init_74 : decode b_F_init 74 = .ok (.putfield 27, 3) := by decide +kernel
theorem d_F_init_77 : decode b_F_init 77 = .ok (.return_, 1) := by decide +kernel
theorem d_F_noteNext_0 : decode b_F_noteNext 0 = .ok (.aload_n 0, 1) := by decide +kernel
theorem d_F_noteNext_1 : decode b_F_noteNext 1 = .ok (.dup, 1) := by decide +kernel
theorem d_F_noteNext_2 : decode b_F_noteNext 2 = .ok (.getfield 30, 3) := by decide +kernel
theorem d_F_noteNext_5 : decode b_F_noteNext 5 = .ok (.iconst 1, 1) := by decide +kernel
theorem d_F_noteNext_6 : decode b_F_noteNext 6 = .ok (.iadd, 1) := by decide +kernel
theorem d_F_noteNext_7 : decode b_F_noteNext 7 = .ok (.putfield 30, 3) := by decide +kernel
theorem d_F_noteNext_10 : decode b_F_noteNext 10 = .ok (.aload_n 0, 1) := by decide +kernel
theorem d_F_noteNext_11 : decode b_F_noteNext 11 = .ok (.getfield 23, 3) := by decide +kernel
theorem d_F_noteNext_14 : decode b_F_noteNext 14 = .ok (.aload_n 0, 1) := by decide +kernel
theorem d_F_noteNext_15 : decode b_F_noteNext 15 = .ok (.getfield 30, 3) := by decide +kernel
theorem d_F_noteNext_18 : decode b_F_noteNext 18 = .ok (.iload_n 1, 1) := by decide +kernel
theorem d_F_noteNext_19 : decode b_F_noteNext 19 = .ok (.iastore, 1) := by decide +kernel
theorem d_F_noteNext_20 : decode b_F_noteNext 20 = .ok (.aload_n 0, 1) := by decide +kernel
theorem d_F_noteNext_21 : decode b_F_noteNext 21 = .ok (.getfield 27, 3) := by decide +kernel
theorem d_F_noteNext_24 : decode b_F_noteNext 24 = .ok (.aload_n 0, 1) := by decide +kernel
theorem d_F_noteNext_25 : decode b_F_noteNext 25 = .ok (.getfield 30, 3) := by decide +kernel
theorem d_F_noteNext_28 : decode b_F_noteNext 28 = .ok (.iload_n 2, 1) := by decide +kernel
theorem d_F_noteNext_29 : decode b_F_noteNext 29 = .ok (.iastore, 1) := by decide +kernel
theorem d_F_noteNext_30 : decode b_F_noteNext 30 = .ok (.return_, 1) := by decide +kernel
theorem d_F_isSoundAt_0 : decode b_F_isSoundAt 0 = .ok (.aload_n 0, 1) := by decide +kernel
theorem d_F_isSoundAt_1 : decode b_F_isSoundAt 1 = .ok (.getfield 11, 3) := by decide +kernel
theorem d_F_isSoundAt_4 : decode b_F_isSoundAt 4 = .ok (.iload_n 1, 1) := by decide +kernel
theorem d_F_isSoundAt_5 : decode b_F_isSoundAt 5 = .ok (.aaload, 1) := by decide +kernel
theorem d_F_isSoundAt_6 : decode b_F_isSoundAt 6 = .ok (.astore_n 2, 1) := by decide +kernel
theorem d_F_isSoundAt_7 : decode b_F_isSoundAt 7 = .ok (.aload_n 2, 1) := by decide +kernel
theorem d_F_isSoundAt_8 : decode b_F_isSoundAt 8 = .ok (.getfield 34, 3) := by decide +kernel
theorem d_F_isSoundAt_11 : decode b_F_isSoundAt 11 = .ok (.istore_n 3, 1) := by decide +kernel
theorem d_F_isSoundAt_12 : decode b_F_isSoundAt 12 = .ok (.aload_n 2, 1) := by decide +kernel
theorem d_F_isSoundAt_13 : decode b_F_isSoundAt 13 = .ok (.getfield 37, 3) := by decide +kernel
theorem d_F_isSoundAt_16 : decode b_F_isSoundAt 16 = .ok (.ifCond .eq 16, 3) := by decide +kernel
theorem d_F_isSoundAt_19 : decode b_F_isSoundAt 19 = .ok (.iload_n 3, 1) := by decide +kernel
theorem d_F_isSoundAt_20 : decode b_F_isSoundAt 20 = .ok (.iconst 1, 1) := by decide +kernel
theorem d_F_isSoundAt_21 : decode b_F_isSoundAt 21 = .ok (.if_icmp .lt 11, 3) := by decide +kernel
theorem d_F_isSoundAt_24 : decode b_F_isSoundAt 24 = .ok (.iload_n 3, 1) := by decide +kernel
theorem d_F_isSoundAt_25 : decode b_F_isSoundAt 25 = .ok (.aload_n 0, 1) := by decide +kernel
theorem d_F_isSoundAt_26 : decode b_F_isSoundAt 26 = .ok (.getfield 30, 3) := by decide +kernel
theorem d_F_isSoundAt_29 : decode b_F_isSoundAt 29 = .ok (.if_icmp .le 5, 3) := by decide +kernel
theorem d_F_isSoundAt_32 : decode b_F_isSoundAt 32 = .ok (.iconst 0, 1) := by decide +kernel
theorem d_F_isSoundAt_33 : decode b_F_isSoundAt 33 = .ok (.ireturn, 1) := by decide +kernel
theorem d_F_isSoundAt_34 : decode b_F_isSoundAt 34 = .ok (.aload_n 2, 1) := by decide +kernel
theorem d_F_isSoundAt_35 : decode b_F_isSoundAt 35 = .ok (.getfield 41, 3) := by decide +kernel
theorem d_F_isSoundAt_38 : decode b_F_isSoundAt 38 = .ok (.iload_n 1, 1) := by decide +kernel
theorem d_F_isSoundAt_39 : decode b_F_isSoundAt 39 = .ok (.invokestatic 44, 3) := by decide +kernel
theorem d_F_isSoundAt_42 : decode b_F_isSoundAt 42 = .ok (.aload_n 2, 1) := by decide +kernel
theorem d_F_isSoundAt_43 : decode b_F_isSoundAt 43 = .ok (.getfield 48, 3) := by decide +kernel
theorem d_F_isSoundAt_46 : decode b_F_isSoundAt 46 = .ok (.iload_n 1, 1) := by decide +kernel
theorem d_F_isSoundAt_47 : decode b_F_isSoundAt 47 = .ok (.iaload, 1) := by decide +kernel
theorem d_F_isSoundAt_48 : decode b_F_isSoundAt 48 = .ok (.if_icmp .ne 33, 3) := by decide +kernel
theorem d_F_isSoundAt_51 : decode b_F_isSoundAt 51 = .ok (.aload_n 2, 1) := by decide +kernel
theorem d_F_isSoundAt_52 : decode b_F_isSoundAt 52 = .ok (.invokevirtual 51, 3) := by decide +kernel
theorem d_F_isSoundAt_55 : decode b_F_isSoundAt 55 = .ok (.aload_n 0, 1) := by decide +kernel
theorem d_F_isSoundAt_56 : decode b_F_isSoundAt 56 = .ok (.getfield 23, 3) := by decide +kernel
theorem d_F_isSoundAt_59 : decode b_F_isSoundAt 59 = .ok (.iload_n 3, 1) := by decide +kernel
theorem d_F_isSoundAt_60 : decode b_F_isSoundAt 60 = .ok (.iaload, 1) := by decide +kernel
theorem d_F_isSoundAt_61 : decode b_F_isSoundAt 61 = .ok (.if_icmp .ne 20, 3) := by decide +kernel
theorem d_F_isSoundAt_64 : decode b_F_isSoundAt 64 = .ok (.aload_n 2, 1) := by decide +kernel
theorem d_F_isSoundAt_65 : decode b_F_isSoundAt 65 = .ok (.getfield 55, 3) := by decide +kernel
theorem d_F_isSoundAt_68 : decode b_F_isSoundAt 68 = .ok (.aload_n 0, 1) := by decide +kernel
theorem d_F_isSoundAt_69 : decode b_F_isSoundAt 69 = .ok (.getfield 27, 3) := by decide +kernel
theorem d_F_isSoundAt_72 : decode b_F_isSoundAt 72 = .ok (.iload_n 3, 1) := by decide +kernel
theorem d_F_isSoundAt_73 : decode b_F_isSoundAt 73 = .ok (.iaload, 1) := by decide +kernel
theorem d_F_isSoundAt_74 : decode b_F_isSoundAt 74 = .ok (.if_icmp .ne 7, 3) := by decide +kernel
theorem d_F_isSoundAt_77 : decode b_F_isSoundAt 77 = .ok (.iconst 1, 1) := by decide +kernel
theorem d_F_isSoundAt_78 : decode b_F_isSoundAt 78 = .ok (.goto 4, 3) := by decide +kernel
theorem d_F_isSoundAt_81 : decode b_F_isSoundAt 81 = .ok (.iconst 0, 1) := by decide +kernel
theorem d_F_isSoundAt_82 : decode b_F_isSoundAt 82 = .ok (.ireturn, 1) := by decide +kernel
theorem d_F_isSoundWith_0 : decode b_F_isSoundWith 0 = .ok (.aload_n 0, 1) := by decide +kernel
theorem d_F_isSoundWith_1 : decode b_F_isSoundWith 1 = .ok (.getfield 11, 3) := by decide +kernel
theorem d_F_isSoundWith_4 : decode b_F_isSoundWith 4 = .ok (.iload_n 1, 1) := by decide +kernel
theorem d_F_isSoundWith_5 : decode b_F_isSoundWith 5 = .ok (.aaload, 1) := by decide +kernel
theorem d_F_isSoundWith_6 : decode b_F_isSoundWith 6 = .ok (.getfield 34, 3) := by decide +kernel
theorem d_F_isSoundWith_9 : decode b_F_isSoundWith 9 = .ok (.iload_n 2, 1) := by decide +kernel
theorem d_F_isSoundWith_10 : decode b_F_isSoundWith 10 = .ok (.if_icmp .ne 15, 3) := by decide +kernel
theorem d_F_isSoundWith_13 : decode b_F_isSoundWith 13 = .ok (.aload_n 0, 1) := by decide +kernel
theorem d_F_isSoundWith_14 : decode b_F_isSoundWith 14 = .ok (.iload_n 1, 1) := by decide +kernel
theorem d_F_isSoundWith_15 : decode b_F_isSoundWith 15 = .ok (.invokevirtual 58, 3) := by decide +kernel
theorem d_F_isSoundWith_18 : decode b_F_isSoundWith 18 = .ok (.ifCond .eq 7, 3) := by decide +kernel
theorem d_F_isSoundWith_21 : decode b_F_isSoundWith 21 = .ok (.iconst 1, 1) := by decide +kernel
theorem d_F_isSoundWith_22 : decode b_F_isSoundWith 22 = .ok (.goto 4, 3) := by decide +kernel
theorem d_F_isSoundWith_25 : decode b_F_isSoundWith 25 = .ok (.iconst 0, 1) := by decide +kernel
theorem d_F_isSoundWith_26 : decode b_F_isSoundWith 26 = .ok (.ireturn, 1) := by decide +kernel
theorem d_J_init_0 : decode b_J_init 0 = .ok (.return_, 1) := by decide +kernel
theorem d_J_max_0 : decode b_J_max 0 = .ok (.iload_n 0, 1) := by decide +kernel
theorem d_J_max_1 : decode b_J_max 1 = .ok (.iload_n 1, 1) := by decide +kernel
theorem d_J_max_2 : decode b_J_max 2 = .ok (.if_icmp .lt 7, 3) := by decide +kernel
theorem d_J_max_5 : decode b_J_max 5 = .ok (.iload_n 0, 1) := by decide +kernel
theorem d_J_max_6 : decode b_J_max 6 = .ok (.goto 4, 3) := by decide +kernel
theorem d_J_max_9 : decode b_J_max 9 = .ok (.iload_n 1, 1) := by decide +kernel
theorem d_J_max_10 : decode b_J_max 10 = .ok (.ireturn, 1) := by decide +kernel
theorem d_J_min_0 : decode b_J_min 0 = .ok (.iload_n 0, 1) := by decide +kernel
theorem d_J_min_1 : decode b_J_min 1 = .ok (.iload_n 1, 1) := by decide +kernel
theorem d_J_min_2 : decode b_J_min 2 = .ok (.if_icmp .gt 7, 3) := by decide +kernel
theorem d_J_min_5 : decode b_J_min 5 = .ok (.iload_n 0, 1) := by decide +kernel
theorem d_J_min_6 : decode b_J_min 6 = .ok (.goto 4, 3) := by decide +kernel
theorem d_J_min_9 : decode b_J_min 9 = .ok (.iload_n 1, 1) := by decide +kernel
theorem d_J_min_10 : decode b_J_min 10 = .ok (.ireturn, 1) := by decide +kernel
theorem d_J_fill_0 : decode b_J_fill 0 = .ok (.iconst 0, 1) := by decide +kernel
theorem d_J_fill_1 : decode b_J_fill 1 = .ok (.istore_n 2, 1) := by decide +kernel
theorem d_J_fill_2 : decode b_J_fill 2 = .ok (.aload_n 0, 1) := by decide +kernel
theorem d_J_fill_3 : decode b_J_fill 3 = .ok (.arraylength, 1) := by decide +kernel
theorem d_J_fill_4 : decode b_J_fill 4 = .ok (.istore_n 3, 1) := by decide +kernel
theorem d_J_fill_5 : decode b_J_fill 5 = .ok (.iload_n 2, 1) := by decide +kernel
theorem d_J_fill_6 : decode b_J_fill 6 = .ok (.iload_n 3, 1) := by decide +kernel
theorem d_J_fill_7 : decode b_J_fill 7 = .ok (.if_icmp .ge 13, 3) := by decide +kernel
theorem d_J_fill_10 : decode b_J_fill 10 = .ok (.aload_n 0, 1) := by decide +kernel
theorem d_J_fill_11 : decode b_J_fill 11 = .ok (.iload_n 2, 1) := by decide +kernel
theorem d_J_fill_12 : decode b_J_fill 12 = .ok (.iload_n 1, 1) := by decide +kernel
theorem d_J_fill_13 : decode b_J_fill 13 = .ok (.iastore, 1) := by decide +kernel
theorem d_J_fill_14 : decode b_J_fill 14 = .ok (.iinc 2 1, 3) := by decide +kernel
theorem d_J_fill_17 : decode b_J_fill 17 = .ok (.goto (-12), 3) := by decide +kernel
theorem d_J_fill_20 : decode b_J_fill 20 = .ok (.return_, 1) := by decide +kernel
