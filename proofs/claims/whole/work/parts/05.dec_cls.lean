theorem dT_init_0 : decode bT_init 0 = .ok (.aload_n 0, 1) := by decide +kernel
theorem dT_init_1 : decode bT_init 1 = .ok (.invokespecial 3, 3) := by decide +kernel
theorem dT_init_4 : decode bT_init 4 = .ok (.aload_n 0, 1) := by decide +kernel
theorem dT_init_5 : decode bT_init 5 = .ok (.new 9, 3) := by decide +kernel
theorem dT_init_8 : decode bT_init 8 = .ok (.dup, 1) := by decide +kernel
theorem dT_init_9 : decode bT_init 9 = .ok (.invokespecial 11, 3) := by decide +kernel
theorem dT_init_12 : decode bT_init 12 = .ok (.putfield 12, 3) := by decide +kernel
theorem dT_init_15 : decode bT_init 15 = .ok (.aload_n 0, 1) := by decide +kernel
theorem dT_init_16 : decode bT_init 16 = .ok (.new 9, 3) := by decide +kernel
theorem dT_init_19 : decode bT_init 19 = .ok (.dup, 1) := by decide +kernel
theorem dT_init_20 : decode bT_init 20 = .ok (.invokespecial 11, 3) := by decide +kernel
theorem dT_init_23 : decode bT_init 23 = .ok (.putfield 16, 3) := by decide +kernel
theorem dT_init_26 : decode bT_init 26 = .ok (.aload_n 0, 1) := by decide +kernel
theorem dT_init_27 : decode bT_init 27 = .ok (.new 19, 3) := by decide +kernel
theorem dT_init_30 : decode bT_init 30 = .ok (.dup, 1) := by decide +kernel
theorem dT_init_31 : decode bT_init 31 = .ok (.invokespecial 21, 3) := by decide +kernel
theorem dT_init_34 : decode bT_init 34 = .ok (.putfield 22, 3) := by decide +kernel
theorem dT_init_37 : decode bT_init 37 = .ok (.aload_n 0, 1) := by decide +kernel
theorem dT_init_38 : decode bT_init 38 = .ok (.new 26, 3) := by decide +kernel
theorem dT_init_41 : decode bT_init 41 = .ok (.dup, 1) := by decide +kernel
theorem dT_init_42 : decode bT_init 42 = .ok (.invokespecial 28, 3) := by decide +kernel
theorem dT_init_45 : decode bT_init 45 = .ok (.putfield 29, 3) := by decide +kernel
theorem dT_init_48 : decode bT_init 48 = .ok (.aload_n 0, 1) := by decide +kernel
theorem dT_init_49 : decode bT_init 49 = .ok (.new 33, 3) := by decide +kernel
theorem dT_init_52 : decode bT_init 52 = .ok (.dup, 1) := by decide +kernel
theorem dT_init_53 : decode bT_init 53 = .ok (.invokespecial 35, 3) := by decide +kernel
theorem dT_init_56 : decode bT_init 56 = .ok (.putfield 36, 3) := by decide +kernel
theorem dT_init_59 : decode bT_init 59 = .ok (.aload_n 0, 1) := by decide +kernel
theorem dT_init_60 : decode bT_init 60 = .ok (.iconst 0, 1) := by decide +kernel
theorem dT_init_61 : decode bT_init 61 = .ok (.putfield 40, 3) := by decide +kernel
theorem dT_init_64 : decode bT_init 64 = .ok (.return_, 1) := by decide +kernel
theorem dC_init_0 : decode bC_init 0 = .ok (.aload_n 0, 1) := by decide +kernel
theorem dC_init_1 : decode bC_init 1 = .ok (.invokespecial 3, 3) := by decide +kernel
theorem dC_init_4 : decode bC_init 4 = .ok (.aload_n 0, 1) := by decide +kernel
theorem dC_init_5 : decode bC_init 5 = .ok (.iconst 4, 1) := by decide +kernel
theorem dC_init_6 : decode bC_init 6 = .ok (.bipush 16, 2) := by decide +kernel
theorem dC_init_8 : decode bC_init 8 = .ok (.multianewarray 9 2, 4) := by decide +kernel
theorem dC_init_12 : decode bC_init 12 = .ok (.putfield 11, 3) := by decide +kernel
theorem dC_init_15 : decode bC_init 15 = .ok (.aload_n 0, 1) := by decide +kernel
theorem dC_init_16 : decode bC_init 16 = .ok (.iconst 0, 1) := by decide +kernel
theorem dC_init_17 : decode bC_init 17 = .ok (.putfield 16, 3) := by decide +kernel
theorem dC_init_20 : decode bC_init 20 = .ok (.return_, 1) := by decide +kernel
theorem dS_init_0 : decode bS_init 0 = .ok (.aload_n 0, 1) := by decide +kernel
theorem dS_init_1 : decode bS_init 1 = .ok (.invokespecial 3, 3) := by decide +kernel
theorem dS_init_4 : decode bS_init 4 = .ok (.aload_n 0, 1) := by decide +kernel
theorem dS_init_5 : decode bS_init 5 = .ok (.new 9, 3) := by decide +kernel
theorem dS_init_8 : decode bS_init 8 = .ok (.dup, 1) := by decide +kernel
theorem dS_init_9 : decode bS_init 9 = .ok (.invokespecial 11, 3) := by decide +kernel
theorem dS_init_12 : decode bS_init 12 = .ok (.putfield 12, 3) := by decide +kernel
theorem dS_init_15 : decode bS_init 15 = .ok (.aload_n 0, 1) := by decide +kernel
theorem dS_init_16 : decode bS_init 16 = .ok (.bipush 17, 2) := by decide +kernel
theorem dS_init_18 : decode bS_init 18 = .ok (.newarray .int, 2) := by decide +kernel
theorem dS_init_20 : decode bS_init 20 = .ok (.putfield 18, 3) := by decide +kernel
theorem dS_init_23 : decode bS_init 23 = .ok (.return_, 1) := by decide +kernel
theorem dP_init_0 : decode bP_init 0 = .ok (.aload_n 0, 1) := by decide +kernel
theorem dP_init_1 : decode bP_init 1 = .ok (.invokespecial 3, 3) := by decide +kernel
theorem dP_init_4 : decode bP_init 4 = .ok (.aload_n 0, 1) := by decide +kernel
theorem dP_init_5 : decode bP_init 5 = .ok (.bipush 6, 2) := by decide +kernel
theorem dP_init_7 : decode bP_init 7 = .ok (.bipush 17, 2) := by decide +kernel
theorem dP_init_9 : decode bP_init 9 = .ok (.multianewarray 9 2, 4) := by decide +kernel
theorem dP_init_13 : decode bP_init 13 = .ok (.putfield 11, 3) := by decide +kernel
theorem dP_init_16 : decode bP_init 16 = .ok (.aload_n 0, 1) := by decide +kernel
theorem dP_init_17 : decode bP_init 17 = .ok (.bipush 6, 2) := by decide +kernel
theorem dP_init_19 : decode bP_init 19 = .ok (.newarray .int, 2) := by decide +kernel
theorem dP_init_21 : decode bP_init 21 = .ok (.putfield 16, 3) := by decide +kernel
theorem dP_init_24 : decode bP_init 24 = .ok (.return_, 1) := by decide +kernel
theorem dF_init_0 : decode bF_init 0 = .ok (.aload_n 0, 1) := by decide +kernel
theorem dF_init_1 : decode bF_init 1 = .ok (.invokespecial 3, 3) := by decide +kernel
theorem dF_init_4 : decode bF_init 4 = .ok (.return_, 1) := by decide +kernel
theorem dK_init_0 : decode bK_init 0 = .ok (.aload_n 0, 1) := by decide +kernel
theorem dK_init_1 : decode bK_init 1 = .ok (.invokespecial 3, 3) := by decide +kernel
theorem dK_init_4 : decode bK_init 4 = .ok (.aload_n 0, 1) := by decide +kernel
theorem dK_init_5 : decode bK_init 5 = .ok (.bipush 9, 2) := by decide +kernel
theorem dK_init_7 : decode bK_init 7 = .ok (.bipush 17, 2) := by decide +kernel
theorem dK_init_9 : decode bK_init 9 = .ok (.multianewarray 11 2, 4) := by decide +kernel
theorem dK_init_13 : decode bK_init 13 = .ok (.putfield 13, 3) := by decide +kernel
theorem dK_init_16 : decode bK_init 16 = .ok (.aload_n 0, 1) := by decide +kernel
theorem dK_init_17 : decode bK_init 17 = .ok (.bipush 9, 2) := by decide +kernel
theorem dK_init_19 : decode bK_init 19 = .ok (.bipush 17, 2) := by decide +kernel
theorem dK_init_21 : decode bK_init 21 = .ok (.multianewarray 11 2, 4) := by decide +kernel
theorem dK_init_25 : decode bK_init 25 = .ok (.putfield 16, 3) := by decide +kernel
theorem dK_init_28 : decode bK_init 28 = .ok (.aload_n 0, 1) := by decide +kernel
theorem dK_init_29 : decode bK_init 29 = .ok (.bipush 9, 2) := by decide +kernel
theorem dK_init_31 : decode bK_init 31 = .ok (.newarray .int, 2) := by decide +kernel
theorem dK_init_33 : decode bK_init 33 = .ok (.putfield 19, 3) := by decide +kernel
theorem dK_init_36 : decode bK_init 36 = .ok (.aload_n 0, 1) := by decide +kernel
theorem dK_init_37 : decode bK_init 37 = .ok (.bipush 9, 2) := by decide +kernel
theorem dK_init_39 : decode bK_init 39 = .ok (.newarray .int, 2) := by decide +kernel
theorem dK_init_41 : decode bK_init 41 = .ok (.putfield 23, 3) := by decide +kernel
theorem dK_init_44 : decode bK_init 44 = .ok (.return_, 1) := by decide +kernel
theorem dR_init_0 : decode bR_init 0 = .ok (.aload_n 0, 1) := by decide +kernel
theorem dR_init_1 : decode bR_init 1 = .ok (.invokespecial 3, 3) := by decide +kernel
theorem dR_init_4 : decode bR_init 4 = .ok (.aload_n 0, 1) := by decide +kernel
theorem dR_init_5 : decode bR_init 5 = .ok (.new 9, 3) := by decide +kernel
theorem dR_init_8 : decode bR_init 8 = .ok (.dup, 1) := by decide +kernel
theorem dR_init_9 : decode bR_init 9 = .ok (.invokespecial 11, 3) := by decide +kernel
theorem dR_init_12 : decode bR_init 12 = .ok (.putfield 12, 3) := by decide +kernel
theorem dR_init_15 : decode bR_init 15 = .ok (.aload_n 0, 1) := by decide +kernel
theorem dR_init_16 : decode bR_init 16 = .ok (.new 9, 3) := by decide +kernel
theorem dR_init_19 : decode bR_init 19 = .ok (.dup, 1) := by decide +kernel
theorem dR_init_20 : decode bR_init 20 = .ok (.invokespecial 11, 3) := by decide +kernel
theorem dR_init_23 : decode bR_init 23 = .ok (.putfield 18, 3) := by decide +kernel
theorem dR_init_26 : decode bR_init 26 = .ok (.aload_n 0, 1) := by decide +kernel
theorem dR_init_27 : decode bR_init 27 = .ok (.iconst 3, 1) := by decide +kernel
theorem dR_init_28 : decode bR_init 28 = .ok (.newarray .int, 2) := by decide +kernel
theorem dR_init_30 : decode bR_init 30 = .ok (.putfield 21, 3) := by decide +kernel
theorem dR_init_33 : decode bR_init 33 = .ok (.aload_n 0, 1) := by decide +kernel
theorem dR_init_34 : decode bR_init 34 = .ok (.iconst 3, 1) := by decide +kernel
theorem dR_init_35 : decode bR_init 35 = .ok (.newarray .boolean, 2) := by decide +kernel
theorem dR_init_37 : decode bR_init 37 = .ok (.putfield 25, 3) := by decide +kernel
theorem dR_init_40 : decode bR_init 40 = .ok (.aload_n 0, 1) := by decide +kernel
theorem dR_init_41 : decode bR_init 41 = .ok (.iconst 0, 1) := by decide +kernel
theorem dR_init_42 : decode bR_init 42 = .ok (.putfield 29, 3) := by decide +kernel
theorem dR_init_45 : decode bR_init 45 = .ok (.aload_n 0, 1) := by decide +kernel
theorem dR_init_46 : decode bR_init 46 = .ok (.iconst 0, 1) := by decide +kernel
theorem dR_init_47 : decode bR_init 47 = .ok (.putfield 33, 3) := by decide +kernel
theorem dR_init_50 : decode bR_init 50 = .ok (.return_, 1) := by decide +kernel
theorem dM_init_0 : decode bM_init 0 = .ok (.aload_n 0, 1) := by decide +kernel
theorem dM_init_1 : decode bM_init 1 = .ok (.invokespecial 3, 3) := by decide +kernel
theorem dM_init_4 : decode bM_init 4 = .ok (.aload_n 0, 1) := by decide +kernel
theorem dM_init_5 : decode bM_init 5 = .ok (.bipush 6, 2) := by decide +kernel
theorem dM_init_7 : decode bM_init 7 = .ok (.newarray .int, 2) := by decide +kernel
theorem dM_init_9 : decode bM_init 9 = .ok (.putfield 9, 3) := by decide +kernel
theorem dM_init_12 : decode bM_init 12 = .ok (.aload_n 0, 1) := by decide +kernel
theorem dM_init_13 : decode bM_init 13 = .ok (.sipush 200, 3) := by decide +kernel
theorem dM_init_16 : decode bM_init 16 = .ok (.newarray .int, 2) := by decide +kernel
theorem dM_init_18 : decode bM_init 18 = .ok (.putfield 15, 3) := by decide +kernel
theorem dM_init_21 : decode bM_init 21 = .ok (.aload_n 0, 1) := by decide +kernel
theorem dM_init_22 : decode bM_init 22 = .ok (.iconst 0, 1) := by decide +kernel
theorem dM_init_23 : decode bM_init 23 = .ok (.putfield 18, 3) := by decide +kernel
theorem dM_init_26 : decode bM_init 26 = .ok (.return_, 1) := by decide +kernel
theorem dT_clear_0 : decode bT_clear 0 = .ok (.aload_n 0, 1) := by decide +kernel
theorem dT_clear_1 : decode bT_clear 1 = .ok (.getfield 12, 3) := by decide +kernel
theorem dT_clear_4 : decode bT_clear 4 = .ok (.invokevirtual 63, 3) := by decide +kernel
theorem dT_clear_7 : decode bT_clear 7 = .ok (.aload_n 0, 1) := by decide +kernel
theorem dT_clear_8 : decode bT_clear 8 = .ok (.iconst 0, 1) := by decide +kernel
theorem dT_clear_9 : decode bT_clear 9 = .ok (.putfield 40, 3) := by decide +kernel
theorem dT_clear_12 : decode bT_clear 12 = .ok (.return_, 1) := by decide +kernel
theorem dC_dropLines_0 : decode bC_dropLines 0 = .ok (.aload_n 0, 1) := by decide +kernel
theorem dC_dropLines_1 : decode bC_dropLines 1 = .ok (.iconst 0, 1) := by decide +kernel
theorem dC_dropLines_2 : decode bC_dropLines 2 = .ok (.putfield 16, 3) := by decide +kernel
theorem dC_dropLines_5 : decode bC_dropLines 5 = .ok (.return_, 1) := by decide +kernel
theorem dT_shorten_0 : decode bT_shorten 0 = .ok (.aload_n 0, 1) := by decide +kernel
theorem dT_shorten_1 : decode bT_shorten 1 = .ok (.getfield 16, 3) := by decide +kernel
theorem dT_shorten_4 : decode bT_shorten 4 = .ok (.aload_n 0, 1) := by decide +kernel
theorem dT_shorten_5 : decode bT_shorten 5 = .ok (.getfield 12, 3) := by decide +kernel
theorem dT_shorten_8 : decode bT_shorten 8 = .ok (.invokevirtual 66, 3) := by decide +kernel
theorem dT_shorten_11 : decode bT_shorten 11 = .ok (.aload_n 0, 1) := by decide +kernel
theorem dT_shorten_12 : decode bT_shorten 12 = .ok (.getfield 22, 3) := by decide +kernel
theorem dT_shorten_15 : decode bT_shorten 15 = .ok (.aload_n 0, 1) := by decide +kernel
theorem dT_shorten_16 : decode bT_shorten 16 = .ok (.getfield 16, 3) := by decide +kernel
theorem dT_shorten_19 : decode bT_shorten 19 = .ok (.invokevirtual 70, 3) := by decide +kernel
theorem dT_shorten_22 : decode bT_shorten 22 = .ok (.istore_n 1, 1) := by decide +kernel
theorem dT_shorten_23 : decode bT_shorten 23 = .ok (.aload_n 0, 1) := by decide +kernel
theorem dT_shorten_24 : decode bT_shorten 24 = .ok (.getfield 29, 3) := by decide +kernel
theorem dT_shorten_27 : decode bT_shorten 27 = .ok (.aload_n 0, 1) := by decide +kernel
theorem dT_shorten_28 : decode bT_shorten 28 = .ok (.getfield 12, 3) := by decide +kernel
theorem dT_shorten_31 : decode bT_shorten 31 = .ok (.aload_n 0, 1) := by decide +kernel
theorem dT_shorten_32 : decode bT_shorten 32 = .ok (.getfield 16, 3) := by decide +kernel
theorem dT_shorten_35 : decode bT_shorten 35 = .ok (.invokevirtual 74, 3) := by decide +kernel
theorem dT_shorten_38 : decode bT_shorten 38 = .ok (.aload_n 0, 1) := by decide +kernel
theorem dT_shorten_39 : decode bT_shorten 39 = .ok (.getfield 36, 3) := by decide +kernel
theorem dT_shorten_42 : decode bT_shorten 42 = .ok (.invokevirtual 78, 3) := by decide +kernel
theorem dT_shorten_45 : decode bT_shorten 45 = .ok (.aload_n 0, 1) := by decide +kernel
theorem dT_shorten_46 : decode bT_shorten 46 = .ok (.iconst 1, 1) := by decide +kernel
theorem dT_shorten_47 : decode bT_shorten 47 = .ok (.putfield 40, 3) := by decide +kernel
theorem dT_shorten_50 : decode bT_shorten 50 = .ok (.iload_n 1, 1) := by decide +kernel
theorem dT_shorten_51 : decode bT_shorten 51 = .ok (.ireturn, 1) := by decide +kernel
theorem dC_takeLines_0 : decode bC_takeLines 0 = .ok (.aload_n 0, 1) := by decide +kernel
theorem dC_takeLines_1 : decode bC_takeLines 1 = .ok (.aload_n 1, 1) := by decide +kernel
theorem dC_takeLines_2 : decode bC_takeLines 2 = .ok (.getfield 16, 3) := by decide +kernel
theorem dC_takeLines_5 : decode bC_takeLines 5 = .ok (.putfield 16, 3) := by decide +kernel
theorem dC_takeLines_8 : decode bC_takeLines 8 = .ok (.iconst 0, 1) := by decide +kernel
theorem dC_takeLines_9 : decode bC_takeLines 9 = .ok (.istore_n 2, 1) := by decide +kernel
theorem dC_takeLines_10 : decode bC_takeLines 10 = .ok (.iload_n 2, 1) := by decide +kernel
theorem dC_takeLines_11 : decode bC_takeLines 11 = .ok (.iconst 4, 1) := by decide +kernel
theorem dC_takeLines_12 : decode bC_takeLines 12 = .ok (.if_icmp .ge 30, 3) := by decide +kernel
theorem dC_takeLines_15 : decode bC_takeLines 15 = .ok (.aload_n 1, 1) := by decide +kernel
theorem dC_takeLines_16 : decode bC_takeLines 16 = .ok (.getfield 11, 3) := by decide +kernel
theorem dC_takeLines_19 : decode bC_takeLines 19 = .ok (.iload_n 2, 1) := by decide +kernel
theorem dC_takeLines_20 : decode bC_takeLines 20 = .ok (.aaload, 1) := by decide +kernel
theorem dC_takeLines_21 : decode bC_takeLines 21 = .ok (.iconst 0, 1) := by decide +kernel
theorem dC_takeLines_22 : decode bC_takeLines 22 = .ok (.aload_n 0, 1) := by decide +kernel
theorem dC_takeLines_23 : decode bC_takeLines 23 = .ok (.getfield 11, 3) := by decide +kernel
theorem dC_takeLines_26 : decode bC_takeLines 26 = .ok (.iload_n 2, 1) := by decide +kernel
theorem dC_takeLines_27 : decode bC_takeLines 27 = .ok (.aaload, 1) := by decide +kernel
theorem dC_takeLines_28 : decode bC_takeLines 28 = .ok (.iconst 0, 1) := by decide +kernel
theorem dC_takeLines_29 : decode bC_takeLines 29 = .ok (.aload_n 0, 1) := by decide +kernel
theorem dC_takeLines_30 : decode bC_takeLines 30 = .ok (.getfield 16, 3) := by decide +kernel
theorem dC_takeLines_33 : decode bC_takeLines 33 = .ok (.invokestatic 20, 3) := by decide +kernel
theorem dC_takeLines_36 : decode bC_takeLines 36 = .ok (.iinc 2 1, 3) := by decide +kernel
theorem dC_takeLines_39 : decode bC_takeLines 39 = .ok (.goto (-29), 3) := by decide +kernel
theorem dC_takeLines_42 : decode bC_takeLines 42 = .ok (.return_, 1) := by decide +kernel
theorem dS_changingRounds_0 : decode bS_changingRounds 0 = .ok (.iconst 0, 1) := by decide +kernel
theorem dS_changingRounds_1 : decode bS_changingRounds 1 = .ok (.istore_n 2, 1) := by decide +kernel
theorem dS_changingRounds_2 : decode bS_changingRounds 2 = .ok (.iconst 1, 1) := by decide +kernel
theorem dS_changingRounds_3 : decode bS_changingRounds 3 = .ok (.istore_n 3, 1) := by decide +kernel
theorem dS_changingRounds_4 : decode bS_changingRounds 4 = .ok (.iload_n 3, 1) := by decide +kernel
theorem dS_changingRounds_5 : decode bS_changingRounds 5 = .ok (.ifCond .eq 49, 3) := by decide +kernel
theorem dS_changingRounds_8 : decode bS_changingRounds 8 = .ok (.iload_n 2, 1) := by decide +kernel
theorem dS_changingRounds_9 : decode bS_changingRounds 9 = .ok (.ldc 22, 2) := by decide +kernel
theorem dS_changingRounds_11 : decode bS_changingRounds 11 = .ok (.if_icmp .ge 43, 3) := by decide +kernel
theorem dS_changingRounds_14 : decode bS_changingRounds 14 = .ok (.aload_n 0, 1) := by decide +kernel
theorem dS_changingRounds_15 : decode bS_changingRounds 15 = .ok (.aload_n 1, 1) := by decide +kernel
theorem dS_changingRounds_16 : decode bS_changingRounds 16 = .ok (.invokevirtual 23, 3) := by decide +kernel
theorem dS_changingRounds_19 : decode bS_changingRounds 19 = .ok (.istore 4, 2) := by decide +kernel
theorem dS_changingRounds_21 : decode bS_changingRounds 21 = .ok (.aload_n 0, 1) := by decide +kernel
theorem dS_changingRounds_22 : decode bS_changingRounds 22 = .ok (.aload_n 1, 1) := by decide +kernel
theorem dS_changingRounds_23 : decode bS_changingRounds 23 = .ok (.invokevirtual 27, 3) := by decide +kernel
theorem dS_changingRounds_26 : decode bS_changingRounds 26 = .ok (.istore 5, 2) := by decide +kernel
theorem dS_changingRounds_28 : decode bS_changingRounds 28 = .ok (.iload 4, 2) := by decide +kernel
theorem dS_changingRounds_30 : decode bS_changingRounds 30 = .ok (.ifCond .ne 8, 3) := by decide +kernel
theorem dS_changingRounds_33 : decode bS_changingRounds 33 = .ok (.iload 5, 2) := by decide +kernel
theorem dS_changingRounds_35 : decode bS_changingRounds 35 = .ok (.ifCond .eq 7, 3) := by decide +kernel
theorem dS_changingRounds_38 : decode bS_changingRounds 38 = .ok (.iconst 1, 1) := by decide +kernel
theorem dS_changingRounds_39 : decode bS_changingRounds 39 = .ok (.goto 4, 3) := by decide +kernel
theorem dS_changingRounds_42 : decode bS_changingRounds 42 = .ok (.iconst 0, 1) := by decide +kernel
theorem dS_changingRounds_43 : decode bS_changingRounds 43 = .ok (.istore_n 3, 1) := by decide +kernel
theorem dS_changingRounds_44 : decode bS_changingRounds 44 = .ok (.iload_n 3, 1) := by decide +kernel
theorem dS_changingRounds_45 : decode bS_changingRounds 45 = .ok (.ifCond .eq 6, 3) := by decide +kernel
theorem dS_changingRounds_48 : decode bS_changingRounds 48 = .ok (.iinc 2 1, 3) := by decide +kernel
theorem dS_changingRounds_51 : decode bS_changingRounds 51 = .ok (.goto (-47), 3) := by decide +kernel
theorem dS_changingRounds_54 : decode bS_changingRounds 54 = .ok (.iload_n 2, 1) := by decide +kernel
theorem dS_changingRounds_55 : decode bS_changingRounds 55 = .ok (.ireturn, 1) := by decide +kernel
theorem dS_passCopiesOn_0 : decode bS_passCopiesOn 0 = .ok (.aload_n 0, 1) := by decide +kernel
theorem dS_passCopiesOn_1 : decode bS_passCopiesOn 1 = .ok (.getfield 12, 3) := by decide +kernel
theorem dS_passCopiesOn_4 : decode bS_passCopiesOn 4 = .ok (.aload_n 1, 1) := by decide +kernel
theorem dS_passCopiesOn_5 : decode bS_passCopiesOn 5 = .ok (.invokevirtual 30, 3) := by decide +kernel
theorem dS_passCopiesOn_8 : decode bS_passCopiesOn 8 = .ok (.iconst 0, 1) := by decide +kernel
theorem dS_passCopiesOn_9 : decode bS_passCopiesOn 9 = .ok (.istore_n 2, 1) := by decide +kernel
theorem dS_passCopiesOn_10 : decode bS_passCopiesOn 10 = .ok (.iconst 0, 1) := by decide +kernel
theorem dS_passCopiesOn_11 : decode bS_passCopiesOn 11 = .ok (.istore_n 3, 1) := by decide +kernel
theorem dS_passCopiesOn_12 : decode bS_passCopiesOn 12 = .ok (.iload_n 3, 1) := by decide +kernel
theorem dS_passCopiesOn_13 : decode bS_passCopiesOn 13 = .ok (.aload_n 1, 1) := by decide +kernel
theorem dS_passCopiesOn_14 : decode bS_passCopiesOn 14 = .ok (.invokevirtual 34, 3) := by decide +kernel
theorem dS_passCopiesOn_17 : decode bS_passCopiesOn 17 = .ok (.if_icmp .ge 66, 3) := by decide +kernel
theorem dS_passCopiesOn_20 : decode bS_passCopiesOn 20 = .ok (.iconst 1, 1) := by decide +kernel
theorem dS_passCopiesOn_21 : decode bS_passCopiesOn 21 = .ok (.istore 4, 2) := by decide +kernel
theorem dS_passCopiesOn_23 : decode bS_passCopiesOn 23 = .ok (.iload 4, 2) := by decide +kernel
theorem dS_passCopiesOn_25 : decode bS_passCopiesOn 25 = .ok (.iconst 4, 1) := by decide +kernel
theorem dS_passCopiesOn_26 : decode bS_passCopiesOn 26 = .ok (.if_icmp .ge 20, 3) := by decide +kernel
theorem dS_passCopiesOn_29 : decode bS_passCopiesOn 29 = .ok (.iload_n 2, 1) := by decide +kernel
theorem dS_passCopiesOn_30 : decode bS_passCopiesOn 30 = .ok (.aload_n 0, 1) := by decide +kernel
theorem dS_passCopiesOn_31 : decode bS_passCopiesOn 31 = .ok (.aload_n 1, 1) := by decide +kernel
theorem dS_passCopiesOn_32 : decode bS_passCopiesOn 32 = .ok (.iload_n 3, 1) := by decide +kernel
theorem dS_passCopiesOn_33 : decode bS_passCopiesOn 33 = .ok (.iload 4, 2) := by decide +kernel
theorem dS_passCopiesOn_35 : decode bS_passCopiesOn 35 = .ok (.invokevirtual 40, 3) := by decide +kernel
theorem dS_passCopiesOn_38 : decode bS_passCopiesOn 38 = .ok (.ior, 1) := by decide +kernel
theorem dS_passCopiesOn_39 : decode bS_passCopiesOn 39 = .ok (.istore_n 2, 1) := by decide +kernel
theorem dS_passCopiesOn_40 : decode bS_passCopiesOn 40 = .ok (.iinc 4 1, 3) := by decide +kernel
theorem dS_passCopiesOn_43 : decode bS_passCopiesOn 43 = .ok (.goto (-20), 3) := by decide +kernel
theorem dS_passCopiesOn_46 : decode bS_passCopiesOn 46 = .ok (.aload_n 1, 1) := by decide +kernel
theorem dS_passCopiesOn_47 : decode bS_passCopiesOn 47 = .ok (.iload_n 3, 1) := by decide +kernel
theorem dS_passCopiesOn_48 : decode bS_passCopiesOn 48 = .ok (.invokevirtual 44, 3) := by decide +kernel
theorem dS_passCopiesOn_51 : decode bS_passCopiesOn 51 = .ok (.iconst 1, 1) := by decide +kernel
theorem dS_passCopiesOn_52 : decode bS_passCopiesOn 52 = .ok (.if_icmp .ne 25, 3) := by decide +kernel
theorem dS_passCopiesOn_55 : decode bS_passCopiesOn 55 = .ok (.aload_n 1, 1) := by decide +kernel
theorem dS_passCopiesOn_56 : decode bS_passCopiesOn 56 = .ok (.iload_n 3, 1) := by decide +kernel
theorem dS_passCopiesOn_57 : decode bS_passCopiesOn 57 = .ok (.iconst 1, 1) := by decide +kernel
theorem dS_passCopiesOn_58 : decode bS_passCopiesOn 58 = .ok (.invokevirtual 48, 3) := by decide +kernel
theorem dS_passCopiesOn_61 : decode bS_passCopiesOn 61 = .ok (.aload_n 1, 1) := by decide +kernel
theorem dS_passCopiesOn_62 : decode bS_passCopiesOn 62 = .ok (.iload_n 3, 1) := by decide +kernel
theorem dS_passCopiesOn_63 : decode bS_passCopiesOn 63 = .ok (.iconst 2, 1) := by decide +kernel
theorem dS_passCopiesOn_64 : decode bS_passCopiesOn 64 = .ok (.invokevirtual 48, 3) := by decide +kernel
theorem dS_passCopiesOn_67 : decode bS_passCopiesOn 67 = .ok (.if_icmp .ne 10, 3) := by decide +kernel
theorem dS_passCopiesOn_70 : decode bS_passCopiesOn 70 = .ok (.aload_n 1, 1) := by decide +kernel
theorem dS_passCopiesOn_71 : decode bS_passCopiesOn 71 = .ok (.iload_n 3, 1) := by decide +kernel
theorem dS_passCopiesOn_72 : decode bS_passCopiesOn 72 = .ok (.invokevirtual 52, 3) := by decide +kernel
theorem dS_passCopiesOn_75 : decode bS_passCopiesOn 75 = .ok (.iconst 1, 1) := by decide +kernel
theorem dS_passCopiesOn_76 : decode bS_passCopiesOn 76 = .ok (.istore_n 2, 1) := by decide +kernel
theorem dS_passCopiesOn_77 : decode bS_passCopiesOn 77 = .ok (.iinc 3 1, 3) := by decide +kernel
theorem dS_passCopiesOn_80 : decode bS_passCopiesOn 80 = .ok (.goto (-68), 3) := by decide +kernel
theorem dS_passCopiesOn_83 : decode bS_passCopiesOn 83 = .ok (.iload_n 2, 1) := by decide +kernel
theorem dS_passCopiesOn_84 : decode bS_passCopiesOn 84 = .ok (.ireturn, 1) := by decide +kernel
theorem dP_find_0 : decode bP_find 0 = .ok (.iconst 0, 1) := by decide +kernel
theorem dP_find_1 : decode bP_find 1 = .ok (.istore_n 2, 1) := by decide +kernel
theorem dP_find_2 : decode bP_find 2 = .ok (.iload_n 2, 1) := by decide +kernel
theorem dP_find_3 : decode bP_find 3 = .ok (.bipush 6, 2) := by decide +kernel
theorem dP_find_5 : decode bP_find 5 = .ok (.if_icmp .ge 18, 3) := by decide +kernel
theorem dP_find_8 : decode bP_find 8 = .ok (.aload_n 0, 1) := by decide +kernel
theorem dP_find_9 : decode bP_find 9 = .ok (.getfield 11, 3) := by decide +kernel
theorem dP_find_12 : decode bP_find 12 = .ok (.iload_n 2, 1) := by decide +kernel
theorem dP_find_13 : decode bP_find 13 = .ok (.aaload, 1) := by decide +kernel
theorem dP_find_14 : decode bP_find 14 = .ok (.iconst 0, 1) := by decide +kernel
theorem dP_find_15 : decode bP_find 15 = .ok (.iconst (-1), 1) := by decide +kernel
theorem dP_find_16 : decode bP_find 16 = .ok (.iastore, 1) := by decide +kernel
theorem dP_find_17 : decode bP_find 17 = .ok (.iinc 2 1, 3) := by decide +kernel
theorem dP_find_20 : decode bP_find 20 = .ok (.goto (-18), 3) := by decide +kernel
theorem dP_find_23 : decode bP_find 23 = .ok (.aload_n 0, 1) := by decide +kernel
theorem dP_find_24 : decode bP_find 24 = .ok (.aload_n 1, 1) := by decide +kernel
theorem dP_find_25 : decode bP_find 25 = .ok (.aload_n 1, 1) := by decide +kernel
theorem dP_find_26 : decode bP_find 26 = .ok (.invokevirtual 20, 3) := by decide +kernel
theorem dP_find_29 : decode bP_find 29 = .ok (.return_, 1) := by decide +kernel
theorem dF_settle_0 : decode bF_settle 0 = .ok (.iconst 0, 1) := by decide +kernel
theorem dF_settle_1 : decode bF_settle 1 = .ok (.istore_n 3, 1) := by decide +kernel
theorem dF_settle_2 : decode bF_settle 2 = .ok (.iload_n 3, 1) := by decide +kernel
theorem dF_settle_3 : decode bF_settle 3 = .ok (.aload_n 2, 1) := by decide +kernel
theorem dF_settle_4 : decode bF_settle 4 = .ok (.invokevirtual 9, 3) := by decide +kernel
theorem dF_settle_7 : decode bF_settle 7 = .ok (.if_icmp .ge 23, 3) := by decide +kernel
theorem dF_settle_10 : decode bF_settle 10 = .ok (.aload_n 0, 1) := by decide +kernel
theorem dF_settle_11 : decode bF_settle 11 = .ok (.aload_n 1, 1) := by decide +kernel
theorem dF_settle_12 : decode bF_settle 12 = .ok (.aload_n 2, 1) := by decide +kernel
theorem dF_settle_13 : decode bF_settle 13 = .ok (.iload_n 3, 1) := by decide +kernel
theorem dF_settle_14 : decode bF_settle 14 = .ok (.invokevirtual 15, 3) := by decide +kernel
theorem dF_settle_17 : decode bF_settle 17 = .ok (.aload_n 0, 1) := by decide +kernel
theorem dF_settle_18 : decode bF_settle 18 = .ok (.iload_n 3, 1) := by decide +kernel
theorem dF_settle_19 : decode bF_settle 19 = .ok (.iconst 1, 1) := by decide +kernel
theorem dF_settle_20 : decode bF_settle 20 = .ok (.iadd, 1) := by decide +kernel
theorem dF_settle_21 : decode bF_settle 21 = .ok (.invokevirtual 21, 3) := by decide +kernel
theorem dF_settle_24 : decode bF_settle 24 = .ok (.iinc 3 1, 3) := by decide +kernel
theorem dF_settle_27 : decode bF_settle 27 = .ok (.goto (-25), 3) := by decide +kernel
theorem dF_settle_30 : decode bF_settle 30 = .ok (.iconst 1, 1) := by decide +kernel
theorem dF_settle_31 : decode bF_settle 31 = .ok (.istore_n 3, 1) := by decide +kernel
theorem dF_settle_32 : decode bF_settle 32 = .ok (.iconst 0, 1) := by decide +kernel
theorem dF_settle_33 : decode bF_settle 33 = .ok (.istore 4, 2) := by decide +kernel
theorem dF_settle_35 : decode bF_settle 35 = .ok (.iload_n 3, 1) := by decide +kernel
theorem dF_settle_36 : decode bF_settle 36 = .ok (.ifCond .eq 68, 3) := by decide +kernel
theorem dF_settle_39 : decode bF_settle 39 = .ok (.iload 4, 2) := by decide +kernel
theorem dF_settle_41 : decode bF_settle 41 = .ok (.ldc 25, 2) := by decide +kernel
theorem dF_settle_43 : decode bF_settle 43 = .ok (.if_icmp .ge 61, 3) := by decide +kernel
theorem dF_settle_46 : decode bF_settle 46 = .ok (.iconst 0, 1) := by decide +kernel
theorem dF_settle_47 : decode bF_settle 47 = .ok (.istore_n 3, 1) := by decide +kernel
theorem dF_settle_48 : decode bF_settle 48 = .ok (.iconst 0, 1) := by decide +kernel
theorem dF_settle_49 : decode bF_settle 49 = .ok (.istore 5, 2) := by decide +kernel
theorem dF_settle_51 : decode bF_settle 51 = .ok (.iload 5, 2) := by decide +kernel
theorem dF_settle_53 : decode bF_settle 53 = .ok (.aload_n 2, 1) := by decide +kernel
theorem dF_settle_54 : decode bF_settle 54 = .ok (.invokevirtual 9, 3) := by decide +kernel
theorem dF_settle_57 : decode bF_settle 57 = .ok (.if_icmp .ge 41, 3) := by decide +kernel
theorem dF_settle_60 : decode bF_settle 60 = .ok (.aload_n 0, 1) := by decide +kernel
theorem dF_settle_61 : decode bF_settle 61 = .ok (.aload_n 1, 1) := by decide +kernel
theorem dF_settle_62 : decode bF_settle 62 = .ok (.aload_n 2, 1) := by decide +kernel
theorem dF_settle_63 : decode bF_settle 63 = .ok (.iload 5, 2) := by decide +kernel
theorem dF_settle_65 : decode bF_settle 65 = .ok (.invokevirtual 15, 3) := by decide +kernel
theorem dF_settle_68 : decode bF_settle 68 = .ok (.iload_n 3, 1) := by decide +kernel
theorem dF_settle_69 : decode bF_settle 69 = .ok (.aload_n 0, 1) := by decide +kernel
theorem dF_settle_70 : decode bF_settle 70 = .ok (.iload 5, 2) := by decide +kernel
theorem dF_settle_72 : decode bF_settle 72 = .ok (.iconst 1, 1) := by decide +kernel
theorem dF_settle_73 : decode bF_settle 73 = .ok (.iadd, 1) := by decide +kernel
theorem dF_settle_74 : decode bF_settle 74 = .ok (.invokevirtual 26, 3) := by decide +kernel
theorem dF_settle_77 : decode bF_settle 77 = .ok (.ior, 1) := by decide +kernel
theorem dF_settle_78 : decode bF_settle 78 = .ok (.istore_n 3, 1) := by decide +kernel
theorem dF_settle_79 : decode bF_settle 79 = .ok (.iload_n 3, 1) := by decide +kernel
theorem dF_settle_80 : decode bF_settle 80 = .ok (.aload_n 0, 1) := by decide +kernel
theorem dF_settle_81 : decode bF_settle 81 = .ok (.aload_n 2, 1) := by decide +kernel
theorem dF_settle_82 : decode bF_settle 82 = .ok (.iload 5, 2) := by decide +kernel
theorem dF_settle_84 : decode bF_settle 84 = .ok (.invokevirtual 30, 3) := by decide +kernel
theorem dF_settle_87 : decode bF_settle 87 = .ok (.invokevirtual 26, 3) := by decide +kernel
theorem dF_settle_90 : decode bF_settle 90 = .ok (.ior, 1) := by decide +kernel
theorem dF_settle_91 : decode bF_settle 91 = .ok (.istore_n 3, 1) := by decide +kernel
theorem dF_settle_92 : decode bF_settle 92 = .ok (.iinc 5 1, 3) := by decide +kernel
theorem dF_settle_95 : decode bF_settle 95 = .ok (.goto (-44), 3) := by decide +kernel
theorem dF_settle_98 : decode bF_settle 98 = .ok (.iinc 4 1, 3) := by decide +kernel
theorem dF_settle_101 : decode bF_settle 101 = .ok (.goto (-66), 3) := by decide +kernel
theorem dF_settle_104 : decode bF_settle 104 = .ok (.return_, 1) := by decide +kernel
theorem dC_size_0 : decode bC_size 0 = .ok (.aload_n 0, 1) := by decide +kernel
theorem dC_size_1 : decode bC_size 1 = .ok (.getfield 16, 3) := by decide +kernel
theorem dC_size_4 : decode bC_size 4 = .ok (.ireturn, 1) := by decide +kernel
theorem dK_follow_0 : decode bK_follow 0 = .ok (.iconst 0, 1) := by decide +kernel
theorem dK_follow_1 : decode bK_follow 1 = .ok (.istore 4, 2) := by decide +kernel
theorem dK_follow_3 : decode bK_follow 3 = .ok (.iload 4, 2) := by decide +kernel
theorem dK_follow_5 : decode bK_follow 5 = .ok (.bipush 9, 2) := by decide +kernel
theorem dK_follow_7 : decode bK_follow 7 = .ok (.if_icmp .ge 46, 3) := by decide +kernel
theorem dK_follow_10 : decode bK_follow 10 = .ok (.aload_n 0, 1) := by decide +kernel
theorem dK_follow_11 : decode bK_follow 11 = .ok (.getfield 19, 3) := by decide +kernel
theorem dK_follow_14 : decode bK_follow 14 = .ok (.iload 4, 2) := by decide +kernel
theorem dK_follow_16 : decode bK_follow 16 = .ok (.aload_n 0, 1) := by decide +kernel
theorem dK_follow_17 : decode bK_follow 17 = .ok (.getfield 13, 3) := by decide +kernel
theorem dK_follow_20 : decode bK_follow 20 = .ok (.iload 4, 2) := by decide +kernel
theorem dK_follow_22 : decode bK_follow 22 = .ok (.aaload, 1) := by decide +kernel
theorem dK_follow_23 : decode bK_follow 23 = .ok (.iload_n 3, 1) := by decide +kernel
theorem dK_follow_24 : decode bK_follow 24 = .ok (.iaload, 1) := by decide +kernel
theorem dK_follow_25 : decode bK_follow 25 = .ok (.aload_n 2, 1) := by decide +kernel
theorem dK_follow_26 : decode bK_follow 26 = .ok (.iload_n 3, 1) := by decide +kernel
theorem dK_follow_27 : decode bK_follow 27 = .ok (.invokestatic 30, 3) := by decide +kernel
theorem dK_follow_30 : decode bK_follow 30 = .ok (.iastore, 1) := by decide +kernel
theorem dK_follow_31 : decode bK_follow 31 = .ok (.aload_n 0, 1) := by decide +kernel
theorem dK_follow_32 : decode bK_follow 32 = .ok (.getfield 23, 3) := by decide +kernel
theorem dK_follow_35 : decode bK_follow 35 = .ok (.iload 4, 2) := by decide +kernel
theorem dK_follow_37 : decode bK_follow 37 = .ok (.aload_n 0, 1) := by decide +kernel
theorem dK_follow_38 : decode bK_follow 38 = .ok (.getfield 16, 3) := by decide +kernel
theorem dK_follow_41 : decode bK_follow 41 = .ok (.iload 4, 2) := by decide +kernel
theorem dK_follow_43 : decode bK_follow 43 = .ok (.aaload, 1) := by decide +kernel
theorem dK_follow_44 : decode bK_follow 44 = .ok (.iload_n 3, 1) := by decide +kernel
theorem dK_follow_45 : decode bK_follow 45 = .ok (.iaload, 1) := by decide +kernel
theorem dK_follow_46 : decode bK_follow 46 = .ok (.iastore, 1) := by decide +kernel
theorem dK_follow_47 : decode bK_follow 47 = .ok (.iinc 4 1, 3) := by decide +kernel
theorem dK_follow_50 : decode bK_follow 50 = .ok (.goto (-47), 3) := by decide +kernel
theorem dK_follow_53 : decode bK_follow 53 = .ok (.aload_n 1, 1) := by decide +kernel
theorem dK_follow_54 : decode bK_follow 54 = .ok (.iload_n 3, 1) := by decide +kernel
theorem dK_follow_55 : decode bK_follow 55 = .ok (.iconst 1, 1) := by decide +kernel
theorem dK_follow_56 : decode bK_follow 56 = .ok (.invokevirtual 34, 3) := by decide +kernel
theorem dK_follow_59 : decode bK_follow 59 = .ok (.istore 4, 2) := by decide +kernel
theorem dK_follow_61 : decode bK_follow 61 = .ok (.aload_n 1, 1) := by decide +kernel
theorem dK_follow_62 : decode bK_follow 62 = .ok (.iload_n 3, 1) := by decide +kernel
theorem dK_follow_63 : decode bK_follow 63 = .ok (.iconst 2, 1) := by decide +kernel
theorem dK_follow_64 : decode bK_follow 64 = .ok (.invokevirtual 34, 3) := by decide +kernel
theorem dK_follow_67 : decode bK_follow 67 = .ok (.istore 5, 2) := by decide +kernel
theorem dK_follow_69 : decode bK_follow 69 = .ok (.aload_n 2, 1) := by decide +kernel
theorem dK_follow_70 : decode bK_follow 70 = .ok (.iload_n 3, 1) := by decide +kernel
theorem dK_follow_71 : decode bK_follow 71 = .ok (.invokevirtual 40, 3) := by decide +kernel
theorem dK_follow_74 : decode bK_follow 74 = .ok (.ifCond .eq 7, 3) := by decide +kernel
theorem dK_follow_77 : decode bK_follow 77 = .ok (.iconst 0, 1) := by decide +kernel
theorem dK_follow_78 : decode bK_follow 78 = .ok (.goto 7, 3) := by decide +kernel
theorem dK_follow_81 : decode bK_follow 81 = .ok (.iconst 1, 1) := by decide +kernel
theorem dK_follow_82 : decode bK_follow 82 = .ok (.iload 4, 2) := by decide +kernel
theorem dK_follow_84 : decode bK_follow 84 = .ok (.ishl, 1) := by decide +kernel
theorem dK_follow_85 : decode bK_follow 85 = .ok (.istore 6, 2) := by decide +kernel
theorem dK_follow_87 : decode bK_follow 87 = .ok (.aload_n 1, 1) := by decide +kernel
theorem dK_follow_88 : decode bK_follow 88 = .ok (.iload_n 3, 1) := by decide +kernel
theorem dK_follow_89 : decode bK_follow 89 = .ok (.invokevirtual 44, 3) := by decide +kernel
theorem dK_follow_92 : decode bK_follow 92 = .ok (.tableswitch 147 0 5 #[40, 64, 98, 147, 147, 110], 40) := by decide +kernel
theorem dK_follow_132 : decode bK_follow 132 = .ok (.aload_n 0, 1) := by decide +kernel
theorem dK_follow_133 : decode bK_follow 133 = .ok (.getfield 19, 3) := by decide +kernel
theorem dK_follow_136 : decode bK_follow 136 = .ok (.iload 4, 2) := by decide +kernel
theorem dK_follow_138 : decode bK_follow 138 = .ok (.iload 6, 2) := by decide +kernel
theorem dK_follow_140 : decode bK_follow 140 = .ok (.bipush 64, 2) := by decide +kernel
theorem dK_follow_142 : decode bK_follow 142 = .ok (.ior, 1) := by decide +kernel
theorem dK_follow_143 : decode bK_follow 143 = .ok (.iastore, 1) := by decide +kernel
theorem dK_follow_144 : decode bK_follow 144 = .ok (.aload_n 0, 1) := by decide +kernel
theorem dK_follow_145 : decode bK_follow 145 = .ok (.getfield 23, 3) := by decide +kernel
theorem dK_follow_148 : decode bK_follow 148 = .ok (.iload 4, 2) := by decide +kernel
theorem dK_follow_150 : decode bK_follow 150 = .ok (.iload 5, 2) := by decide +kernel
theorem dK_follow_152 : decode bK_follow 152 = .ok (.iastore, 1) := by decide +kernel
theorem dK_follow_153 : decode bK_follow 153 = .ok (.goto 86, 3) := by decide +kernel
theorem dK_follow_156 : decode bK_follow 156 = .ok (.aload_n 0, 1) := by decide +kernel
theorem dK_follow_157 : decode bK_follow 157 = .ok (.getfield 19, 3) := by decide +kernel
theorem dK_follow_160 : decode bK_follow 160 = .ok (.iload 4, 2) := by decide +kernel
theorem dK_follow_162 : decode bK_follow 162 = .ok (.aload_n 0, 1) := by decide +kernel
theorem dK_follow_163 : decode bK_follow 163 = .ok (.getfield 19, 3) := by decide +kernel
theorem dK_follow_166 : decode bK_follow 166 = .ok (.iload 5, 2) := by decide +kernel
theorem dK_follow_168 : decode bK_follow 168 = .ok (.iaload, 1) := by decide +kernel
theorem dK_follow_169 : decode bK_follow 169 = .ok (.iload 6, 2) := by decide +kernel
theorem dK_follow_171 : decode bK_follow 171 = .ok (.ior, 1) := by decide +kernel
theorem dK_follow_172 : decode bK_follow 172 = .ok (.iastore, 1) := by decide +kernel
theorem dK_follow_173 : decode bK_follow 173 = .ok (.aload_n 0, 1) := by decide +kernel
theorem dK_follow_174 : decode bK_follow 174 = .ok (.getfield 23, 3) := by decide +kernel
theorem dK_follow_177 : decode bK_follow 177 = .ok (.iload 4, 2) := by decide +kernel
theorem dK_follow_179 : decode bK_follow 179 = .ok (.aload_n 0, 1) := by decide +kernel
theorem dK_follow_180 : decode bK_follow 180 = .ok (.getfield 23, 3) := by decide +kernel
theorem dK_follow_183 : decode bK_follow 183 = .ok (.iload 5, 2) := by decide +kernel
theorem dK_follow_185 : decode bK_follow 185 = .ok (.iaload, 1) := by decide +kernel
theorem dK_follow_186 : decode bK_follow 186 = .ok (.iastore, 1) := by decide +kernel
theorem dK_follow_187 : decode bK_follow 187 = .ok (.goto 52, 3) := by decide +kernel
theorem dK_follow_190 : decode bK_follow 190 = .ok (.aload_n 0, 1) := by decide +kernel
theorem dK_follow_191 : decode bK_follow 191 = .ok (.getfield 19, 3) := by decide +kernel
theorem dK_follow_194 : decode bK_follow 194 = .ok (.iload 4, 2) := by decide +kernel
theorem dK_follow_196 : decode bK_follow 196 = .ok (.iload 6, 2) := by decide +kernel
theorem dK_follow_198 : decode bK_follow 198 = .ok (.iastore, 1) := by decide +kernel
theorem dK_follow_199 : decode bK_follow 199 = .ok (.goto 40, 3) := by decide +kernel
theorem dK_follow_202 : decode bK_follow 202 = .ok (.aload_n 0, 1) := by decide +kernel
theorem dK_follow_203 : decode bK_follow 203 = .ok (.getfield 19, 3) := by decide +kernel
theorem dK_follow_206 : decode bK_follow 206 = .ok (.bipush 6, 2) := by decide +kernel
theorem dK_follow_208 : decode bK_follow 208 = .ok (.iload 4, 2) := by decide +kernel
theorem dK_follow_210 : decode bK_follow 210 = .ok (.iadd, 1) := by decide +kernel
theorem dK_follow_211 : decode bK_follow 211 = .ok (.aload_n 0, 1) := by decide +kernel
theorem dK_follow_212 : decode bK_follow 212 = .ok (.getfield 19, 3) := by decide +kernel
theorem dK_follow_215 : decode bK_follow 215 = .ok (.iload 5, 2) := by decide +kernel
theorem dK_follow_217 : decode bK_follow 217 = .ok (.iaload, 1) := by decide +kernel
theorem dK_follow_218 : decode bK_follow 218 = .ok (.iastore, 1) := by decide +kernel
theorem dK_follow_219 : decode bK_follow 219 = .ok (.aload_n 0, 1) := by decide +kernel
theorem dK_follow_220 : decode bK_follow 220 = .ok (.getfield 23, 3) := by decide +kernel
theorem dK_follow_223 : decode bK_follow 223 = .ok (.bipush 6, 2) := by decide +kernel
theorem dK_follow_225 : decode bK_follow 225 = .ok (.iload 4, 2) := by decide +kernel
theorem dK_follow_227 : decode bK_follow 227 = .ok (.iadd, 1) := by decide +kernel
theorem dK_follow_228 : decode bK_follow 228 = .ok (.aload_n 0, 1) := by decide +kernel
theorem dK_follow_229 : decode bK_follow 229 = .ok (.getfield 23, 3) := by decide +kernel
theorem dK_follow_232 : decode bK_follow 232 = .ok (.iload 5, 2) := by decide +kernel
theorem dK_follow_234 : decode bK_follow 234 = .ok (.iaload, 1) := by decide +kernel
theorem dK_follow_235 : decode bK_follow 235 = .ok (.iastore, 1) := by decide +kernel
theorem dK_follow_236 : decode bK_follow 236 = .ok (.goto 3, 3) := by decide +kernel
theorem dK_follow_239 : decode bK_follow 239 = .ok (.return_, 1) := by decide +kernel
theorem dK_behindShortLine_0 : decode bK_behindShortLine 0 = .ok (.aload_n 1, 1) := by decide +kernel
theorem dK_behindShortLine_1 : decode bK_behindShortLine 1 = .ok (.iload_n 2, 1) := by decide +kernel
theorem dK_behindShortLine_2 : decode bK_behindShortLine 2 = .ok (.invokevirtual 48, 3) := by decide +kernel
theorem dK_behindShortLine_5 : decode bK_behindShortLine 5 = .ok (.istore_n 3, 1) := by decide +kernel
theorem dK_behindShortLine_6 : decode bK_behindShortLine 6 = .ok (.iload_n 3, 1) := by decide +kernel
theorem dK_behindShortLine_7 : decode bK_behindShortLine 7 = .ok (.iconst (-1), 1) := by decide +kernel
theorem dK_behindShortLine_8 : decode bK_behindShortLine 8 = .ok (.if_icmp .ne 5, 3) := by decide +kernel
theorem dK_behindShortLine_11 : decode bK_behindShortLine 11 = .ok (.iload_n 0, 1) := by decide +kernel
theorem dK_behindShortLine_12 : decode bK_behindShortLine 12 = .ok (.ireturn, 1) := by decide +kernel
theorem dK_behindShortLine_13 : decode bK_behindShortLine 13 = .ok (.aload_n 1, 1) := by decide +kernel
theorem dK_behindShortLine_14 : decode bK_behindShortLine 14 = .ok (.iload_n 2, 1) := by decide +kernel
theorem dK_behindShortLine_15 : decode bK_behindShortLine 15 = .ok (.invokevirtual 44, 3) := by decide +kernel
theorem dK_behindShortLine_18 : decode bK_behindShortLine 18 = .ok (.iconst 1, 1) := by decide +kernel
theorem dK_behindShortLine_19 : decode bK_behindShortLine 19 = .ok (.if_icmp .ne 22, 3) := by decide +kernel
theorem dK_behindShortLine_22 : decode bK_behindShortLine 22 = .ok (.iload_n 0, 1) := by decide +kernel
theorem dK_behindShortLine_23 : decode bK_behindShortLine 23 = .ok (.aload_n 1, 1) := by decide +kernel
theorem dK_behindShortLine_24 : decode bK_behindShortLine 24 = .ok (.iload_n 2, 1) := by decide +kernel
theorem dK_behindShortLine_25 : decode bK_behindShortLine 25 = .ok (.iconst 2, 1) := by decide +kernel
theorem dK_behindShortLine_26 : decode bK_behindShortLine 26 = .ok (.invokevirtual 34, 3) := by decide +kernel
theorem dK_behindShortLine_29 : decode bK_behindShortLine 29 = .ok (.ishr, 1) := by decide +kernel
theorem dK_behindShortLine_30 : decode bK_behindShortLine 30 = .ok (.iconst 1, 1) := by decide +kernel
theorem dK_behindShortLine_31 : decode bK_behindShortLine 31 = .ok (.iand, 1) := by decide +kernel
theorem dK_behindShortLine_32 : decode bK_behindShortLine 32 = .ok (.ifCond .eq 9, 3) := by decide +kernel
theorem dK_behindShortLine_35 : decode bK_behindShortLine 35 = .ok (.iload_n 0, 1) := by decide +kernel
theorem dK_behindShortLine_36 : decode bK_behindShortLine 36 = .ok (.iconst 1, 1) := by decide +kernel
theorem dK_behindShortLine_37 : decode bK_behindShortLine 37 = .ok (.iload_n 3, 1) := by decide +kernel
theorem dK_behindShortLine_38 : decode bK_behindShortLine 38 = .ok (.ishl, 1) := by decide +kernel
theorem dK_behindShortLine_39 : decode bK_behindShortLine 39 = .ok (.ior, 1) := by decide +kernel
theorem dK_behindShortLine_40 : decode bK_behindShortLine 40 = .ok (.ireturn, 1) := by decide +kernel
theorem dK_behindShortLine_41 : decode bK_behindShortLine 41 = .ok (.iload_n 0, 1) := by decide +kernel
theorem dK_behindShortLine_42 : decode bK_behindShortLine 42 = .ok (.iconst 1, 1) := by decide +kernel
theorem dK_behindShortLine_43 : decode bK_behindShortLine 43 = .ok (.iload_n 3, 1) := by decide +kernel
theorem dK_behindShortLine_44 : decode bK_behindShortLine 44 = .ok (.ishl, 1) := by decide +kernel
theorem dK_behindShortLine_45 : decode bK_behindShortLine 45 = .ok (.iconst (-1), 1) := by decide +kernel
theorem dK_behindShortLine_46 : decode bK_behindShortLine 46 = .ok (.ixor, 1) := by decide +kernel
theorem dK_behindShortLine_47 : decode bK_behindShortLine 47 = .ok (.iand, 1) := by decide +kernel
theorem dK_behindShortLine_48 : decode bK_behindShortLine 48 = .ok (.ireturn, 1) := by decide +kernel
theorem dC_written_0 : decode bC_written 0 = .ok (.aload_n 0, 1) := by decide +kernel
theorem dC_written_1 : decode bC_written 1 = .ok (.getfield 11, 3) := by decide +kernel
theorem dC_written_4 : decode bC_written 4 = .ok (.iconst 0, 1) := by decide +kernel
theorem dC_written_5 : decode bC_written 5 = .ok (.aaload, 1) := by decide +kernel
theorem dC_written_6 : decode bC_written 6 = .ok (.iload_n 1, 1) := by decide +kernel
theorem dC_written_7 : decode bC_written 7 = .ok (.iaload, 1) := by decide +kernel
theorem dC_written_8 : decode bC_written 8 = .ok (.istore_n 2, 1) := by decide +kernel
theorem dC_written_9 : decode bC_written 9 = .ok (.iload_n 2, 1) := by decide +kernel
theorem dC_written_10 : decode bC_written 10 = .ok (.ifCond .eq 13, 3) := by decide +kernel
theorem dC_written_13 : decode bC_written 13 = .ok (.iload_n 2, 1) := by decide +kernel
theorem dC_written_14 : decode bC_written 14 = .ok (.iconst 1, 1) := by decide +kernel
theorem dC_written_15 : decode bC_written 15 = .ok (.if_icmp .eq 8, 3) := by decide +kernel
theorem dC_written_18 : decode bC_written 18 = .ok (.iload_n 2, 1) := by decide +kernel
theorem dC_written_19 : decode bC_written 19 = .ok (.iconst 2, 1) := by decide +kernel
theorem dC_written_20 : decode bC_written 20 = .ok (.if_icmp .ne 14, 3) := by decide +kernel
theorem dC_written_23 : decode bC_written 23 = .ok (.aload_n 0, 1) := by decide +kernel
theorem dC_written_24 : decode bC_written 24 = .ok (.getfield 11, 3) := by decide +kernel
theorem dC_written_27 : decode bC_written 27 = .ok (.iconst 1, 1) := by decide +kernel
theorem dC_written_28 : decode bC_written 28 = .ok (.aaload, 1) := by decide +kernel
theorem dC_written_29 : decode bC_written 29 = .ok (.iload_n 1, 1) := by decide +kernel
theorem dC_written_30 : decode bC_written 30 = .ok (.iaload, 1) := by decide +kernel
theorem dC_written_31 : decode bC_written 31 = .ok (.goto 4, 3) := by decide +kernel
theorem dC_written_34 : decode bC_written 34 = .ok (.iconst (-1), 1) := by decide +kernel
theorem dC_written_35 : decode bC_written 35 = .ok (.ireturn, 1) := by decide +kernel
theorem dC_kind_0 : decode bC_kind 0 = .ok (.aload_n 0, 1) := by decide +kernel
theorem dC_kind_1 : decode bC_kind 1 = .ok (.getfield 11, 3) := by decide +kernel
theorem dC_kind_4 : decode bC_kind 4 = .ok (.iconst 0, 1) := by decide +kernel
theorem dC_kind_5 : decode bC_kind 5 = .ok (.aaload, 1) := by decide +kernel
theorem dC_kind_6 : decode bC_kind 6 = .ok (.iload_n 1, 1) := by decide +kernel
theorem dC_kind_7 : decode bC_kind 7 = .ok (.iaload, 1) := by decide +kernel
theorem dC_kind_8 : decode bC_kind 8 = .ok (.ireturn, 1) := by decide +kernel
theorem dC_number_0 : decode bC_number 0 = .ok (.aload_n 0, 1) := by decide +kernel
theorem dC_number_1 : decode bC_number 1 = .ok (.getfield 11, 3) := by decide +kernel
theorem dC_number_4 : decode bC_number 4 = .ok (.iload_n 2, 1) := by decide +kernel
theorem dC_number_5 : decode bC_number 5 = .ok (.aaload, 1) := by decide +kernel
theorem dC_number_6 : decode bC_number 6 = .ok (.iload_n 1, 1) := by decide +kernel
theorem dC_number_7 : decode bC_number 7 = .ok (.iaload, 1) := by decide +kernel
theorem dC_number_8 : decode bC_number 8 = .ok (.ireturn, 1) := by decide +kernel
theorem dC_isEmpty_0 : decode bC_isEmpty 0 = .ok (.aload_n 0, 1) := by decide +kernel
theorem dC_isEmpty_1 : decode bC_isEmpty 1 = .ok (.getfield 11, 3) := by decide +kernel
theorem dC_isEmpty_4 : decode bC_isEmpty 4 = .ok (.iconst 0, 1) := by decide +kernel
theorem dC_isEmpty_5 : decode bC_isEmpty 5 = .ok (.aaload, 1) := by decide +kernel
theorem dC_isEmpty_6 : decode bC_isEmpty 6 = .ok (.iload_n 1, 1) := by decide +kernel
theorem dC_isEmpty_7 : decode bC_isEmpty 7 = .ok (.iaload, 1) := by decide +kernel
theorem dC_isEmpty_8 : decode bC_isEmpty 8 = .ok (.iconst (-1), 1) := by decide +kernel
theorem dC_isEmpty_9 : decode bC_isEmpty 9 = .ok (.if_icmp .ne 7, 3) := by decide +kernel
theorem dC_isEmpty_12 : decode bC_isEmpty 12 = .ok (.iconst 1, 1) := by decide +kernel
theorem dC_isEmpty_13 : decode bC_isEmpty 13 = .ok (.goto 4, 3) := by decide +kernel
theorem dC_isEmpty_16 : decode bC_isEmpty 16 = .ok (.iconst 0, 1) := by decide +kernel
theorem dC_isEmpty_17 : decode bC_isEmpty 17 = .ok (.ireturn, 1) := by decide +kernel
theorem dP_follow_0 : decode bP_follow 0 = .ok (.aload_n 2, 1) := by decide +kernel
theorem dP_follow_1 : decode bP_follow 1 = .ok (.iload_n 3, 1) := by decide +kernel
theorem dP_follow_2 : decode bP_follow 2 = .ok (.invokevirtual 24, 3) := by decide +kernel
theorem dP_follow_5 : decode bP_follow 5 = .ok (.istore 4, 2) := by decide +kernel
theorem dP_follow_7 : decode bP_follow 7 = .ok (.iconst 0, 1) := by decide +kernel
theorem dP_follow_8 : decode bP_follow 8 = .ok (.istore 5, 2) := by decide +kernel
theorem dP_follow_10 : decode bP_follow 10 = .ok (.iload 5, 2) := by decide +kernel
theorem dP_follow_12 : decode bP_follow 12 = .ok (.bipush 6, 2) := by decide +kernel
theorem dP_follow_14 : decode bP_follow 14 = .ok (.if_icmp .ge 47, 3) := by decide +kernel
theorem dP_follow_17 : decode bP_follow 17 = .ok (.aload_n 0, 1) := by decide +kernel
theorem dP_follow_18 : decode bP_follow 18 = .ok (.getfield 11, 3) := by decide +kernel
theorem dP_follow_21 : decode bP_follow 21 = .ok (.iload 5, 2) := by decide +kernel
theorem dP_follow_23 : decode bP_follow 23 = .ok (.aaload, 1) := by decide +kernel
theorem dP_follow_24 : decode bP_follow 24 = .ok (.iload_n 3, 1) := by decide +kernel
theorem dP_follow_25 : decode bP_follow 25 = .ok (.iaload, 1) := by decide +kernel
theorem dP_follow_26 : decode bP_follow 26 = .ok (.istore 6, 2) := by decide +kernel
theorem dP_follow_28 : decode bP_follow 28 = .ok (.aload_n 0, 1) := by decide +kernel
theorem dP_follow_29 : decode bP_follow 29 = .ok (.getfield 16, 3) := by decide +kernel
theorem dP_follow_32 : decode bP_follow 32 = .ok (.iload 5, 2) := by decide +kernel
theorem dP_follow_34 : decode bP_follow 34 = .ok (.iload 5, 2) := by decide +kernel
theorem dP_follow_36 : decode bP_follow 36 = .ok (.iload 4, 2) := by decide +kernel
theorem dP_follow_38 : decode bP_follow 38 = .ok (.if_icmp .eq 10, 3) := by decide +kernel
theorem dP_follow_41 : decode bP_follow 41 = .ok (.iload 6, 2) := by decide +kernel
theorem dP_follow_43 : decode bP_follow 43 = .ok (.iload 4, 2) := by decide +kernel
theorem dP_follow_45 : decode bP_follow 45 = .ok (.if_icmp .ne 7, 3) := by decide +kernel
theorem dP_follow_48 : decode bP_follow 48 = .ok (.iconst (-1), 1) := by decide +kernel
theorem dP_follow_49 : decode bP_follow 49 = .ok (.goto 5, 3) := by decide +kernel
theorem dP_follow_52 : decode bP_follow 52 = .ok (.iload 6, 2) := by decide +kernel
theorem dP_follow_54 : decode bP_follow 54 = .ok (.iastore, 1) := by decide +kernel
theorem dP_follow_55 : decode bP_follow 55 = .ok (.iinc 5 1, 3) := by decide +kernel
theorem dP_follow_58 : decode bP_follow 58 = .ok (.goto (-48), 3) := by decide +kernel
theorem dP_follow_61 : decode bP_follow 61 = .ok (.aload_n 2, 1) := by decide +kernel
theorem dP_follow_62 : decode bP_follow 62 = .ok (.iload_n 3, 1) := by decide +kernel
theorem dP_follow_63 : decode bP_follow 63 = .ok (.invokevirtual 30, 3) := by decide +kernel
theorem dP_follow_66 : decode bP_follow 66 = .ok (.iconst 1, 1) := by decide +kernel
theorem dP_follow_67 : decode bP_follow 67 = .ok (.if_icmp .ne 27, 3) := by decide +kernel
theorem dP_follow_70 : decode bP_follow 70 = .ok (.aload_n 2, 1) := by decide +kernel
theorem dP_follow_71 : decode bP_follow 71 = .ok (.iload_n 3, 1) := by decide +kernel
theorem dP_follow_72 : decode bP_follow 72 = .ok (.iconst 2, 1) := by decide +kernel
theorem dP_follow_73 : decode bP_follow 73 = .ok (.invokevirtual 33, 3) := by decide +kernel
theorem dP_follow_76 : decode bP_follow 76 = .ok (.iload 4, 2) := by decide +kernel
theorem dP_follow_78 : decode bP_follow 78 = .ok (.if_icmp .eq 16, 3) := by decide +kernel
theorem dP_follow_81 : decode bP_follow 81 = .ok (.aload_n 0, 1) := by decide +kernel
theorem dP_follow_82 : decode bP_follow 82 = .ok (.getfield 16, 3) := by decide +kernel
theorem dP_follow_85 : decode bP_follow 85 = .ok (.iload 4, 2) := by decide +kernel
theorem dP_follow_87 : decode bP_follow 87 = .ok (.aload_n 2, 1) := by decide +kernel
theorem dP_follow_88 : decode bP_follow 88 = .ok (.iload_n 3, 1) := by decide +kernel
theorem dP_follow_89 : decode bP_follow 89 = .ok (.iconst 2, 1) := by decide +kernel
theorem dP_follow_90 : decode bP_follow 90 = .ok (.invokevirtual 33, 3) := by decide +kernel
theorem dP_follow_93 : decode bP_follow 93 = .ok (.iastore, 1) := by decide +kernel
theorem dP_follow_94 : decode bP_follow 94 = .ok (.return_, 1) := by decide +kernel
theorem dK_put_0 : decode bK_put 0 = .ok (.iconst 0, 1) := by decide +kernel
theorem dK_put_1 : decode bK_put 1 = .ok (.istore_n 2, 1) := by decide +kernel
theorem dK_put_2 : decode bK_put 2 = .ok (.iload_n 2, 1) := by decide +kernel
theorem dK_put_3 : decode bK_put 3 = .ok (.bipush 9, 2) := by decide +kernel
theorem dK_put_5 : decode bK_put 5 = .ok (.if_icmp .ge 37, 3) := by decide +kernel
theorem dK_put_8 : decode bK_put 8 = .ok (.aload_n 0, 1) := by decide +kernel
theorem dK_put_9 : decode bK_put 9 = .ok (.getfield 13, 3) := by decide +kernel
theorem dK_put_12 : decode bK_put 12 = .ok (.iload_n 2, 1) := by decide +kernel
theorem dK_put_13 : decode bK_put 13 = .ok (.aaload, 1) := by decide +kernel
theorem dK_put_14 : decode bK_put 14 = .ok (.iload_n 1, 1) := by decide +kernel
theorem dK_put_15 : decode bK_put 15 = .ok (.aload_n 0, 1) := by decide +kernel
theorem dK_put_16 : decode bK_put 16 = .ok (.getfield 19, 3) := by decide +kernel
theorem dK_put_19 : decode bK_put 19 = .ok (.iload_n 2, 1) := by decide +kernel
theorem dK_put_20 : decode bK_put 20 = .ok (.iaload, 1) := by decide +kernel
theorem dK_put_21 : decode bK_put 21 = .ok (.iastore, 1) := by decide +kernel
theorem dK_put_22 : decode bK_put 22 = .ok (.aload_n 0, 1) := by decide +kernel
theorem dK_put_23 : decode bK_put 23 = .ok (.getfield 16, 3) := by decide +kernel
theorem dK_put_26 : decode bK_put 26 = .ok (.iload_n 2, 1) := by decide +kernel
theorem dK_put_27 : decode bK_put 27 = .ok (.aaload, 1) := by decide +kernel
theorem dK_put_28 : decode bK_put 28 = .ok (.iload_n 1, 1) := by decide +kernel
theorem dK_put_29 : decode bK_put 29 = .ok (.aload_n 0, 1) := by decide +kernel
theorem dK_put_30 : decode bK_put 30 = .ok (.getfield 23, 3) := by decide +kernel
theorem dK_put_33 : decode bK_put 33 = .ok (.iload_n 2, 1) := by decide +kernel
theorem dK_put_34 : decode bK_put 34 = .ok (.iaload, 1) := by decide +kernel
theorem dK_put_35 : decode bK_put 35 = .ok (.iastore, 1) := by decide +kernel
theorem dK_put_36 : decode bK_put 36 = .ok (.iinc 2 1, 3) := by decide +kernel
theorem dK_put_39 : decode bK_put 39 = .ok (.goto (-37), 3) := by decide +kernel
theorem dK_put_42 : decode bK_put 42 = .ok (.return_, 1) := by decide +kernel
theorem dP_put_0 : decode bP_put 0 = .ok (.iconst 0, 1) := by decide +kernel
theorem dP_put_1 : decode bP_put 1 = .ok (.istore_n 2, 1) := by decide +kernel
theorem dP_put_2 : decode bP_put 2 = .ok (.iload_n 2, 1) := by decide +kernel
theorem dP_put_3 : decode bP_put 3 = .ok (.bipush 6, 2) := by decide +kernel
theorem dP_put_5 : decode bP_put 5 = .ok (.if_icmp .ge 23, 3) := by decide +kernel
theorem dP_put_8 : decode bP_put 8 = .ok (.aload_n 0, 1) := by decide +kernel
theorem dP_put_9 : decode bP_put 9 = .ok (.getfield 11, 3) := by decide +kernel
theorem dP_put_12 : decode bP_put 12 = .ok (.iload_n 2, 1) := by decide +kernel
theorem dP_put_13 : decode bP_put 13 = .ok (.aaload, 1) := by decide +kernel
theorem dP_put_14 : decode bP_put 14 = .ok (.iload_n 1, 1) := by decide +kernel
theorem dP_put_15 : decode bP_put 15 = .ok (.aload_n 0, 1) := by decide +kernel
theorem dP_put_16 : decode bP_put 16 = .ok (.getfield 16, 3) := by decide +kernel
theorem dP_put_19 : decode bP_put 19 = .ok (.iload_n 2, 1) := by decide +kernel
theorem dP_put_20 : decode bP_put 20 = .ok (.iaload, 1) := by decide +kernel
theorem dP_put_21 : decode bP_put 21 = .ok (.iastore, 1) := by decide +kernel
theorem dP_put_22 : decode bP_put 22 = .ok (.iinc 2 1, 3) := by decide +kernel
theorem dP_put_25 : decode bP_put 25 = .ok (.goto (-23), 3) := by decide +kernel
theorem dP_put_28 : decode bP_put 28 = .ok (.return_, 1) := by decide +kernel
theorem dK_narrow_0 : decode bK_narrow 0 = .ok (.iconst 0, 1) := by decide +kernel
theorem dK_narrow_1 : decode bK_narrow 1 = .ok (.istore_n 2, 1) := by decide +kernel
theorem dK_narrow_2 : decode bK_narrow 2 = .ok (.iconst 0, 1) := by decide +kernel
theorem dK_narrow_3 : decode bK_narrow 3 = .ok (.istore_n 3, 1) := by decide +kernel
theorem dK_narrow_4 : decode bK_narrow 4 = .ok (.iload_n 3, 1) := by decide +kernel
theorem dK_narrow_5 : decode bK_narrow 5 = .ok (.bipush 9, 2) := by decide +kernel
theorem dK_narrow_7 : decode bK_narrow 7 = .ok (.if_icmp .ge 81, 3) := by decide +kernel
theorem dK_narrow_10 : decode bK_narrow 10 = .ok (.aload_n 0, 1) := by decide +kernel
theorem dK_narrow_11 : decode bK_narrow 11 = .ok (.getfield 13, 3) := by decide +kernel
theorem dK_narrow_14 : decode bK_narrow 14 = .ok (.iload_n 3, 1) := by decide +kernel
theorem dK_narrow_15 : decode bK_narrow 15 = .ok (.aaload, 1) := by decide +kernel
theorem dK_narrow_16 : decode bK_narrow 16 = .ok (.iload_n 1, 1) := by decide +kernel
theorem dK_narrow_17 : decode bK_narrow 17 = .ok (.iaload, 1) := by decide +kernel
theorem dK_narrow_18 : decode bK_narrow 18 = .ok (.aload_n 0, 1) := by decide +kernel
theorem dK_narrow_19 : decode bK_narrow 19 = .ok (.getfield 19, 3) := by decide +kernel
theorem dK_narrow_22 : decode bK_narrow 22 = .ok (.iload_n 3, 1) := by decide +kernel
theorem dK_narrow_23 : decode bK_narrow 23 = .ok (.iaload, 1) := by decide +kernel
theorem dK_narrow_24 : decode bK_narrow 24 = .ok (.iand, 1) := by decide +kernel
theorem dK_narrow_25 : decode bK_narrow 25 = .ok (.istore 4, 2) := by decide +kernel
theorem dK_narrow_27 : decode bK_narrow 27 = .ok (.aload_n 0, 1) := by decide +kernel
theorem dK_narrow_28 : decode bK_narrow 28 = .ok (.getfield 16, 3) := by decide +kernel
theorem dK_narrow_31 : decode bK_narrow 31 = .ok (.iload_n 3, 1) := by decide +kernel
theorem dK_narrow_32 : decode bK_narrow 32 = .ok (.aaload, 1) := by decide +kernel
theorem dK_narrow_33 : decode bK_narrow 33 = .ok (.iload_n 1, 1) := by decide +kernel
theorem dK_narrow_34 : decode bK_narrow 34 = .ok (.iaload, 1) := by decide +kernel
theorem dK_narrow_35 : decode bK_narrow 35 = .ok (.aload_n 0, 1) := by decide +kernel
theorem dK_narrow_36 : decode bK_narrow 36 = .ok (.getfield 23, 3) := by decide +kernel
theorem dK_narrow_39 : decode bK_narrow 39 = .ok (.iload_n 3, 1) := by decide +kernel
theorem dK_narrow_40 : decode bK_narrow 40 = .ok (.iaload, 1) := by decide +kernel
theorem dK_narrow_41 : decode bK_narrow 41 = .ok (.if_icmp .eq 10, 3) := by decide +kernel
theorem dK_narrow_44 : decode bK_narrow 44 = .ok (.iload 4, 2) := by decide +kernel
theorem dK_narrow_46 : decode bK_narrow 46 = .ok (.bipush (-65), 2) := by decide +kernel
theorem dK_narrow_48 : decode bK_narrow 48 = .ok (.iand, 1) := by decide +kernel
theorem dK_narrow_49 : decode bK_narrow 49 = .ok (.istore 4, 2) := by decide +kernel
theorem dK_narrow_51 : decode bK_narrow 51 = .ok (.iload_n 2, 1) := by decide +kernel
theorem dK_narrow_52 : decode bK_narrow 52 = .ok (.iload 4, 2) := by decide +kernel
theorem dK_narrow_54 : decode bK_narrow 54 = .ok (.aload_n 0, 1) := by decide +kernel
theorem dK_narrow_55 : decode bK_narrow 55 = .ok (.getfield 13, 3) := by decide +kernel
theorem dK_narrow_58 : decode bK_narrow 58 = .ok (.iload_n 3, 1) := by decide +kernel
theorem dK_narrow_59 : decode bK_narrow 59 = .ok (.aaload, 1) := by decide +kernel
theorem dK_narrow_60 : decode bK_narrow 60 = .ok (.iload_n 1, 1) := by decide +kernel
theorem dK_narrow_61 : decode bK_narrow 61 = .ok (.iaload, 1) := by decide +kernel
theorem dK_narrow_62 : decode bK_narrow 62 = .ok (.if_icmp .eq 7, 3) := by decide +kernel
theorem dK_narrow_65 : decode bK_narrow 65 = .ok (.iconst 1, 1) := by decide +kernel
theorem dK_narrow_66 : decode bK_narrow 66 = .ok (.goto 4, 3) := by decide +kernel
theorem dK_narrow_69 : decode bK_narrow 69 = .ok (.iconst 0, 1) := by decide +kernel
theorem dK_narrow_70 : decode bK_narrow 70 = .ok (.ior, 1) := by decide +kernel
theorem dK_narrow_71 : decode bK_narrow 71 = .ok (.istore_n 2, 1) := by decide +kernel
theorem dK_narrow_72 : decode bK_narrow 72 = .ok (.aload_n 0, 1) := by decide +kernel
theorem dK_narrow_73 : decode bK_narrow 73 = .ok (.getfield 13, 3) := by decide +kernel
theorem dK_narrow_76 : decode bK_narrow 76 = .ok (.iload_n 3, 1) := by decide +kernel
theorem dK_narrow_77 : decode bK_narrow 77 = .ok (.aaload, 1) := by decide +kernel
theorem dK_narrow_78 : decode bK_narrow 78 = .ok (.iload_n 1, 1) := by decide +kernel
theorem dK_narrow_79 : decode bK_narrow 79 = .ok (.iload 4, 2) := by decide +kernel
theorem dK_narrow_81 : decode bK_narrow 81 = .ok (.iastore, 1) := by decide +kernel
theorem dK_narrow_82 : decode bK_narrow 82 = .ok (.iinc 3 1, 3) := by decide +kernel
theorem dK_narrow_85 : decode bK_narrow 85 = .ok (.goto (-81), 3) := by decide +kernel
theorem dK_narrow_88 : decode bK_narrow 88 = .ok (.iload_n 2, 1) := by decide +kernel
theorem dK_narrow_89 : decode bK_narrow 89 = .ok (.ireturn, 1) := by decide +kernel
theorem dP_narrow_0 : decode bP_narrow 0 = .ok (.iconst 0, 1) := by decide +kernel
theorem dP_narrow_1 : decode bP_narrow 1 = .ok (.istore_n 2, 1) := by decide +kernel
theorem dP_narrow_2 : decode bP_narrow 2 = .ok (.iconst 0, 1) := by decide +kernel
theorem dP_narrow_3 : decode bP_narrow 3 = .ok (.istore_n 3, 1) := by decide +kernel
theorem dP_narrow_4 : decode bP_narrow 4 = .ok (.iload_n 3, 1) := by decide +kernel
theorem dP_narrow_5 : decode bP_narrow 5 = .ok (.bipush 6, 2) := by decide +kernel
theorem dP_narrow_7 : decode bP_narrow 7 = .ok (.if_icmp .ge 49, 3) := by decide +kernel
theorem dP_narrow_10 : decode bP_narrow 10 = .ok (.aload_n 0, 1) := by decide +kernel
theorem dP_narrow_11 : decode bP_narrow 11 = .ok (.getfield 11, 3) := by decide +kernel
theorem dP_narrow_14 : decode bP_narrow 14 = .ok (.iload_n 3, 1) := by decide +kernel
theorem dP_narrow_15 : decode bP_narrow 15 = .ok (.aaload, 1) := by decide +kernel
theorem dP_narrow_16 : decode bP_narrow 16 = .ok (.iload_n 1, 1) := by decide +kernel
theorem dP_narrow_17 : decode bP_narrow 17 = .ok (.iaload, 1) := by decide +kernel
theorem dP_narrow_18 : decode bP_narrow 18 = .ok (.iconst (-1), 1) := by decide +kernel
theorem dP_narrow_19 : decode bP_narrow 19 = .ok (.if_icmp .eq 31, 3) := by decide +kernel
theorem dP_narrow_22 : decode bP_narrow 22 = .ok (.aload_n 0, 1) := by decide +kernel
theorem dP_narrow_23 : decode bP_narrow 23 = .ok (.getfield 11, 3) := by decide +kernel
theorem dP_narrow_26 : decode bP_narrow 26 = .ok (.iload_n 3, 1) := by decide +kernel
theorem dP_narrow_27 : decode bP_narrow 27 = .ok (.aaload, 1) := by decide +kernel
theorem dP_narrow_28 : decode bP_narrow 28 = .ok (.iload_n 1, 1) := by decide +kernel
theorem dP_narrow_29 : decode bP_narrow 29 = .ok (.iaload, 1) := by decide +kernel
theorem dP_narrow_30 : decode bP_narrow 30 = .ok (.aload_n 0, 1) := by decide +kernel
theorem dP_narrow_31 : decode bP_narrow 31 = .ok (.getfield 16, 3) := by decide +kernel
theorem dP_narrow_34 : decode bP_narrow 34 = .ok (.iload_n 3, 1) := by decide +kernel
theorem dP_narrow_35 : decode bP_narrow 35 = .ok (.iaload, 1) := by decide +kernel
theorem dP_narrow_36 : decode bP_narrow 36 = .ok (.if_icmp .eq 14, 3) := by decide +kernel
theorem dP_narrow_39 : decode bP_narrow 39 = .ok (.aload_n 0, 1) := by decide +kernel
theorem dP_narrow_40 : decode bP_narrow 40 = .ok (.getfield 11, 3) := by decide +kernel
theorem dP_narrow_43 : decode bP_narrow 43 = .ok (.iload_n 3, 1) := by decide +kernel
theorem dP_narrow_44 : decode bP_narrow 44 = .ok (.aaload, 1) := by decide +kernel
theorem dP_narrow_45 : decode bP_narrow 45 = .ok (.iload_n 1, 1) := by decide +kernel
theorem dP_narrow_46 : decode bP_narrow 46 = .ok (.iconst (-1), 1) := by decide +kernel
theorem dP_narrow_47 : decode bP_narrow 47 = .ok (.iastore, 1) := by decide +kernel
theorem dP_narrow_48 : decode bP_narrow 48 = .ok (.iconst 1, 1) := by decide +kernel
theorem dP_narrow_49 : decode bP_narrow 49 = .ok (.istore_n 2, 1) := by decide +kernel
theorem dP_narrow_50 : decode bP_narrow 50 = .ok (.iinc 3 1, 3) := by decide +kernel
theorem dP_narrow_53 : decode bP_narrow 53 = .ok (.goto (-49), 3) := by decide +kernel
theorem dP_narrow_56 : decode bP_narrow 56 = .ok (.iload_n 2, 1) := by decide +kernel
theorem dP_narrow_57 : decode bP_narrow 57 = .ok (.ireturn, 1) := by decide +kernel
theorem dC_target_0 : decode bC_target 0 = .ok (.aload_n 0, 1) := by decide +kernel
theorem dC_target_1 : decode bC_target 1 = .ok (.getfield 11, 3) := by decide +kernel
theorem dC_target_4 : decode bC_target 4 = .ok (.iconst 0, 1) := by decide +kernel
theorem dC_target_5 : decode bC_target 5 = .ok (.aaload, 1) := by decide +kernel
theorem dC_target_6 : decode bC_target 6 = .ok (.iload_n 1, 1) := by decide +kernel
theorem dC_target_7 : decode bC_target 7 = .ok (.iaload, 1) := by decide +kernel
theorem dC_target_8 : decode bC_target 8 = .ok (.iconst 4, 1) := by decide +kernel
theorem dC_target_9 : decode bC_target 9 = .ok (.if_icmp .eq 7, 3) := by decide +kernel
theorem dC_target_12 : decode bC_target 12 = .ok (.iload_n 1, 1) := by decide +kernel
theorem dC_target_13 : decode bC_target 13 = .ok (.iconst 1, 1) := by decide +kernel
theorem dC_target_14 : decode bC_target 14 = .ok (.iadd, 1) := by decide +kernel
theorem dC_target_15 : decode bC_target 15 = .ok (.ireturn, 1) := by decide +kernel
theorem dC_target_16 : decode bC_target 16 = .ok (.aload_n 0, 1) := by decide +kernel
theorem dC_target_17 : decode bC_target 17 = .ok (.getfield 11, 3) := by decide +kernel
theorem dC_target_20 : decode bC_target 20 = .ok (.iconst 2, 1) := by decide +kernel
theorem dC_target_21 : decode bC_target 21 = .ok (.aaload, 1) := by decide +kernel
theorem dC_target_22 : decode bC_target 22 = .ok (.iload_n 1, 1) := by decide +kernel
theorem dC_target_23 : decode bC_target 23 = .ok (.iaload, 1) := by decide +kernel
theorem dC_target_24 : decode bC_target 24 = .ok (.aload_n 0, 1) := by decide +kernel
theorem dC_target_25 : decode bC_target 25 = .ok (.getfield 16, 3) := by decide +kernel
theorem dC_target_28 : decode bC_target 28 = .ok (.if_icmp .ge 14, 3) := by decide +kernel
theorem dC_target_31 : decode bC_target 31 = .ok (.aload_n 0, 1) := by decide +kernel
theorem dC_target_32 : decode bC_target 32 = .ok (.getfield 11, 3) := by decide +kernel
theorem dC_target_35 : decode bC_target 35 = .ok (.iconst 2, 1) := by decide +kernel
theorem dC_target_36 : decode bC_target 36 = .ok (.aaload, 1) := by decide +kernel
theorem dC_target_37 : decode bC_target 37 = .ok (.iload_n 1, 1) := by decide +kernel
theorem dC_target_38 : decode bC_target 38 = .ok (.iaload, 1) := by decide +kernel
theorem dC_target_39 : decode bC_target 39 = .ok (.goto 7, 3) := by decide +kernel
theorem dC_target_42 : decode bC_target 42 = .ok (.aload_n 0, 1) := by decide +kernel
theorem dC_target_43 : decode bC_target 43 = .ok (.getfield 16, 3) := by decide +kernel
theorem dC_target_46 : decode bC_target 46 = .ok (.ireturn, 1) := by decide +kernel
theorem dS_passOneOn_0 : decode bS_passOneOn 0 = .ok (.aload_n 1, 1) := by decide +kernel
theorem dS_passOneOn_1 : decode bS_passOneOn 1 = .ok (.iload_n 2, 1) := by decide +kernel
theorem dS_passOneOn_2 : decode bS_passOneOn 2 = .ok (.iload_n 3, 1) := by decide +kernel
theorem dS_passOneOn_3 : decode bS_passOneOn 3 = .ok (.invokevirtual 56, 3) := by decide +kernel
theorem dS_passOneOn_6 : decode bS_passOneOn 6 = .ok (.ifCond .ne 5, 3) := by decide +kernel
theorem dS_passOneOn_9 : decode bS_passOneOn 9 = .ok (.iconst 0, 1) := by decide +kernel
theorem dS_passOneOn_10 : decode bS_passOneOn 10 = .ok (.ireturn, 1) := by decide +kernel
theorem dS_passOneOn_11 : decode bS_passOneOn 11 = .ok (.aload_n 0, 1) := by decide +kernel
theorem dS_passOneOn_12 : decode bS_passOneOn 12 = .ok (.getfield 12, 3) := by decide +kernel
theorem dS_passOneOn_15 : decode bS_passOneOn 15 = .ok (.iload_n 2, 1) := by decide +kernel
theorem dS_passOneOn_16 : decode bS_passOneOn 16 = .ok (.aload_n 1, 1) := by decide +kernel
theorem dS_passOneOn_17 : decode bS_passOneOn 17 = .ok (.iload_n 2, 1) := by decide +kernel
theorem dS_passOneOn_18 : decode bS_passOneOn 18 = .ok (.iload_n 3, 1) := by decide +kernel
theorem dS_passOneOn_19 : decode bS_passOneOn 19 = .ok (.invokevirtual 48, 3) := by decide +kernel
theorem dS_passOneOn_22 : decode bS_passOneOn 22 = .ok (.invokevirtual 60, 3) := by decide +kernel
theorem dS_passOneOn_25 : decode bS_passOneOn 25 = .ok (.istore 4, 2) := by decide +kernel
theorem dS_passOneOn_27 : decode bS_passOneOn 27 = .ok (.iload 4, 2) := by decide +kernel
theorem dS_passOneOn_29 : decode bS_passOneOn 29 = .ok (.iconst (-1), 1) := by decide +kernel
theorem dS_passOneOn_30 : decode bS_passOneOn 30 = .ok (.if_icmp .ne 5, 3) := by decide +kernel
theorem dS_passOneOn_33 : decode bS_passOneOn 33 = .ok (.iconst 0, 1) := by decide +kernel
theorem dS_passOneOn_34 : decode bS_passOneOn 34 = .ok (.ireturn, 1) := by decide +kernel
theorem dS_passOneOn_35 : decode bS_passOneOn 35 = .ok (.aload_n 1, 1) := by decide +kernel
theorem dS_passOneOn_36 : decode bS_passOneOn 36 = .ok (.iload_n 2, 1) := by decide +kernel
theorem dS_passOneOn_37 : decode bS_passOneOn 37 = .ok (.iload_n 3, 1) := by decide +kernel
theorem dS_passOneOn_38 : decode bS_passOneOn 38 = .ok (.iload 4, 2) := by decide +kernel
theorem dS_passOneOn_40 : decode bS_passOneOn 40 = .ok (.invokevirtual 63, 3) := by decide +kernel
theorem dS_passOneOn_43 : decode bS_passOneOn 43 = .ok (.iconst 1, 1) := by decide +kernel
theorem dS_passOneOn_44 : decode bS_passOneOn 44 = .ok (.ireturn, 1) := by decide +kernel
theorem dC_readsAt_0 : decode bC_readsAt 0 = .ok (.aload_n 0, 1) := by decide +kernel
theorem dC_readsAt_1 : decode bC_readsAt 1 = .ok (.getfield 11, 3) := by decide +kernel
theorem dC_readsAt_4 : decode bC_readsAt 4 = .ok (.iconst 0, 1) := by decide +kernel
theorem dC_readsAt_5 : decode bC_readsAt 5 = .ok (.aaload, 1) := by decide +kernel
theorem dC_readsAt_6 : decode bC_readsAt 6 = .ok (.iload_n 1, 1) := by decide +kernel
theorem dC_readsAt_7 : decode bC_readsAt 7 = .ok (.iaload, 1) := by decide +kernel
theorem dC_readsAt_8 : decode bC_readsAt 8 = .ok (.istore_n 3, 1) := by decide +kernel
theorem dC_readsAt_9 : decode bC_readsAt 9 = .ok (.iload_n 3, 1) := by decide +kernel
theorem dC_readsAt_10 : decode bC_readsAt 10 = .ok (.iconst (-1), 1) := by decide +kernel
theorem dC_readsAt_11 : decode bC_readsAt 11 = .ok (.if_icmp .eq 19, 3) := by decide +kernel
theorem dC_readsAt_14 : decode bC_readsAt 14 = .ok (.getstatic 30, 3) := by decide +kernel
theorem dC_readsAt_17 : decode bC_readsAt 17 = .ok (.iload_n 3, 1) := by decide +kernel
theorem dC_readsAt_18 : decode bC_readsAt 18 = .ok (.iaload, 1) := by decide +kernel
theorem dC_readsAt_19 : decode bC_readsAt 19 = .ok (.iload_n 2, 1) := by decide +kernel
theorem dC_readsAt_20 : decode bC_readsAt 20 = .ok (.ishr, 1) := by decide +kernel
theorem dC_readsAt_21 : decode bC_readsAt 21 = .ok (.iconst 1, 1) := by decide +kernel
theorem dC_readsAt_22 : decode bC_readsAt 22 = .ok (.iand, 1) := by decide +kernel
theorem dC_readsAt_23 : decode bC_readsAt 23 = .ok (.ifCond .eq 7, 3) := by decide +kernel
theorem dC_readsAt_26 : decode bC_readsAt 26 = .ok (.iconst 1, 1) := by decide +kernel
theorem dC_readsAt_27 : decode bC_readsAt 27 = .ok (.goto 4, 3) := by decide +kernel
theorem dC_readsAt_30 : decode bC_readsAt 30 = .ok (.iconst 0, 1) := by decide +kernel
theorem dC_readsAt_31 : decode bC_readsAt 31 = .ok (.ireturn, 1) := by decide +kernel
theorem dP_origin_0 : decode bP_origin 0 = .ok (.aload_n 0, 1) := by decide +kernel
theorem dP_origin_1 : decode bP_origin 1 = .ok (.getfield 11, 3) := by decide +kernel
theorem dP_origin_4 : decode bP_origin 4 = .ok (.iload_n 2, 1) := by decide +kernel
theorem dP_origin_5 : decode bP_origin 5 = .ok (.aaload, 1) := by decide +kernel
theorem dP_origin_6 : decode bP_origin 6 = .ok (.iload_n 1, 1) := by decide +kernel
theorem dP_origin_7 : decode bP_origin 7 = .ok (.iaload, 1) := by decide +kernel
theorem dP_origin_8 : decode bP_origin 8 = .ok (.ireturn, 1) := by decide +kernel
theorem dC_readInstead_0 : decode bC_readInstead 0 = .ok (.aload_n 0, 1) := by decide +kernel
theorem dC_readInstead_1 : decode bC_readInstead 1 = .ok (.getfield 11, 3) := by decide +kernel
theorem dC_readInstead_4 : decode bC_readInstead 4 = .ok (.iload_n 2, 1) := by decide +kernel
theorem dC_readInstead_5 : decode bC_readInstead 5 = .ok (.aaload, 1) := by decide +kernel
theorem dC_readInstead_6 : decode bC_readInstead 6 = .ok (.iload_n 1, 1) := by decide +kernel
theorem dC_readInstead_7 : decode bC_readInstead 7 = .ok (.iload_n 3, 1) := by decide +kernel
theorem dC_readInstead_8 : decode bC_readInstead 8 = .ok (.iastore, 1) := by decide +kernel
theorem dC_readInstead_9 : decode bC_readInstead 9 = .ok (.return_, 1) := by decide +kernel
theorem dC_makeEmpty_0 : decode bC_makeEmpty 0 = .ok (.aload_n 0, 1) := by decide +kernel
theorem dC_makeEmpty_1 : decode bC_makeEmpty 1 = .ok (.getfield 11, 3) := by decide +kernel
theorem dC_makeEmpty_4 : decode bC_makeEmpty 4 = .ok (.iconst 0, 1) := by decide +kernel
theorem dC_makeEmpty_5 : decode bC_makeEmpty 5 = .ok (.aaload, 1) := by decide +kernel
theorem dC_makeEmpty_6 : decode bC_makeEmpty 6 = .ok (.iload_n 1, 1) := by decide +kernel
theorem dC_makeEmpty_7 : decode bC_makeEmpty 7 = .ok (.iconst (-1), 1) := by decide +kernel
theorem dC_makeEmpty_8 : decode bC_makeEmpty 8 = .ok (.iastore, 1) := by decide +kernel
theorem dC_makeEmpty_9 : decode bC_makeEmpty 9 = .ok (.aload_n 0, 1) := by decide +kernel
theorem dC_makeEmpty_10 : decode bC_makeEmpty 10 = .ok (.getfield 11, 3) := by decide +kernel
theorem dC_makeEmpty_13 : decode bC_makeEmpty 13 = .ok (.iconst 1, 1) := by decide +kernel
theorem dC_makeEmpty_14 : decode bC_makeEmpty 14 = .ok (.aaload, 1) := by decide +kernel
theorem dC_makeEmpty_15 : decode bC_makeEmpty 15 = .ok (.iload_n 1, 1) := by decide +kernel
theorem dC_makeEmpty_16 : decode bC_makeEmpty 16 = .ok (.iconst 0, 1) := by decide +kernel
theorem dC_makeEmpty_17 : decode bC_makeEmpty 17 = .ok (.iastore, 1) := by decide +kernel
theorem dC_makeEmpty_18 : decode bC_makeEmpty 18 = .ok (.aload_n 0, 1) := by decide +kernel
theorem dC_makeEmpty_19 : decode bC_makeEmpty 19 = .ok (.getfield 11, 3) := by decide +kernel
theorem dC_makeEmpty_22 : decode bC_makeEmpty 22 = .ok (.iconst 2, 1) := by decide +kernel
theorem dC_makeEmpty_23 : decode bC_makeEmpty 23 = .ok (.aaload, 1) := by decide +kernel
theorem dC_makeEmpty_24 : decode bC_makeEmpty 24 = .ok (.iload_n 1, 1) := by decide +kernel
theorem dC_makeEmpty_25 : decode bC_makeEmpty 25 = .ok (.iconst 0, 1) := by decide +kernel
theorem dC_makeEmpty_26 : decode bC_makeEmpty 26 = .ok (.iastore, 1) := by decide +kernel
theorem dC_makeEmpty_27 : decode bC_makeEmpty 27 = .ok (.aload_n 0, 1) := by decide +kernel
theorem dC_makeEmpty_28 : decode bC_makeEmpty 28 = .ok (.getfield 11, 3) := by decide +kernel
theorem dC_makeEmpty_31 : decode bC_makeEmpty 31 = .ok (.iconst 3, 1) := by decide +kernel
theorem dC_makeEmpty_32 : decode bC_makeEmpty 32 = .ok (.aaload, 1) := by decide +kernel
theorem dC_makeEmpty_33 : decode bC_makeEmpty 33 = .ok (.iload_n 1, 1) := by decide +kernel
theorem dC_makeEmpty_34 : decode bC_makeEmpty 34 = .ok (.iconst 0, 1) := by decide +kernel
theorem dC_makeEmpty_35 : decode bC_makeEmpty 35 = .ok (.iastore, 1) := by decide +kernel
theorem dC_makeEmpty_36 : decode bC_makeEmpty 36 = .ok (.return_, 1) := by decide +kernel
theorem dS_leaveOutDead_0 : decode bS_leaveOutDead 0 = .ok (.aload_n 0, 1) := by decide +kernel
theorem dS_leaveOutDead_1 : decode bS_leaveOutDead 1 = .ok (.aload_n 1, 1) := by decide +kernel
theorem dS_leaveOutDead_2 : decode bS_leaveOutDead 2 = .ok (.invokevirtual 67, 3) := by decide +kernel
theorem dS_leaveOutDead_5 : decode bS_leaveOutDead 5 = .ok (.iconst 0, 1) := by decide +kernel
theorem dS_leaveOutDead_6 : decode bS_leaveOutDead 6 = .ok (.istore_n 2, 1) := by decide +kernel
theorem dS_leaveOutDead_7 : decode bS_leaveOutDead 7 = .ok (.iconst 0, 1) := by decide +kernel
theorem dS_leaveOutDead_8 : decode bS_leaveOutDead 8 = .ok (.istore_n 3, 1) := by decide +kernel
theorem dS_leaveOutDead_9 : decode bS_leaveOutDead 9 = .ok (.iload_n 3, 1) := by decide +kernel
theorem dS_leaveOutDead_10 : decode bS_leaveOutDead 10 = .ok (.aload_n 1, 1) := by decide +kernel
theorem dS_leaveOutDead_11 : decode bS_leaveOutDead 11 = .ok (.invokevirtual 34, 3) := by decide +kernel
theorem dS_leaveOutDead_14 : decode bS_leaveOutDead 14 = .ok (.if_icmp .ge 43, 3) := by decide +kernel
theorem dS_leaveOutDead_17 : decode bS_leaveOutDead 17 = .ok (.aload_n 1, 1) := by decide +kernel
theorem dS_leaveOutDead_18 : decode bS_leaveOutDead 18 = .ok (.iload_n 3, 1) := by decide +kernel
theorem dS_leaveOutDead_19 : decode bS_leaveOutDead 19 = .ok (.invokevirtual 70, 3) := by decide +kernel
theorem dS_leaveOutDead_22 : decode bS_leaveOutDead 22 = .ok (.istore 4, 2) := by decide +kernel
theorem dS_leaveOutDead_24 : decode bS_leaveOutDead 24 = .ok (.iload 4, 2) := by decide +kernel
theorem dS_leaveOutDead_26 : decode bS_leaveOutDead 26 = .ok (.iconst (-1), 1) := by decide +kernel
theorem dS_leaveOutDead_27 : decode bS_leaveOutDead 27 = .ok (.if_icmp .eq 24, 3) := by decide +kernel
theorem dS_leaveOutDead_30 : decode bS_leaveOutDead 30 = .ok (.aload_n 0, 1) := by decide +kernel
theorem dS_leaveOutDead_31 : decode bS_leaveOutDead 31 = .ok (.aload_n 1, 1) := by decide +kernel
theorem dS_leaveOutDead_32 : decode bS_leaveOutDead 32 = .ok (.iload_n 3, 1) := by decide +kernel
theorem dS_leaveOutDead_33 : decode bS_leaveOutDead 33 = .ok (.invokevirtual 73, 3) := by decide +kernel
theorem dS_leaveOutDead_36 : decode bS_leaveOutDead 36 = .ok (.iload 4, 2) := by decide +kernel
theorem dS_leaveOutDead_38 : decode bS_leaveOutDead 38 = .ok (.ishr, 1) := by decide +kernel
theorem dS_leaveOutDead_39 : decode bS_leaveOutDead 39 = .ok (.iconst 1, 1) := by decide +kernel
theorem dS_leaveOutDead_40 : decode bS_leaveOutDead 40 = .ok (.iand, 1) := by decide +kernel
theorem dS_leaveOutDead_41 : decode bS_leaveOutDead 41 = .ok (.ifCond .ne 10, 3) := by decide +kernel
theorem dS_leaveOutDead_44 : decode bS_leaveOutDead 44 = .ok (.aload_n 1, 1) := by decide +kernel
theorem dS_leaveOutDead_45 : decode bS_leaveOutDead 45 = .ok (.iload_n 3, 1) := by decide +kernel
theorem dS_leaveOutDead_46 : decode bS_leaveOutDead 46 = .ok (.invokevirtual 52, 3) := by decide +kernel
theorem dS_leaveOutDead_49 : decode bS_leaveOutDead 49 = .ok (.iconst 1, 1) := by decide +kernel
theorem dS_leaveOutDead_50 : decode bS_leaveOutDead 50 = .ok (.istore_n 2, 1) := by decide +kernel
theorem dS_leaveOutDead_51 : decode bS_leaveOutDead 51 = .ok (.iinc 3 1, 3) := by decide +kernel
theorem dS_leaveOutDead_54 : decode bS_leaveOutDead 54 = .ok (.goto (-45), 3) := by decide +kernel
theorem dS_leaveOutDead_57 : decode bS_leaveOutDead 57 = .ok (.iload_n 2, 1) := by decide +kernel
theorem dS_leaveOutDead_58 : decode bS_leaveOutDead 58 = .ok (.ireturn, 1) := by decide +kernel
theorem dS_findLive_0 : decode bS_findLive 0 = .ok (.aload_n 0, 1) := by decide +kernel
theorem dS_findLive_1 : decode bS_findLive 1 = .ok (.getfield 18, 3) := by decide +kernel
theorem dS_findLive_4 : decode bS_findLive 4 = .ok (.iconst 0, 1) := by decide +kernel
theorem dS_findLive_5 : decode bS_findLive 5 = .ok (.invokestatic 77, 3) := by decide +kernel
theorem dS_findLive_8 : decode bS_findLive 8 = .ok (.iconst 1, 1) := by decide +kernel
theorem dS_findLive_9 : decode bS_findLive 9 = .ok (.istore_n 2, 1) := by decide +kernel
theorem dS_findLive_10 : decode bS_findLive 10 = .ok (.iconst 0, 1) := by decide +kernel
theorem dS_findLive_11 : decode bS_findLive 11 = .ok (.istore_n 3, 1) := by decide +kernel
theorem dS_findLive_12 : decode bS_findLive 12 = .ok (.iload_n 2, 1) := by decide +kernel
theorem dS_findLive_13 : decode bS_findLive 13 = .ok (.ifCond .eq 74, 3) := by decide +kernel
theorem dS_findLive_16 : decode bS_findLive 16 = .ok (.iload_n 3, 1) := by decide +kernel
theorem dS_findLive_17 : decode bS_findLive 17 = .ok (.ldc 22, 2) := by decide +kernel
theorem dS_findLive_19 : decode bS_findLive 19 = .ok (.if_icmp .ge 68, 3) := by decide +kernel
theorem dS_findLive_22 : decode bS_findLive 22 = .ok (.iconst 0, 1) := by decide +kernel
theorem dS_findLive_23 : decode bS_findLive 23 = .ok (.istore_n 2, 1) := by decide +kernel
theorem dS_findLive_24 : decode bS_findLive 24 = .ok (.aload_n 1, 1) := by decide +kernel
theorem dS_findLive_25 : decode bS_findLive 25 = .ok (.invokevirtual 34, 3) := by decide +kernel
theorem dS_findLive_28 : decode bS_findLive 28 = .ok (.iconst 1, 1) := by decide +kernel
theorem dS_findLive_29 : decode bS_findLive 29 = .ok (.isub, 1) := by decide +kernel
theorem dS_findLive_30 : decode bS_findLive 30 = .ok (.istore 4, 2) := by decide +kernel
theorem dS_findLive_32 : decode bS_findLive 32 = .ok (.iload 4, 2) := by decide +kernel
theorem dS_findLive_34 : decode bS_findLive 34 = .ok (.ifCond .lt 47, 3) := by decide +kernel
theorem dS_findLive_37 : decode bS_findLive 37 = .ok (.aload_n 0, 1) := by decide +kernel
theorem dS_findLive_38 : decode bS_findLive 38 = .ok (.aload_n 1, 1) := by decide +kernel
theorem dS_findLive_39 : decode bS_findLive 39 = .ok (.iload 4, 2) := by decide +kernel
theorem dS_findLive_41 : decode bS_findLive 41 = .ok (.invokevirtual 83, 3) := by decide +kernel
theorem dS_findLive_44 : decode bS_findLive 44 = .ok (.istore 5, 2) := by decide +kernel
theorem dS_findLive_46 : decode bS_findLive 46 = .ok (.iload_n 2, 1) := by decide +kernel
theorem dS_findLive_47 : decode bS_findLive 47 = .ok (.iload 5, 2) := by decide +kernel
theorem dS_findLive_49 : decode bS_findLive 49 = .ok (.aload_n 0, 1) := by decide +kernel
theorem dS_findLive_50 : decode bS_findLive 50 = .ok (.getfield 18, 3) := by decide +kernel
theorem dS_findLive_53 : decode bS_findLive 53 = .ok (.iload 4, 2) := by decide +kernel
theorem dS_findLive_55 : decode bS_findLive 55 = .ok (.iaload, 1) := by decide +kernel
theorem dS_findLive_56 : decode bS_findLive 56 = .ok (.if_icmp .eq 7, 3) := by decide +kernel
theorem dS_findLive_59 : decode bS_findLive 59 = .ok (.iconst 1, 1) := by decide +kernel
theorem dS_findLive_60 : decode bS_findLive 60 = .ok (.goto 4, 3) := by decide +kernel
theorem dS_findLive_63 : decode bS_findLive 63 = .ok (.iconst 0, 1) := by decide +kernel
theorem dS_findLive_64 : decode bS_findLive 64 = .ok (.ior, 1) := by decide +kernel
theorem dS_findLive_65 : decode bS_findLive 65 = .ok (.istore_n 2, 1) := by decide +kernel
theorem dS_findLive_66 : decode bS_findLive 66 = .ok (.aload_n 0, 1) := by decide +kernel
theorem dS_findLive_67 : decode bS_findLive 67 = .ok (.getfield 18, 3) := by decide +kernel
theorem dS_findLive_70 : decode bS_findLive 70 = .ok (.iload 4, 2) := by decide +kernel
theorem dS_findLive_72 : decode bS_findLive 72 = .ok (.iload 5, 2) := by decide +kernel
theorem dS_findLive_74 : decode bS_findLive 74 = .ok (.iastore, 1) := by decide +kernel
theorem dS_findLive_75 : decode bS_findLive 75 = .ok (.iinc 4 (-1), 3) := by decide +kernel
theorem dS_findLive_78 : decode bS_findLive 78 = .ok (.goto (-46), 3) := by decide +kernel
theorem dS_findLive_81 : decode bS_findLive 81 = .ok (.iinc 3 1, 3) := by decide +kernel
theorem dS_findLive_84 : decode bS_findLive 84 = .ok (.goto (-72), 3) := by decide +kernel
theorem dS_findLive_87 : decode bS_findLive 87 = .ok (.return_, 1) := by decide +kernel
theorem dA_fill_0 : decode bA_fill 0 = .ok (.iconst 0, 1) := by decide +kernel
theorem dA_fill_1 : decode bA_fill 1 = .ok (.istore_n 2, 1) := by decide +kernel
theorem dA_fill_2 : decode bA_fill 2 = .ok (.aload_n 0, 1) := by decide +kernel
theorem dA_fill_3 : decode bA_fill 3 = .ok (.arraylength, 1) := by decide +kernel
theorem dA_fill_4 : decode bA_fill 4 = .ok (.istore_n 3, 1) := by decide +kernel
theorem dA_fill_5 : decode bA_fill 5 = .ok (.iload_n 2, 1) := by decide +kernel
theorem dA_fill_6 : decode bA_fill 6 = .ok (.iload_n 3, 1) := by decide +kernel
theorem dA_fill_7 : decode bA_fill 7 = .ok (.if_icmp .ge 13, 3) := by decide +kernel
theorem dA_fill_10 : decode bA_fill 10 = .ok (.aload_n 0, 1) := by decide +kernel
theorem dA_fill_11 : decode bA_fill 11 = .ok (.iload_n 2, 1) := by decide +kernel
theorem dA_fill_12 : decode bA_fill 12 = .ok (.iload_n 1, 1) := by decide +kernel
theorem dA_fill_13 : decode bA_fill 13 = .ok (.iastore, 1) := by decide +kernel
theorem dA_fill_14 : decode bA_fill 14 = .ok (.iinc 2 1, 3) := by decide +kernel
theorem dA_fill_17 : decode bA_fill 17 = .ok (.goto (-12), 3) := by decide +kernel
theorem dA_fill_20 : decode bA_fill 20 = .ok (.return_, 1) := by decide +kernel
theorem dS_liveBefore_0 : decode bS_liveBefore 0 = .ok (.aload_n 1, 1) := by decide +kernel
theorem dS_liveBefore_1 : decode bS_liveBefore 1 = .ok (.iload_n 2, 1) := by decide +kernel
theorem dS_liveBefore_2 : decode bS_liveBefore 2 = .ok (.invokevirtual 70, 3) := by decide +kernel
theorem dS_liveBefore_5 : decode bS_liveBefore 5 = .ok (.istore_n 3, 1) := by decide +kernel
theorem dS_liveBefore_6 : decode bS_liveBefore 6 = .ok (.aload_n 0, 1) := by decide +kernel
theorem dS_liveBefore_7 : decode bS_liveBefore 7 = .ok (.aload_n 1, 1) := by decide +kernel
theorem dS_liveBefore_8 : decode bS_liveBefore 8 = .ok (.iload_n 2, 1) := by decide +kernel
theorem dS_liveBefore_9 : decode bS_liveBefore 9 = .ok (.invokevirtual 73, 3) := by decide +kernel
theorem dS_liveBefore_12 : decode bS_liveBefore 12 = .ok (.istore 4, 2) := by decide +kernel
theorem dS_liveBefore_14 : decode bS_liveBefore 14 = .ok (.iload_n 3, 1) := by decide +kernel
theorem dS_liveBefore_15 : decode bS_liveBefore 15 = .ok (.iconst (-1), 1) := by decide +kernel
theorem dS_liveBefore_16 : decode bS_liveBefore 16 = .ok (.if_icmp .eq 13, 3) := by decide +kernel
theorem dS_liveBefore_19 : decode bS_liveBefore 19 = .ok (.iload 4, 2) := by decide +kernel
theorem dS_liveBefore_21 : decode bS_liveBefore 21 = .ok (.iconst 1, 1) := by decide +kernel
theorem dS_liveBefore_22 : decode bS_liveBefore 22 = .ok (.iload_n 3, 1) := by decide +kernel
theorem dS_liveBefore_23 : decode bS_liveBefore 23 = .ok (.ishl, 1) := by decide +kernel
theorem dS_liveBefore_24 : decode bS_liveBefore 24 = .ok (.iconst (-1), 1) := by decide +kernel
theorem dS_liveBefore_25 : decode bS_liveBefore 25 = .ok (.ixor, 1) := by decide +kernel
theorem dS_liveBefore_26 : decode bS_liveBefore 26 = .ok (.iand, 1) := by decide +kernel
theorem dS_liveBefore_27 : decode bS_liveBefore 27 = .ok (.istore 4, 2) := by decide +kernel
theorem dS_liveBefore_29 : decode bS_liveBefore 29 = .ok (.iload 4, 2) := by decide +kernel
theorem dS_liveBefore_31 : decode bS_liveBefore 31 = .ok (.aload_n 1, 1) := by decide +kernel
theorem dS_liveBefore_32 : decode bS_liveBefore 32 = .ok (.iload_n 2, 1) := by decide +kernel
theorem dS_liveBefore_33 : decode bS_liveBefore 33 = .ok (.invokevirtual 86, 3) := by decide +kernel
theorem dS_liveBefore_36 : decode bS_liveBefore 36 = .ok (.ior, 1) := by decide +kernel
theorem dS_liveBefore_37 : decode bS_liveBefore 37 = .ok (.ireturn, 1) := by decide +kernel
theorem dS_liveBehind_0 : decode bS_liveBehind 0 = .ok (.aload_n 0, 1) := by decide +kernel
theorem dS_liveBehind_1 : decode bS_liveBehind 1 = .ok (.getfield 18, 3) := by decide +kernel
theorem dS_liveBehind_4 : decode bS_liveBehind 4 = .ok (.iload_n 2, 1) := by decide +kernel
theorem dS_liveBehind_5 : decode bS_liveBehind 5 = .ok (.iconst 1, 1) := by decide +kernel
theorem dS_liveBehind_6 : decode bS_liveBehind 6 = .ok (.iadd, 1) := by decide +kernel
theorem dS_liveBehind_7 : decode bS_liveBehind 7 = .ok (.iaload, 1) := by decide +kernel
theorem dS_liveBehind_8 : decode bS_liveBehind 8 = .ok (.aload_n 0, 1) := by decide +kernel
theorem dS_liveBehind_9 : decode bS_liveBehind 9 = .ok (.getfield 18, 3) := by decide +kernel
theorem dS_liveBehind_12 : decode bS_liveBehind 12 = .ok (.aload_n 1, 1) := by decide +kernel
theorem dS_liveBehind_13 : decode bS_liveBehind 13 = .ok (.iload_n 2, 1) := by decide +kernel
theorem dS_liveBehind_14 : decode bS_liveBehind 14 = .ok (.invokevirtual 89, 3) := by decide +kernel
theorem dS_liveBehind_17 : decode bS_liveBehind 17 = .ok (.iaload, 1) := by decide +kernel
theorem dS_liveBehind_18 : decode bS_liveBehind 18 = .ok (.ior, 1) := by decide +kernel
theorem dS_liveBehind_19 : decode bS_liveBehind 19 = .ok (.ireturn, 1) := by decide +kernel
theorem dC_needed_0 : decode bC_needed 0 = .ok (.aload_n 0, 1) := by decide +kernel
theorem dC_needed_1 : decode bC_needed 1 = .ok (.getfield 11, 3) := by decide +kernel
theorem dC_needed_4 : decode bC_needed 4 = .ok (.iconst 0, 1) := by decide +kernel
theorem dC_needed_5 : decode bC_needed 5 = .ok (.aaload, 1) := by decide +kernel
theorem dC_needed_6 : decode bC_needed 6 = .ok (.iload_n 1, 1) := by decide +kernel
theorem dC_needed_7 : decode bC_needed 7 = .ok (.iaload, 1) := by decide +kernel
theorem dC_needed_8 : decode bC_needed 8 = .ok (.iconst 5, 1) := by decide +kernel
theorem dC_needed_9 : decode bC_needed 9 = .ok (.if_icmp .ne 5, 3) := by decide +kernel
theorem dC_needed_12 : decode bC_needed 12 = .ok (.iconst 0, 1) := by decide +kernel
theorem dC_needed_13 : decode bC_needed 13 = .ok (.ireturn, 1) := by decide +kernel
theorem dC_needed_14 : decode bC_needed 14 = .ok (.iconst 0, 1) := by decide +kernel
theorem dC_needed_15 : decode bC_needed 15 = .ok (.istore_n 2, 1) := by decide +kernel
theorem dC_needed_16 : decode bC_needed 16 = .ok (.iconst 1, 1) := by decide +kernel
theorem dC_needed_17 : decode bC_needed 17 = .ok (.istore_n 3, 1) := by decide +kernel
theorem dC_needed_18 : decode bC_needed 18 = .ok (.iload_n 3, 1) := by decide +kernel
theorem dC_needed_19 : decode bC_needed 19 = .ok (.iconst 4, 1) := by decide +kernel
theorem dC_needed_20 : decode bC_needed 20 = .ok (.if_icmp .ge 31, 3) := by decide +kernel
theorem dC_needed_23 : decode bC_needed 23 = .ok (.aload_n 0, 1) := by decide +kernel
theorem dC_needed_24 : decode bC_needed 24 = .ok (.iload_n 1, 1) := by decide +kernel
theorem dC_needed_25 : decode bC_needed 25 = .ok (.iload_n 3, 1) := by decide +kernel
theorem dC_needed_26 : decode bC_needed 26 = .ok (.invokevirtual 34, 3) := by decide +kernel
theorem dC_needed_29 : decode bC_needed 29 = .ok (.ifCond .eq 16, 3) := by decide +kernel
theorem dC_needed_32 : decode bC_needed 32 = .ok (.iload_n 2, 1) := by decide +kernel
theorem dC_needed_33 : decode bC_needed 33 = .ok (.iconst 1, 1) := by decide +kernel
theorem dC_needed_34 : decode bC_needed 34 = .ok (.aload_n 0, 1) := by decide +kernel
theorem dC_needed_35 : decode bC_needed 35 = .ok (.getfield 11, 3) := by decide +kernel
theorem dC_needed_38 : decode bC_needed 38 = .ok (.iload_n 3, 1) := by decide +kernel
theorem dC_needed_39 : decode bC_needed 39 = .ok (.aaload, 1) := by decide +kernel
theorem dC_needed_40 : decode bC_needed 40 = .ok (.iload_n 1, 1) := by decide +kernel
theorem dC_needed_41 : decode bC_needed 41 = .ok (.iaload, 1) := by decide +kernel
theorem dC_needed_42 : decode bC_needed 42 = .ok (.ishl, 1) := by decide +kernel
theorem dC_needed_43 : decode bC_needed 43 = .ok (.ior, 1) := by decide +kernel
theorem dC_needed_44 : decode bC_needed 44 = .ok (.istore_n 2, 1) := by decide +kernel
theorem dC_needed_45 : decode bC_needed 45 = .ok (.iinc 3 1, 3) := by decide +kernel
theorem dC_needed_48 : decode bC_needed 48 = .ok (.goto (-30), 3) := by decide +kernel
theorem dC_needed_51 : decode bC_needed 51 = .ok (.iload_n 2, 1) := by decide +kernel
theorem dC_needed_52 : decode bC_needed 52 = .ok (.ireturn, 1) := by decide +kernel
theorem dK_find_0 : decode bK_find 0 = .ok (.iconst 0, 1) := by decide +kernel
theorem dK_find_1 : decode bK_find 1 = .ok (.istore_n 3, 1) := by decide +kernel
theorem dK_find_2 : decode bK_find 2 = .ok (.iload_n 3, 1) := by decide +kernel
theorem dK_find_3 : decode bK_find 3 = .ok (.bipush 9, 2) := by decide +kernel
theorem dK_find_5 : decode bK_find 5 = .ok (.if_icmp .ge 38, 3) := by decide +kernel
theorem dK_find_8 : decode bK_find 8 = .ok (.aload_n 0, 1) := by decide +kernel
theorem dK_find_9 : decode bK_find 9 = .ok (.getfield 13, 3) := by decide +kernel
theorem dK_find_12 : decode bK_find 12 = .ok (.iload_n 3, 1) := by decide +kernel
theorem dK_find_13 : decode bK_find 13 = .ok (.aaload, 1) := by decide +kernel
theorem dK_find_14 : decode bK_find 14 = .ok (.iconst 0, 1) := by decide +kernel
theorem dK_find_15 : decode bK_find 15 = .ok (.iload_n 3, 1) := by decide +kernel
theorem dK_find_16 : decode bK_find 16 = .ok (.bipush 6, 2) := by decide +kernel
theorem dK_find_18 : decode bK_find 18 = .ok (.if_icmp .ge 8, 3) := by decide +kernel
theorem dK_find_21 : decode bK_find 21 = .ok (.bipush 127, 2) := by decide +kernel
theorem dK_find_23 : decode bK_find 23 = .ok (.goto 4, 3) := by decide +kernel
theorem dK_find_26 : decode bK_find 26 = .ok (.iconst 0, 1) := by decide +kernel
theorem dK_find_27 : decode bK_find 27 = .ok (.iastore, 1) := by decide +kernel
theorem dK_find_28 : decode bK_find 28 = .ok (.aload_n 0, 1) := by decide +kernel
theorem dK_find_29 : decode bK_find 29 = .ok (.getfield 16, 3) := by decide +kernel
theorem dK_find_32 : decode bK_find 32 = .ok (.iload_n 3, 1) := by decide +kernel
theorem dK_find_33 : decode bK_find 33 = .ok (.aaload, 1) := by decide +kernel
theorem dK_find_34 : decode bK_find 34 = .ok (.iconst 0, 1) := by decide +kernel
theorem dK_find_35 : decode bK_find 35 = .ok (.iconst 0, 1) := by decide +kernel
theorem dK_find_36 : decode bK_find 36 = .ok (.iastore, 1) := by decide +kernel
theorem dK_find_37 : decode bK_find 37 = .ok (.iinc 3 1, 3) := by decide +kernel
theorem dK_find_40 : decode bK_find 40 = .ok (.goto (-38), 3) := by decide +kernel
theorem dK_find_43 : decode bK_find 43 = .ok (.aload_n 0, 1) := by decide +kernel
theorem dK_find_44 : decode bK_find 44 = .ok (.aload_n 1, 1) := by decide +kernel
theorem dK_find_45 : decode bK_find 45 = .ok (.aload_n 2, 1) := by decide +kernel
theorem dK_find_46 : decode bK_find 46 = .ok (.invokevirtual 26, 3) := by decide +kernel
theorem dK_find_49 : decode bK_find 49 = .ok (.return_, 1) := by decide +kernel
theorem dR_begin_0 : decode bR_begin 0 = .ok (.aload_n 0, 1) := by decide +kernel
theorem dR_begin_1 : decode bR_begin 1 = .ok (.getfield 12, 3) := by decide +kernel
theorem dR_begin_4 : decode bR_begin 4 = .ok (.invokevirtual 36, 3) := by decide +kernel
theorem dR_begin_7 : decode bR_begin 7 = .ok (.aload_n 0, 1) := by decide +kernel
theorem dR_begin_8 : decode bR_begin 8 = .ok (.getfield 18, 3) := by decide +kernel
theorem dR_begin_11 : decode bR_begin 11 = .ok (.invokevirtual 36, 3) := by decide +kernel
theorem dR_begin_14 : decode bR_begin 14 = .ok (.iconst 0, 1) := by decide +kernel
theorem dR_begin_15 : decode bR_begin 15 = .ok (.istore_n 1, 1) := by decide +kernel
theorem dR_begin_16 : decode bR_begin 16 = .ok (.iload_n 1, 1) := by decide +kernel
theorem dR_begin_17 : decode bR_begin 17 = .ok (.iconst 3, 1) := by decide +kernel
theorem dR_begin_18 : decode bR_begin 18 = .ok (.if_icmp .ge 16, 3) := by decide +kernel
theorem dR_begin_21 : decode bR_begin 21 = .ok (.aload_n 0, 1) := by decide +kernel
theorem dR_begin_22 : decode bR_begin 22 = .ok (.getfield 25, 3) := by decide +kernel
theorem dR_begin_25 : decode bR_begin 25 = .ok (.iload_n 1, 1) := by decide +kernel
theorem dR_begin_26 : decode bR_begin 26 = .ok (.iconst 0, 1) := by decide +kernel
theorem dR_begin_27 : decode bR_begin 27 = .ok (.bastore, 1) := by decide +kernel
theorem dR_begin_28 : decode bR_begin 28 = .ok (.iinc 1 1, 3) := by decide +kernel
theorem dR_begin_31 : decode bR_begin 31 = .ok (.goto (-15), 3) := by decide +kernel
theorem dR_begin_34 : decode bR_begin 34 = .ok (.aload_n 0, 1) := by decide +kernel
theorem dR_begin_35 : decode bR_begin 35 = .ok (.iconst 0, 1) := by decide +kernel
theorem dR_begin_36 : decode bR_begin 36 = .ok (.putfield 29, 3) := by decide +kernel
theorem dR_begin_39 : decode bR_begin 39 = .ok (.aload_n 0, 1) := by decide +kernel
theorem dR_begin_40 : decode bR_begin 40 = .ok (.iconst 0, 1) := by decide +kernel
theorem dR_begin_41 : decode bR_begin 41 = .ok (.putfield 33, 3) := by decide +kernel
theorem dR_begin_44 : decode bR_begin 44 = .ok (.return_, 1) := by decide +kernel
theorem dM_begin_0 : decode bM_begin 0 = .ok (.aload_n 0, 1) := by decide +kernel
theorem dM_begin_1 : decode bM_begin 1 = .ok (.getfield 9, 3) := by decide +kernel
theorem dM_begin_4 : decode bM_begin 4 = .ok (.iconst 0, 1) := by decide +kernel
theorem dM_begin_5 : decode bM_begin 5 = .ok (.invokestatic 22, 3) := by decide +kernel
theorem dM_begin_8 : decode bM_begin 8 = .ok (.aload_n 0, 1) := by decide +kernel
theorem dM_begin_9 : decode bM_begin 9 = .ok (.iconst 0, 1) := by decide +kernel
theorem dM_begin_10 : decode bM_begin 10 = .ok (.putfield 18, 3) := by decide +kernel
theorem dM_begin_13 : decode bM_begin 13 = .ok (.return_, 1) := by decide +kernel
theorem dT_set_0 : decode bT_set 0 = .ok (.iload_n 1, 1) := by decide +kernel
theorem dT_set_1 : decode bT_set 1 = .ok (.invokestatic 44, 3) := by decide +kernel
theorem dT_set_4 : decode bT_set 4 = .ok (.invokestatic 48, 3) := by decide +kernel
theorem dT_set_7 : decode bT_set 7 = .ok (.aload_n 0, 1) := by decide +kernel
theorem dT_set_8 : decode bT_set 8 = .ok (.iconst 0, 1) := by decide +kernel
theorem dT_set_9 : decode bT_set 9 = .ok (.iload_n 1, 1) := by decide +kernel
theorem dT_set_10 : decode bT_set 10 = .ok (.iload_n 2, 1) := by decide +kernel
theorem dT_set_11 : decode bT_set 11 = .ok (.iconst 0, 1) := by decide +kernel
theorem dT_set_12 : decode bT_set 12 = .ok (.invokevirtual 52, 3) := by decide +kernel
theorem dT_set_15 : decode bT_set 15 = .ok (.ireturn, 1) := by decide +kernel
theorem dT_isRegister_0 : decode bT_isRegister 0 = .ok (.iload_n 0, 1) := by decide +kernel
theorem dT_isRegister_1 : decode bT_isRegister 1 = .ok (.bipush 6, 2) := by decide +kernel
theorem dT_isRegister_3 : decode bT_isRegister 3 = .ok (.invokestatic 56, 3) := by decide +kernel
theorem dT_isRegister_6 : decode bT_isRegister 6 = .ok (.ireturn, 1) := by decide +kernel
theorem dT_isBelow_0 : decode bT_isBelow 0 = .ok (.iload_n 0, 1) := by decide +kernel
theorem dT_isBelow_1 : decode bT_isBelow 1 = .ok (.ifCond .lt 12, 3) := by decide +kernel
theorem dT_isBelow_4 : decode bT_isBelow 4 = .ok (.iload_n 0, 1) := by decide +kernel
theorem dT_isBelow_5 : decode bT_isBelow 5 = .ok (.iload_n 1, 1) := by decide +kernel
theorem dT_isBelow_6 : decode bT_isBelow 6 = .ok (.if_icmp .ge 7, 3) := by decide +kernel
theorem dT_isBelow_9 : decode bT_isBelow 9 = .ok (.iconst 1, 1) := by decide +kernel
theorem dT_isBelow_10 : decode bT_isBelow 10 = .ok (.goto 4, 3) := by decide +kernel
theorem dT_isBelow_13 : decode bT_isBelow 13 = .ok (.iconst 0, 1) := by decide +kernel
theorem dT_isBelow_14 : decode bT_isBelow 14 = .ok (.ireturn, 1) := by decide +kernel
theorem dT_requireArgument_0 : decode bT_requireArgument 0 = .ok (.iload_n 0, 1) := by decide +kernel
theorem dT_requireArgument_1 : decode bT_requireArgument 1 = .ok (.ifCond .ne 11, 3) := by decide +kernel
theorem dT_requireArgument_4 : decode bT_requireArgument 4 = .ok (.new 151, 3) := by decide +kernel
theorem dT_requireArgument_7 : decode bT_requireArgument 7 = .ok (.dup, 1) := by decide +kernel
theorem dT_requireArgument_8 : decode bT_requireArgument 8 = .ok (.invokespecial 153, 3) := by decide +kernel
theorem dT_requireArgument_11 : decode bT_requireArgument 11 = .ok (.athrow, 1) := by decide +kernel
theorem dT_requireArgument_12 : decode bT_requireArgument 12 = .ok (.return_, 1) := by decide +kernel
theorem dT_newLine_0 : decode bT_newLine 0 = .ok (.aload_n 0, 1) := by decide +kernel
theorem dT_newLine_1 : decode bT_newLine 1 = .ok (.getfield 12, 3) := by decide +kernel
theorem dT_newLine_4 : decode bT_newLine 4 = .ok (.invokevirtual 88, 3) := by decide +kernel
theorem dT_newLine_7 : decode bT_newLine 7 = .ok (.bipush 16, 2) := by decide +kernel
theorem dT_newLine_9 : decode bT_newLine 9 = .ok (.if_icmp .ge 7, 3) := by decide +kernel
theorem dT_newLine_12 : decode bT_newLine 12 = .ok (.iconst 1, 1) := by decide +kernel
theorem dT_newLine_13 : decode bT_newLine 13 = .ok (.goto 4, 3) := by decide +kernel
theorem dT_newLine_16 : decode bT_newLine 16 = .ok (.iconst 0, 1) := by decide +kernel
theorem dT_newLine_17 : decode bT_newLine 17 = .ok (.invokestatic 133, 3) := by decide +kernel
theorem dT_newLine_20 : decode bT_newLine 20 = .ok (.aload_n 0, 1) := by decide +kernel
theorem dT_newLine_21 : decode bT_newLine 21 = .ok (.iconst 0, 1) := by decide +kernel
theorem dT_newLine_22 : decode bT_newLine 22 = .ok (.putfield 40, 3) := by decide +kernel
theorem dT_newLine_25 : decode bT_newLine 25 = .ok (.aload_n 0, 1) := by decide +kernel
theorem dT_newLine_26 : decode bT_newLine 26 = .ok (.getfield 12, 3) := by decide +kernel
theorem dT_newLine_29 : decode bT_newLine 29 = .ok (.iload_n 1, 1) := by decide +kernel
theorem dT_newLine_30 : decode bT_newLine 30 = .ok (.iload_n 2, 1) := by decide +kernel
theorem dT_newLine_31 : decode bT_newLine 31 = .ok (.iload_n 3, 1) := by decide +kernel
theorem dT_newLine_32 : decode bT_newLine 32 = .ok (.iload 4, 2) := by decide +kernel
theorem dT_newLine_34 : decode bT_newLine 34 = .ok (.invokevirtual 145, 3) := by decide +kernel
theorem dT_newLine_37 : decode bT_newLine 37 = .ok (.ireturn, 1) := by decide +kernel
theorem dT_requireState_0 : decode bT_requireState 0 = .ok (.iload_n 0, 1) := by decide +kernel
theorem dT_requireState_1 : decode bT_requireState 1 = .ok (.ifCond .ne 11, 3) := by decide +kernel
theorem dT_requireState_4 : decode bT_requireState 4 = .ok (.new 148, 3) := by decide +kernel
theorem dT_requireState_7 : decode bT_requireState 7 = .ok (.dup, 1) := by decide +kernel
theorem dT_requireState_8 : decode bT_requireState 8 = .ok (.invokespecial 150, 3) := by decide +kernel
theorem dT_requireState_11 : decode bT_requireState 11 = .ok (.athrow, 1) := by decide +kernel
theorem dT_requireState_12 : decode bT_requireState 12 = .ok (.return_, 1) := by decide +kernel
theorem dC_append_0 : decode bC_append 0 = .ok (.aload_n 0, 1) := by decide +kernel
theorem dC_append_1 : decode bC_append 1 = .ok (.getfield 16, 3) := by decide +kernel
theorem dC_append_4 : decode bC_append 4 = .ok (.istore 5, 2) := by decide +kernel
theorem dC_append_6 : decode bC_append 6 = .ok (.aload_n 0, 1) := by decide +kernel
theorem dC_append_7 : decode bC_append 7 = .ok (.getfield 11, 3) := by decide +kernel
theorem dC_append_10 : decode bC_append 10 = .ok (.iconst 0, 1) := by decide +kernel
theorem dC_append_11 : decode bC_append 11 = .ok (.aaload, 1) := by decide +kernel
theorem dC_append_12 : decode bC_append 12 = .ok (.iload 5, 2) := by decide +kernel
theorem dC_append_14 : decode bC_append 14 = .ok (.iload_n 1, 1) := by decide +kernel
theorem dC_append_15 : decode bC_append 15 = .ok (.iastore, 1) := by decide +kernel
theorem dC_append_16 : decode bC_append 16 = .ok (.aload_n 0, 1) := by decide +kernel
theorem dC_append_17 : decode bC_append 17 = .ok (.getfield 11, 3) := by decide +kernel
theorem dC_append_20 : decode bC_append 20 = .ok (.iconst 1, 1) := by decide +kernel
theorem dC_append_21 : decode bC_append 21 = .ok (.aaload, 1) := by decide +kernel
theorem dC_append_22 : decode bC_append 22 = .ok (.iload 5, 2) := by decide +kernel
theorem dC_append_24 : decode bC_append 24 = .ok (.iload_n 2, 1) := by decide +kernel
theorem dC_append_25 : decode bC_append 25 = .ok (.iastore, 1) := by decide +kernel
theorem dC_append_26 : decode bC_append 26 = .ok (.aload_n 0, 1) := by decide +kernel
theorem dC_append_27 : decode bC_append 27 = .ok (.getfield 11, 3) := by decide +kernel
theorem dC_append_30 : decode bC_append 30 = .ok (.iconst 2, 1) := by decide +kernel
theorem dC_append_31 : decode bC_append 31 = .ok (.aaload, 1) := by decide +kernel
theorem dC_append_32 : decode bC_append 32 = .ok (.iload 5, 2) := by decide +kernel
theorem dC_append_34 : decode bC_append 34 = .ok (.iload_n 3, 1) := by decide +kernel
theorem dC_append_35 : decode bC_append 35 = .ok (.iastore, 1) := by decide +kernel
theorem dC_append_36 : decode bC_append 36 = .ok (.aload_n 0, 1) := by decide +kernel
theorem dC_append_37 : decode bC_append 37 = .ok (.getfield 11, 3) := by decide +kernel
theorem dC_append_40 : decode bC_append 40 = .ok (.iconst 3, 1) := by decide +kernel
theorem dC_append_41 : decode bC_append 41 = .ok (.aaload, 1) := by decide +kernel
theorem dC_append_42 : decode bC_append 42 = .ok (.iload 5, 2) := by decide +kernel
theorem dC_append_44 : decode bC_append 44 = .ok (.iload 4, 2) := by decide +kernel
theorem dC_append_46 : decode bC_append 46 = .ok (.iastore, 1) := by decide +kernel
theorem dC_append_47 : decode bC_append 47 = .ok (.aload_n 0, 1) := by decide +kernel
theorem dC_append_48 : decode bC_append 48 = .ok (.iload 5, 2) := by decide +kernel
theorem dC_append_50 : decode bC_append 50 = .ok (.iconst 1, 1) := by decide +kernel
theorem dC_append_51 : decode bC_append 51 = .ok (.iadd, 1) := by decide +kernel
theorem dC_append_52 : decode bC_append 52 = .ok (.putfield 16, 3) := by decide +kernel
theorem dC_append_55 : decode bC_append 55 = .ok (.iload 5, 2) := by decide +kernel
theorem dC_append_57 : decode bC_append 57 = .ok (.ireturn, 1) := by decide +kernel
theorem dT_copy_0 : decode bT_copy 0 = .ok (.iload_n 1, 1) := by decide +kernel
theorem dT_copy_1 : decode bT_copy 1 = .ok (.invokestatic 44, 3) := by decide +kernel
theorem dT_copy_4 : decode bT_copy 4 = .ok (.ifCond .eq 14, 3) := by decide +kernel
theorem dT_copy_7 : decode bT_copy 7 = .ok (.iload_n 2, 1) := by decide +kernel
theorem dT_copy_8 : decode bT_copy 8 = .ok (.invokestatic 44, 3) := by decide +kernel
theorem dT_copy_11 : decode bT_copy 11 = .ok (.ifCond .eq 7, 3) := by decide +kernel
theorem dT_copy_14 : decode bT_copy 14 = .ok (.iconst 1, 1) := by decide +kernel
theorem dT_copy_15 : decode bT_copy 15 = .ok (.goto 4, 3) := by decide +kernel
theorem dT_copy_18 : decode bT_copy 18 = .ok (.iconst 0, 1) := by decide +kernel
theorem dT_copy_19 : decode bT_copy 19 = .ok (.invokestatic 48, 3) := by decide +kernel
theorem dT_copy_22 : decode bT_copy 22 = .ok (.aload_n 0, 1) := by decide +kernel
theorem dT_copy_23 : decode bT_copy 23 = .ok (.iconst 1, 1) := by decide +kernel
theorem dT_copy_24 : decode bT_copy 24 = .ok (.iload_n 1, 1) := by decide +kernel
theorem dT_copy_25 : decode bT_copy 25 = .ok (.iload_n 2, 1) := by decide +kernel
theorem dT_copy_26 : decode bT_copy 26 = .ok (.iconst 0, 1) := by decide +kernel
theorem dT_copy_27 : decode bT_copy 27 = .ok (.invokevirtual 52, 3) := by decide +kernel
theorem dT_copy_30 : decode bT_copy 30 = .ok (.ireturn, 1) := by decide +kernel
theorem dT_add_0 : decode bT_add 0 = .ok (.iload_n 1, 1) := by decide +kernel
theorem dT_add_1 : decode bT_add 1 = .ok (.invokestatic 44, 3) := by decide +kernel
theorem dT_add_4 : decode bT_add 4 = .ok (.ifCond .eq 21, 3) := by decide +kernel
theorem dT_add_7 : decode bT_add 7 = .ok (.iload_n 2, 1) := by decide +kernel
theorem dT_add_8 : decode bT_add 8 = .ok (.invokestatic 44, 3) := by decide +kernel
theorem dT_add_11 : decode bT_add 11 = .ok (.ifCond .eq 14, 3) := by decide +kernel
theorem dT_add_14 : decode bT_add 14 = .ok (.iload_n 3, 1) := by decide +kernel
theorem dT_add_15 : decode bT_add 15 = .ok (.invokestatic 44, 3) := by decide +kernel
theorem dT_add_18 : decode bT_add 18 = .ok (.ifCond .eq 7, 3) := by decide +kernel
theorem dT_add_21 : decode bT_add 21 = .ok (.iconst 1, 1) := by decide +kernel
theorem dT_add_22 : decode bT_add 22 = .ok (.goto 4, 3) := by decide +kernel
theorem dT_add_25 : decode bT_add 25 = .ok (.iconst 0, 1) := by decide +kernel
theorem dT_add_26 : decode bT_add 26 = .ok (.invokestatic 48, 3) := by decide +kernel
theorem dT_add_29 : decode bT_add 29 = .ok (.aload_n 0, 1) := by decide +kernel
theorem dT_add_30 : decode bT_add 30 = .ok (.iconst 2, 1) := by decide +kernel
theorem dT_add_31 : decode bT_add 31 = .ok (.iload_n 1, 1) := by decide +kernel
theorem dT_add_32 : decode bT_add 32 = .ok (.iload_n 2, 1) := by decide +kernel
theorem dT_add_33 : decode bT_add 33 = .ok (.iload_n 3, 1) := by decide +kernel
theorem dT_add_34 : decode bT_add 34 = .ok (.invokevirtual 52, 3) := by decide +kernel
theorem dT_add_37 : decode bT_add 37 = .ok (.ireturn, 1) := by decide +kernel
theorem dT_out_0 : decode bT_out 0 = .ok (.iload_n 1, 1) := by decide +kernel
theorem dT_out_1 : decode bT_out 1 = .ok (.invokestatic 44, 3) := by decide +kernel
theorem dT_out_4 : decode bT_out 4 = .ok (.invokestatic 48, 3) := by decide +kernel
theorem dT_out_7 : decode bT_out 7 = .ok (.aload_n 0, 1) := by decide +kernel
theorem dT_out_8 : decode bT_out 8 = .ok (.iconst 3, 1) := by decide +kernel
theorem dT_out_9 : decode bT_out 9 = .ok (.iload_n 1, 1) := by decide +kernel
theorem dT_out_10 : decode bT_out 10 = .ok (.iconst 0, 1) := by decide +kernel
theorem dT_out_11 : decode bT_out 11 = .ok (.iconst 0, 1) := by decide +kernel
theorem dT_out_12 : decode bT_out 12 = .ok (.invokevirtual 52, 3) := by decide +kernel
theorem dT_out_15 : decode bT_out 15 = .ok (.ireturn, 1) := by decide +kernel
theorem dT_jump_0 : decode bT_jump 0 = .ok (.iload_n 1, 1) := by decide +kernel
theorem dT_jump_1 : decode bT_jump 1 = .ok (.invokestatic 44, 3) := by decide +kernel
theorem dT_jump_4 : decode bT_jump 4 = .ok (.ifCond .eq 16, 3) := by decide +kernel
theorem dT_jump_7 : decode bT_jump 7 = .ok (.iload_n 2, 1) := by decide +kernel
theorem dT_jump_8 : decode bT_jump 8 = .ok (.bipush 17, 2) := by decide +kernel
theorem dT_jump_10 : decode bT_jump 10 = .ok (.invokestatic 56, 3) := by decide +kernel
theorem dT_jump_13 : decode bT_jump 13 = .ok (.ifCond .eq 7, 3) := by decide +kernel
theorem dT_jump_16 : decode bT_jump 16 = .ok (.iconst 1, 1) := by decide +kernel
theorem dT_jump_17 : decode bT_jump 17 = .ok (.goto 4, 3) := by decide +kernel
theorem dT_jump_20 : decode bT_jump 20 = .ok (.iconst 0, 1) := by decide +kernel
theorem dT_jump_21 : decode bT_jump 21 = .ok (.invokestatic 48, 3) := by decide +kernel
theorem dT_jump_24 : decode bT_jump 24 = .ok (.aload_n 0, 1) := by decide +kernel
theorem dT_jump_25 : decode bT_jump 25 = .ok (.iconst 4, 1) := by decide +kernel
theorem dT_jump_26 : decode bT_jump 26 = .ok (.iload_n 1, 1) := by decide +kernel
theorem dT_jump_27 : decode bT_jump 27 = .ok (.iload_n 2, 1) := by decide +kernel
theorem dT_jump_28 : decode bT_jump 28 = .ok (.iconst 0, 1) := by decide +kernel
theorem dT_jump_29 : decode bT_jump 29 = .ok (.invokevirtual 52, 3) := by decide +kernel
theorem dT_jump_32 : decode bT_jump 32 = .ok (.ireturn, 1) := by decide +kernel
theorem dT_name_0 : decode bT_name 0 = .ok (.iload_n 1, 1) := by decide +kernel
theorem dT_name_1 : decode bT_name 1 = .ok (.invokestatic 60, 3) := by decide +kernel
theorem dT_name_4 : decode bT_name 4 = .ok (.ifCond .eq 14, 3) := by decide +kernel
theorem dT_name_7 : decode bT_name 7 = .ok (.iload_n 2, 1) := by decide +kernel
theorem dT_name_8 : decode bT_name 8 = .ok (.invokestatic 44, 3) := by decide +kernel
theorem dT_name_11 : decode bT_name 11 = .ok (.ifCond .eq 7, 3) := by decide +kernel
theorem dT_name_14 : decode bT_name 14 = .ok (.iconst 1, 1) := by decide +kernel
theorem dT_name_15 : decode bT_name 15 = .ok (.goto 4, 3) := by decide +kernel
theorem dT_name_18 : decode bT_name 18 = .ok (.iconst 0, 1) := by decide +kernel
theorem dT_name_19 : decode bT_name 19 = .ok (.invokestatic 48, 3) := by decide +kernel
theorem dT_name_22 : decode bT_name 22 = .ok (.aload_n 0, 1) := by decide +kernel
theorem dT_name_23 : decode bT_name 23 = .ok (.iconst 5, 1) := by decide +kernel
theorem dT_name_24 : decode bT_name 24 = .ok (.iload_n 1, 1) := by decide +kernel
theorem dT_name_25 : decode bT_name 25 = .ok (.iload_n 2, 1) := by decide +kernel
theorem dT_name_26 : decode bT_name 26 = .ok (.iconst 0, 1) := by decide +kernel
theorem dT_name_27 : decode bT_name 27 = .ok (.invokevirtual 52, 3) := by decide +kernel
theorem dT_name_30 : decode bT_name 30 = .ok (.ireturn, 1) := by decide +kernel
theorem dT_isVariable_0 : decode bT_isVariable 0 = .ok (.iload_n 0, 1) := by decide +kernel
theorem dT_isVariable_1 : decode bT_isVariable 1 = .ok (.iconst 3, 1) := by decide +kernel
theorem dT_isVariable_2 : decode bT_isVariable 2 = .ok (.invokestatic 56, 3) := by decide +kernel
theorem dT_isVariable_5 : decode bT_isVariable 5 = .ok (.ireturn, 1) := by decide +kernel
theorem dT_kept_0 : decode bT_kept 0 = .ok (.aload_n 0, 1) := by decide +kernel
theorem dT_kept_1 : decode bT_kept 1 = .ok (.invokevirtual 81, 3) := by decide +kernel
theorem dT_kept_4 : decode bT_kept 4 = .ok (.aload_n 0, 1) := by decide +kernel
theorem dT_kept_5 : decode bT_kept 5 = .ok (.getfield 16, 3) := by decide +kernel
theorem dT_kept_8 : decode bT_kept 8 = .ok (.invokevirtual 84, 3) := by decide +kernel
theorem dT_kept_11 : decode bT_kept 11 = .ok (.ireturn, 1) := by decide +kernel
theorem dT_requireShortProgram_0 : decode bT_requireShortProgram 0 = .ok (.aload_n 0, 1) := by decide +kernel
theorem dT_requireShortProgram_1 : decode bT_requireShortProgram 1 = .ok (.getfield 40, 3) := by decide +kernel
theorem dT_requireShortProgram_4 : decode bT_requireShortProgram 4 = .ok (.invokestatic 133, 3) := by decide +kernel
theorem dT_requireShortProgram_7 : decode bT_requireShortProgram 7 = .ok (.return_, 1) := by decide +kernel
theorem dC_fullLines_0 : decode bC_fullLines 0 = .ok (.iconst 0, 1) := by decide +kernel
theorem dC_fullLines_1 : decode bC_fullLines 1 = .ok (.istore_n 1, 1) := by decide +kernel
theorem dC_fullLines_2 : decode bC_fullLines 2 = .ok (.iconst 0, 1) := by decide +kernel
theorem dC_fullLines_3 : decode bC_fullLines 3 = .ok (.istore_n 2, 1) := by decide +kernel
theorem dC_fullLines_4 : decode bC_fullLines 4 = .ok (.iload_n 2, 1) := by decide +kernel
theorem dC_fullLines_5 : decode bC_fullLines 5 = .ok (.aload_n 0, 1) := by decide +kernel
theorem dC_fullLines_6 : decode bC_fullLines 6 = .ok (.getfield 16, 3) := by decide +kernel
theorem dC_fullLines_9 : decode bC_fullLines 9 = .ok (.if_icmp .ge 20, 3) := by decide +kernel
theorem dC_fullLines_12 : decode bC_fullLines 12 = .ok (.aload_n 0, 1) := by decide +kernel
theorem dC_fullLines_13 : decode bC_fullLines 13 = .ok (.iload_n 2, 1) := by decide +kernel
theorem dC_fullLines_14 : decode bC_fullLines 14 = .ok (.invokevirtual 26, 3) := by decide +kernel
theorem dC_fullLines_17 : decode bC_fullLines 17 = .ok (.ifCond .ne 6, 3) := by decide +kernel
theorem dC_fullLines_20 : decode bC_fullLines 20 = .ok (.iinc 1 1, 3) := by decide +kernel
theorem dC_fullLines_23 : decode bC_fullLines 23 = .ok (.iinc 2 1, 3) := by decide +kernel
theorem dC_fullLines_26 : decode bC_fullLines 26 = .ok (.goto (-22), 3) := by decide +kernel
theorem dC_fullLines_29 : decode bC_fullLines 29 = .ok (.iload_n 1, 1) := by decide +kernel
theorem dC_fullLines_30 : decode bC_fullLines 30 = .ok (.ireturn, 1) := by decide +kernel
theorem dT_part_0 : decode bT_part 0 = .ok (.aload_n 0, 1) := by decide +kernel
theorem dT_part_1 : decode bT_part 1 = .ok (.invokevirtual 81, 3) := by decide +kernel
theorem dT_part_4 : decode bT_part 4 = .ok (.iload_n 1, 1) := by decide +kernel
theorem dT_part_5 : decode bT_part 5 = .ok (.aload_n 0, 1) := by decide +kernel
theorem dT_part_6 : decode bT_part 6 = .ok (.getfield 16, 3) := by decide +kernel
theorem dT_part_9 : decode bT_part 9 = .ok (.invokevirtual 88, 3) := by decide +kernel
theorem dT_part_12 : decode bT_part 12 = .ok (.invokestatic 56, 3) := by decide +kernel
theorem dT_part_15 : decode bT_part 15 = .ok (.ifCond .eq 15, 3) := by decide +kernel
theorem dT_part_18 : decode bT_part 18 = .ok (.iload_n 2, 1) := by decide +kernel
theorem dT_part_19 : decode bT_part 19 = .ok (.iconst 4, 1) := by decide +kernel
theorem dT_part_20 : decode bT_part 20 = .ok (.invokestatic 56, 3) := by decide +kernel
theorem dT_part_23 : decode bT_part 23 = .ok (.ifCond .eq 7, 3) := by decide +kernel
theorem dT_part_26 : decode bT_part 26 = .ok (.iconst 1, 1) := by decide +kernel
theorem dT_part_27 : decode bT_part 27 = .ok (.goto 4, 3) := by decide +kernel
theorem dT_part_30 : decode bT_part 30 = .ok (.iconst 0, 1) := by decide +kernel
theorem dT_part_31 : decode bT_part 31 = .ok (.invokestatic 91, 3) := by decide +kernel
theorem dT_part_34 : decode bT_part 34 = .ok (.aload_n 0, 1) := by decide +kernel
theorem dT_part_35 : decode bT_part 35 = .ok (.getfield 16, 3) := by decide +kernel
theorem dT_part_38 : decode bT_part 38 = .ok (.iload_n 1, 1) := by decide +kernel
theorem dT_part_39 : decode bT_part 39 = .ok (.iload_n 2, 1) := by decide +kernel
theorem dT_part_40 : decode bT_part 40 = .ok (.invokevirtual 94, 3) := by decide +kernel
theorem dT_part_43 : decode bT_part 43 = .ok (.ireturn, 1) := by decide +kernel
theorem dT_requireIndex_0 : decode bT_requireIndex 0 = .ok (.iload_n 0, 1) := by decide +kernel
theorem dT_requireIndex_1 : decode bT_requireIndex 1 = .ok (.ifCond .ne 11, 3) := by decide +kernel
theorem dT_requireIndex_4 : decode bT_requireIndex 4 = .ok (.new 154, 3) := by decide +kernel
theorem dT_requireIndex_7 : decode bT_requireIndex 7 = .ok (.dup, 1) := by decide +kernel
theorem dT_requireIndex_8 : decode bT_requireIndex 8 = .ok (.invokespecial 156, 3) := by decide +kernel
theorem dT_requireIndex_11 : decode bT_requireIndex 11 = .ok (.athrow, 1) := by decide +kernel
theorem dT_requireIndex_12 : decode bT_requireIndex 12 = .ok (.return_, 1) := by decide +kernel
theorem dT_where_0 : decode bT_where 0 = .ok (.aload_n 0, 1) := by decide +kernel
theorem dT_where_1 : decode bT_where 1 = .ok (.invokevirtual 81, 3) := by decide +kernel
theorem dT_where_4 : decode bT_where 4 = .ok (.aload_n 0, 1) := by decide +kernel
theorem dT_where_5 : decode bT_where 5 = .ok (.iload_n 1, 1) := by decide +kernel
theorem dT_where_6 : decode bT_where 6 = .ok (.invokevirtual 98, 3) := by decide +kernel
theorem dT_where_9 : decode bT_where 9 = .ok (.ifCond .eq 14, 3) := by decide +kernel
theorem dT_where_12 : decode bT_where 12 = .ok (.iload_n 2, 1) := by decide +kernel
theorem dT_where_13 : decode bT_where 13 = .ok (.invokestatic 60, 3) := by decide +kernel
theorem dT_where_16 : decode bT_where 16 = .ok (.ifCond .eq 7, 3) := by decide +kernel
theorem dT_where_19 : decode bT_where 19 = .ok (.iconst 1, 1) := by decide +kernel
theorem dT_where_20 : decode bT_where 20 = .ok (.goto 4, 3) := by decide +kernel
theorem dT_where_23 : decode bT_where 23 = .ok (.iconst 0, 1) := by decide +kernel
theorem dT_where_24 : decode bT_where 24 = .ok (.invokestatic 91, 3) := by decide +kernel
theorem dT_where_27 : decode bT_where 27 = .ok (.aload_n 0, 1) := by decide +kernel
theorem dT_where_28 : decode bT_where 28 = .ok (.getfield 29, 3) := by decide +kernel
theorem dT_where_31 : decode bT_where 31 = .ok (.iload_n 1, 1) := by decide +kernel
theorem dT_where_32 : decode bT_where 32 = .ok (.iload_n 2, 1) := by decide +kernel
theorem dT_where_33 : decode bT_where 33 = .ok (.invokevirtual 101, 3) := by decide +kernel
theorem dT_where_36 : decode bT_where 36 = .ok (.ireturn, 1) := by decide +kernel
theorem dT_isPoint_0 : decode bT_isPoint 0 = .ok (.iload_n 1, 1) := by decide +kernel
theorem dT_isPoint_1 : decode bT_isPoint 1 = .ok (.aload_n 0, 1) := by decide +kernel
theorem dT_isPoint_2 : decode bT_isPoint 2 = .ok (.getfield 16, 3) := by decide +kernel
theorem dT_isPoint_5 : decode bT_isPoint 5 = .ok (.invokevirtual 88, 3) := by decide +kernel
theorem dT_isPoint_8 : decode bT_isPoint 8 = .ok (.iconst 1, 1) := by decide +kernel
theorem dT_isPoint_9 : decode bT_isPoint 9 = .ok (.iadd, 1) := by decide +kernel
theorem dT_isPoint_10 : decode bT_isPoint 10 = .ok (.invokestatic 56, 3) := by decide +kernel
theorem dT_isPoint_13 : decode bT_isPoint 13 = .ok (.ireturn, 1) := by decide +kernel
theorem dK_placeOfVariable_0 : decode bK_placeOfVariable 0 = .ok (.iconst 0, 1) := by decide +kernel
theorem dK_placeOfVariable_1 : decode bK_placeOfVariable 1 = .ok (.istore_n 3, 1) := by decide +kernel
theorem dK_placeOfVariable_2 : decode bK_placeOfVariable 2 = .ok (.iload_n 3, 1) := by decide +kernel
theorem dK_placeOfVariable_3 : decode bK_placeOfVariable 3 = .ok (.bipush 6, 2) := by decide +kernel
theorem dK_placeOfVariable_5 : decode bK_placeOfVariable 5 = .ok (.if_icmp .gt 29, 3) := by decide +kernel
theorem dK_placeOfVariable_8 : decode bK_placeOfVariable 8 = .ok (.aload_n 0, 1) := by decide +kernel
theorem dK_placeOfVariable_9 : decode bK_placeOfVariable 9 = .ok (.getfield 13, 3) := by decide +kernel
theorem dK_placeOfVariable_12 : decode bK_placeOfVariable 12 = .ok (.bipush 6, 2) := by decide +kernel
theorem dK_placeOfVariable_14 : decode bK_placeOfVariable 14 = .ok (.iload_n 2, 1) := by decide +kernel
theorem dK_placeOfVariable_15 : decode bK_placeOfVariable 15 = .ok (.iadd, 1) := by decide +kernel
theorem dK_placeOfVariable_16 : decode bK_placeOfVariable 16 = .ok (.aaload, 1) := by decide +kernel
theorem dK_placeOfVariable_17 : decode bK_placeOfVariable 17 = .ok (.iload_n 1, 1) := by decide +kernel
theorem dK_placeOfVariable_18 : decode bK_placeOfVariable 18 = .ok (.iaload, 1) := by decide +kernel
theorem dK_placeOfVariable_19 : decode bK_placeOfVariable 19 = .ok (.iload_n 3, 1) := by decide +kernel
theorem dK_placeOfVariable_20 : decode bK_placeOfVariable 20 = .ok (.ishr, 1) := by decide +kernel
theorem dK_placeOfVariable_21 : decode bK_placeOfVariable 21 = .ok (.iconst 1, 1) := by decide +kernel
theorem dK_placeOfVariable_22 : decode bK_placeOfVariable 22 = .ok (.iand, 1) := by decide +kernel
theorem dK_placeOfVariable_23 : decode bK_placeOfVariable 23 = .ok (.ifCond .eq 5, 3) := by decide +kernel
theorem dK_placeOfVariable_26 : decode bK_placeOfVariable 26 = .ok (.iload_n 3, 1) := by decide +kernel
theorem dK_placeOfVariable_27 : decode bK_placeOfVariable 27 = .ok (.ireturn, 1) := by decide +kernel
theorem dK_placeOfVariable_28 : decode bK_placeOfVariable 28 = .ok (.iinc 3 1, 3) := by decide +kernel
theorem dK_placeOfVariable_31 : decode bK_placeOfVariable 31 = .ok (.goto (-29), 3) := by decide +kernel
theorem dK_placeOfVariable_34 : decode bK_placeOfVariable 34 = .ok (.iconst (-1), 1) := by decide +kernel
theorem dK_placeOfVariable_35 : decode bK_placeOfVariable 35 = .ok (.ireturn, 1) := by decide +kernel
theorem dT_carriers_0 : decode bT_carriers 0 = .ok (.aload_n 0, 1) := by decide +kernel
theorem dT_carriers_1 : decode bT_carriers 1 = .ok (.invokevirtual 81, 3) := by decide +kernel
theorem dT_carriers_4 : decode bT_carriers 4 = .ok (.aload_n 0, 1) := by decide +kernel
theorem dT_carriers_5 : decode bT_carriers 5 = .ok (.iload_n 1, 1) := by decide +kernel
theorem dT_carriers_6 : decode bT_carriers 6 = .ok (.invokevirtual 98, 3) := by decide +kernel
theorem dT_carriers_9 : decode bT_carriers 9 = .ok (.ifCond .eq 14, 3) := by decide +kernel
theorem dT_carriers_12 : decode bT_carriers 12 = .ok (.iload_n 2, 1) := by decide +kernel
theorem dT_carriers_13 : decode bT_carriers 13 = .ok (.invokestatic 44, 3) := by decide +kernel
theorem dT_carriers_16 : decode bT_carriers 16 = .ok (.ifCond .eq 7, 3) := by decide +kernel
theorem dT_carriers_19 : decode bT_carriers 19 = .ok (.iconst 1, 1) := by decide +kernel
theorem dT_carriers_20 : decode bT_carriers 20 = .ok (.goto 4, 3) := by decide +kernel
theorem dT_carriers_23 : decode bT_carriers 23 = .ok (.iconst 0, 1) := by decide +kernel
theorem dT_carriers_24 : decode bT_carriers 24 = .ok (.invokestatic 91, 3) := by decide +kernel
theorem dT_carriers_27 : decode bT_carriers 27 = .ok (.aload_n 0, 1) := by decide +kernel
theorem dT_carriers_28 : decode bT_carriers 28 = .ok (.getfield 29, 3) := by decide +kernel
theorem dT_carriers_31 : decode bT_carriers 31 = .ok (.iload_n 1, 1) := by decide +kernel
theorem dT_carriers_32 : decode bT_carriers 32 = .ok (.iload_n 2, 1) := by decide +kernel
theorem dT_carriers_33 : decode bT_carriers 33 = .ok (.invokevirtual 104, 3) := by decide +kernel
theorem dT_carriers_36 : decode bT_carriers 36 = .ok (.ireturn, 1) := by decide +kernel
theorem dK_ofRegister_0 : decode bK_ofRegister 0 = .ok (.aload_n 0, 1) := by decide +kernel
theorem dK_ofRegister_1 : decode bK_ofRegister 1 = .ok (.getfield 13, 3) := by decide +kernel
theorem dK_ofRegister_4 : decode bK_ofRegister 4 = .ok (.iload_n 2, 1) := by decide +kernel
theorem dK_ofRegister_5 : decode bK_ofRegister 5 = .ok (.aaload, 1) := by decide +kernel
theorem dK_ofRegister_6 : decode bK_ofRegister 6 = .ok (.iload_n 1, 1) := by decide +kernel
theorem dK_ofRegister_7 : decode bK_ofRegister 7 = .ok (.iaload, 1) := by decide +kernel
theorem dK_ofRegister_8 : decode bK_ofRegister 8 = .ok (.bipush 63, 2) := by decide +kernel
theorem dK_ofRegister_10 : decode bK_ofRegister 10 = .ok (.iand, 1) := by decide +kernel
theorem dK_ofRegister_11 : decode bK_ofRegister 11 = .ok (.ireturn, 1) := by decide +kernel
theorem dT_restart_0 : decode bT_restart 0 = .ok (.aload_n 0, 1) := by decide +kernel
theorem dT_restart_1 : decode bT_restart 1 = .ok (.invokevirtual 81, 3) := by decide +kernel
theorem dT_restart_4 : decode bT_restart 4 = .ok (.aload_n 0, 1) := by decide +kernel
theorem dT_restart_5 : decode bT_restart 5 = .ok (.getfield 36, 3) := by decide +kernel
theorem dT_restart_8 : decode bT_restart 8 = .ok (.invokevirtual 78, 3) := by decide +kernel
theorem dT_restart_11 : decode bT_restart 11 = .ok (.return_, 1) := by decide +kernel
theorem dT_step_0 : decode bT_step 0 = .ok (.aload_n 0, 1) := by decide +kernel
theorem dT_step_1 : decode bT_step 1 = .ok (.invokevirtual 81, 3) := by decide +kernel
theorem dT_step_4 : decode bT_step 4 = .ok (.aload_n 0, 1) := by decide +kernel
theorem dT_step_5 : decode bT_step 5 = .ok (.getfield 36, 3) := by decide +kernel
theorem dT_step_8 : decode bT_step 8 = .ok (.aload_n 0, 1) := by decide +kernel
theorem dT_step_9 : decode bT_step 9 = .ok (.getfield 12, 3) := by decide +kernel
theorem dT_step_12 : decode bT_step 12 = .ok (.aload_n 0, 1) := by decide +kernel
theorem dT_step_13 : decode bT_step 13 = .ok (.getfield 16, 3) := by decide +kernel
theorem dT_step_16 : decode bT_step 16 = .ok (.invokevirtual 107, 3) := by decide +kernel
theorem dT_step_19 : decode bT_step 19 = .ok (.ireturn, 1) := by decide +kernel
theorem dR_advance_0 : decode bR_advance 0 = .ok (.aload_n 0, 1) := by decide +kernel
theorem dR_advance_1 : decode bR_advance 1 = .ok (.getfield 29, 3) := by decide +kernel
theorem dR_advance_4 : decode bR_advance 4 = .ok (.aload_n 1, 1) := by decide +kernel
theorem dR_advance_5 : decode bR_advance 5 = .ok (.invokevirtual 39, 3) := by decide +kernel
theorem dR_advance_8 : decode bR_advance 8 = .ok (.if_icmp .ge 13, 3) := by decide +kernel
theorem dR_advance_11 : decode bR_advance 11 = .ok (.aload_n 0, 1) := by decide +kernel
theorem dR_advance_12 : decode bR_advance 12 = .ok (.getfield 33, 3) := by decide +kernel
theorem dR_advance_15 : decode bR_advance 15 = .ok (.sipush 200, 3) := by decide +kernel
theorem dR_advance_18 : decode bR_advance 18 = .ok (.if_icmp .lt 5, 3) := by decide +kernel
theorem dR_advance_21 : decode bR_advance 21 = .ok (.iconst (-1), 1) := by decide +kernel
theorem dR_advance_22 : decode bR_advance 22 = .ok (.ireturn, 1) := by decide +kernel
theorem dR_advance_23 : decode bR_advance 23 = .ok (.aload_n 1, 1) := by decide +kernel
theorem dR_advance_24 : decode bR_advance 24 = .ok (.aload_n 0, 1) := by decide +kernel
theorem dR_advance_25 : decode bR_advance 25 = .ok (.getfield 29, 3) := by decide +kernel
theorem dR_advance_28 : decode bR_advance 28 = .ok (.invokevirtual 45, 3) := by decide +kernel
theorem dR_advance_31 : decode bR_advance 31 = .ok (.iconst 5, 1) := by decide +kernel
theorem dR_advance_32 : decode bR_advance 32 = .ok (.if_icmp .ne 32, 3) := by decide +kernel
theorem dR_advance_35 : decode bR_advance 35 = .ok (.aload_n 0, 1) := by decide +kernel
theorem dR_advance_36 : decode bR_advance 36 = .ok (.aload_n 1, 1) := by decide +kernel
theorem dR_advance_37 : decode bR_advance 37 = .ok (.aload_n 0, 1) := by decide +kernel
theorem dR_advance_38 : decode bR_advance 38 = .ok (.getfield 29, 3) := by decide +kernel
theorem dR_advance_41 : decode bR_advance 41 = .ok (.iconst 1, 1) := by decide +kernel
theorem dR_advance_42 : decode bR_advance 42 = .ok (.invokevirtual 49, 3) := by decide +kernel
theorem dR_advance_45 : decode bR_advance 45 = .ok (.aload_n 0, 1) := by decide +kernel
theorem dR_advance_46 : decode bR_advance 46 = .ok (.getfield 12, 3) := by decide +kernel
theorem dR_advance_49 : decode bR_advance 49 = .ok (.aload_n 1, 1) := by decide +kernel
theorem dR_advance_50 : decode bR_advance 50 = .ok (.aload_n 0, 1) := by decide +kernel
theorem dR_advance_51 : decode bR_advance 51 = .ok (.getfield 29, 3) := by decide +kernel
theorem dR_advance_54 : decode bR_advance 54 = .ok (.iconst 2, 1) := by decide +kernel
theorem dR_advance_55 : decode bR_advance 55 = .ok (.invokevirtual 49, 3) := by decide +kernel
theorem dR_advance_58 : decode bR_advance 58 = .ok (.invokevirtual 53, 3) := by decide +kernel
theorem dR_advance_61 : decode bR_advance 61 = .ok (.invokevirtual 56, 3) := by decide +kernel
theorem dR_advance_64 : decode bR_advance 64 = .ok (.aload_n 0, 1) := by decide +kernel
theorem dR_advance_65 : decode bR_advance 65 = .ok (.getfield 18, 3) := by decide +kernel
theorem dR_advance_68 : decode bR_advance 68 = .ok (.aload_n 2, 1) := by decide +kernel
theorem dR_advance_69 : decode bR_advance 69 = .ok (.aload_n 0, 1) := by decide +kernel
theorem dR_advance_70 : decode bR_advance 70 = .ok (.getfield 29, 3) := by decide +kernel
theorem dR_advance_73 : decode bR_advance 73 = .ok (.invokevirtual 60, 3) := by decide +kernel
theorem dR_advance_76 : decode bR_advance 76 = .ok (.pop, 1) := by decide +kernel
theorem dR_advance_77 : decode bR_advance 77 = .ok (.aload_n 0, 1) := by decide +kernel
theorem dR_advance_78 : decode bR_advance 78 = .ok (.aload_n 0, 1) := by decide +kernel
theorem dR_advance_79 : decode bR_advance 79 = .ok (.getfield 12, 3) := by decide +kernel
theorem dR_advance_82 : decode bR_advance 82 = .ok (.aload_n 1, 1) := by decide +kernel
theorem dR_advance_83 : decode bR_advance 83 = .ok (.aload_n 0, 1) := by decide +kernel
theorem dR_advance_84 : decode bR_advance 84 = .ok (.getfield 29, 3) := by decide +kernel
theorem dR_advance_87 : decode bR_advance 87 = .ok (.invokevirtual 60, 3) := by decide +kernel
theorem dR_advance_90 : decode bR_advance 90 = .ok (.putfield 29, 3) := by decide +kernel
theorem dR_advance_93 : decode bR_advance 93 = .ok (.aload_n 0, 1) := by decide +kernel
theorem dR_advance_94 : decode bR_advance 94 = .ok (.dup, 1) := by decide +kernel
theorem dR_advance_95 : decode bR_advance 95 = .ok (.getfield 33, 3) := by decide +kernel
theorem dR_advance_98 : decode bR_advance 98 = .ok (.iconst 1, 1) := by decide +kernel
theorem dR_advance_99 : decode bR_advance 99 = .ok (.iadd, 1) := by decide +kernel
theorem dR_advance_100 : decode bR_advance 100 = .ok (.putfield 33, 3) := by decide +kernel
theorem dR_advance_103 : decode bR_advance 103 = .ok (.aload_n 0, 1) := by decide +kernel
theorem dR_advance_104 : decode bR_advance 104 = .ok (.getfield 29, 3) := by decide +kernel
theorem dR_advance_107 : decode bR_advance 107 = .ok (.ireturn, 1) := by decide +kernel
theorem dM_content_0 : decode bM_content 0 = .ok (.aload_n 0, 1) := by decide +kernel
theorem dM_content_1 : decode bM_content 1 = .ok (.getfield 9, 3) := by decide +kernel
theorem dM_content_4 : decode bM_content 4 = .ok (.iload_n 1, 1) := by decide +kernel
theorem dM_content_5 : decode bM_content 5 = .ok (.iaload, 1) := by decide +kernel
theorem dM_content_6 : decode bM_content 6 = .ok (.ireturn, 1) := by decide +kernel
theorem dR_giveValue_0 : decode bR_giveValue 0 = .ok (.aload_n 0, 1) := by decide +kernel
theorem dR_giveValue_1 : decode bR_giveValue 1 = .ok (.getfield 21, 3) := by decide +kernel
theorem dR_giveValue_4 : decode bR_giveValue 4 = .ok (.iload_n 1, 1) := by decide +kernel
theorem dR_giveValue_5 : decode bR_giveValue 5 = .ok (.iload_n 2, 1) := by decide +kernel
theorem dR_giveValue_6 : decode bR_giveValue 6 = .ok (.iastore, 1) := by decide +kernel
theorem dR_giveValue_7 : decode bR_giveValue 7 = .ok (.aload_n 0, 1) := by decide +kernel
theorem dR_giveValue_8 : decode bR_giveValue 8 = .ok (.getfield 25, 3) := by decide +kernel
theorem dR_giveValue_11 : decode bR_giveValue 11 = .ok (.iload_n 1, 1) := by decide +kernel
theorem dR_giveValue_12 : decode bR_giveValue 12 = .ok (.iconst 1, 1) := by decide +kernel
theorem dR_giveValue_13 : decode bR_giveValue 13 = .ok (.bastore, 1) := by decide +kernel
theorem dR_giveValue_14 : decode bR_giveValue 14 = .ok (.return_, 1) := by decide +kernel
theorem dM_perform_0 : decode bM_perform 0 = .ok (.aload_n 1, 1) := by decide +kernel
theorem dM_perform_1 : decode bM_perform 1 = .ok (.iload_n 2, 1) := by decide +kernel
theorem dM_perform_2 : decode bM_perform 2 = .ok (.iconst 1, 1) := by decide +kernel
theorem dM_perform_3 : decode bM_perform 3 = .ok (.invokevirtual 28, 3) := by decide +kernel
theorem dM_perform_6 : decode bM_perform 6 = .ok (.istore_n 3, 1) := by decide +kernel
theorem dM_perform_7 : decode bM_perform 7 = .ok (.aload_n 1, 1) := by decide +kernel
theorem dM_perform_8 : decode bM_perform 8 = .ok (.iload_n 2, 1) := by decide +kernel
theorem dM_perform_9 : decode bM_perform 9 = .ok (.iconst 2, 1) := by decide +kernel
theorem dM_perform_10 : decode bM_perform 10 = .ok (.invokevirtual 28, 3) := by decide +kernel
theorem dM_perform_13 : decode bM_perform 13 = .ok (.istore 4, 2) := by decide +kernel
theorem dM_perform_15 : decode bM_perform 15 = .ok (.aload_n 1, 1) := by decide +kernel
theorem dM_perform_16 : decode bM_perform 16 = .ok (.iload_n 2, 1) := by decide +kernel
theorem dM_perform_17 : decode bM_perform 17 = .ok (.invokevirtual 34, 3) := by decide +kernel
theorem dM_perform_20 : decode bM_perform 20 = .ok (.tableswitch 125 0 4 #[36, 47, 63, 91, 104], 36) := by decide +kernel
theorem dM_perform_56 : decode bM_perform 56 = .ok (.aload_n 0, 1) := by decide +kernel
theorem dM_perform_57 : decode bM_perform 57 = .ok (.getfield 9, 3) := by decide +kernel
theorem dM_perform_60 : decode bM_perform 60 = .ok (.iload_n 3, 1) := by decide +kernel
theorem dM_perform_61 : decode bM_perform 61 = .ok (.iload 4, 2) := by decide +kernel
theorem dM_perform_63 : decode bM_perform 63 = .ok (.iastore, 1) := by decide +kernel
theorem dM_perform_64 : decode bM_perform 64 = .ok (.goto 81, 3) := by decide +kernel
theorem dM_perform_67 : decode bM_perform 67 = .ok (.aload_n 0, 1) := by decide +kernel
theorem dM_perform_68 : decode bM_perform 68 = .ok (.getfield 9, 3) := by decide +kernel
theorem dM_perform_71 : decode bM_perform 71 = .ok (.iload_n 3, 1) := by decide +kernel
theorem dM_perform_72 : decode bM_perform 72 = .ok (.aload_n 0, 1) := by decide +kernel
theorem dM_perform_73 : decode bM_perform 73 = .ok (.getfield 9, 3) := by decide +kernel
theorem dM_perform_76 : decode bM_perform 76 = .ok (.iload 4, 2) := by decide +kernel
theorem dM_perform_78 : decode bM_perform 78 = .ok (.iaload, 1) := by decide +kernel
theorem dM_perform_79 : decode bM_perform 79 = .ok (.iastore, 1) := by decide +kernel
theorem dM_perform_80 : decode bM_perform 80 = .ok (.goto 65, 3) := by decide +kernel
theorem dM_perform_83 : decode bM_perform 83 = .ok (.aload_n 0, 1) := by decide +kernel
theorem dM_perform_84 : decode bM_perform 84 = .ok (.getfield 9, 3) := by decide +kernel
theorem dM_perform_87 : decode bM_perform 87 = .ok (.iload_n 3, 1) := by decide +kernel
theorem dM_perform_88 : decode bM_perform 88 = .ok (.aload_n 0, 1) := by decide +kernel
theorem dM_perform_89 : decode bM_perform 89 = .ok (.getfield 9, 3) := by decide +kernel
theorem dM_perform_92 : decode bM_perform 92 = .ok (.iload 4, 2) := by decide +kernel
theorem dM_perform_94 : decode bM_perform 94 = .ok (.iaload, 1) := by decide +kernel
theorem dM_perform_95 : decode bM_perform 95 = .ok (.aload_n 0, 1) := by decide +kernel
theorem dM_perform_96 : decode bM_perform 96 = .ok (.getfield 9, 3) := by decide +kernel
theorem dM_perform_99 : decode bM_perform 99 = .ok (.aload_n 1, 1) := by decide +kernel
theorem dM_perform_100 : decode bM_perform 100 = .ok (.iload_n 2, 1) := by decide +kernel
theorem dM_perform_101 : decode bM_perform 101 = .ok (.iconst 3, 1) := by decide +kernel
theorem dM_perform_102 : decode bM_perform 102 = .ok (.invokevirtual 28, 3) := by decide +kernel
theorem dM_perform_105 : decode bM_perform 105 = .ok (.iaload, 1) := by decide +kernel
theorem dM_perform_106 : decode bM_perform 106 = .ok (.iadd, 1) := by decide +kernel
theorem dM_perform_107 : decode bM_perform 107 = .ok (.iastore, 1) := by decide +kernel
theorem dM_perform_108 : decode bM_perform 108 = .ok (.goto 37, 3) := by decide +kernel
theorem dM_perform_111 : decode bM_perform 111 = .ok (.aload_n 0, 1) := by decide +kernel
theorem dM_perform_112 : decode bM_perform 112 = .ok (.aload_n 0, 1) := by decide +kernel
theorem dM_perform_113 : decode bM_perform 113 = .ok (.getfield 9, 3) := by decide +kernel
theorem dM_perform_116 : decode bM_perform 116 = .ok (.iload_n 3, 1) := by decide +kernel
theorem dM_perform_117 : decode bM_perform 117 = .ok (.iaload, 1) := by decide +kernel
theorem dM_perform_118 : decode bM_perform 118 = .ok (.invokevirtual 38, 3) := by decide +kernel
theorem dM_perform_121 : decode bM_perform 121 = .ok (.goto 24, 3) := by decide +kernel
theorem dM_perform_124 : decode bM_perform 124 = .ok (.aload_n 0, 1) := by decide +kernel
theorem dM_perform_125 : decode bM_perform 125 = .ok (.getfield 9, 3) := by decide +kernel
theorem dM_perform_128 : decode bM_perform 128 = .ok (.iload_n 3, 1) := by decide +kernel
theorem dM_perform_129 : decode bM_perform 129 = .ok (.iaload, 1) := by decide +kernel
theorem dM_perform_130 : decode bM_perform 130 = .ok (.ifCond .ne 11, 3) := by decide +kernel
theorem dM_perform_133 : decode bM_perform 133 = .ok (.aload_n 1, 1) := by decide +kernel
theorem dM_perform_134 : decode bM_perform 134 = .ok (.iload_n 2, 1) := by decide +kernel
theorem dM_perform_135 : decode bM_perform 135 = .ok (.invokevirtual 42, 3) := by decide +kernel
theorem dM_perform_138 : decode bM_perform 138 = .ok (.goto 6, 3) := by decide +kernel
theorem dM_perform_141 : decode bM_perform 141 = .ok (.iload_n 2, 1) := by decide +kernel
theorem dM_perform_142 : decode bM_perform 142 = .ok (.iconst 1, 1) := by decide +kernel
theorem dM_perform_143 : decode bM_perform 143 = .ok (.iadd, 1) := by decide +kernel
theorem dM_perform_144 : decode bM_perform 144 = .ok (.ireturn, 1) := by decide +kernel
theorem dM_perform_145 : decode bM_perform 145 = .ok (.iload_n 2, 1) := by decide +kernel
theorem dM_perform_146 : decode bM_perform 146 = .ok (.iconst 1, 1) := by decide +kernel
theorem dM_perform_147 : decode bM_perform 147 = .ok (.iadd, 1) := by decide +kernel
theorem dM_perform_148 : decode bM_perform 148 = .ok (.ireturn, 1) := by decide +kernel
theorem dM_putOut_0 : decode bM_putOut 0 = .ok (.aload_n 0, 1) := by decide +kernel
theorem dM_putOut_1 : decode bM_putOut 1 = .ok (.getfield 18, 3) := by decide +kernel
theorem dM_putOut_4 : decode bM_putOut 4 = .ok (.sipush 200, 3) := by decide +kernel
theorem dM_putOut_7 : decode bM_putOut 7 = .ok (.if_icmp .ge 23, 3) := by decide +kernel
theorem dM_putOut_10 : decode bM_putOut 10 = .ok (.aload_n 0, 1) := by decide +kernel
theorem dM_putOut_11 : decode bM_putOut 11 = .ok (.getfield 15, 3) := by decide +kernel
theorem dM_putOut_14 : decode bM_putOut 14 = .ok (.aload_n 0, 1) := by decide +kernel
theorem dM_putOut_15 : decode bM_putOut 15 = .ok (.getfield 18, 3) := by decide +kernel
theorem dM_putOut_18 : decode bM_putOut 18 = .ok (.iload_n 1, 1) := by decide +kernel
theorem dM_putOut_19 : decode bM_putOut 19 = .ok (.iastore, 1) := by decide +kernel
theorem dM_putOut_20 : decode bM_putOut 20 = .ok (.aload_n 0, 1) := by decide +kernel
theorem dM_putOut_21 : decode bM_putOut 21 = .ok (.dup, 1) := by decide +kernel
theorem dM_putOut_22 : decode bM_putOut 22 = .ok (.getfield 18, 3) := by decide +kernel
theorem dM_putOut_25 : decode bM_putOut 25 = .ok (.iconst 1, 1) := by decide +kernel
theorem dM_putOut_26 : decode bM_putOut 26 = .ok (.iadd, 1) := by decide +kernel
theorem dM_putOut_27 : decode bM_putOut 27 = .ok (.putfield 18, 3) := by decide +kernel
theorem dM_putOut_30 : decode bM_putOut 30 = .ok (.return_, 1) := by decide +kernel
theorem dT_line_0 : decode bT_line 0 = .ok (.aload_n 0, 1) := by decide +kernel
theorem dT_line_1 : decode bT_line 1 = .ok (.invokevirtual 81, 3) := by decide +kernel
theorem dT_line_4 : decode bT_line 4 = .ok (.aload_n 0, 1) := by decide +kernel
theorem dT_line_5 : decode bT_line 5 = .ok (.getfield 36, 3) := by decide +kernel
theorem dT_line_8 : decode bT_line 8 = .ok (.invokevirtual 111, 3) := by decide +kernel
theorem dT_line_11 : decode bT_line 11 = .ok (.ireturn, 1) := by decide +kernel
theorem dR_position_0 : decode bR_position 0 = .ok (.aload_n 0, 1) := by decide +kernel
theorem dR_position_1 : decode bR_position 1 = .ok (.getfield 29, 3) := by decide +kernel
theorem dR_position_4 : decode bR_position 4 = .ok (.ireturn, 1) := by decide +kernel
theorem dT_register_0 : decode bT_register 0 = .ok (.aload_n 0, 1) := by decide +kernel
theorem dT_register_1 : decode bT_register 1 = .ok (.invokevirtual 81, 3) := by decide +kernel
theorem dT_register_4 : decode bT_register 4 = .ok (.iload_n 1, 1) := by decide +kernel
theorem dT_register_5 : decode bT_register 5 = .ok (.invokestatic 44, 3) := by decide +kernel
theorem dT_register_8 : decode bT_register 8 = .ok (.invokestatic 91, 3) := by decide +kernel
theorem dT_register_11 : decode bT_register 11 = .ok (.aload_n 0, 1) := by decide +kernel
theorem dT_register_12 : decode bT_register 12 = .ok (.getfield 36, 3) := by decide +kernel
theorem dT_register_15 : decode bT_register 15 = .ok (.iload_n 2, 1) := by decide +kernel
theorem dT_register_16 : decode bT_register 16 = .ok (.invokevirtual 114, 3) := by decide +kernel
theorem dT_register_19 : decode bT_register 19 = .ok (.iload_n 1, 1) := by decide +kernel
theorem dT_register_20 : decode bT_register 20 = .ok (.invokevirtual 118, 3) := by decide +kernel
theorem dT_register_23 : decode bT_register 23 = .ok (.ireturn, 1) := by decide +kernel
theorem dR_machine_0 : decode bR_machine 0 = .ok (.iload_n 1, 1) := by decide +kernel
theorem dR_machine_1 : decode bR_machine 1 = .ok (.ifCond .eq 10, 3) := by decide +kernel
theorem dR_machine_4 : decode bR_machine 4 = .ok (.aload_n 0, 1) := by decide +kernel
theorem dR_machine_5 : decode bR_machine 5 = .ok (.getfield 18, 3) := by decide +kernel
theorem dR_machine_8 : decode bR_machine 8 = .ok (.goto 7, 3) := by decide +kernel
theorem dR_machine_11 : decode bR_machine 11 = .ok (.aload_n 0, 1) := by decide +kernel
theorem dR_machine_12 : decode bR_machine 12 = .ok (.getfield 12, 3) := by decide +kernel
theorem dR_machine_15 : decode bR_machine 15 = .ok (.areturn, 1) := by decide +kernel
theorem dT_output_0 : decode bT_output 0 = .ok (.aload_n 0, 1) := by decide +kernel
theorem dT_output_1 : decode bT_output 1 = .ok (.invokevirtual 81, 3) := by decide +kernel
theorem dT_output_4 : decode bT_output 4 = .ok (.iload_n 1, 1) := by decide +kernel
theorem dT_output_5 : decode bT_output 5 = .ok (.aload_n 0, 1) := by decide +kernel
theorem dT_output_6 : decode bT_output 6 = .ok (.getfield 36, 3) := by decide +kernel
theorem dT_output_9 : decode bT_output 9 = .ok (.iload_n 2, 1) := by decide +kernel
theorem dT_output_10 : decode bT_output 10 = .ok (.invokevirtual 114, 3) := by decide +kernel
theorem dT_output_13 : decode bT_output 13 = .ok (.invokevirtual 124, 3) := by decide +kernel
theorem dT_output_16 : decode bT_output 16 = .ok (.invokestatic 56, 3) := by decide +kernel
theorem dT_output_19 : decode bT_output 19 = .ok (.invokestatic 91, 3) := by decide +kernel
theorem dT_output_22 : decode bT_output 22 = .ok (.aload_n 0, 1) := by decide +kernel
theorem dT_output_23 : decode bT_output 23 = .ok (.getfield 36, 3) := by decide +kernel
theorem dT_output_26 : decode bT_output 26 = .ok (.iload_n 2, 1) := by decide +kernel
theorem dT_output_27 : decode bT_output 27 = .ok (.invokevirtual 114, 3) := by decide +kernel
theorem dT_output_30 : decode bT_output 30 = .ok (.iload_n 1, 1) := by decide +kernel
theorem dT_output_31 : decode bT_output 31 = .ok (.invokevirtual 127, 3) := by decide +kernel
theorem dT_output_34 : decode bT_output 34 = .ok (.ireturn, 1) := by decide +kernel
theorem dM_outputCount_0 : decode bM_outputCount 0 = .ok (.aload_n 0, 1) := by decide +kernel
theorem dM_outputCount_1 : decode bM_outputCount 1 = .ok (.getfield 18, 3) := by decide +kernel
theorem dM_outputCount_4 : decode bM_outputCount 4 = .ok (.ireturn, 1) := by decide +kernel
theorem dM_outputAt_0 : decode bM_outputAt 0 = .ok (.aload_n 0, 1) := by decide +kernel
theorem dM_outputAt_1 : decode bM_outputAt 1 = .ok (.getfield 15, 3) := by decide +kernel
theorem dM_outputAt_4 : decode bM_outputAt 4 = .ok (.iload_n 1, 1) := by decide +kernel
theorem dM_outputAt_5 : decode bM_outputAt 5 = .ok (.iaload, 1) := by decide +kernel
theorem dM_outputAt_6 : decode bM_outputAt 6 = .ok (.ireturn, 1) := by decide +kernel
theorem dT_value_0 : decode bT_value 0 = .ok (.aload_n 0, 1) := by decide +kernel
theorem dT_value_1 : decode bT_value 1 = .ok (.invokevirtual 81, 3) := by decide +kernel
theorem dT_value_4 : decode bT_value 4 = .ok (.iload_n 1, 1) := by decide +kernel
theorem dT_value_5 : decode bT_value 5 = .ok (.invokestatic 60, 3) := by decide +kernel
theorem dT_value_8 : decode bT_value 8 = .ok (.invokestatic 91, 3) := by decide +kernel
theorem dT_value_11 : decode bT_value 11 = .ok (.aload_n 0, 1) := by decide +kernel
theorem dT_value_12 : decode bT_value 12 = .ok (.getfield 36, 3) := by decide +kernel
theorem dT_value_15 : decode bT_value 15 = .ok (.iload_n 1, 1) := by decide +kernel
theorem dT_value_16 : decode bT_value 16 = .ok (.invokevirtual 130, 3) := by decide +kernel
theorem dT_value_19 : decode bT_value 19 = .ok (.invokestatic 133, 3) := by decide +kernel
theorem dT_value_22 : decode bT_value 22 = .ok (.aload_n 0, 1) := by decide +kernel
theorem dT_value_23 : decode bT_value 23 = .ok (.getfield 36, 3) := by decide +kernel
theorem dT_value_26 : decode bT_value 26 = .ok (.iload_n 1, 1) := by decide +kernel
theorem dT_value_27 : decode bT_value 27 = .ok (.invokevirtual 136, 3) := by decide +kernel
theorem dT_value_30 : decode bT_value 30 = .ok (.ireturn, 1) := by decide +kernel
theorem dR_hasValue_0 : decode bR_hasValue 0 = .ok (.aload_n 0, 1) := by decide +kernel
theorem dR_hasValue_1 : decode bR_hasValue 1 = .ok (.getfield 25, 3) := by decide +kernel
theorem dR_hasValue_4 : decode bR_hasValue 4 = .ok (.iload_n 1, 1) := by decide +kernel
theorem dR_hasValue_5 : decode bR_hasValue 5 = .ok (.baload, 1) := by decide +kernel
theorem dR_hasValue_6 : decode bR_hasValue 6 = .ok (.ireturn, 1) := by decide +kernel
theorem dR_valueOf_0 : decode bR_valueOf 0 = .ok (.aload_n 0, 1) := by decide +kernel
theorem dR_valueOf_1 : decode bR_valueOf 1 = .ok (.getfield 21, 3) := by decide +kernel
theorem dR_valueOf_4 : decode bR_valueOf 4 = .ok (.iload_n 1, 1) := by decide +kernel
theorem dR_valueOf_5 : decode bR_valueOf 5 = .ok (.iaload, 1) := by decide +kernel
theorem dR_valueOf_6 : decode bR_valueOf 6 = .ok (.ireturn, 1) := by decide +kernel
theorem dT_read_0 : decode bT_read 0 = .ok (.aload_n 0, 1) := by decide +kernel
theorem dT_read_1 : decode bT_read 1 = .ok (.invokevirtual 81, 3) := by decide +kernel
theorem dT_read_4 : decode bT_read 4 = .ok (.iload_n 1, 1) := by decide +kernel
theorem dT_read_5 : decode bT_read 5 = .ok (.invokestatic 60, 3) := by decide +kernel
theorem dT_read_8 : decode bT_read 8 = .ok (.invokestatic 91, 3) := by decide +kernel
theorem dT_read_11 : decode bT_read 11 = .ok (.aload_n 0, 1) := by decide +kernel
theorem dT_read_12 : decode bT_read 12 = .ok (.getfield 29, 3) := by decide +kernel
theorem dT_read_15 : decode bT_read 15 = .ok (.aload_n 0, 1) := by decide +kernel
theorem dT_read_16 : decode bT_read 16 = .ok (.getfield 36, 3) := by decide +kernel
theorem dT_read_19 : decode bT_read 19 = .ok (.invokevirtual 111, 3) := by decide +kernel
theorem dT_read_22 : decode bT_read 22 = .ok (.iload_n 1, 1) := by decide +kernel
theorem dT_read_23 : decode bT_read 23 = .ok (.invokevirtual 101, 3) := by decide +kernel
theorem dT_read_26 : decode bT_read 26 = .ok (.istore_n 2, 1) := by decide +kernel
theorem dT_read_27 : decode bT_read 27 = .ok (.iload_n 2, 1) := by decide +kernel
theorem dT_read_28 : decode bT_read 28 = .ok (.iconst (-1), 1) := by decide +kernel
theorem dT_read_29 : decode bT_read 29 = .ok (.if_icmp .eq 7, 3) := by decide +kernel
theorem dT_read_32 : decode bT_read 32 = .ok (.iconst 1, 1) := by decide +kernel
theorem dT_read_33 : decode bT_read 33 = .ok (.goto 4, 3) := by decide +kernel
theorem dT_read_36 : decode bT_read 36 = .ok (.iconst 0, 1) := by decide +kernel
theorem dT_read_37 : decode bT_read 37 = .ok (.invokestatic 139, 3) := by decide +kernel
theorem dT_read_40 : decode bT_read 40 = .ok (.iload_n 2, 1) := by decide +kernel
theorem dT_read_41 : decode bT_read 41 = .ok (.bipush 6, 2) := by decide +kernel
theorem dT_read_43 : decode bT_read 43 = .ok (.if_icmp .ne 19, 3) := by decide +kernel
theorem dT_read_46 : decode bT_read 46 = .ok (.aload_n 0, 1) := by decide +kernel
theorem dT_read_47 : decode bT_read 47 = .ok (.getfield 29, 3) := by decide +kernel
theorem dT_read_50 : decode bT_read 50 = .ok (.aload_n 0, 1) := by decide +kernel
theorem dT_read_51 : decode bT_read 51 = .ok (.getfield 36, 3) := by decide +kernel
theorem dT_read_54 : decode bT_read 54 = .ok (.invokevirtual 111, 3) := by decide +kernel
theorem dT_read_57 : decode bT_read 57 = .ok (.iload_n 1, 1) := by decide +kernel
theorem dT_read_58 : decode bT_read 58 = .ok (.invokevirtual 142, 3) := by decide +kernel
theorem dT_read_61 : decode bT_read 61 = .ok (.ireturn, 1) := by decide +kernel
theorem dT_read_62 : decode bT_read 62 = .ok (.aload_n 0, 1) := by decide +kernel
theorem dT_read_63 : decode bT_read 63 = .ok (.getfield 36, 3) := by decide +kernel
theorem dT_read_66 : decode bT_read 66 = .ok (.iconst 1, 1) := by decide +kernel
theorem dT_read_67 : decode bT_read 67 = .ok (.invokevirtual 114, 3) := by decide +kernel
theorem dT_read_70 : decode bT_read 70 = .ok (.iload_n 2, 1) := by decide +kernel
theorem dT_read_71 : decode bT_read 71 = .ok (.invokevirtual 118, 3) := by decide +kernel
theorem dT_read_74 : decode bT_read 74 = .ok (.ireturn, 1) := by decide +kernel
theorem dT_requireFound_0 : decode bT_requireFound 0 = .ok (.iload_n 0, 1) := by decide +kernel
theorem dT_requireFound_1 : decode bT_requireFound 1 = .ok (.ifCond .ne 11, 3) := by decide +kernel
theorem dT_requireFound_4 : decode bT_requireFound 4 = .ok (.new 157, 3) := by decide +kernel
theorem dT_requireFound_7 : decode bT_requireFound 7 = .ok (.dup, 1) := by decide +kernel
theorem dT_requireFound_8 : decode bT_requireFound 8 = .ok (.invokespecial 159, 3) := by decide +kernel
theorem dT_requireFound_11 : decode bT_requireFound 11 = .ok (.athrow, 1) := by decide +kernel
theorem dT_requireFound_12 : decode bT_requireFound 12 = .ok (.return_, 1) := by decide +kernel
theorem dK_constantOfVariable_0 : decode bK_constantOfVariable 0 = .ok (.aload_n 0, 1) := by decide +kernel
theorem dK_constantOfVariable_1 : decode bK_constantOfVariable 1 = .ok (.getfield 16, 3) := by decide +kernel
theorem dK_constantOfVariable_4 : decode bK_constantOfVariable 4 = .ok (.bipush 6, 2) := by decide +kernel
theorem dK_constantOfVariable_6 : decode bK_constantOfVariable 6 = .ok (.iload_n 2, 1) := by decide +kernel
theorem dK_constantOfVariable_7 : decode bK_constantOfVariable 7 = .ok (.iadd, 1) := by decide +kernel
theorem dK_constantOfVariable_8 : decode bK_constantOfVariable 8 = .ok (.aaload, 1) := by decide +kernel
theorem dK_constantOfVariable_9 : decode bK_constantOfVariable 9 = .ok (.iload_n 1, 1) := by decide +kernel
theorem dK_constantOfVariable_10 : decode bK_constantOfVariable 10 = .ok (.iaload, 1) := by decide +kernel
theorem dK_constantOfVariable_11 : decode bK_constantOfVariable 11 = .ok (.ireturn, 1) := by decide +kernel
