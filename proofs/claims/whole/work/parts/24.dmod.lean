theorem dD_init_0 : decode bD_init 0 = .ok (.aload_n 0, 1) := by decide +kernel
theorem dD_init_1 : decode bD_init 1 = .ok (.invokespecial 1, 3) := by decide +kernel
theorem dD_init_4 : decode bD_init 4 = .ok (.aload_n 0, 1) := by decide +kernel
theorem dD_init_5 : decode bD_init 5 = .ok (.bipush 32, 2) := by decide +kernel
theorem dD_init_7 : decode bD_init 7 = .ok (.newarray .int, 2) := by decide +kernel
theorem dD_init_9 : decode bD_init 9 = .ok (.putfield 7, 3) := by decide +kernel
theorem dD_init_12 : decode bD_init 12 = .ok (.aload_n 0, 1) := by decide +kernel
theorem dD_init_13 : decode bD_init 13 = .ok (.bipush 32, 2) := by decide +kernel
theorem dD_init_15 : decode bD_init 15 = .ok (.newarray .int, 2) := by decide +kernel
theorem dD_init_17 : decode bD_init 17 = .ok (.putfield 13, 3) := by decide +kernel
theorem dD_init_20 : decode bD_init 20 = .ok (.aload_n 0, 1) := by decide +kernel
theorem dD_init_21 : decode bD_init 21 = .ok (.bipush 32, 2) := by decide +kernel
theorem dD_init_23 : decode bD_init 23 = .ok (.newarray .int, 2) := by decide +kernel
theorem dD_init_25 : decode bD_init 25 = .ok (.putfield 16, 3) := by decide +kernel
theorem dD_init_28 : decode bD_init 28 = .ok (.aload_n 0, 1) := by decide +kernel
theorem dD_init_29 : decode bD_init 29 = .ok (.bipush 32, 2) := by decide +kernel
theorem dD_init_31 : decode bD_init 31 = .ok (.newarray .int, 2) := by decide +kernel
theorem dD_init_33 : decode bD_init 33 = .ok (.putfield 19, 3) := by decide +kernel
theorem dD_init_36 : decode bD_init 36 = .ok (.aload_n 0, 1) := by decide +kernel
theorem dD_init_37 : decode bD_init 37 = .ok (.bipush 16, 2) := by decide +kernel
theorem dD_init_39 : decode bD_init 39 = .ok (.newarray .int, 2) := by decide +kernel
theorem dD_init_41 : decode bD_init 41 = .ok (.putfield 22, 3) := by decide +kernel
theorem dD_init_44 : decode bD_init 44 = .ok (.aload_n 0, 1) := by decide +kernel
theorem dD_init_45 : decode bD_init 45 = .ok (.bipush 16, 2) := by decide +kernel
theorem dD_init_47 : decode bD_init 47 = .ok (.newarray .int, 2) := by decide +kernel
theorem dD_init_49 : decode bD_init 49 = .ok (.putfield 25, 3) := by decide +kernel
theorem dD_init_52 : decode bD_init 52 = .ok (.aload_n 0, 1) := by decide +kernel
theorem dD_init_53 : decode bD_init 53 = .ok (.bipush 16, 2) := by decide +kernel
theorem dD_init_55 : decode bD_init 55 = .ok (.newarray .int, 2) := by decide +kernel
theorem dD_init_57 : decode bD_init 57 = .ok (.putfield 28, 3) := by decide +kernel
theorem dD_init_60 : decode bD_init 60 = .ok (.aload_n 0, 1) := by decide +kernel
theorem dD_init_61 : decode bD_init 61 = .ok (.bipush 16, 2) := by decide +kernel
theorem dD_init_63 : decode bD_init 63 = .ok (.newarray .boolean, 2) := by decide +kernel
theorem dD_init_65 : decode bD_init 65 = .ok (.putfield 31, 3) := by decide +kernel
theorem dD_init_68 : decode bD_init 68 = .ok (.aload_n 0, 1) := by decide +kernel
theorem dD_init_69 : decode bD_init 69 = .ok (.bipush 17, 2) := by decide +kernel
theorem dD_init_71 : decode bD_init 71 = .ok (.newarray .boolean, 2) := by decide +kernel
theorem dD_init_73 : decode bD_init 73 = .ok (.putfield 35, 3) := by decide +kernel
theorem dD_init_76 : decode bD_init 76 = .ok (.aload_n 0, 1) := by decide +kernel
theorem dD_init_77 : decode bD_init 77 = .ok (.bipush 34, 2) := by decide +kernel
theorem dD_init_79 : decode bD_init 79 = .ok (.newarray .boolean, 2) := by decide +kernel
theorem dD_init_81 : decode bD_init 81 = .ok (.putfield 38, 3) := by decide +kernel
theorem dD_init_84 : decode bD_init 84 = .ok (.aload_n 0, 1) := by decide +kernel
theorem dD_init_85 : decode bD_init 85 = .ok (.bipush 34, 2) := by decide +kernel
theorem dD_init_87 : decode bD_init 87 = .ok (.newarray .int, 2) := by decide +kernel
theorem dD_init_89 : decode bD_init 89 = .ok (.putfield 41, 3) := by decide +kernel
theorem dD_init_92 : decode bD_init 92 = .ok (.aload_n 0, 1) := by decide +kernel
theorem dD_init_93 : decode bD_init 93 = .ok (.sipush 153, 3) := by decide +kernel
theorem dD_init_96 : decode bD_init 96 = .ok (.newarray .int, 2) := by decide +kernel
theorem dD_init_98 : decode bD_init 98 = .ok (.putfield 44, 3) := by decide +kernel
theorem dD_init_101 : decode bD_init 101 = .ok (.aload_n 0, 1) := by decide +kernel
theorem dD_init_102 : decode bD_init 102 = .ok (.sipush 153, 3) := by decide +kernel
theorem dD_init_105 : decode bD_init 105 = .ok (.newarray .int, 2) := by decide +kernel
theorem dD_init_107 : decode bD_init 107 = .ok (.putfield 47, 3) := by decide +kernel
theorem dD_init_110 : decode bD_init 110 = .ok (.aload_n 0, 1) := by decide +kernel
theorem dD_init_111 : decode bD_init 111 = .ok (.bipush 9, 2) := by decide +kernel
theorem dD_init_113 : decode bD_init 113 = .ok (.newarray .int, 2) := by decide +kernel
theorem dD_init_115 : decode bD_init 115 = .ok (.putfield 50, 3) := by decide +kernel
theorem dD_init_118 : decode bD_init 118 = .ok (.aload_n 0, 1) := by decide +kernel
theorem dD_init_119 : decode bD_init 119 = .ok (.bipush 9, 2) := by decide +kernel
theorem dD_init_121 : decode bD_init 121 = .ok (.newarray .int, 2) := by decide +kernel
theorem dD_init_123 : decode bD_init 123 = .ok (.putfield 53, 3) := by decide +kernel
theorem dD_init_126 : decode bD_init 126 = .ok (.aload_n 0, 1) := by decide +kernel
theorem dD_init_127 : decode bD_init 127 = .ok (.bipush 12, 2) := by decide +kernel
theorem dD_init_129 : decode bD_init 129 = .ok (.newarray .int, 2) := by decide +kernel
theorem dD_init_131 : decode bD_init 131 = .ok (.putfield 56, 3) := by decide +kernel
theorem dD_init_134 : decode bD_init 134 = .ok (.aload_n 0, 1) := by decide +kernel
theorem dD_init_135 : decode bD_init 135 = .ok (.iconst 3, 1) := by decide +kernel
theorem dD_init_136 : decode bD_init 136 = .ok (.newarray .int, 2) := by decide +kernel
theorem dD_init_138 : decode bD_init 138 = .ok (.putfield 59, 3) := by decide +kernel
theorem dD_init_141 : decode bD_init 141 = .ok (.aload_n 0, 1) := by decide +kernel
theorem dD_init_142 : decode bD_init 142 = .ok (.iconst 3, 1) := by decide +kernel
theorem dD_init_143 : decode bD_init 143 = .ok (.newarray .boolean, 2) := by decide +kernel
theorem dD_init_145 : decode bD_init 145 = .ok (.putfield 62, 3) := by decide +kernel
theorem dD_init_148 : decode bD_init 148 = .ok (.aload_n 0, 1) := by decide +kernel
theorem dD_init_149 : decode bD_init 149 = .ok (.sipush 400, 3) := by decide +kernel
theorem dD_init_152 : decode bD_init 152 = .ok (.newarray .int, 2) := by decide +kernel
theorem dD_init_154 : decode bD_init 154 = .ok (.putfield 65, 3) := by decide +kernel
theorem dD_init_157 : decode bD_init 157 = .ok (.return_, 1) := by decide +kernel
theorem dD_thrown_0 : decode bD_thrown 0 = .ok (.aload_n 0, 1) := by decide +kernel
theorem dD_thrown_1 : decode bD_thrown 1 = .ok (.getfield 68, 3) := by decide +kernel
theorem dD_thrown_4 : decode bD_thrown 4 = .ok (.ireturn, 1) := by decide +kernel
theorem dD_set_0 : decode bD_set 0 = .ok (.aload_n 0, 1) := by decide +kernel
theorem dD_set_1 : decode bD_set 1 = .ok (.iload_n 1, 1) := by decide +kernel
theorem dD_set_2 : decode bD_set 2 = .ok (.invokestatic 79, 3) := by decide +kernel
theorem dD_set_5 : decode bD_set 5 = .ok (.ifCond .eq 7, 3) := by decide +kernel
theorem dD_set_8 : decode bD_set 8 = .ok (.iconst 1, 1) := by decide +kernel
theorem dD_set_9 : decode bD_set 9 = .ok (.goto 4, 3) := by decide +kernel
theorem dD_set_12 : decode bD_set 12 = .ok (.iconst 0, 1) := by decide +kernel
theorem dD_set_13 : decode bD_set 13 = .ok (.putfield 68, 3) := by decide +kernel
theorem dD_set_16 : decode bD_set 16 = .ok (.aload_n 0, 1) := by decide +kernel
theorem dD_set_17 : decode bD_set 17 = .ok (.iconst 0, 1) := by decide +kernel
theorem dD_set_18 : decode bD_set 18 = .ok (.iload_n 1, 1) := by decide +kernel
theorem dD_set_19 : decode bD_set 19 = .ok (.iload_n 2, 1) := by decide +kernel
theorem dD_set_20 : decode bD_set 20 = .ok (.iconst 0, 1) := by decide +kernel
theorem dD_set_21 : decode bD_set 21 = .ok (.invokevirtual 83, 3) := by decide +kernel
theorem dD_set_24 : decode bD_set 24 = .ok (.ireturn, 1) := by decide +kernel
theorem dD_noRegister_0 : decode bD_noRegister 0 = .ok (.iload_n 0, 1) := by decide +kernel
theorem dD_noRegister_1 : decode bD_noRegister 1 = .ok (.ifCond .lt 8, 3) := by decide +kernel
theorem dD_noRegister_4 : decode bD_noRegister 4 = .ok (.iload_n 0, 1) := by decide +kernel
theorem dD_noRegister_5 : decode bD_noRegister 5 = .ok (.iconst 5, 1) := by decide +kernel
theorem dD_noRegister_6 : decode bD_noRegister 6 = .ok (.if_icmp .le 7, 3) := by decide +kernel
theorem dD_noRegister_9 : decode bD_noRegister 9 = .ok (.iconst 1, 1) := by decide +kernel
theorem dD_noRegister_10 : decode bD_noRegister 10 = .ok (.goto 4, 3) := by decide +kernel
theorem dD_noRegister_13 : decode bD_noRegister 13 = .ok (.iconst 0, 1) := by decide +kernel
theorem dD_noRegister_14 : decode bD_noRegister 14 = .ok (.ireturn, 1) := by decide +kernel
theorem dD_newLine_0 : decode bD_newLine 0 = .ok (.aload_n 0, 1) := by decide +kernel
theorem dD_newLine_1 : decode bD_newLine 1 = .ok (.getfield 68, 3) := by decide +kernel
theorem dD_newLine_4 : decode bD_newLine 4 = .ok (.ifCond .ne 17, 3) := by decide +kernel
theorem dD_newLine_7 : decode bD_newLine 7 = .ok (.aload_n 0, 1) := by decide +kernel
theorem dD_newLine_8 : decode bD_newLine 8 = .ok (.getfield 72, 3) := by decide +kernel
theorem dD_newLine_11 : decode bD_newLine 11 = .ok (.bipush 16, 2) := by decide +kernel
theorem dD_newLine_13 : decode bD_newLine 13 = .ok (.if_icmp .ne 8, 3) := by decide +kernel
theorem dD_newLine_16 : decode bD_newLine 16 = .ok (.aload_n 0, 1) := by decide +kernel
theorem dD_newLine_17 : decode bD_newLine 17 = .ok (.iconst 2, 1) := by decide +kernel
theorem dD_newLine_18 : decode bD_newLine 18 = .ok (.putfield 68, 3) := by decide +kernel
theorem dD_newLine_21 : decode bD_newLine 21 = .ok (.aload_n 0, 1) := by decide +kernel
theorem dD_newLine_22 : decode bD_newLine 22 = .ok (.getfield 68, 3) := by decide +kernel
theorem dD_newLine_25 : decode bD_newLine 25 = .ok (.ifCond .le 5, 3) := by decide +kernel
theorem dD_newLine_28 : decode bD_newLine 28 = .ok (.iconst 0, 1) := by decide +kernel
theorem dD_newLine_29 : decode bD_newLine 29 = .ok (.ireturn, 1) := by decide +kernel
theorem dD_newLine_30 : decode bD_newLine 30 = .ok (.aload_n 0, 1) := by decide +kernel
theorem dD_newLine_31 : decode bD_newLine 31 = .ok (.iconst 0, 1) := by decide +kernel
theorem dD_newLine_32 : decode bD_newLine 32 = .ok (.putfield 75, 3) := by decide +kernel
theorem dD_newLine_35 : decode bD_newLine 35 = .ok (.aload_n 0, 1) := by decide +kernel
theorem dD_newLine_36 : decode bD_newLine 36 = .ok (.getfield 7, 3) := by decide +kernel
theorem dD_newLine_39 : decode bD_newLine 39 = .ok (.aload_n 0, 1) := by decide +kernel
theorem dD_newLine_40 : decode bD_newLine 40 = .ok (.getfield 72, 3) := by decide +kernel
theorem dD_newLine_43 : decode bD_newLine 43 = .ok (.iload_n 1, 1) := by decide +kernel
theorem dD_newLine_44 : decode bD_newLine 44 = .ok (.iastore, 1) := by decide +kernel
theorem dD_newLine_45 : decode bD_newLine 45 = .ok (.aload_n 0, 1) := by decide +kernel
theorem dD_newLine_46 : decode bD_newLine 46 = .ok (.getfield 13, 3) := by decide +kernel
theorem dD_newLine_49 : decode bD_newLine 49 = .ok (.aload_n 0, 1) := by decide +kernel
theorem dD_newLine_50 : decode bD_newLine 50 = .ok (.getfield 72, 3) := by decide +kernel
theorem dD_newLine_53 : decode bD_newLine 53 = .ok (.iload_n 2, 1) := by decide +kernel
theorem dD_newLine_54 : decode bD_newLine 54 = .ok (.iastore, 1) := by decide +kernel
theorem dD_newLine_55 : decode bD_newLine 55 = .ok (.aload_n 0, 1) := by decide +kernel
theorem dD_newLine_56 : decode bD_newLine 56 = .ok (.getfield 16, 3) := by decide +kernel
theorem dD_newLine_59 : decode bD_newLine 59 = .ok (.aload_n 0, 1) := by decide +kernel
theorem dD_newLine_60 : decode bD_newLine 60 = .ok (.getfield 72, 3) := by decide +kernel
theorem dD_newLine_63 : decode bD_newLine 63 = .ok (.iload_n 3, 1) := by decide +kernel
theorem dD_newLine_64 : decode bD_newLine 64 = .ok (.iastore, 1) := by decide +kernel
theorem dD_newLine_65 : decode bD_newLine 65 = .ok (.aload_n 0, 1) := by decide +kernel
theorem dD_newLine_66 : decode bD_newLine 66 = .ok (.getfield 19, 3) := by decide +kernel
theorem dD_newLine_69 : decode bD_newLine 69 = .ok (.aload_n 0, 1) := by decide +kernel
theorem dD_newLine_70 : decode bD_newLine 70 = .ok (.getfield 72, 3) := by decide +kernel
theorem dD_newLine_73 : decode bD_newLine 73 = .ok (.iload 4, 2) := by decide +kernel
theorem dD_newLine_75 : decode bD_newLine 75 = .ok (.iastore, 1) := by decide +kernel
theorem dD_newLine_76 : decode bD_newLine 76 = .ok (.aload_n 0, 1) := by decide +kernel
theorem dD_newLine_77 : decode bD_newLine 77 = .ok (.dup, 1) := by decide +kernel
theorem dD_newLine_78 : decode bD_newLine 78 = .ok (.getfield 72, 3) := by decide +kernel
theorem dD_newLine_81 : decode bD_newLine 81 = .ok (.iconst 1, 1) := by decide +kernel
theorem dD_newLine_82 : decode bD_newLine 82 = .ok (.iadd, 1) := by decide +kernel
theorem dD_newLine_83 : decode bD_newLine 83 = .ok (.putfield 72, 3) := by decide +kernel
theorem dD_newLine_86 : decode bD_newLine 86 = .ok (.aload_n 0, 1) := by decide +kernel
theorem dD_newLine_87 : decode bD_newLine 87 = .ok (.getfield 72, 3) := by decide +kernel
theorem dD_newLine_90 : decode bD_newLine 90 = .ok (.iconst 1, 1) := by decide +kernel
theorem dD_newLine_91 : decode bD_newLine 91 = .ok (.isub, 1) := by decide +kernel
theorem dD_newLine_92 : decode bD_newLine 92 = .ok (.ireturn, 1) := by decide +kernel
theorem dD_copy_0 : decode bD_copy 0 = .ok (.aload_n 0, 1) := by decide +kernel
theorem dD_copy_1 : decode bD_copy 1 = .ok (.iload_n 1, 1) := by decide +kernel
theorem dD_copy_2 : decode bD_copy 2 = .ok (.invokestatic 79, 3) := by decide +kernel
theorem dD_copy_5 : decode bD_copy 5 = .ok (.ifCond .ne 10, 3) := by decide +kernel
theorem dD_copy_8 : decode bD_copy 8 = .ok (.iload_n 2, 1) := by decide +kernel
theorem dD_copy_9 : decode bD_copy 9 = .ok (.invokestatic 79, 3) := by decide +kernel
theorem dD_copy_12 : decode bD_copy 12 = .ok (.ifCond .eq 7, 3) := by decide +kernel
theorem dD_copy_15 : decode bD_copy 15 = .ok (.iconst 1, 1) := by decide +kernel
theorem dD_copy_16 : decode bD_copy 16 = .ok (.goto 4, 3) := by decide +kernel
theorem dD_copy_19 : decode bD_copy 19 = .ok (.iconst 0, 1) := by decide +kernel
theorem dD_copy_20 : decode bD_copy 20 = .ok (.putfield 68, 3) := by decide +kernel
theorem dD_copy_23 : decode bD_copy 23 = .ok (.aload_n 0, 1) := by decide +kernel
theorem dD_copy_24 : decode bD_copy 24 = .ok (.iconst 1, 1) := by decide +kernel
theorem dD_copy_25 : decode bD_copy 25 = .ok (.iload_n 1, 1) := by decide +kernel
theorem dD_copy_26 : decode bD_copy 26 = .ok (.iload_n 2, 1) := by decide +kernel
theorem dD_copy_27 : decode bD_copy 27 = .ok (.iconst 0, 1) := by decide +kernel
theorem dD_copy_28 : decode bD_copy 28 = .ok (.invokevirtual 83, 3) := by decide +kernel
theorem dD_copy_31 : decode bD_copy 31 = .ok (.ireturn, 1) := by decide +kernel
theorem dD_add_0 : decode bD_add 0 = .ok (.aload_n 0, 1) := by decide +kernel
theorem dD_add_1 : decode bD_add 1 = .ok (.iload_n 1, 1) := by decide +kernel
theorem dD_add_2 : decode bD_add 2 = .ok (.invokestatic 79, 3) := by decide +kernel
theorem dD_add_5 : decode bD_add 5 = .ok (.ifCond .ne 17, 3) := by decide +kernel
theorem dD_add_8 : decode bD_add 8 = .ok (.iload_n 2, 1) := by decide +kernel
theorem dD_add_9 : decode bD_add 9 = .ok (.invokestatic 79, 3) := by decide +kernel
theorem dD_add_12 : decode bD_add 12 = .ok (.ifCond .ne 10, 3) := by decide +kernel
theorem dD_add_15 : decode bD_add 15 = .ok (.iload_n 3, 1) := by decide +kernel
theorem dD_add_16 : decode bD_add 16 = .ok (.invokestatic 79, 3) := by decide +kernel
theorem dD_add_19 : decode bD_add 19 = .ok (.ifCond .eq 7, 3) := by decide +kernel
theorem dD_add_22 : decode bD_add 22 = .ok (.iconst 1, 1) := by decide +kernel
theorem dD_add_23 : decode bD_add 23 = .ok (.goto 4, 3) := by decide +kernel
theorem dD_add_26 : decode bD_add 26 = .ok (.iconst 0, 1) := by decide +kernel
theorem dD_add_27 : decode bD_add 27 = .ok (.putfield 68, 3) := by decide +kernel
theorem dD_add_30 : decode bD_add 30 = .ok (.aload_n 0, 1) := by decide +kernel
theorem dD_add_31 : decode bD_add 31 = .ok (.iconst 2, 1) := by decide +kernel
theorem dD_add_32 : decode bD_add 32 = .ok (.iload_n 1, 1) := by decide +kernel
theorem dD_add_33 : decode bD_add 33 = .ok (.iload_n 2, 1) := by decide +kernel
theorem dD_add_34 : decode bD_add 34 = .ok (.iload_n 3, 1) := by decide +kernel
theorem dD_add_35 : decode bD_add 35 = .ok (.invokevirtual 83, 3) := by decide +kernel
theorem dD_add_38 : decode bD_add 38 = .ok (.ireturn, 1) := by decide +kernel
theorem dD_out_0 : decode bD_out 0 = .ok (.aload_n 0, 1) := by decide +kernel
theorem dD_out_1 : decode bD_out 1 = .ok (.iload_n 1, 1) := by decide +kernel
theorem dD_out_2 : decode bD_out 2 = .ok (.invokestatic 79, 3) := by decide +kernel
theorem dD_out_5 : decode bD_out 5 = .ok (.ifCond .eq 7, 3) := by decide +kernel
theorem dD_out_8 : decode bD_out 8 = .ok (.iconst 1, 1) := by decide +kernel
theorem dD_out_9 : decode bD_out 9 = .ok (.goto 4, 3) := by decide +kernel
theorem dD_out_12 : decode bD_out 12 = .ok (.iconst 0, 1) := by decide +kernel
theorem dD_out_13 : decode bD_out 13 = .ok (.putfield 68, 3) := by decide +kernel
theorem dD_out_16 : decode bD_out 16 = .ok (.aload_n 0, 1) := by decide +kernel
theorem dD_out_17 : decode bD_out 17 = .ok (.iconst 3, 1) := by decide +kernel
theorem dD_out_18 : decode bD_out 18 = .ok (.iload_n 1, 1) := by decide +kernel
theorem dD_out_19 : decode bD_out 19 = .ok (.iconst 0, 1) := by decide +kernel
theorem dD_out_20 : decode bD_out 20 = .ok (.iconst 0, 1) := by decide +kernel
theorem dD_out_21 : decode bD_out 21 = .ok (.invokevirtual 83, 3) := by decide +kernel
theorem dD_out_24 : decode bD_out 24 = .ok (.ireturn, 1) := by decide +kernel
theorem dD_jump_0 : decode bD_jump 0 = .ok (.aload_n 0, 1) := by decide +kernel
theorem dD_jump_1 : decode bD_jump 1 = .ok (.iload_n 1, 1) := by decide +kernel
theorem dD_jump_2 : decode bD_jump 2 = .ok (.invokestatic 79, 3) := by decide +kernel
theorem dD_jump_5 : decode bD_jump 5 = .ok (.ifCond .ne 13, 3) := by decide +kernel
theorem dD_jump_8 : decode bD_jump 8 = .ok (.iload_n 2, 1) := by decide +kernel
theorem dD_jump_9 : decode bD_jump 9 = .ok (.ifCond .lt 9, 3) := by decide +kernel
theorem dD_jump_12 : decode bD_jump 12 = .ok (.iload_n 2, 1) := by decide +kernel
theorem dD_jump_13 : decode bD_jump 13 = .ok (.bipush 16, 2) := by decide +kernel
theorem dD_jump_15 : decode bD_jump 15 = .ok (.if_icmp .le 7, 3) := by decide +kernel
theorem dD_jump_18 : decode bD_jump 18 = .ok (.iconst 1, 1) := by decide +kernel
theorem dD_jump_19 : decode bD_jump 19 = .ok (.goto 4, 3) := by decide +kernel
theorem dD_jump_22 : decode bD_jump 22 = .ok (.iconst 0, 1) := by decide +kernel
theorem dD_jump_23 : decode bD_jump 23 = .ok (.putfield 68, 3) := by decide +kernel
theorem dD_jump_26 : decode bD_jump 26 = .ok (.aload_n 0, 1) := by decide +kernel
theorem dD_jump_27 : decode bD_jump 27 = .ok (.iconst 4, 1) := by decide +kernel
theorem dD_jump_28 : decode bD_jump 28 = .ok (.iload_n 1, 1) := by decide +kernel
theorem dD_jump_29 : decode bD_jump 29 = .ok (.iload_n 2, 1) := by decide +kernel
theorem dD_jump_30 : decode bD_jump 30 = .ok (.iconst 0, 1) := by decide +kernel
theorem dD_jump_31 : decode bD_jump 31 = .ok (.invokevirtual 83, 3) := by decide +kernel
theorem dD_jump_34 : decode bD_jump 34 = .ok (.ireturn, 1) := by decide +kernel
theorem dD_name_0 : decode bD_name 0 = .ok (.aload_n 0, 1) := by decide +kernel
theorem dD_name_1 : decode bD_name 1 = .ok (.iload_n 1, 1) := by decide +kernel
theorem dD_name_2 : decode bD_name 2 = .ok (.ifCond .lt 15, 3) := by decide +kernel
theorem dD_name_5 : decode bD_name 5 = .ok (.iload_n 1, 1) := by decide +kernel
theorem dD_name_6 : decode bD_name 6 = .ok (.iconst 2, 1) := by decide +kernel
theorem dD_name_7 : decode bD_name 7 = .ok (.if_icmp .gt 10, 3) := by decide +kernel
theorem dD_name_10 : decode bD_name 10 = .ok (.iload_n 2, 1) := by decide +kernel
theorem dD_name_11 : decode bD_name 11 = .ok (.invokestatic 79, 3) := by decide +kernel
theorem dD_name_14 : decode bD_name 14 = .ok (.ifCond .eq 7, 3) := by decide +kernel
theorem dD_name_17 : decode bD_name 17 = .ok (.iconst 1, 1) := by decide +kernel
theorem dD_name_18 : decode bD_name 18 = .ok (.goto 4, 3) := by decide +kernel
theorem dD_name_21 : decode bD_name 21 = .ok (.iconst 0, 1) := by decide +kernel
theorem dD_name_22 : decode bD_name 22 = .ok (.putfield 68, 3) := by decide +kernel
theorem dD_name_25 : decode bD_name 25 = .ok (.aload_n 0, 1) := by decide +kernel
theorem dD_name_26 : decode bD_name 26 = .ok (.iconst 5, 1) := by decide +kernel
theorem dD_name_27 : decode bD_name 27 = .ok (.iload_n 1, 1) := by decide +kernel
theorem dD_name_28 : decode bD_name 28 = .ok (.iload_n 2, 1) := by decide +kernel
theorem dD_name_29 : decode bD_name 29 = .ok (.iconst 0, 1) := by decide +kernel
theorem dD_name_30 : decode bD_name 30 = .ok (.invokevirtual 83, 3) := by decide +kernel
theorem dD_name_33 : decode bD_name 33 = .ok (.ireturn, 1) := by decide +kernel
theorem dD_clear_0 : decode bD_clear 0 = .ok (.aload_n 0, 1) := by decide +kernel
theorem dD_clear_1 : decode bD_clear 1 = .ok (.iconst 0, 1) := by decide +kernel
theorem dD_clear_2 : decode bD_clear 2 = .ok (.putfield 68, 3) := by decide +kernel
theorem dD_clear_5 : decode bD_clear 5 = .ok (.aload_n 0, 1) := by decide +kernel
theorem dD_clear_6 : decode bD_clear 6 = .ok (.iconst 0, 1) := by decide +kernel
theorem dD_clear_7 : decode bD_clear 7 = .ok (.putfield 72, 3) := by decide +kernel
theorem dD_clear_10 : decode bD_clear 10 = .ok (.aload_n 0, 1) := by decide +kernel
theorem dD_clear_11 : decode bD_clear 11 = .ok (.iconst 0, 1) := by decide +kernel
theorem dD_clear_12 : decode bD_clear 12 = .ok (.putfield 75, 3) := by decide +kernel
theorem dD_clear_15 : decode bD_clear 15 = .ok (.return_, 1) := by decide +kernel
theorem dD_shorten_0 : decode bD_shorten 0 = .ok (.aload_n 0, 1) := by decide +kernel
theorem dD_shorten_1 : decode bD_shorten 1 = .ok (.iconst 0, 1) := by decide +kernel
theorem dD_shorten_2 : decode bD_shorten 2 = .ok (.putfield 68, 3) := by decide +kernel
theorem dD_shorten_5 : decode bD_shorten 5 = .ok (.iconst 0, 1) := by decide +kernel
theorem dD_shorten_6 : decode bD_shorten 6 = .ok (.istore_n 1, 1) := by decide +kernel
theorem dD_shorten_7 : decode bD_shorten 7 = .ok (.iload_n 1, 1) := by decide +kernel
theorem dD_shorten_8 : decode bD_shorten 8 = .ok (.aload_n 0, 1) := by decide +kernel
theorem dD_shorten_9 : decode bD_shorten 9 = .ok (.getfield 72, 3) := by decide +kernel
theorem dD_shorten_12 : decode bD_shorten 12 = .ok (.if_icmp .ge 69, 3) := by decide +kernel
theorem dD_shorten_15 : decode bD_shorten 15 = .ok (.aload_n 0, 1) := by decide +kernel
theorem dD_shorten_16 : decode bD_shorten 16 = .ok (.getfield 7, 3) := by decide +kernel
theorem dD_shorten_19 : decode bD_shorten 19 = .ok (.bipush 16, 2) := by decide +kernel
theorem dD_shorten_21 : decode bD_shorten 21 = .ok (.iload_n 1, 1) := by decide +kernel
theorem dD_shorten_22 : decode bD_shorten 22 = .ok (.iadd, 1) := by decide +kernel
theorem dD_shorten_23 : decode bD_shorten 23 = .ok (.aload_n 0, 1) := by decide +kernel
theorem dD_shorten_24 : decode bD_shorten 24 = .ok (.getfield 7, 3) := by decide +kernel
theorem dD_shorten_27 : decode bD_shorten 27 = .ok (.iload_n 1, 1) := by decide +kernel
theorem dD_shorten_28 : decode bD_shorten 28 = .ok (.iaload, 1) := by decide +kernel
theorem dD_shorten_29 : decode bD_shorten 29 = .ok (.iastore, 1) := by decide +kernel
theorem dD_shorten_30 : decode bD_shorten 30 = .ok (.aload_n 0, 1) := by decide +kernel
theorem dD_shorten_31 : decode bD_shorten 31 = .ok (.getfield 13, 3) := by decide +kernel
theorem dD_shorten_34 : decode bD_shorten 34 = .ok (.bipush 16, 2) := by decide +kernel
theorem dD_shorten_36 : decode bD_shorten 36 = .ok (.iload_n 1, 1) := by decide +kernel
theorem dD_shorten_37 : decode bD_shorten 37 = .ok (.iadd, 1) := by decide +kernel
theorem dD_shorten_38 : decode bD_shorten 38 = .ok (.aload_n 0, 1) := by decide +kernel
theorem dD_shorten_39 : decode bD_shorten 39 = .ok (.getfield 13, 3) := by decide +kernel
theorem dD_shorten_42 : decode bD_shorten 42 = .ok (.iload_n 1, 1) := by decide +kernel
theorem dD_shorten_43 : decode bD_shorten 43 = .ok (.iaload, 1) := by decide +kernel
theorem dD_shorten_44 : decode bD_shorten 44 = .ok (.iastore, 1) := by decide +kernel
theorem dD_shorten_45 : decode bD_shorten 45 = .ok (.aload_n 0, 1) := by decide +kernel
theorem dD_shorten_46 : decode bD_shorten 46 = .ok (.getfield 16, 3) := by decide +kernel
theorem dD_shorten_49 : decode bD_shorten 49 = .ok (.bipush 16, 2) := by decide +kernel
theorem dD_shorten_51 : decode bD_shorten 51 = .ok (.iload_n 1, 1) := by decide +kernel
theorem dD_shorten_52 : decode bD_shorten 52 = .ok (.iadd, 1) := by decide +kernel
theorem dD_shorten_53 : decode bD_shorten 53 = .ok (.aload_n 0, 1) := by decide +kernel
theorem dD_shorten_54 : decode bD_shorten 54 = .ok (.getfield 16, 3) := by decide +kernel
theorem dD_shorten_57 : decode bD_shorten 57 = .ok (.iload_n 1, 1) := by decide +kernel
theorem dD_shorten_58 : decode bD_shorten 58 = .ok (.iaload, 1) := by decide +kernel
theorem dD_shorten_59 : decode bD_shorten 59 = .ok (.iastore, 1) := by decide +kernel
theorem dD_shorten_60 : decode bD_shorten 60 = .ok (.aload_n 0, 1) := by decide +kernel
theorem dD_shorten_61 : decode bD_shorten 61 = .ok (.getfield 19, 3) := by decide +kernel
theorem dD_shorten_64 : decode bD_shorten 64 = .ok (.bipush 16, 2) := by decide +kernel
theorem dD_shorten_66 : decode bD_shorten 66 = .ok (.iload_n 1, 1) := by decide +kernel
theorem dD_shorten_67 : decode bD_shorten 67 = .ok (.iadd, 1) := by decide +kernel
theorem dD_shorten_68 : decode bD_shorten 68 = .ok (.aload_n 0, 1) := by decide +kernel
theorem dD_shorten_69 : decode bD_shorten 69 = .ok (.getfield 19, 3) := by decide +kernel
theorem dD_shorten_72 : decode bD_shorten 72 = .ok (.iload_n 1, 1) := by decide +kernel
theorem dD_shorten_73 : decode bD_shorten 73 = .ok (.iaload, 1) := by decide +kernel
theorem dD_shorten_74 : decode bD_shorten 74 = .ok (.iastore, 1) := by decide +kernel
theorem dD_shorten_75 : decode bD_shorten 75 = .ok (.iinc 1 1, 3) := by decide +kernel
theorem dD_shorten_78 : decode bD_shorten 78 = .ok (.goto (-71), 3) := by decide +kernel
theorem dD_shorten_81 : decode bD_shorten 81 = .ok (.aload_n 0, 1) := by decide +kernel
theorem dD_shorten_82 : decode bD_shorten 82 = .ok (.invokevirtual 130, 3) := by decide +kernel
theorem dD_shorten_85 : decode bD_shorten 85 = .ok (.iconst 0, 1) := by decide +kernel
theorem dD_shorten_86 : decode bD_shorten 86 = .ok (.istore_n 1, 1) := by decide +kernel
theorem dD_shorten_87 : decode bD_shorten 87 = .ok (.iconst 1, 1) := by decide +kernel
theorem dD_shorten_88 : decode bD_shorten 88 = .ok (.istore_n 2, 1) := by decide +kernel
theorem dD_shorten_89 : decode bD_shorten 89 = .ok (.iload_n 2, 1) := by decide +kernel
theorem dD_shorten_90 : decode bD_shorten 90 = .ok (.ifCond .eq 44, 3) := by decide +kernel
theorem dD_shorten_93 : decode bD_shorten 93 = .ok (.aload_n 0, 1) := by decide +kernel
theorem dD_shorten_94 : decode bD_shorten 94 = .ok (.invokevirtual 133, 3) := by decide +kernel
theorem dD_shorten_97 : decode bD_shorten 97 = .ok (.istore_n 3, 1) := by decide +kernel
theorem dD_shorten_98 : decode bD_shorten 98 = .ok (.aload_n 0, 1) := by decide +kernel
theorem dD_shorten_99 : decode bD_shorten 99 = .ok (.invokevirtual 137, 3) := by decide +kernel
theorem dD_shorten_102 : decode bD_shorten 102 = .ok (.istore 4, 2) := by decide +kernel
theorem dD_shorten_104 : decode bD_shorten 104 = .ok (.iload_n 3, 1) := by decide +kernel
theorem dD_shorten_105 : decode bD_shorten 105 = .ok (.ifCond .ne 8, 3) := by decide +kernel
theorem dD_shorten_108 : decode bD_shorten 108 = .ok (.iload 4, 2) := by decide +kernel
theorem dD_shorten_110 : decode bD_shorten 110 = .ok (.ifCond .eq 7, 3) := by decide +kernel
theorem dD_shorten_113 : decode bD_shorten 113 = .ok (.iconst 1, 1) := by decide +kernel
theorem dD_shorten_114 : decode bD_shorten 114 = .ok (.goto 4, 3) := by decide +kernel
theorem dD_shorten_117 : decode bD_shorten 117 = .ok (.iconst 0, 1) := by decide +kernel
theorem dD_shorten_118 : decode bD_shorten 118 = .ok (.istore_n 2, 1) := by decide +kernel
theorem dD_shorten_119 : decode bD_shorten 119 = .ok (.iload_n 2, 1) := by decide +kernel
theorem dD_shorten_120 : decode bD_shorten 120 = .ok (.ifCond .eq 9, 3) := by decide +kernel
theorem dD_shorten_123 : decode bD_shorten 123 = .ok (.iload_n 1, 1) := by decide +kernel
theorem dD_shorten_124 : decode bD_shorten 124 = .ok (.iconst 1, 1) := by decide +kernel
theorem dD_shorten_125 : decode bD_shorten 125 = .ok (.iadd, 1) := by decide +kernel
theorem dD_shorten_126 : decode bD_shorten 126 = .ok (.goto 4, 3) := by decide +kernel
theorem dD_shorten_129 : decode bD_shorten 129 = .ok (.iload_n 1, 1) := by decide +kernel
theorem dD_shorten_130 : decode bD_shorten 130 = .ok (.istore_n 1, 1) := by decide +kernel
theorem dD_shorten_131 : decode bD_shorten 131 = .ok (.goto (-42), 3) := by decide +kernel
theorem dD_shorten_134 : decode bD_shorten 134 = .ok (.aload_n 0, 1) := by decide +kernel
theorem dD_shorten_135 : decode bD_shorten 135 = .ok (.invokevirtual 140, 3) := by decide +kernel
theorem dD_shorten_138 : decode bD_shorten 138 = .ok (.aload_n 0, 1) := by decide +kernel
theorem dD_shorten_139 : decode bD_shorten 139 = .ok (.iconst 1, 1) := by decide +kernel
theorem dD_shorten_140 : decode bD_shorten 140 = .ok (.putfield 75, 3) := by decide +kernel
theorem dD_shorten_143 : decode bD_shorten 143 = .ok (.aload_n 0, 1) := by decide +kernel
theorem dD_shorten_144 : decode bD_shorten 144 = .ok (.invokevirtual 143, 3) := by decide +kernel
theorem dD_shorten_147 : decode bD_shorten 147 = .ok (.iload_n 1, 1) := by decide +kernel
theorem dD_shorten_148 : decode bD_shorten 148 = .ok (.ireturn, 1) := by decide +kernel
theorem dD_reach_0 : decode bD_reach 0 = .ok (.aload_n 0, 1) := by decide +kernel
theorem dD_reach_1 : decode bD_reach 1 = .ok (.invokevirtual 90, 3) := by decide +kernel
theorem dD_reach_4 : decode bD_reach 4 = .ok (.aload_n 0, 1) := by decide +kernel
theorem dD_reach_5 : decode bD_reach 5 = .ok (.iconst 0, 1) := by decide +kernel
theorem dD_reach_6 : decode bD_reach 6 = .ok (.invokevirtual 93, 3) := by decide +kernel
theorem dD_reach_9 : decode bD_reach 9 = .ok (.aload_n 0, 1) := by decide +kernel
theorem dD_reach_10 : decode bD_reach 10 = .ok (.getfield 87, 3) := by decide +kernel
theorem dD_reach_13 : decode bD_reach 13 = .ok (.ifCond .le 50, 3) := by decide +kernel
theorem dD_reach_16 : decode bD_reach 16 = .ok (.aload_n 0, 1) := by decide +kernel
theorem dD_reach_17 : decode bD_reach 17 = .ok (.dup, 1) := by decide +kernel
theorem dD_reach_18 : decode bD_reach 18 = .ok (.getfield 87, 3) := by decide +kernel
theorem dD_reach_21 : decode bD_reach 21 = .ok (.iconst 1, 1) := by decide +kernel
theorem dD_reach_22 : decode bD_reach 22 = .ok (.isub, 1) := by decide +kernel
theorem dD_reach_23 : decode bD_reach 23 = .ok (.putfield 87, 3) := by decide +kernel
theorem dD_reach_26 : decode bD_reach 26 = .ok (.aload_n 0, 1) := by decide +kernel
theorem dD_reach_27 : decode bD_reach 27 = .ok (.getfield 41, 3) := by decide +kernel
theorem dD_reach_30 : decode bD_reach 30 = .ok (.aload_n 0, 1) := by decide +kernel
theorem dD_reach_31 : decode bD_reach 31 = .ok (.getfield 87, 3) := by decide +kernel
theorem dD_reach_34 : decode bD_reach 34 = .ok (.iaload, 1) := by decide +kernel
theorem dD_reach_35 : decode bD_reach 35 = .ok (.istore_n 1, 1) := by decide +kernel
theorem dD_reach_36 : decode bD_reach 36 = .ok (.iload_n 1, 1) := by decide +kernel
theorem dD_reach_37 : decode bD_reach 37 = .ok (.aload_n 0, 1) := by decide +kernel
theorem dD_reach_38 : decode bD_reach 38 = .ok (.getfield 72, 3) := by decide +kernel
theorem dD_reach_41 : decode bD_reach 41 = .ok (.if_icmp .ge 19, 3) := by decide +kernel
theorem dD_reach_44 : decode bD_reach 44 = .ok (.aload_n 0, 1) := by decide +kernel
theorem dD_reach_45 : decode bD_reach 45 = .ok (.iload_n 1, 1) := by decide +kernel
theorem dD_reach_46 : decode bD_reach 46 = .ok (.iconst 1, 1) := by decide +kernel
theorem dD_reach_47 : decode bD_reach 47 = .ok (.iadd, 1) := by decide +kernel
theorem dD_reach_48 : decode bD_reach 48 = .ok (.invokevirtual 93, 3) := by decide +kernel
theorem dD_reach_51 : decode bD_reach 51 = .ok (.aload_n 0, 1) := by decide +kernel
theorem dD_reach_52 : decode bD_reach 52 = .ok (.aload_n 0, 1) := by decide +kernel
theorem dD_reach_53 : decode bD_reach 53 = .ok (.iload_n 1, 1) := by decide +kernel
theorem dD_reach_54 : decode bD_reach 54 = .ok (.invokevirtual 97, 3) := by decide +kernel
theorem dD_reach_57 : decode bD_reach 57 = .ok (.invokevirtual 93, 3) := by decide +kernel
theorem dD_reach_60 : decode bD_reach 60 = .ok (.goto (-51), 3) := by decide +kernel
theorem dD_reach_63 : decode bD_reach 63 = .ok (.iconst 0, 1) := by decide +kernel
theorem dD_reach_64 : decode bD_reach 64 = .ok (.istore_n 1, 1) := by decide +kernel
theorem dD_reach_65 : decode bD_reach 65 = .ok (.iload_n 1, 1) := by decide +kernel
theorem dD_reach_66 : decode bD_reach 66 = .ok (.bipush 17, 2) := by decide +kernel
theorem dD_reach_68 : decode bD_reach 68 = .ok (.if_icmp .ge 21, 3) := by decide +kernel
theorem dD_reach_71 : decode bD_reach 71 = .ok (.aload_n 0, 1) := by decide +kernel
theorem dD_reach_72 : decode bD_reach 72 = .ok (.getfield 35, 3) := by decide +kernel
theorem dD_reach_75 : decode bD_reach 75 = .ok (.iload_n 1, 1) := by decide +kernel
theorem dD_reach_76 : decode bD_reach 76 = .ok (.aload_n 0, 1) := by decide +kernel
theorem dD_reach_77 : decode bD_reach 77 = .ok (.getfield 38, 3) := by decide +kernel
theorem dD_reach_80 : decode bD_reach 80 = .ok (.iload_n 1, 1) := by decide +kernel
theorem dD_reach_81 : decode bD_reach 81 = .ok (.baload, 1) := by decide +kernel
theorem dD_reach_82 : decode bD_reach 82 = .ok (.bastore, 1) := by decide +kernel
theorem dD_reach_83 : decode bD_reach 83 = .ok (.iinc 1 1, 3) := by decide +kernel
theorem dD_reach_86 : decode bD_reach 86 = .ok (.goto (-21), 3) := by decide +kernel
theorem dD_reach_89 : decode bD_reach 89 = .ok (.return_, 1) := by decide +kernel
theorem dD_forget_0 : decode bD_forget 0 = .ok (.iconst 0, 1) := by decide +kernel
theorem dD_forget_1 : decode bD_forget 1 = .ok (.istore_n 1, 1) := by decide +kernel
theorem dD_forget_2 : decode bD_forget 2 = .ok (.iload_n 1, 1) := by decide +kernel
theorem dD_forget_3 : decode bD_forget 3 = .ok (.bipush 34, 2) := by decide +kernel
theorem dD_forget_5 : decode bD_forget 5 = .ok (.if_icmp .ge 16, 3) := by decide +kernel
theorem dD_forget_8 : decode bD_forget 8 = .ok (.aload_n 0, 1) := by decide +kernel
theorem dD_forget_9 : decode bD_forget 9 = .ok (.getfield 38, 3) := by decide +kernel
theorem dD_forget_12 : decode bD_forget 12 = .ok (.iload_n 1, 1) := by decide +kernel
theorem dD_forget_13 : decode bD_forget 13 = .ok (.iconst 0, 1) := by decide +kernel
theorem dD_forget_14 : decode bD_forget 14 = .ok (.bastore, 1) := by decide +kernel
theorem dD_forget_15 : decode bD_forget 15 = .ok (.iinc 1 1, 3) := by decide +kernel
theorem dD_forget_18 : decode bD_forget 18 = .ok (.goto (-16), 3) := by decide +kernel
theorem dD_forget_21 : decode bD_forget 21 = .ok (.aload_n 0, 1) := by decide +kernel
theorem dD_forget_22 : decode bD_forget 22 = .ok (.iconst 0, 1) := by decide +kernel
theorem dD_forget_23 : decode bD_forget 23 = .ok (.putfield 87, 3) := by decide +kernel
theorem dD_forget_26 : decode bD_forget 26 = .ok (.return_, 1) := by decide +kernel
theorem dD_meet_0 : decode bD_meet 0 = .ok (.aload_n 0, 1) := by decide +kernel
theorem dD_meet_1 : decode bD_meet 1 = .ok (.getfield 38, 3) := by decide +kernel
theorem dD_meet_4 : decode bD_meet 4 = .ok (.iload_n 1, 1) := by decide +kernel
theorem dD_meet_5 : decode bD_meet 5 = .ok (.baload, 1) := by decide +kernel
theorem dD_meet_6 : decode bD_meet 6 = .ok (.ifCond .ne 30, 3) := by decide +kernel
theorem dD_meet_9 : decode bD_meet 9 = .ok (.aload_n 0, 1) := by decide +kernel
theorem dD_meet_10 : decode bD_meet 10 = .ok (.getfield 38, 3) := by decide +kernel
theorem dD_meet_13 : decode bD_meet 13 = .ok (.iload_n 1, 1) := by decide +kernel
theorem dD_meet_14 : decode bD_meet 14 = .ok (.iconst 1, 1) := by decide +kernel
theorem dD_meet_15 : decode bD_meet 15 = .ok (.bastore, 1) := by decide +kernel
theorem dD_meet_16 : decode bD_meet 16 = .ok (.aload_n 0, 1) := by decide +kernel
theorem dD_meet_17 : decode bD_meet 17 = .ok (.getfield 41, 3) := by decide +kernel
theorem dD_meet_20 : decode bD_meet 20 = .ok (.aload_n 0, 1) := by decide +kernel
theorem dD_meet_21 : decode bD_meet 21 = .ok (.getfield 87, 3) := by decide +kernel
theorem dD_meet_24 : decode bD_meet 24 = .ok (.iload_n 1, 1) := by decide +kernel
theorem dD_meet_25 : decode bD_meet 25 = .ok (.iastore, 1) := by decide +kernel
theorem dD_meet_26 : decode bD_meet 26 = .ok (.aload_n 0, 1) := by decide +kernel
theorem dD_meet_27 : decode bD_meet 27 = .ok (.dup, 1) := by decide +kernel
theorem dD_meet_28 : decode bD_meet 28 = .ok (.getfield 87, 3) := by decide +kernel
theorem dD_meet_31 : decode bD_meet 31 = .ok (.iconst 1, 1) := by decide +kernel
theorem dD_meet_32 : decode bD_meet 32 = .ok (.iadd, 1) := by decide +kernel
theorem dD_meet_33 : decode bD_meet 33 = .ok (.putfield 87, 3) := by decide +kernel
theorem dD_meet_36 : decode bD_meet 36 = .ok (.return_, 1) := by decide +kernel
theorem dD_targetOf_0 : decode bD_targetOf 0 = .ok (.aload_n 0, 1) := by decide +kernel
theorem dD_targetOf_1 : decode bD_targetOf 1 = .ok (.getfield 7, 3) := by decide +kernel
theorem dD_targetOf_4 : decode bD_targetOf 4 = .ok (.iload_n 1, 1) := by decide +kernel
theorem dD_targetOf_5 : decode bD_targetOf 5 = .ok (.iaload, 1) := by decide +kernel
theorem dD_targetOf_6 : decode bD_targetOf 6 = .ok (.iconst 4, 1) := by decide +kernel
theorem dD_targetOf_7 : decode bD_targetOf 7 = .ok (.if_icmp .eq 7, 3) := by decide +kernel
theorem dD_targetOf_10 : decode bD_targetOf 10 = .ok (.iload_n 1, 1) := by decide +kernel
theorem dD_targetOf_11 : decode bD_targetOf 11 = .ok (.iconst 1, 1) := by decide +kernel
theorem dD_targetOf_12 : decode bD_targetOf 12 = .ok (.iadd, 1) := by decide +kernel
theorem dD_targetOf_13 : decode bD_targetOf 13 = .ok (.ireturn, 1) := by decide +kernel
theorem dD_targetOf_14 : decode bD_targetOf 14 = .ok (.aload_n 0, 1) := by decide +kernel
theorem dD_targetOf_15 : decode bD_targetOf 15 = .ok (.getfield 16, 3) := by decide +kernel
theorem dD_targetOf_18 : decode bD_targetOf 18 = .ok (.iload_n 1, 1) := by decide +kernel
theorem dD_targetOf_19 : decode bD_targetOf 19 = .ok (.iaload, 1) := by decide +kernel
theorem dD_targetOf_20 : decode bD_targetOf 20 = .ok (.aload_n 0, 1) := by decide +kernel
theorem dD_targetOf_21 : decode bD_targetOf 21 = .ok (.getfield 72, 3) := by decide +kernel
theorem dD_targetOf_24 : decode bD_targetOf 24 = .ok (.if_icmp .le 10, 3) := by decide +kernel
theorem dD_targetOf_27 : decode bD_targetOf 27 = .ok (.aload_n 0, 1) := by decide +kernel
theorem dD_targetOf_28 : decode bD_targetOf 28 = .ok (.getfield 72, 3) := by decide +kernel
theorem dD_targetOf_31 : decode bD_targetOf 31 = .ok (.goto 9, 3) := by decide +kernel
theorem dD_targetOf_34 : decode bD_targetOf 34 = .ok (.aload_n 0, 1) := by decide +kernel
theorem dD_targetOf_35 : decode bD_targetOf 35 = .ok (.getfield 16, 3) := by decide +kernel
theorem dD_targetOf_38 : decode bD_targetOf 38 = .ok (.iload_n 1, 1) := by decide +kernel
theorem dD_targetOf_39 : decode bD_targetOf 39 = .ok (.iaload, 1) := by decide +kernel
theorem dD_targetOf_40 : decode bD_targetOf 40 = .ok (.ireturn, 1) := by decide +kernel
theorem dD_passOn_0 : decode bD_passOn 0 = .ok (.iconst 0, 1) := by decide +kernel
theorem dD_passOn_1 : decode bD_passOn 1 = .ok (.istore_n 1, 1) := by decide +kernel
theorem dD_passOn_2 : decode bD_passOn 2 = .ok (.iload_n 1, 1) := by decide +kernel
theorem dD_passOn_3 : decode bD_passOn 3 = .ok (.aload_n 0, 1) := by decide +kernel
theorem dD_passOn_4 : decode bD_passOn 4 = .ok (.getfield 72, 3) := by decide +kernel
theorem dD_passOn_7 : decode bD_passOn 7 = .ok (.if_icmp .ge 54, 3) := by decide +kernel
theorem dD_passOn_10 : decode bD_passOn 10 = .ok (.aload_n 0, 1) := by decide +kernel
theorem dD_passOn_11 : decode bD_passOn 11 = .ok (.getfield 28, 3) := by decide +kernel
theorem dD_passOn_14 : decode bD_passOn 14 = .ok (.iload_n 1, 1) := by decide +kernel
theorem dD_passOn_15 : decode bD_passOn 15 = .ok (.aload_n 0, 1) := by decide +kernel
theorem dD_passOn_16 : decode bD_passOn 16 = .ok (.getfield 13, 3) := by decide +kernel
theorem dD_passOn_19 : decode bD_passOn 19 = .ok (.bipush 16, 2) := by decide +kernel
theorem dD_passOn_21 : decode bD_passOn 21 = .ok (.iload_n 1, 1) := by decide +kernel
theorem dD_passOn_22 : decode bD_passOn 22 = .ok (.iadd, 1) := by decide +kernel
theorem dD_passOn_23 : decode bD_passOn 23 = .ok (.iaload, 1) := by decide +kernel
theorem dD_passOn_24 : decode bD_passOn 24 = .ok (.iastore, 1) := by decide +kernel
theorem dD_passOn_25 : decode bD_passOn 25 = .ok (.aload_n 0, 1) := by decide +kernel
theorem dD_passOn_26 : decode bD_passOn 26 = .ok (.getfield 22, 3) := by decide +kernel
theorem dD_passOn_29 : decode bD_passOn 29 = .ok (.iload_n 1, 1) := by decide +kernel
theorem dD_passOn_30 : decode bD_passOn 30 = .ok (.aload_n 0, 1) := by decide +kernel
theorem dD_passOn_31 : decode bD_passOn 31 = .ok (.getfield 16, 3) := by decide +kernel
theorem dD_passOn_34 : decode bD_passOn 34 = .ok (.bipush 16, 2) := by decide +kernel
theorem dD_passOn_36 : decode bD_passOn 36 = .ok (.iload_n 1, 1) := by decide +kernel
theorem dD_passOn_37 : decode bD_passOn 37 = .ok (.iadd, 1) := by decide +kernel
theorem dD_passOn_38 : decode bD_passOn 38 = .ok (.iaload, 1) := by decide +kernel
theorem dD_passOn_39 : decode bD_passOn 39 = .ok (.iastore, 1) := by decide +kernel
theorem dD_passOn_40 : decode bD_passOn 40 = .ok (.aload_n 0, 1) := by decide +kernel
theorem dD_passOn_41 : decode bD_passOn 41 = .ok (.getfield 25, 3) := by decide +kernel
theorem dD_passOn_44 : decode bD_passOn 44 = .ok (.iload_n 1, 1) := by decide +kernel
theorem dD_passOn_45 : decode bD_passOn 45 = .ok (.aload_n 0, 1) := by decide +kernel
theorem dD_passOn_46 : decode bD_passOn 46 = .ok (.getfield 19, 3) := by decide +kernel
theorem dD_passOn_49 : decode bD_passOn 49 = .ok (.bipush 16, 2) := by decide +kernel
theorem dD_passOn_51 : decode bD_passOn 51 = .ok (.iload_n 1, 1) := by decide +kernel
theorem dD_passOn_52 : decode bD_passOn 52 = .ok (.iadd, 1) := by decide +kernel
theorem dD_passOn_53 : decode bD_passOn 53 = .ok (.iaload, 1) := by decide +kernel
theorem dD_passOn_54 : decode bD_passOn 54 = .ok (.iastore, 1) := by decide +kernel
theorem dD_passOn_55 : decode bD_passOn 55 = .ok (.iinc 1 1, 3) := by decide +kernel
theorem dD_passOn_58 : decode bD_passOn 58 = .ok (.goto (-56), 3) := by decide +kernel
theorem dD_passOn_61 : decode bD_passOn 61 = .ok (.iconst 0, 1) := by decide +kernel
theorem dD_passOn_62 : decode bD_passOn 62 = .ok (.istore_n 1, 1) := by decide +kernel
theorem dD_passOn_63 : decode bD_passOn 63 = .ok (.iload_n 1, 1) := by decide +kernel
theorem dD_passOn_64 : decode bD_passOn 64 = .ok (.bipush 6, 2) := by decide +kernel
theorem dD_passOn_66 : decode bD_passOn 66 = .ok (.if_icmp .ge 75, 3) := by decide +kernel
theorem dD_passOn_69 : decode bD_passOn 69 = .ok (.iconst 0, 1) := by decide +kernel
theorem dD_passOn_70 : decode bD_passOn 70 = .ok (.istore_n 2, 1) := by decide +kernel
theorem dD_passOn_71 : decode bD_passOn 71 = .ok (.iload_n 2, 1) := by decide +kernel
theorem dD_passOn_72 : decode bD_passOn 72 = .ok (.bipush 6, 2) := by decide +kernel
theorem dD_passOn_74 : decode bD_passOn 74 = .ok (.if_icmp .ge 61, 3) := by decide +kernel
theorem dD_passOn_77 : decode bD_passOn 77 = .ok (.iload_n 2, 1) := by decide +kernel
theorem dD_passOn_78 : decode bD_passOn 78 = .ok (.iload_n 1, 1) := by decide +kernel
theorem dD_passOn_79 : decode bD_passOn 79 = .ok (.if_icmp .eq 50, 3) := by decide +kernel
theorem dD_passOn_82 : decode bD_passOn 82 = .ok (.aload_n 0, 1) := by decide +kernel
theorem dD_passOn_83 : decode bD_passOn 83 = .ok (.iload_n 1, 1) := by decide +kernel
theorem dD_passOn_84 : decode bD_passOn 84 = .ok (.iload_n 2, 1) := by decide +kernel
theorem dD_passOn_85 : decode bD_passOn 85 = .ok (.invokevirtual 105, 3) := by decide +kernel
theorem dD_passOn_88 : decode bD_passOn 88 = .ok (.iconst 0, 1) := by decide +kernel
theorem dD_passOn_89 : decode bD_passOn 89 = .ok (.istore_n 3, 1) := by decide +kernel
theorem dD_passOn_90 : decode bD_passOn 90 = .ok (.iload_n 3, 1) := by decide +kernel
theorem dD_passOn_91 : decode bD_passOn 91 = .ok (.aload_n 0, 1) := by decide +kernel
theorem dD_passOn_92 : decode bD_passOn 92 = .ok (.getfield 72, 3) := by decide +kernel
theorem dD_passOn_95 : decode bD_passOn 95 = .ok (.if_icmp .ge 34, 3) := by decide +kernel
theorem dD_passOn_98 : decode bD_passOn 98 = .ok (.aload_n 0, 1) := by decide +kernel
theorem dD_passOn_99 : decode bD_passOn 99 = .ok (.getfield 35, 3) := by decide +kernel
theorem dD_passOn_102 : decode bD_passOn 102 = .ok (.iload_n 3, 1) := by decide +kernel
theorem dD_passOn_103 : decode bD_passOn 103 = .ok (.baload, 1) := by decide +kernel
theorem dD_passOn_104 : decode bD_passOn 104 = .ok (.ifCond .eq 19, 3) := by decide +kernel
theorem dD_passOn_107 : decode bD_passOn 107 = .ok (.aload_n 0, 1) := by decide +kernel
theorem dD_passOn_108 : decode bD_passOn 108 = .ok (.getfield 38, 3) := by decide +kernel
theorem dD_passOn_111 : decode bD_passOn 111 = .ok (.iload_n 3, 1) := by decide +kernel
theorem dD_passOn_112 : decode bD_passOn 112 = .ok (.baload, 1) := by decide +kernel
theorem dD_passOn_113 : decode bD_passOn 113 = .ok (.ifCond .ne 10, 3) := by decide +kernel
theorem dD_passOn_116 : decode bD_passOn 116 = .ok (.aload_n 0, 1) := by decide +kernel
theorem dD_passOn_117 : decode bD_passOn 117 = .ok (.iload_n 3, 1) := by decide +kernel
theorem dD_passOn_118 : decode bD_passOn 118 = .ok (.iload_n 1, 1) := by decide +kernel
theorem dD_passOn_119 : decode bD_passOn 119 = .ok (.iload_n 2, 1) := by decide +kernel
theorem dD_passOn_120 : decode bD_passOn 120 = .ok (.invokevirtual 109, 3) := by decide +kernel
theorem dD_passOn_123 : decode bD_passOn 123 = .ok (.iinc 3 1, 3) := by decide +kernel
theorem dD_passOn_126 : decode bD_passOn 126 = .ok (.goto (-36), 3) := by decide +kernel
theorem dD_passOn_129 : decode bD_passOn 129 = .ok (.iinc 2 1, 3) := by decide +kernel
theorem dD_passOn_132 : decode bD_passOn 132 = .ok (.goto (-61), 3) := by decide +kernel
theorem dD_passOn_135 : decode bD_passOn 135 = .ok (.iinc 1 1, 3) := by decide +kernel
theorem dD_passOn_138 : decode bD_passOn 138 = .ok (.goto (-75), 3) := by decide +kernel
theorem dD_passOn_141 : decode bD_passOn 141 = .ok (.iconst 0, 1) := by decide +kernel
theorem dD_passOn_142 : decode bD_passOn 142 = .ok (.istore_n 1, 1) := by decide +kernel
theorem dD_passOn_143 : decode bD_passOn 143 = .ok (.iconst 0, 1) := by decide +kernel
theorem dD_passOn_144 : decode bD_passOn 144 = .ok (.istore_n 2, 1) := by decide +kernel
theorem dD_passOn_145 : decode bD_passOn 145 = .ok (.iload_n 2, 1) := by decide +kernel
theorem dD_passOn_146 : decode bD_passOn 146 = .ok (.aload_n 0, 1) := by decide +kernel
theorem dD_passOn_147 : decode bD_passOn 147 = .ok (.getfield 72, 3) := by decide +kernel
theorem dD_passOn_150 : decode bD_passOn 150 = .ok (.if_icmp .ge 153, 3) := by decide +kernel
theorem dD_passOn_153 : decode bD_passOn 153 = .ok (.iload_n 1, 1) := by decide +kernel
theorem dD_passOn_154 : decode bD_passOn 154 = .ok (.ifCond .ne 57, 3) := by decide +kernel
theorem dD_passOn_157 : decode bD_passOn 157 = .ok (.aload_n 0, 1) := by decide +kernel
theorem dD_passOn_158 : decode bD_passOn 158 = .ok (.getfield 28, 3) := by decide +kernel
theorem dD_passOn_161 : decode bD_passOn 161 = .ok (.iload_n 2, 1) := by decide +kernel
theorem dD_passOn_162 : decode bD_passOn 162 = .ok (.iaload, 1) := by decide +kernel
theorem dD_passOn_163 : decode bD_passOn 163 = .ok (.aload_n 0, 1) := by decide +kernel
theorem dD_passOn_164 : decode bD_passOn 164 = .ok (.getfield 13, 3) := by decide +kernel
theorem dD_passOn_167 : decode bD_passOn 167 = .ok (.bipush 16, 2) := by decide +kernel
theorem dD_passOn_169 : decode bD_passOn 169 = .ok (.iload_n 2, 1) := by decide +kernel
theorem dD_passOn_170 : decode bD_passOn 170 = .ok (.iadd, 1) := by decide +kernel
theorem dD_passOn_171 : decode bD_passOn 171 = .ok (.iaload, 1) := by decide +kernel
theorem dD_passOn_172 : decode bD_passOn 172 = .ok (.if_icmp .ne 39, 3) := by decide +kernel
theorem dD_passOn_175 : decode bD_passOn 175 = .ok (.aload_n 0, 1) := by decide +kernel
theorem dD_passOn_176 : decode bD_passOn 176 = .ok (.getfield 22, 3) := by decide +kernel
theorem dD_passOn_179 : decode bD_passOn 179 = .ok (.iload_n 2, 1) := by decide +kernel
theorem dD_passOn_180 : decode bD_passOn 180 = .ok (.iaload, 1) := by decide +kernel
theorem dD_passOn_181 : decode bD_passOn 181 = .ok (.aload_n 0, 1) := by decide +kernel
theorem dD_passOn_182 : decode bD_passOn 182 = .ok (.getfield 16, 3) := by decide +kernel
theorem dD_passOn_185 : decode bD_passOn 185 = .ok (.bipush 16, 2) := by decide +kernel
theorem dD_passOn_187 : decode bD_passOn 187 = .ok (.iload_n 2, 1) := by decide +kernel
theorem dD_passOn_188 : decode bD_passOn 188 = .ok (.iadd, 1) := by decide +kernel
theorem dD_passOn_189 : decode bD_passOn 189 = .ok (.iaload, 1) := by decide +kernel
theorem dD_passOn_190 : decode bD_passOn 190 = .ok (.if_icmp .ne 21, 3) := by decide +kernel
theorem dD_passOn_193 : decode bD_passOn 193 = .ok (.aload_n 0, 1) := by decide +kernel
theorem dD_passOn_194 : decode bD_passOn 194 = .ok (.getfield 25, 3) := by decide +kernel
theorem dD_passOn_197 : decode bD_passOn 197 = .ok (.iload_n 2, 1) := by decide +kernel
theorem dD_passOn_198 : decode bD_passOn 198 = .ok (.iaload, 1) := by decide +kernel
theorem dD_passOn_199 : decode bD_passOn 199 = .ok (.aload_n 0, 1) := by decide +kernel
theorem dD_passOn_200 : decode bD_passOn 200 = .ok (.getfield 19, 3) := by decide +kernel
theorem dD_passOn_203 : decode bD_passOn 203 = .ok (.bipush 16, 2) := by decide +kernel
theorem dD_passOn_205 : decode bD_passOn 205 = .ok (.iload_n 2, 1) := by decide +kernel
theorem dD_passOn_206 : decode bD_passOn 206 = .ok (.iadd, 1) := by decide +kernel
theorem dD_passOn_207 : decode bD_passOn 207 = .ok (.iaload, 1) := by decide +kernel
theorem dD_passOn_208 : decode bD_passOn 208 = .ok (.if_icmp .eq 7, 3) := by decide +kernel
theorem dD_passOn_211 : decode bD_passOn 211 = .ok (.iconst 1, 1) := by decide +kernel
theorem dD_passOn_212 : decode bD_passOn 212 = .ok (.goto 4, 3) := by decide +kernel
theorem dD_passOn_215 : decode bD_passOn 215 = .ok (.iconst 0, 1) := by decide +kernel
theorem dD_passOn_216 : decode bD_passOn 216 = .ok (.istore_n 1, 1) := by decide +kernel
theorem dD_passOn_217 : decode bD_passOn 217 = .ok (.aload_n 0, 1) := by decide +kernel
theorem dD_passOn_218 : decode bD_passOn 218 = .ok (.getfield 13, 3) := by decide +kernel
theorem dD_passOn_221 : decode bD_passOn 221 = .ok (.bipush 16, 2) := by decide +kernel
theorem dD_passOn_223 : decode bD_passOn 223 = .ok (.iload_n 2, 1) := by decide +kernel
theorem dD_passOn_224 : decode bD_passOn 224 = .ok (.iadd, 1) := by decide +kernel
theorem dD_passOn_225 : decode bD_passOn 225 = .ok (.aload_n 0, 1) := by decide +kernel
theorem dD_passOn_226 : decode bD_passOn 226 = .ok (.getfield 28, 3) := by decide +kernel
theorem dD_passOn_229 : decode bD_passOn 229 = .ok (.iload_n 2, 1) := by decide +kernel
theorem dD_passOn_230 : decode bD_passOn 230 = .ok (.iaload, 1) := by decide +kernel
theorem dD_passOn_231 : decode bD_passOn 231 = .ok (.iastore, 1) := by decide +kernel
theorem dD_passOn_232 : decode bD_passOn 232 = .ok (.aload_n 0, 1) := by decide +kernel
theorem dD_passOn_233 : decode bD_passOn 233 = .ok (.getfield 16, 3) := by decide +kernel
theorem dD_passOn_236 : decode bD_passOn 236 = .ok (.bipush 16, 2) := by decide +kernel
theorem dD_passOn_238 : decode bD_passOn 238 = .ok (.iload_n 2, 1) := by decide +kernel
theorem dD_passOn_239 : decode bD_passOn 239 = .ok (.iadd, 1) := by decide +kernel
theorem dD_passOn_240 : decode bD_passOn 240 = .ok (.aload_n 0, 1) := by decide +kernel
theorem dD_passOn_241 : decode bD_passOn 241 = .ok (.getfield 22, 3) := by decide +kernel
theorem dD_passOn_244 : decode bD_passOn 244 = .ok (.iload_n 2, 1) := by decide +kernel
theorem dD_passOn_245 : decode bD_passOn 245 = .ok (.iaload, 1) := by decide +kernel
theorem dD_passOn_246 : decode bD_passOn 246 = .ok (.iastore, 1) := by decide +kernel
theorem dD_passOn_247 : decode bD_passOn 247 = .ok (.aload_n 0, 1) := by decide +kernel
theorem dD_passOn_248 : decode bD_passOn 248 = .ok (.getfield 19, 3) := by decide +kernel
theorem dD_passOn_251 : decode bD_passOn 251 = .ok (.bipush 16, 2) := by decide +kernel
theorem dD_passOn_253 : decode bD_passOn 253 = .ok (.iload_n 2, 1) := by decide +kernel
theorem dD_passOn_254 : decode bD_passOn 254 = .ok (.iadd, 1) := by decide +kernel
theorem dD_passOn_255 : decode bD_passOn 255 = .ok (.aload_n 0, 1) := by decide +kernel
theorem dD_passOn_256 : decode bD_passOn 256 = .ok (.getfield 25, 3) := by decide +kernel
theorem dD_passOn_259 : decode bD_passOn 259 = .ok (.iload_n 2, 1) := by decide +kernel
theorem dD_passOn_260 : decode bD_passOn 260 = .ok (.iaload, 1) := by decide +kernel
theorem dD_passOn_261 : decode bD_passOn 261 = .ok (.iastore, 1) := by decide +kernel
theorem dD_passOn_262 : decode bD_passOn 262 = .ok (.aload_n 0, 1) := by decide +kernel
theorem dD_passOn_263 : decode bD_passOn 263 = .ok (.getfield 7, 3) := by decide +kernel
theorem dD_passOn_266 : decode bD_passOn 266 = .ok (.bipush 16, 2) := by decide +kernel
theorem dD_passOn_268 : decode bD_passOn 268 = .ok (.iload_n 2, 1) := by decide +kernel
theorem dD_passOn_269 : decode bD_passOn 269 = .ok (.iadd, 1) := by decide +kernel
theorem dD_passOn_270 : decode bD_passOn 270 = .ok (.iaload, 1) := by decide +kernel
theorem dD_passOn_271 : decode bD_passOn 271 = .ok (.iconst 1, 1) := by decide +kernel
theorem dD_passOn_272 : decode bD_passOn 272 = .ok (.if_icmp .ne 25, 3) := by decide +kernel
theorem dD_passOn_275 : decode bD_passOn 275 = .ok (.aload_n 0, 1) := by decide +kernel
theorem dD_passOn_276 : decode bD_passOn 276 = .ok (.getfield 28, 3) := by decide +kernel
theorem dD_passOn_279 : decode bD_passOn 279 = .ok (.iload_n 2, 1) := by decide +kernel
theorem dD_passOn_280 : decode bD_passOn 280 = .ok (.iaload, 1) := by decide +kernel
theorem dD_passOn_281 : decode bD_passOn 281 = .ok (.aload_n 0, 1) := by decide +kernel
theorem dD_passOn_282 : decode bD_passOn 282 = .ok (.getfield 22, 3) := by decide +kernel
theorem dD_passOn_285 : decode bD_passOn 285 = .ok (.iload_n 2, 1) := by decide +kernel
theorem dD_passOn_286 : decode bD_passOn 286 = .ok (.iaload, 1) := by decide +kernel
theorem dD_passOn_287 : decode bD_passOn 287 = .ok (.if_icmp .ne 10, 3) := by decide +kernel
theorem dD_passOn_290 : decode bD_passOn 290 = .ok (.aload_n 0, 1) := by decide +kernel
theorem dD_passOn_291 : decode bD_passOn 291 = .ok (.iload_n 2, 1) := by decide +kernel
theorem dD_passOn_292 : decode bD_passOn 292 = .ok (.invokevirtual 113, 3) := by decide +kernel
theorem dD_passOn_295 : decode bD_passOn 295 = .ok (.iconst 1, 1) := by decide +kernel
theorem dD_passOn_296 : decode bD_passOn 296 = .ok (.istore_n 1, 1) := by decide +kernel
theorem dD_passOn_297 : decode bD_passOn 297 = .ok (.iinc 2 1, 3) := by decide +kernel
theorem dD_passOn_300 : decode bD_passOn 300 = .ok (.goto (-155), 3) := by decide +kernel
theorem dD_passOn_303 : decode bD_passOn 303 = .ok (.iload_n 1, 1) := by decide +kernel
theorem dD_passOn_304 : decode bD_passOn 304 = .ok (.ireturn, 1) := by decide +kernel
theorem dD_follow_0 : decode bD_follow 0 = .ok (.aload_n 0, 1) := by decide +kernel
theorem dD_follow_1 : decode bD_follow 1 = .ok (.invokevirtual 90, 3) := by decide +kernel
theorem dD_follow_4 : decode bD_follow 4 = .ok (.aload_n 0, 1) := by decide +kernel
theorem dD_follow_5 : decode bD_follow 5 = .ok (.iconst 0, 1) := by decide +kernel
theorem dD_follow_6 : decode bD_follow 6 = .ok (.invokevirtual 93, 3) := by decide +kernel
theorem dD_follow_9 : decode bD_follow 9 = .ok (.aload_n 0, 1) := by decide +kernel
theorem dD_follow_10 : decode bD_follow 10 = .ok (.getfield 87, 3) := by decide +kernel
theorem dD_follow_13 : decode bD_follow 13 = .ok (.ifCond .le 186, 3) := by decide +kernel
theorem dD_follow_16 : decode bD_follow 16 = .ok (.aload_n 0, 1) := by decide +kernel
theorem dD_follow_17 : decode bD_follow 17 = .ok (.dup, 1) := by decide +kernel
theorem dD_follow_18 : decode bD_follow 18 = .ok (.getfield 87, 3) := by decide +kernel
theorem dD_follow_21 : decode bD_follow 21 = .ok (.iconst 1, 1) := by decide +kernel
theorem dD_follow_22 : decode bD_follow 22 = .ok (.isub, 1) := by decide +kernel
theorem dD_follow_23 : decode bD_follow 23 = .ok (.putfield 87, 3) := by decide +kernel
theorem dD_follow_26 : decode bD_follow 26 = .ok (.aload_n 0, 1) := by decide +kernel
theorem dD_follow_27 : decode bD_follow 27 = .ok (.getfield 41, 3) := by decide +kernel
theorem dD_follow_30 : decode bD_follow 30 = .ok (.aload_n 0, 1) := by decide +kernel
theorem dD_follow_31 : decode bD_follow 31 = .ok (.getfield 87, 3) := by decide +kernel
theorem dD_follow_34 : decode bD_follow 34 = .ok (.iaload, 1) := by decide +kernel
theorem dD_follow_35 : decode bD_follow 35 = .ok (.istore_n 3, 1) := by decide +kernel
theorem dD_follow_36 : decode bD_follow 36 = .ok (.iload_n 3, 1) := by decide +kernel
theorem dD_follow_37 : decode bD_follow 37 = .ok (.bipush 17, 2) := by decide +kernel
theorem dD_follow_39 : decode bD_follow 39 = .ok (.if_icmp .lt 7, 3) := by decide +kernel
theorem dD_follow_42 : decode bD_follow 42 = .ok (.iconst 1, 1) := by decide +kernel
theorem dD_follow_43 : decode bD_follow 43 = .ok (.goto 4, 3) := by decide +kernel
theorem dD_follow_46 : decode bD_follow 46 = .ok (.iconst 0, 1) := by decide +kernel
theorem dD_follow_47 : decode bD_follow 47 = .ok (.istore 4, 2) := by decide +kernel
theorem dD_follow_49 : decode bD_follow 49 = .ok (.iload 4, 2) := by decide +kernel
theorem dD_follow_51 : decode bD_follow 51 = .ok (.ifCond .eq 10, 3) := by decide +kernel
theorem dD_follow_54 : decode bD_follow 54 = .ok (.iload_n 3, 1) := by decide +kernel
theorem dD_follow_55 : decode bD_follow 55 = .ok (.bipush 17, 2) := by decide +kernel
theorem dD_follow_57 : decode bD_follow 57 = .ok (.isub, 1) := by decide +kernel
theorem dD_follow_58 : decode bD_follow 58 = .ok (.goto 4, 3) := by decide +kernel
theorem dD_follow_61 : decode bD_follow 61 = .ok (.iload_n 3, 1) := by decide +kernel
theorem dD_follow_62 : decode bD_follow 62 = .ok (.istore 5, 2) := by decide +kernel
theorem dD_follow_64 : decode bD_follow 64 = .ok (.iload 5, 2) := by decide +kernel
theorem dD_follow_66 : decode bD_follow 66 = .ok (.aload_n 0, 1) := by decide +kernel
theorem dD_follow_67 : decode bD_follow 67 = .ok (.getfield 72, 3) := by decide +kernel
theorem dD_follow_70 : decode bD_follow 70 = .ok (.if_icmp .ge 126, 3) := by decide +kernel
theorem dD_follow_73 : decode bD_follow 73 = .ok (.aload_n 0, 1) := by decide +kernel
theorem dD_follow_74 : decode bD_follow 74 = .ok (.getfield 7, 3) := by decide +kernel
theorem dD_follow_77 : decode bD_follow 77 = .ok (.bipush 16, 2) := by decide +kernel
theorem dD_follow_79 : decode bD_follow 79 = .ok (.iload 5, 2) := by decide +kernel
theorem dD_follow_81 : decode bD_follow 81 = .ok (.iadd, 1) := by decide +kernel
theorem dD_follow_82 : decode bD_follow 82 = .ok (.iaload, 1) := by decide +kernel
theorem dD_follow_83 : decode bD_follow 83 = .ok (.iconst 1, 1) := by decide +kernel
theorem dD_follow_84 : decode bD_follow 84 = .ok (.if_icmp .ne 35, 3) := by decide +kernel
theorem dD_follow_87 : decode bD_follow 87 = .ok (.aload_n 0, 1) := by decide +kernel
theorem dD_follow_88 : decode bD_follow 88 = .ok (.getfield 13, 3) := by decide +kernel
theorem dD_follow_91 : decode bD_follow 91 = .ok (.bipush 16, 2) := by decide +kernel
theorem dD_follow_93 : decode bD_follow 93 = .ok (.iload 5, 2) := by decide +kernel
theorem dD_follow_95 : decode bD_follow 95 = .ok (.iadd, 1) := by decide +kernel
theorem dD_follow_96 : decode bD_follow 96 = .ok (.iaload, 1) := by decide +kernel
theorem dD_follow_97 : decode bD_follow 97 = .ok (.iload_n 1, 1) := by decide +kernel
theorem dD_follow_98 : decode bD_follow 98 = .ok (.if_icmp .ne 21, 3) := by decide +kernel
theorem dD_follow_101 : decode bD_follow 101 = .ok (.aload_n 0, 1) := by decide +kernel
theorem dD_follow_102 : decode bD_follow 102 = .ok (.getfield 16, 3) := by decide +kernel
theorem dD_follow_105 : decode bD_follow 105 = .ok (.bipush 16, 2) := by decide +kernel
theorem dD_follow_107 : decode bD_follow 107 = .ok (.iload 5, 2) := by decide +kernel
theorem dD_follow_109 : decode bD_follow 109 = .ok (.iadd, 1) := by decide +kernel
theorem dD_follow_110 : decode bD_follow 110 = .ok (.iaload, 1) := by decide +kernel
theorem dD_follow_111 : decode bD_follow 111 = .ok (.iload_n 2, 1) := by decide +kernel
theorem dD_follow_112 : decode bD_follow 112 = .ok (.if_icmp .ne 7, 3) := by decide +kernel
theorem dD_follow_115 : decode bD_follow 115 = .ok (.iconst 1, 1) := by decide +kernel
theorem dD_follow_116 : decode bD_follow 116 = .ok (.goto 4, 3) := by decide +kernel
theorem dD_follow_119 : decode bD_follow 119 = .ok (.iconst 0, 1) := by decide +kernel
theorem dD_follow_120 : decode bD_follow 120 = .ok (.istore 6, 2) := by decide +kernel
theorem dD_follow_122 : decode bD_follow 122 = .ok (.iload 6, 2) := by decide +kernel
theorem dD_follow_124 : decode bD_follow 124 = .ok (.ifCond .ne 28, 3) := by decide +kernel
theorem dD_follow_127 : decode bD_follow 127 = .ok (.iload 4, 2) := by decide +kernel
theorem dD_follow_129 : decode bD_follow 129 = .ok (.ifCond .eq 27, 3) := by decide +kernel
theorem dD_follow_132 : decode bD_follow 132 = .ok (.aload_n 0, 1) := by decide +kernel
theorem dD_follow_133 : decode bD_follow 133 = .ok (.iload 5, 2) := by decide +kernel
theorem dD_follow_135 : decode bD_follow 135 = .ok (.iload_n 1, 1) := by decide +kernel
theorem dD_follow_136 : decode bD_follow 136 = .ok (.invokevirtual 101, 3) := by decide +kernel
theorem dD_follow_139 : decode bD_follow 139 = .ok (.ifCond .ne 17, 3) := by decide +kernel
theorem dD_follow_142 : decode bD_follow 142 = .ok (.aload_n 0, 1) := by decide +kernel
theorem dD_follow_143 : decode bD_follow 143 = .ok (.iload 5, 2) := by decide +kernel
theorem dD_follow_145 : decode bD_follow 145 = .ok (.iload_n 2, 1) := by decide +kernel
theorem dD_follow_146 : decode bD_follow 146 = .ok (.invokevirtual 101, 3) := by decide +kernel
theorem dD_follow_149 : decode bD_follow 149 = .ok (.ifCond .ne 7, 3) := by decide +kernel
theorem dD_follow_152 : decode bD_follow 152 = .ok (.iconst 1, 1) := by decide +kernel
theorem dD_follow_153 : decode bD_follow 153 = .ok (.goto 4, 3) := by decide +kernel
theorem dD_follow_156 : decode bD_follow 156 = .ok (.iconst 0, 1) := by decide +kernel
theorem dD_follow_157 : decode bD_follow 157 = .ok (.istore 4, 2) := by decide +kernel
theorem dD_follow_159 : decode bD_follow 159 = .ok (.iload 4, 2) := by decide +kernel
theorem dD_follow_161 : decode bD_follow 161 = .ok (.ifCond .eq 8, 3) := by decide +kernel
theorem dD_follow_164 : decode bD_follow 164 = .ok (.bipush 17, 2) := by decide +kernel
theorem dD_follow_166 : decode bD_follow 166 = .ok (.goto 4, 3) := by decide +kernel
theorem dD_follow_169 : decode bD_follow 169 = .ok (.iconst 0, 1) := by decide +kernel
theorem dD_follow_170 : decode bD_follow 170 = .ok (.istore 7, 2) := by decide +kernel
theorem dD_follow_172 : decode bD_follow 172 = .ok (.aload_n 0, 1) := by decide +kernel
theorem dD_follow_173 : decode bD_follow 173 = .ok (.iload 5, 2) := by decide +kernel
theorem dD_follow_175 : decode bD_follow 175 = .ok (.iconst 1, 1) := by decide +kernel
theorem dD_follow_176 : decode bD_follow 176 = .ok (.iadd, 1) := by decide +kernel
theorem dD_follow_177 : decode bD_follow 177 = .ok (.iload 7, 2) := by decide +kernel
theorem dD_follow_179 : decode bD_follow 179 = .ok (.iadd, 1) := by decide +kernel
theorem dD_follow_180 : decode bD_follow 180 = .ok (.invokevirtual 93, 3) := by decide +kernel
theorem dD_follow_183 : decode bD_follow 183 = .ok (.aload_n 0, 1) := by decide +kernel
theorem dD_follow_184 : decode bD_follow 184 = .ok (.aload_n 0, 1) := by decide +kernel
theorem dD_follow_185 : decode bD_follow 185 = .ok (.iload 5, 2) := by decide +kernel
theorem dD_follow_187 : decode bD_follow 187 = .ok (.invokevirtual 97, 3) := by decide +kernel
theorem dD_follow_190 : decode bD_follow 190 = .ok (.iload 7, 2) := by decide +kernel
theorem dD_follow_192 : decode bD_follow 192 = .ok (.iadd, 1) := by decide +kernel
theorem dD_follow_193 : decode bD_follow 193 = .ok (.invokevirtual 93, 3) := by decide +kernel
theorem dD_follow_196 : decode bD_follow 196 = .ok (.goto (-187), 3) := by decide +kernel
theorem dD_follow_199 : decode bD_follow 199 = .ok (.return_, 1) := by decide +kernel
theorem dD_writes_0 : decode bD_writes 0 = .ok (.aload_n 0, 1) := by decide +kernel
theorem dD_writes_1 : decode bD_writes 1 = .ok (.getfield 7, 3) := by decide +kernel
theorem dD_writes_4 : decode bD_writes 4 = .ok (.bipush 16, 2) := by decide +kernel
theorem dD_writes_6 : decode bD_writes 6 = .ok (.iload_n 1, 1) := by decide +kernel
theorem dD_writes_7 : decode bD_writes 7 = .ok (.iadd, 1) := by decide +kernel
theorem dD_writes_8 : decode bD_writes 8 = .ok (.iaload, 1) := by decide +kernel
theorem dD_writes_9 : decode bD_writes 9 = .ok (.ifCond .lt 33, 3) := by decide +kernel
theorem dD_writes_12 : decode bD_writes 12 = .ok (.aload_n 0, 1) := by decide +kernel
theorem dD_writes_13 : decode bD_writes 13 = .ok (.getfield 7, 3) := by decide +kernel
theorem dD_writes_16 : decode bD_writes 16 = .ok (.bipush 16, 2) := by decide +kernel
theorem dD_writes_18 : decode bD_writes 18 = .ok (.iload_n 1, 1) := by decide +kernel
theorem dD_writes_19 : decode bD_writes 19 = .ok (.iadd, 1) := by decide +kernel
theorem dD_writes_20 : decode bD_writes 20 = .ok (.iaload, 1) := by decide +kernel
theorem dD_writes_21 : decode bD_writes 21 = .ok (.iconst 2, 1) := by decide +kernel
theorem dD_writes_22 : decode bD_writes 22 = .ok (.if_icmp .gt 20, 3) := by decide +kernel
theorem dD_writes_25 : decode bD_writes 25 = .ok (.aload_n 0, 1) := by decide +kernel
theorem dD_writes_26 : decode bD_writes 26 = .ok (.getfield 13, 3) := by decide +kernel
theorem dD_writes_29 : decode bD_writes 29 = .ok (.bipush 16, 2) := by decide +kernel
theorem dD_writes_31 : decode bD_writes 31 = .ok (.iload_n 1, 1) := by decide +kernel
theorem dD_writes_32 : decode bD_writes 32 = .ok (.iadd, 1) := by decide +kernel
theorem dD_writes_33 : decode bD_writes 33 = .ok (.iaload, 1) := by decide +kernel
theorem dD_writes_34 : decode bD_writes 34 = .ok (.iload_n 2, 1) := by decide +kernel
theorem dD_writes_35 : decode bD_writes 35 = .ok (.if_icmp .ne 7, 3) := by decide +kernel
theorem dD_writes_38 : decode bD_writes 38 = .ok (.iconst 1, 1) := by decide +kernel
theorem dD_writes_39 : decode bD_writes 39 = .ok (.goto 4, 3) := by decide +kernel
theorem dD_writes_42 : decode bD_writes 42 = .ok (.iconst 0, 1) := by decide +kernel
theorem dD_writes_43 : decode bD_writes 43 = .ok (.ireturn, 1) := by decide +kernel
theorem dD_replace_0 : decode bD_replace 0 = .ok (.aload_n 0, 1) := by decide +kernel
theorem dD_replace_1 : decode bD_replace 1 = .ok (.getfield 7, 3) := by decide +kernel
theorem dD_replace_4 : decode bD_replace 4 = .ok (.bipush 16, 2) := by decide +kernel
theorem dD_replace_6 : decode bD_replace 6 = .ok (.iload_n 1, 1) := by decide +kernel
theorem dD_replace_7 : decode bD_replace 7 = .ok (.iadd, 1) := by decide +kernel
theorem dD_replace_8 : decode bD_replace 8 = .ok (.iaload, 1) := by decide +kernel
theorem dD_replace_9 : decode bD_replace 9 = .ok (.istore 4, 2) := by decide +kernel
theorem dD_replace_11 : decode bD_replace 11 = .ok (.iload 4, 2) := by decide +kernel
theorem dD_replace_13 : decode bD_replace 13 = .ok (.iconst 3, 1) := by decide +kernel
theorem dD_replace_14 : decode bD_replace 14 = .ok (.if_icmp .eq 9, 3) := by decide +kernel
theorem dD_replace_17 : decode bD_replace 17 = .ok (.iload 4, 2) := by decide +kernel
theorem dD_replace_19 : decode bD_replace 19 = .ok (.iconst 4, 1) := by decide +kernel
theorem dD_replace_20 : decode bD_replace 20 = .ok (.if_icmp .ne 23, 3) := by decide +kernel
theorem dD_replace_23 : decode bD_replace 23 = .ok (.aload_n 0, 1) := by decide +kernel
theorem dD_replace_24 : decode bD_replace 24 = .ok (.getfield 13, 3) := by decide +kernel
theorem dD_replace_27 : decode bD_replace 27 = .ok (.bipush 16, 2) := by decide +kernel
theorem dD_replace_29 : decode bD_replace 29 = .ok (.iload_n 1, 1) := by decide +kernel
theorem dD_replace_30 : decode bD_replace 30 = .ok (.iadd, 1) := by decide +kernel
theorem dD_replace_31 : decode bD_replace 31 = .ok (.iaload, 1) := by decide +kernel
theorem dD_replace_32 : decode bD_replace 32 = .ok (.iload_n 2, 1) := by decide +kernel
theorem dD_replace_33 : decode bD_replace 33 = .ok (.if_icmp .ne 10, 3) := by decide +kernel
theorem dD_replace_36 : decode bD_replace 36 = .ok (.aload_n 0, 1) := by decide +kernel
theorem dD_replace_37 : decode bD_replace 37 = .ok (.getfield 28, 3) := by decide +kernel
theorem dD_replace_40 : decode bD_replace 40 = .ok (.iload_n 1, 1) := by decide +kernel
theorem dD_replace_41 : decode bD_replace 41 = .ok (.iload_n 3, 1) := by decide +kernel
theorem dD_replace_42 : decode bD_replace 42 = .ok (.iastore, 1) := by decide +kernel
theorem dD_replace_43 : decode bD_replace 43 = .ok (.iload 4, 2) := by decide +kernel
theorem dD_replace_45 : decode bD_replace 45 = .ok (.iconst 1, 1) := by decide +kernel
theorem dD_replace_46 : decode bD_replace 46 = .ok (.if_icmp .eq 15, 3) := by decide +kernel
theorem dD_replace_49 : decode bD_replace 49 = .ok (.iload 4, 2) := by decide +kernel
theorem dD_replace_51 : decode bD_replace 51 = .ok (.iconst 2, 1) := by decide +kernel
theorem dD_replace_52 : decode bD_replace 52 = .ok (.if_icmp .eq 9, 3) := by decide +kernel
theorem dD_replace_55 : decode bD_replace 55 = .ok (.iload 4, 2) := by decide +kernel
theorem dD_replace_57 : decode bD_replace 57 = .ok (.iconst 5, 1) := by decide +kernel
theorem dD_replace_58 : decode bD_replace 58 = .ok (.if_icmp .ne 23, 3) := by decide +kernel
theorem dD_replace_61 : decode bD_replace 61 = .ok (.aload_n 0, 1) := by decide +kernel
theorem dD_replace_62 : decode bD_replace 62 = .ok (.getfield 16, 3) := by decide +kernel
theorem dD_replace_65 : decode bD_replace 65 = .ok (.bipush 16, 2) := by decide +kernel
theorem dD_replace_67 : decode bD_replace 67 = .ok (.iload_n 1, 1) := by decide +kernel
theorem dD_replace_68 : decode bD_replace 68 = .ok (.iadd, 1) := by decide +kernel
theorem dD_replace_69 : decode bD_replace 69 = .ok (.iaload, 1) := by decide +kernel
theorem dD_replace_70 : decode bD_replace 70 = .ok (.iload_n 2, 1) := by decide +kernel
theorem dD_replace_71 : decode bD_replace 71 = .ok (.if_icmp .ne 10, 3) := by decide +kernel
theorem dD_replace_74 : decode bD_replace 74 = .ok (.aload_n 0, 1) := by decide +kernel
theorem dD_replace_75 : decode bD_replace 75 = .ok (.getfield 22, 3) := by decide +kernel
theorem dD_replace_78 : decode bD_replace 78 = .ok (.iload_n 1, 1) := by decide +kernel
theorem dD_replace_79 : decode bD_replace 79 = .ok (.iload_n 3, 1) := by decide +kernel
theorem dD_replace_80 : decode bD_replace 80 = .ok (.iastore, 1) := by decide +kernel
theorem dD_replace_81 : decode bD_replace 81 = .ok (.iload 4, 2) := by decide +kernel
theorem dD_replace_83 : decode bD_replace 83 = .ok (.iconst 2, 1) := by decide +kernel
theorem dD_replace_84 : decode bD_replace 84 = .ok (.if_icmp .ne 23, 3) := by decide +kernel
theorem dD_replace_87 : decode bD_replace 87 = .ok (.aload_n 0, 1) := by decide +kernel
theorem dD_replace_88 : decode bD_replace 88 = .ok (.getfield 19, 3) := by decide +kernel
theorem dD_replace_91 : decode bD_replace 91 = .ok (.bipush 16, 2) := by decide +kernel
theorem dD_replace_93 : decode bD_replace 93 = .ok (.iload_n 1, 1) := by decide +kernel
theorem dD_replace_94 : decode bD_replace 94 = .ok (.iadd, 1) := by decide +kernel
theorem dD_replace_95 : decode bD_replace 95 = .ok (.iaload, 1) := by decide +kernel
theorem dD_replace_96 : decode bD_replace 96 = .ok (.iload_n 2, 1) := by decide +kernel
theorem dD_replace_97 : decode bD_replace 97 = .ok (.if_icmp .ne 10, 3) := by decide +kernel
theorem dD_replace_100 : decode bD_replace 100 = .ok (.aload_n 0, 1) := by decide +kernel
theorem dD_replace_101 : decode bD_replace 101 = .ok (.getfield 25, 3) := by decide +kernel
theorem dD_replace_104 : decode bD_replace 104 = .ok (.iload_n 1, 1) := by decide +kernel
theorem dD_replace_105 : decode bD_replace 105 = .ok (.iload_n 3, 1) := by decide +kernel
theorem dD_replace_106 : decode bD_replace 106 = .ok (.iastore, 1) := by decide +kernel
theorem dD_replace_107 : decode bD_replace 107 = .ok (.return_, 1) := by decide +kernel
theorem dD_empty_0 : decode bD_empty 0 = .ok (.aload_n 0, 1) := by decide +kernel
theorem dD_empty_1 : decode bD_empty 1 = .ok (.getfield 7, 3) := by decide +kernel
theorem dD_empty_4 : decode bD_empty 4 = .ok (.bipush 16, 2) := by decide +kernel
theorem dD_empty_6 : decode bD_empty 6 = .ok (.iload_n 1, 1) := by decide +kernel
theorem dD_empty_7 : decode bD_empty 7 = .ok (.iadd, 1) := by decide +kernel
theorem dD_empty_8 : decode bD_empty 8 = .ok (.iconst (-1), 1) := by decide +kernel
theorem dD_empty_9 : decode bD_empty 9 = .ok (.iastore, 1) := by decide +kernel
theorem dD_empty_10 : decode bD_empty 10 = .ok (.aload_n 0, 1) := by decide +kernel
theorem dD_empty_11 : decode bD_empty 11 = .ok (.getfield 13, 3) := by decide +kernel
theorem dD_empty_14 : decode bD_empty 14 = .ok (.bipush 16, 2) := by decide +kernel
theorem dD_empty_16 : decode bD_empty 16 = .ok (.iload_n 1, 1) := by decide +kernel
theorem dD_empty_17 : decode bD_empty 17 = .ok (.iadd, 1) := by decide +kernel
theorem dD_empty_18 : decode bD_empty 18 = .ok (.iconst 0, 1) := by decide +kernel
theorem dD_empty_19 : decode bD_empty 19 = .ok (.iastore, 1) := by decide +kernel
theorem dD_empty_20 : decode bD_empty 20 = .ok (.aload_n 0, 1) := by decide +kernel
theorem dD_empty_21 : decode bD_empty 21 = .ok (.getfield 16, 3) := by decide +kernel
theorem dD_empty_24 : decode bD_empty 24 = .ok (.bipush 16, 2) := by decide +kernel
theorem dD_empty_26 : decode bD_empty 26 = .ok (.iload_n 1, 1) := by decide +kernel
theorem dD_empty_27 : decode bD_empty 27 = .ok (.iadd, 1) := by decide +kernel
theorem dD_empty_28 : decode bD_empty 28 = .ok (.iconst 0, 1) := by decide +kernel
theorem dD_empty_29 : decode bD_empty 29 = .ok (.iastore, 1) := by decide +kernel
theorem dD_empty_30 : decode bD_empty 30 = .ok (.aload_n 0, 1) := by decide +kernel
theorem dD_empty_31 : decode bD_empty 31 = .ok (.getfield 19, 3) := by decide +kernel
theorem dD_empty_34 : decode bD_empty 34 = .ok (.bipush 16, 2) := by decide +kernel
theorem dD_empty_36 : decode bD_empty 36 = .ok (.iload_n 1, 1) := by decide +kernel
theorem dD_empty_37 : decode bD_empty 37 = .ok (.iadd, 1) := by decide +kernel
theorem dD_empty_38 : decode bD_empty 38 = .ok (.iconst 0, 1) := by decide +kernel
theorem dD_empty_39 : decode bD_empty 39 = .ok (.iastore, 1) := by decide +kernel
theorem dD_empty_40 : decode bD_empty 40 = .ok (.return_, 1) := by decide +kernel
theorem dD_leaveOut_0 : decode bD_leaveOut 0 = .ok (.iconst 0, 1) := by decide +kernel
theorem dD_leaveOut_1 : decode bD_leaveOut 1 = .ok (.istore_n 1, 1) := by decide +kernel
theorem dD_leaveOut_2 : decode bD_leaveOut 2 = .ok (.iconst 0, 1) := by decide +kernel
theorem dD_leaveOut_3 : decode bD_leaveOut 3 = .ok (.istore_n 2, 1) := by decide +kernel
theorem dD_leaveOut_4 : decode bD_leaveOut 4 = .ok (.iload_n 2, 1) := by decide +kernel
theorem dD_leaveOut_5 : decode bD_leaveOut 5 = .ok (.aload_n 0, 1) := by decide +kernel
theorem dD_leaveOut_6 : decode bD_leaveOut 6 = .ok (.getfield 72, 3) := by decide +kernel
theorem dD_leaveOut_9 : decode bD_leaveOut 9 = .ok (.if_icmp .ge 71, 3) := by decide +kernel
theorem dD_leaveOut_12 : decode bD_leaveOut 12 = .ok (.aload_n 0, 1) := by decide +kernel
theorem dD_leaveOut_13 : decode bD_leaveOut 13 = .ok (.getfield 31, 3) := by decide +kernel
theorem dD_leaveOut_16 : decode bD_leaveOut 16 = .ok (.iload_n 2, 1) := by decide +kernel
theorem dD_leaveOut_17 : decode bD_leaveOut 17 = .ok (.aload_n 0, 1) := by decide +kernel
theorem dD_leaveOut_18 : decode bD_leaveOut 18 = .ok (.getfield 7, 3) := by decide +kernel
theorem dD_leaveOut_21 : decode bD_leaveOut 21 = .ok (.bipush 16, 2) := by decide +kernel
theorem dD_leaveOut_23 : decode bD_leaveOut 23 = .ok (.iload_n 2, 1) := by decide +kernel
theorem dD_leaveOut_24 : decode bD_leaveOut 24 = .ok (.iadd, 1) := by decide +kernel
theorem dD_leaveOut_25 : decode bD_leaveOut 25 = .ok (.iaload, 1) := by decide +kernel
theorem dD_leaveOut_26 : decode bD_leaveOut 26 = .ok (.ifCond .lt 46, 3) := by decide +kernel
theorem dD_leaveOut_29 : decode bD_leaveOut 29 = .ok (.aload_n 0, 1) := by decide +kernel
theorem dD_leaveOut_30 : decode bD_leaveOut 30 = .ok (.getfield 7, 3) := by decide +kernel
theorem dD_leaveOut_33 : decode bD_leaveOut 33 = .ok (.bipush 16, 2) := by decide +kernel
theorem dD_leaveOut_35 : decode bD_leaveOut 35 = .ok (.iload_n 2, 1) := by decide +kernel
theorem dD_leaveOut_36 : decode bD_leaveOut 36 = .ok (.iadd, 1) := by decide +kernel
theorem dD_leaveOut_37 : decode bD_leaveOut 37 = .ok (.iaload, 1) := by decide +kernel
theorem dD_leaveOut_38 : decode bD_leaveOut 38 = .ok (.iconst 2, 1) := by decide +kernel
theorem dD_leaveOut_39 : decode bD_leaveOut 39 = .ok (.if_icmp .gt 33, 3) := by decide +kernel
theorem dD_leaveOut_42 : decode bD_leaveOut 42 = .ok (.aload_n 0, 1) := by decide +kernel
theorem dD_leaveOut_43 : decode bD_leaveOut 43 = .ok (.getfield 35, 3) := by decide +kernel
theorem dD_leaveOut_46 : decode bD_leaveOut 46 = .ok (.iload_n 2, 1) := by decide +kernel
theorem dD_leaveOut_47 : decode bD_leaveOut 47 = .ok (.baload, 1) := by decide +kernel
theorem dD_leaveOut_48 : decode bD_leaveOut 48 = .ok (.ifCond .eq 20, 3) := by decide +kernel
theorem dD_leaveOut_51 : decode bD_leaveOut 51 = .ok (.aload_n 0, 1) := by decide +kernel
theorem dD_leaveOut_52 : decode bD_leaveOut 52 = .ok (.iload_n 2, 1) := by decide +kernel
theorem dD_leaveOut_53 : decode bD_leaveOut 53 = .ok (.aload_n 0, 1) := by decide +kernel
theorem dD_leaveOut_54 : decode bD_leaveOut 54 = .ok (.getfield 13, 3) := by decide +kernel
theorem dD_leaveOut_57 : decode bD_leaveOut 57 = .ok (.bipush 16, 2) := by decide +kernel
theorem dD_leaveOut_59 : decode bD_leaveOut 59 = .ok (.iload_n 2, 1) := by decide +kernel
theorem dD_leaveOut_60 : decode bD_leaveOut 60 = .ok (.iadd, 1) := by decide +kernel
theorem dD_leaveOut_61 : decode bD_leaveOut 61 = .ok (.iaload, 1) := by decide +kernel
theorem dD_leaveOut_62 : decode bD_leaveOut 62 = .ok (.invokevirtual 119, 3) := by decide +kernel
theorem dD_leaveOut_65 : decode bD_leaveOut 65 = .ok (.ifCond .ne 7, 3) := by decide +kernel
theorem dD_leaveOut_68 : decode bD_leaveOut 68 = .ok (.iconst 1, 1) := by decide +kernel
theorem dD_leaveOut_69 : decode bD_leaveOut 69 = .ok (.goto 4, 3) := by decide +kernel
theorem dD_leaveOut_72 : decode bD_leaveOut 72 = .ok (.iconst 0, 1) := by decide +kernel
theorem dD_leaveOut_73 : decode bD_leaveOut 73 = .ok (.bastore, 1) := by decide +kernel
theorem dD_leaveOut_74 : decode bD_leaveOut 74 = .ok (.iinc 2 1, 3) := by decide +kernel
theorem dD_leaveOut_77 : decode bD_leaveOut 77 = .ok (.goto (-73), 3) := by decide +kernel
theorem dD_leaveOut_80 : decode bD_leaveOut 80 = .ok (.iconst 0, 1) := by decide +kernel
theorem dD_leaveOut_81 : decode bD_leaveOut 81 = .ok (.istore_n 2, 1) := by decide +kernel
theorem dD_leaveOut_82 : decode bD_leaveOut 82 = .ok (.iload_n 2, 1) := by decide +kernel
theorem dD_leaveOut_83 : decode bD_leaveOut 83 = .ok (.aload_n 0, 1) := by decide +kernel
theorem dD_leaveOut_84 : decode bD_leaveOut 84 = .ok (.getfield 72, 3) := by decide +kernel
theorem dD_leaveOut_87 : decode bD_leaveOut 87 = .ok (.if_icmp .ge 25, 3) := by decide +kernel
theorem dD_leaveOut_90 : decode bD_leaveOut 90 = .ok (.aload_n 0, 1) := by decide +kernel
theorem dD_leaveOut_91 : decode bD_leaveOut 91 = .ok (.getfield 31, 3) := by decide +kernel
theorem dD_leaveOut_94 : decode bD_leaveOut 94 = .ok (.iload_n 2, 1) := by decide +kernel
theorem dD_leaveOut_95 : decode bD_leaveOut 95 = .ok (.baload, 1) := by decide +kernel
theorem dD_leaveOut_96 : decode bD_leaveOut 96 = .ok (.ifCond .eq 10, 3) := by decide +kernel
theorem dD_leaveOut_99 : decode bD_leaveOut 99 = .ok (.aload_n 0, 1) := by decide +kernel
theorem dD_leaveOut_100 : decode bD_leaveOut 100 = .ok (.iload_n 2, 1) := by decide +kernel
theorem dD_leaveOut_101 : decode bD_leaveOut 101 = .ok (.invokevirtual 113, 3) := by decide +kernel
theorem dD_leaveOut_104 : decode bD_leaveOut 104 = .ok (.iconst 1, 1) := by decide +kernel
theorem dD_leaveOut_105 : decode bD_leaveOut 105 = .ok (.istore_n 1, 1) := by decide +kernel
theorem dD_leaveOut_106 : decode bD_leaveOut 106 = .ok (.iinc 2 1, 3) := by decide +kernel
theorem dD_leaveOut_109 : decode bD_leaveOut 109 = .ok (.goto (-27), 3) := by decide +kernel
theorem dD_leaveOut_112 : decode bD_leaveOut 112 = .ok (.iload_n 1, 1) := by decide +kernel
theorem dD_leaveOut_113 : decode bD_leaveOut 113 = .ok (.ireturn, 1) := by decide +kernel
theorem dD_isLive_0 : decode bD_isLive 0 = .ok (.aload_n 0, 1) := by decide +kernel
theorem dD_isLive_1 : decode bD_isLive 1 = .ok (.invokevirtual 90, 3) := by decide +kernel
theorem dD_isLive_4 : decode bD_isLive 4 = .ok (.aload_n 0, 1) := by decide +kernel
theorem dD_isLive_5 : decode bD_isLive 5 = .ok (.iload_n 1, 1) := by decide +kernel
theorem dD_isLive_6 : decode bD_isLive 6 = .ok (.iconst 1, 1) := by decide +kernel
theorem dD_isLive_7 : decode bD_isLive 7 = .ok (.iadd, 1) := by decide +kernel
theorem dD_isLive_8 : decode bD_isLive 8 = .ok (.invokevirtual 93, 3) := by decide +kernel
theorem dD_isLive_11 : decode bD_isLive 11 = .ok (.aload_n 0, 1) := by decide +kernel
theorem dD_isLive_12 : decode bD_isLive 12 = .ok (.aload_n 0, 1) := by decide +kernel
theorem dD_isLive_13 : decode bD_isLive 13 = .ok (.iload_n 1, 1) := by decide +kernel
theorem dD_isLive_14 : decode bD_isLive 14 = .ok (.invokevirtual 97, 3) := by decide +kernel
theorem dD_isLive_17 : decode bD_isLive 17 = .ok (.invokevirtual 93, 3) := by decide +kernel
theorem dD_isLive_20 : decode bD_isLive 20 = .ok (.aload_n 0, 1) := by decide +kernel
theorem dD_isLive_21 : decode bD_isLive 21 = .ok (.getfield 87, 3) := by decide +kernel
theorem dD_isLive_24 : decode bD_isLive 24 = .ok (.ifCond .le 70, 3) := by decide +kernel
theorem dD_isLive_27 : decode bD_isLive 27 = .ok (.aload_n 0, 1) := by decide +kernel
theorem dD_isLive_28 : decode bD_isLive 28 = .ok (.dup, 1) := by decide +kernel
theorem dD_isLive_29 : decode bD_isLive 29 = .ok (.getfield 87, 3) := by decide +kernel
theorem dD_isLive_32 : decode bD_isLive 32 = .ok (.iconst 1, 1) := by decide +kernel
theorem dD_isLive_33 : decode bD_isLive 33 = .ok (.isub, 1) := by decide +kernel
theorem dD_isLive_34 : decode bD_isLive 34 = .ok (.putfield 87, 3) := by decide +kernel
theorem dD_isLive_37 : decode bD_isLive 37 = .ok (.aload_n 0, 1) := by decide +kernel
theorem dD_isLive_38 : decode bD_isLive 38 = .ok (.getfield 41, 3) := by decide +kernel
theorem dD_isLive_41 : decode bD_isLive 41 = .ok (.aload_n 0, 1) := by decide +kernel
theorem dD_isLive_42 : decode bD_isLive 42 = .ok (.getfield 87, 3) := by decide +kernel
theorem dD_isLive_45 : decode bD_isLive 45 = .ok (.iaload, 1) := by decide +kernel
theorem dD_isLive_46 : decode bD_isLive 46 = .ok (.istore_n 3, 1) := by decide +kernel
theorem dD_isLive_47 : decode bD_isLive 47 = .ok (.iload_n 3, 1) := by decide +kernel
theorem dD_isLive_48 : decode bD_isLive 48 = .ok (.aload_n 0, 1) := by decide +kernel
theorem dD_isLive_49 : decode bD_isLive 49 = .ok (.getfield 72, 3) := by decide +kernel
theorem dD_isLive_52 : decode bD_isLive 52 = .ok (.if_icmp .ge 39, 3) := by decide +kernel
theorem dD_isLive_55 : decode bD_isLive 55 = .ok (.aload_n 0, 1) := by decide +kernel
theorem dD_isLive_56 : decode bD_isLive 56 = .ok (.iload_n 3, 1) := by decide +kernel
theorem dD_isLive_57 : decode bD_isLive 57 = .ok (.iload_n 2, 1) := by decide +kernel
theorem dD_isLive_58 : decode bD_isLive 58 = .ok (.invokevirtual 116, 3) := by decide +kernel
theorem dD_isLive_61 : decode bD_isLive 61 = .ok (.ifCond .eq 5, 3) := by decide +kernel
theorem dD_isLive_64 : decode bD_isLive 64 = .ok (.iconst 1, 1) := by decide +kernel
theorem dD_isLive_65 : decode bD_isLive 65 = .ok (.ireturn, 1) := by decide +kernel
theorem dD_isLive_66 : decode bD_isLive 66 = .ok (.aload_n 0, 1) := by decide +kernel
theorem dD_isLive_67 : decode bD_isLive 67 = .ok (.iload_n 3, 1) := by decide +kernel
theorem dD_isLive_68 : decode bD_isLive 68 = .ok (.iload_n 2, 1) := by decide +kernel
theorem dD_isLive_69 : decode bD_isLive 69 = .ok (.invokevirtual 101, 3) := by decide +kernel
theorem dD_isLive_72 : decode bD_isLive 72 = .ok (.ifCond .ne 19, 3) := by decide +kernel
theorem dD_isLive_75 : decode bD_isLive 75 = .ok (.aload_n 0, 1) := by decide +kernel
theorem dD_isLive_76 : decode bD_isLive 76 = .ok (.iload_n 3, 1) := by decide +kernel
theorem dD_isLive_77 : decode bD_isLive 77 = .ok (.iconst 1, 1) := by decide +kernel
theorem dD_isLive_78 : decode bD_isLive 78 = .ok (.iadd, 1) := by decide +kernel
theorem dD_isLive_79 : decode bD_isLive 79 = .ok (.invokevirtual 93, 3) := by decide +kernel
theorem dD_isLive_82 : decode bD_isLive 82 = .ok (.aload_n 0, 1) := by decide +kernel
theorem dD_isLive_83 : decode bD_isLive 83 = .ok (.aload_n 0, 1) := by decide +kernel
theorem dD_isLive_84 : decode bD_isLive 84 = .ok (.iload_n 3, 1) := by decide +kernel
theorem dD_isLive_85 : decode bD_isLive 85 = .ok (.invokevirtual 97, 3) := by decide +kernel
theorem dD_isLive_88 : decode bD_isLive 88 = .ok (.invokevirtual 93, 3) := by decide +kernel
theorem dD_isLive_91 : decode bD_isLive 91 = .ok (.goto (-71), 3) := by decide +kernel
theorem dD_isLive_94 : decode bD_isLive 94 = .ok (.iconst 0, 1) := by decide +kernel
theorem dD_isLive_95 : decode bD_isLive 95 = .ok (.ireturn, 1) := by decide +kernel
theorem dD_uses_0 : decode bD_uses 0 = .ok (.aload_n 0, 1) := by decide +kernel
theorem dD_uses_1 : decode bD_uses 1 = .ok (.getfield 7, 3) := by decide +kernel
theorem dD_uses_4 : decode bD_uses 4 = .ok (.bipush 16, 2) := by decide +kernel
theorem dD_uses_6 : decode bD_uses 6 = .ok (.iload_n 1, 1) := by decide +kernel
theorem dD_uses_7 : decode bD_uses 7 = .ok (.iadd, 1) := by decide +kernel
theorem dD_uses_8 : decode bD_uses 8 = .ok (.iaload, 1) := by decide +kernel
theorem dD_uses_9 : decode bD_uses 9 = .ok (.istore_n 3, 1) := by decide +kernel
theorem dD_uses_10 : decode bD_uses 10 = .ok (.iload_n 3, 1) := by decide +kernel
theorem dD_uses_11 : decode bD_uses 11 = .ok (.iconst 3, 1) := by decide +kernel
theorem dD_uses_12 : decode bD_uses 12 = .ok (.if_icmp .eq 8, 3) := by decide +kernel
theorem dD_uses_15 : decode bD_uses 15 = .ok (.iload_n 3, 1) := by decide +kernel
theorem dD_uses_16 : decode bD_uses 16 = .ok (.iconst 4, 1) := by decide +kernel
theorem dD_uses_17 : decode bD_uses 17 = .ok (.if_icmp .ne 16, 3) := by decide +kernel
theorem dD_uses_20 : decode bD_uses 20 = .ok (.aload_n 0, 1) := by decide +kernel
theorem dD_uses_21 : decode bD_uses 21 = .ok (.getfield 13, 3) := by decide +kernel
theorem dD_uses_24 : decode bD_uses 24 = .ok (.bipush 16, 2) := by decide +kernel
theorem dD_uses_26 : decode bD_uses 26 = .ok (.iload_n 1, 1) := by decide +kernel
theorem dD_uses_27 : decode bD_uses 27 = .ok (.iadd, 1) := by decide +kernel
theorem dD_uses_28 : decode bD_uses 28 = .ok (.iaload, 1) := by decide +kernel
theorem dD_uses_29 : decode bD_uses 29 = .ok (.iload_n 2, 1) := by decide +kernel
theorem dD_uses_30 : decode bD_uses 30 = .ok (.if_icmp .eq 44, 3) := by decide +kernel
theorem dD_uses_33 : decode bD_uses 33 = .ok (.iload_n 3, 1) := by decide +kernel
theorem dD_uses_34 : decode bD_uses 34 = .ok (.iconst 1, 1) := by decide +kernel
theorem dD_uses_35 : decode bD_uses 35 = .ok (.if_icmp .eq 8, 3) := by decide +kernel
theorem dD_uses_38 : decode bD_uses 38 = .ok (.iload_n 3, 1) := by decide +kernel
theorem dD_uses_39 : decode bD_uses 39 = .ok (.iconst 2, 1) := by decide +kernel
theorem dD_uses_40 : decode bD_uses 40 = .ok (.if_icmp .ne 16, 3) := by decide +kernel
theorem dD_uses_43 : decode bD_uses 43 = .ok (.aload_n 0, 1) := by decide +kernel
theorem dD_uses_44 : decode bD_uses 44 = .ok (.getfield 16, 3) := by decide +kernel
theorem dD_uses_47 : decode bD_uses 47 = .ok (.bipush 16, 2) := by decide +kernel
theorem dD_uses_49 : decode bD_uses 49 = .ok (.iload_n 1, 1) := by decide +kernel
theorem dD_uses_50 : decode bD_uses 50 = .ok (.iadd, 1) := by decide +kernel
theorem dD_uses_51 : decode bD_uses 51 = .ok (.iaload, 1) := by decide +kernel
theorem dD_uses_52 : decode bD_uses 52 = .ok (.iload_n 2, 1) := by decide +kernel
theorem dD_uses_53 : decode bD_uses 53 = .ok (.if_icmp .eq 21, 3) := by decide +kernel
theorem dD_uses_56 : decode bD_uses 56 = .ok (.iload_n 3, 1) := by decide +kernel
theorem dD_uses_57 : decode bD_uses 57 = .ok (.iconst 2, 1) := by decide +kernel
theorem dD_uses_58 : decode bD_uses 58 = .ok (.if_icmp .ne 20, 3) := by decide +kernel
theorem dD_uses_61 : decode bD_uses 61 = .ok (.aload_n 0, 1) := by decide +kernel
theorem dD_uses_62 : decode bD_uses 62 = .ok (.getfield 19, 3) := by decide +kernel
theorem dD_uses_65 : decode bD_uses 65 = .ok (.bipush 16, 2) := by decide +kernel
theorem dD_uses_67 : decode bD_uses 67 = .ok (.iload_n 1, 1) := by decide +kernel
theorem dD_uses_68 : decode bD_uses 68 = .ok (.iadd, 1) := by decide +kernel
theorem dD_uses_69 : decode bD_uses 69 = .ok (.iaload, 1) := by decide +kernel
theorem dD_uses_70 : decode bD_uses 70 = .ok (.iload_n 2, 1) := by decide +kernel
theorem dD_uses_71 : decode bD_uses 71 = .ok (.if_icmp .ne 7, 3) := by decide +kernel
theorem dD_uses_74 : decode bD_uses 74 = .ok (.iconst 1, 1) := by decide +kernel
theorem dD_uses_75 : decode bD_uses 75 = .ok (.goto 4, 3) := by decide +kernel
theorem dD_uses_78 : decode bD_uses 78 = .ok (.iconst 0, 1) := by decide +kernel
theorem dD_uses_79 : decode bD_uses 79 = .ok (.ireturn, 1) := by decide +kernel
theorem dD_findCarriers_0 : decode bD_findCarriers 0 = .ok (.iconst 0, 1) := by decide +kernel
theorem dD_findCarriers_1 : decode bD_findCarriers 1 = .ok (.istore_n 1, 1) := by decide +kernel
theorem dD_findCarriers_2 : decode bD_findCarriers 2 = .ok (.iload_n 1, 1) := by decide +kernel
theorem dD_findCarriers_3 : decode bD_findCarriers 3 = .ok (.sipush 153, 3) := by decide +kernel
theorem dD_findCarriers_6 : decode bD_findCarriers 6 = .ok (.if_icmp .ge 23, 3) := by decide +kernel
theorem dD_findCarriers_9 : decode bD_findCarriers 9 = .ok (.aload_n 0, 1) := by decide +kernel
theorem dD_findCarriers_10 : decode bD_findCarriers 10 = .ok (.getfield 44, 3) := by decide +kernel
theorem dD_findCarriers_13 : decode bD_findCarriers 13 = .ok (.iload_n 1, 1) := by decide +kernel
theorem dD_findCarriers_14 : decode bD_findCarriers 14 = .ok (.iconst 0, 1) := by decide +kernel
theorem dD_findCarriers_15 : decode bD_findCarriers 15 = .ok (.iastore, 1) := by decide +kernel
theorem dD_findCarriers_16 : decode bD_findCarriers 16 = .ok (.aload_n 0, 1) := by decide +kernel
theorem dD_findCarriers_17 : decode bD_findCarriers 17 = .ok (.getfield 47, 3) := by decide +kernel
theorem dD_findCarriers_20 : decode bD_findCarriers 20 = .ok (.iload_n 1, 1) := by decide +kernel
theorem dD_findCarriers_21 : decode bD_findCarriers 21 = .ok (.iconst 0, 1) := by decide +kernel
theorem dD_findCarriers_22 : decode bD_findCarriers 22 = .ok (.iastore, 1) := by decide +kernel
theorem dD_findCarriers_23 : decode bD_findCarriers 23 = .ok (.iinc 1 1, 3) := by decide +kernel
theorem dD_findCarriers_26 : decode bD_findCarriers 26 = .ok (.goto (-24), 3) := by decide +kernel
theorem dD_findCarriers_29 : decode bD_findCarriers 29 = .ok (.iconst 0, 1) := by decide +kernel
theorem dD_findCarriers_30 : decode bD_findCarriers 30 = .ok (.istore_n 1, 1) := by decide +kernel
theorem dD_findCarriers_31 : decode bD_findCarriers 31 = .ok (.iload_n 1, 1) := by decide +kernel
theorem dD_findCarriers_32 : decode bD_findCarriers 32 = .ok (.bipush 9, 2) := by decide +kernel
theorem dD_findCarriers_34 : decode bD_findCarriers 34 = .ok (.if_icmp .ge 46, 3) := by decide +kernel
theorem dD_findCarriers_37 : decode bD_findCarriers 37 = .ok (.aload_n 0, 1) := by decide +kernel
theorem dD_findCarriers_38 : decode bD_findCarriers 38 = .ok (.getfield 44, 3) := by decide +kernel
theorem dD_findCarriers_41 : decode bD_findCarriers 41 = .ok (.iload_n 1, 1) := by decide +kernel
theorem dD_findCarriers_42 : decode bD_findCarriers 42 = .ok (.iload_n 1, 1) := by decide +kernel
theorem dD_findCarriers_43 : decode bD_findCarriers 43 = .ok (.bipush 6, 2) := by decide +kernel
theorem dD_findCarriers_45 : decode bD_findCarriers 45 = .ok (.if_icmp .ge 7, 3) := by decide +kernel
theorem dD_findCarriers_48 : decode bD_findCarriers 48 = .ok (.iconst 0, 1) := by decide +kernel
theorem dD_findCarriers_49 : decode bD_findCarriers 49 = .ok (.goto 5, 3) := by decide +kernel
theorem dD_findCarriers_52 : decode bD_findCarriers 52 = .ok (.bipush 63, 2) := by decide +kernel
theorem dD_findCarriers_54 : decode bD_findCarriers 54 = .ok (.iastore, 1) := by decide +kernel
theorem dD_findCarriers_55 : decode bD_findCarriers 55 = .ok (.aload_n 0, 1) := by decide +kernel
theorem dD_findCarriers_56 : decode bD_findCarriers 56 = .ok (.getfield 47, 3) := by decide +kernel
theorem dD_findCarriers_59 : decode bD_findCarriers 59 = .ok (.iload_n 1, 1) := by decide +kernel
theorem dD_findCarriers_60 : decode bD_findCarriers 60 = .ok (.iload_n 1, 1) := by decide +kernel
theorem dD_findCarriers_61 : decode bD_findCarriers 61 = .ok (.bipush 6, 2) := by decide +kernel
theorem dD_findCarriers_63 : decode bD_findCarriers 63 = .ok (.if_icmp .ge 8, 3) := by decide +kernel
theorem dD_findCarriers_66 : decode bD_findCarriers 66 = .ok (.ldc 122, 2) := by decide +kernel
theorem dD_findCarriers_68 : decode bD_findCarriers 68 = .ok (.goto 5, 3) := by decide +kernel
theorem dD_findCarriers_71 : decode bD_findCarriers 71 = .ok (.ldc 123, 2) := by decide +kernel
theorem dD_findCarriers_73 : decode bD_findCarriers 73 = .ok (.iastore, 1) := by decide +kernel
theorem dD_findCarriers_74 : decode bD_findCarriers 74 = .ok (.iinc 1 1, 3) := by decide +kernel
theorem dD_findCarriers_77 : decode bD_findCarriers 77 = .ok (.goto (-46), 3) := by decide +kernel
theorem dD_findCarriers_80 : decode bD_findCarriers 80 = .ok (.iconst 1, 1) := by decide +kernel
theorem dD_findCarriers_81 : decode bD_findCarriers 81 = .ok (.istore_n 1, 1) := by decide +kernel
theorem dD_findCarriers_82 : decode bD_findCarriers 82 = .ok (.iload_n 1, 1) := by decide +kernel
theorem dD_findCarriers_83 : decode bD_findCarriers 83 = .ok (.ifCond .eq 76, 3) := by decide +kernel
theorem dD_findCarriers_86 : decode bD_findCarriers 86 = .ok (.iconst 0, 1) := by decide +kernel
theorem dD_findCarriers_87 : decode bD_findCarriers 87 = .ok (.istore_n 1, 1) := by decide +kernel
theorem dD_findCarriers_88 : decode bD_findCarriers 88 = .ok (.iconst 0, 1) := by decide +kernel
theorem dD_findCarriers_89 : decode bD_findCarriers 89 = .ok (.istore_n 2, 1) := by decide +kernel
theorem dD_findCarriers_90 : decode bD_findCarriers 90 = .ok (.iload_n 2, 1) := by decide +kernel
theorem dD_findCarriers_91 : decode bD_findCarriers 91 = .ok (.aload_n 0, 1) := by decide +kernel
theorem dD_findCarriers_92 : decode bD_findCarriers 92 = .ok (.getfield 72, 3) := by decide +kernel
theorem dD_findCarriers_95 : decode bD_findCarriers 95 = .ok (.if_icmp .ge 61, 3) := by decide +kernel
theorem dD_findCarriers_98 : decode bD_findCarriers 98 = .ok (.aload_n 0, 1) := by decide +kernel
theorem dD_findCarriers_99 : decode bD_findCarriers 99 = .ok (.getfield 35, 3) := by decide +kernel
theorem dD_findCarriers_102 : decode bD_findCarriers 102 = .ok (.iload_n 2, 1) := by decide +kernel
theorem dD_findCarriers_103 : decode bD_findCarriers 103 = .ok (.baload, 1) := by decide +kernel
theorem dD_findCarriers_104 : decode bD_findCarriers 104 = .ok (.ifCond .eq 46, 3) := by decide +kernel
theorem dD_findCarriers_107 : decode bD_findCarriers 107 = .ok (.aload_n 0, 1) := by decide +kernel
theorem dD_findCarriers_108 : decode bD_findCarriers 108 = .ok (.iload_n 2, 1) := by decide +kernel
theorem dD_findCarriers_109 : decode bD_findCarriers 109 = .ok (.invokevirtual 124, 3) := by decide +kernel
theorem dD_findCarriers_112 : decode bD_findCarriers 112 = .ok (.aload_n 0, 1) := by decide +kernel
theorem dD_findCarriers_113 : decode bD_findCarriers 113 = .ok (.iload_n 2, 1) := by decide +kernel
theorem dD_findCarriers_114 : decode bD_findCarriers 114 = .ok (.iconst 1, 1) := by decide +kernel
theorem dD_findCarriers_115 : decode bD_findCarriers 115 = .ok (.iadd, 1) := by decide +kernel
theorem dD_findCarriers_116 : decode bD_findCarriers 116 = .ok (.invokevirtual 127, 3) := by decide +kernel
theorem dD_findCarriers_119 : decode bD_findCarriers 119 = .ok (.istore_n 3, 1) := by decide +kernel
theorem dD_findCarriers_120 : decode bD_findCarriers 120 = .ok (.aload_n 0, 1) := by decide +kernel
theorem dD_findCarriers_121 : decode bD_findCarriers 121 = .ok (.aload_n 0, 1) := by decide +kernel
theorem dD_findCarriers_122 : decode bD_findCarriers 122 = .ok (.iload_n 2, 1) := by decide +kernel
theorem dD_findCarriers_123 : decode bD_findCarriers 123 = .ok (.invokevirtual 97, 3) := by decide +kernel
theorem dD_findCarriers_126 : decode bD_findCarriers 126 = .ok (.invokevirtual 127, 3) := by decide +kernel
theorem dD_findCarriers_129 : decode bD_findCarriers 129 = .ok (.istore 4, 2) := by decide +kernel
theorem dD_findCarriers_131 : decode bD_findCarriers 131 = .ok (.iload_n 1, 1) := by decide +kernel
theorem dD_findCarriers_132 : decode bD_findCarriers 132 = .ok (.ifCond .ne 12, 3) := by decide +kernel
theorem dD_findCarriers_135 : decode bD_findCarriers 135 = .ok (.iload_n 3, 1) := by decide +kernel
theorem dD_findCarriers_136 : decode bD_findCarriers 136 = .ok (.ifCond .ne 8, 3) := by decide +kernel
theorem dD_findCarriers_139 : decode bD_findCarriers 139 = .ok (.iload 4, 2) := by decide +kernel
theorem dD_findCarriers_141 : decode bD_findCarriers 141 = .ok (.ifCond .eq 7, 3) := by decide +kernel
theorem dD_findCarriers_144 : decode bD_findCarriers 144 = .ok (.iconst 1, 1) := by decide +kernel
theorem dD_findCarriers_145 : decode bD_findCarriers 145 = .ok (.goto 4, 3) := by decide +kernel
theorem dD_findCarriers_148 : decode bD_findCarriers 148 = .ok (.iconst 0, 1) := by decide +kernel
theorem dD_findCarriers_149 : decode bD_findCarriers 149 = .ok (.istore_n 1, 1) := by decide +kernel
theorem dD_findCarriers_150 : decode bD_findCarriers 150 = .ok (.iinc 2 1, 3) := by decide +kernel
theorem dD_findCarriers_153 : decode bD_findCarriers 153 = .ok (.goto (-63), 3) := by decide +kernel
theorem dD_findCarriers_156 : decode bD_findCarriers 156 = .ok (.goto (-74), 3) := by decide +kernel
theorem dD_findCarriers_159 : decode bD_findCarriers 159 = .ok (.return_, 1) := by decide +kernel
theorem dD_pass_0 : decode bD_pass 0 = .ok (.iconst 0, 1) := by decide +kernel
theorem dD_pass_1 : decode bD_pass 1 = .ok (.istore_n 2, 1) := by decide +kernel
theorem dD_pass_2 : decode bD_pass 2 = .ok (.iload_n 2, 1) := by decide +kernel
theorem dD_pass_3 : decode bD_pass 3 = .ok (.bipush 9, 2) := by decide +kernel
theorem dD_pass_5 : decode bD_pass 5 = .ok (.if_icmp .ge 43, 3) := by decide +kernel
theorem dD_pass_8 : decode bD_pass 8 = .ok (.aload_n 0, 1) := by decide +kernel
theorem dD_pass_9 : decode bD_pass 9 = .ok (.getfield 50, 3) := by decide +kernel
theorem dD_pass_12 : decode bD_pass 12 = .ok (.iload_n 2, 1) := by decide +kernel
theorem dD_pass_13 : decode bD_pass 13 = .ok (.aload_n 0, 1) := by decide +kernel
theorem dD_pass_14 : decode bD_pass 14 = .ok (.getfield 44, 3) := by decide +kernel
theorem dD_pass_17 : decode bD_pass 17 = .ok (.bipush 9, 2) := by decide +kernel
theorem dD_pass_19 : decode bD_pass 19 = .ok (.iload_n 1, 1) := by decide +kernel
theorem dD_pass_20 : decode bD_pass 20 = .ok (.imul, 1) := by decide +kernel
theorem dD_pass_21 : decode bD_pass 21 = .ok (.iload_n 2, 1) := by decide +kernel
theorem dD_pass_22 : decode bD_pass 22 = .ok (.iadd, 1) := by decide +kernel
theorem dD_pass_23 : decode bD_pass 23 = .ok (.iaload, 1) := by decide +kernel
theorem dD_pass_24 : decode bD_pass 24 = .ok (.iastore, 1) := by decide +kernel
theorem dD_pass_25 : decode bD_pass 25 = .ok (.aload_n 0, 1) := by decide +kernel
theorem dD_pass_26 : decode bD_pass 26 = .ok (.getfield 53, 3) := by decide +kernel
theorem dD_pass_29 : decode bD_pass 29 = .ok (.iload_n 2, 1) := by decide +kernel
theorem dD_pass_30 : decode bD_pass 30 = .ok (.aload_n 0, 1) := by decide +kernel
theorem dD_pass_31 : decode bD_pass 31 = .ok (.getfield 47, 3) := by decide +kernel
theorem dD_pass_34 : decode bD_pass 34 = .ok (.bipush 9, 2) := by decide +kernel
theorem dD_pass_36 : decode bD_pass 36 = .ok (.iload_n 1, 1) := by decide +kernel
theorem dD_pass_37 : decode bD_pass 37 = .ok (.imul, 1) := by decide +kernel
theorem dD_pass_38 : decode bD_pass 38 = .ok (.iload_n 2, 1) := by decide +kernel
theorem dD_pass_39 : decode bD_pass 39 = .ok (.iadd, 1) := by decide +kernel
theorem dD_pass_40 : decode bD_pass 40 = .ok (.iaload, 1) := by decide +kernel
theorem dD_pass_41 : decode bD_pass 41 = .ok (.iastore, 1) := by decide +kernel
theorem dD_pass_42 : decode bD_pass 42 = .ok (.iinc 2 1, 3) := by decide +kernel
theorem dD_pass_45 : decode bD_pass 45 = .ok (.goto (-43), 3) := by decide +kernel
theorem dD_pass_48 : decode bD_pass 48 = .ok (.aload_n 0, 1) := by decide +kernel
theorem dD_pass_49 : decode bD_pass 49 = .ok (.getfield 7, 3) := by decide +kernel
theorem dD_pass_52 : decode bD_pass 52 = .ok (.bipush 16, 2) := by decide +kernel
theorem dD_pass_54 : decode bD_pass 54 = .ok (.iload_n 1, 1) := by decide +kernel
theorem dD_pass_55 : decode bD_pass 55 = .ok (.iadd, 1) := by decide +kernel
theorem dD_pass_56 : decode bD_pass 56 = .ok (.iaload, 1) := by decide +kernel
theorem dD_pass_57 : decode bD_pass 57 = .ok (.istore_n 2, 1) := by decide +kernel
theorem dD_pass_58 : decode bD_pass 58 = .ok (.iload_n 2, 1) := by decide +kernel
theorem dD_pass_59 : decode bD_pass 59 = .ok (.iconst (-1), 1) := by decide +kernel
theorem dD_pass_60 : decode bD_pass 60 = .ok (.if_icmp .eq 7, 3) := by decide +kernel
theorem dD_pass_63 : decode bD_pass 63 = .ok (.iconst 1, 1) := by decide +kernel
theorem dD_pass_64 : decode bD_pass 64 = .ok (.goto 4, 3) := by decide +kernel
theorem dD_pass_67 : decode bD_pass 67 = .ok (.iconst 0, 1) := by decide +kernel
theorem dD_pass_68 : decode bD_pass 68 = .ok (.istore_n 3, 1) := by decide +kernel
theorem dD_pass_69 : decode bD_pass 69 = .ok (.iload_n 2, 1) := by decide +kernel
theorem dD_pass_70 : decode bD_pass 70 = .ok (.ifCond .lt 114, 3) := by decide +kernel
theorem dD_pass_73 : decode bD_pass 73 = .ok (.iload_n 2, 1) := by decide +kernel
theorem dD_pass_74 : decode bD_pass 74 = .ok (.iconst 2, 1) := by decide +kernel
theorem dD_pass_75 : decode bD_pass 75 = .ok (.if_icmp .gt 109, 3) := by decide +kernel
theorem dD_pass_78 : decode bD_pass 78 = .ok (.iconst 1, 1) := by decide +kernel
theorem dD_pass_79 : decode bD_pass 79 = .ok (.aload_n 0, 1) := by decide +kernel
theorem dD_pass_80 : decode bD_pass 80 = .ok (.getfield 13, 3) := by decide +kernel
theorem dD_pass_83 : decode bD_pass 83 = .ok (.bipush 16, 2) := by decide +kernel
theorem dD_pass_85 : decode bD_pass 85 = .ok (.iload_n 1, 1) := by decide +kernel
theorem dD_pass_86 : decode bD_pass 86 = .ok (.iadd, 1) := by decide +kernel
theorem dD_pass_87 : decode bD_pass 87 = .ok (.iaload, 1) := by decide +kernel
theorem dD_pass_88 : decode bD_pass 88 = .ok (.ishl, 1) := by decide +kernel
theorem dD_pass_89 : decode bD_pass 89 = .ok (.istore 4, 2) := by decide +kernel
theorem dD_pass_91 : decode bD_pass 91 = .ok (.iconst 0, 1) := by decide +kernel
theorem dD_pass_92 : decode bD_pass 92 = .ok (.istore 5, 2) := by decide +kernel
theorem dD_pass_94 : decode bD_pass 94 = .ok (.iload 5, 2) := by decide +kernel
theorem dD_pass_96 : decode bD_pass 96 = .ok (.bipush 9, 2) := by decide +kernel
theorem dD_pass_98 : decode bD_pass 98 = .ok (.if_icmp .ge 86, 3) := by decide +kernel
theorem dD_pass_101 : decode bD_pass 101 = .ok (.iload_n 2, 1) := by decide +kernel
theorem dD_pass_102 : decode bD_pass 102 = .ok (.iconst 1, 1) := by decide +kernel
theorem dD_pass_103 : decode bD_pass 103 = .ok (.if_icmp .ne 31, 3) := by decide +kernel
theorem dD_pass_106 : decode bD_pass 106 = .ok (.aload_n 0, 1) := by decide +kernel
theorem dD_pass_107 : decode bD_pass 107 = .ok (.getfield 44, 3) := by decide +kernel
theorem dD_pass_110 : decode bD_pass 110 = .ok (.bipush 9, 2) := by decide +kernel
theorem dD_pass_112 : decode bD_pass 112 = .ok (.iload_n 1, 1) := by decide +kernel
theorem dD_pass_113 : decode bD_pass 113 = .ok (.imul, 1) := by decide +kernel
theorem dD_pass_114 : decode bD_pass 114 = .ok (.iload 5, 2) := by decide +kernel
theorem dD_pass_116 : decode bD_pass 116 = .ok (.iadd, 1) := by decide +kernel
theorem dD_pass_117 : decode bD_pass 117 = .ok (.iaload, 1) := by decide +kernel
theorem dD_pass_118 : decode bD_pass 118 = .ok (.aload_n 0, 1) := by decide +kernel
theorem dD_pass_119 : decode bD_pass 119 = .ok (.getfield 16, 3) := by decide +kernel
theorem dD_pass_122 : decode bD_pass 122 = .ok (.bipush 16, 2) := by decide +kernel
theorem dD_pass_124 : decode bD_pass 124 = .ok (.iload_n 1, 1) := by decide +kernel
theorem dD_pass_125 : decode bD_pass 125 = .ok (.iadd, 1) := by decide +kernel
theorem dD_pass_126 : decode bD_pass 126 = .ok (.iaload, 1) := by decide +kernel
theorem dD_pass_127 : decode bD_pass 127 = .ok (.ishr, 1) := by decide +kernel
theorem dD_pass_128 : decode bD_pass 128 = .ok (.iconst 1, 1) := by decide +kernel
theorem dD_pass_129 : decode bD_pass 129 = .ok (.iand, 1) := by decide +kernel
theorem dD_pass_130 : decode bD_pass 130 = .ok (.iconst 1, 1) := by decide +kernel
theorem dD_pass_131 : decode bD_pass 131 = .ok (.if_icmp .ne 7, 3) := by decide +kernel
theorem dD_pass_134 : decode bD_pass 134 = .ok (.iconst 1, 1) := by decide +kernel
theorem dD_pass_135 : decode bD_pass 135 = .ok (.goto 4, 3) := by decide +kernel
theorem dD_pass_138 : decode bD_pass 138 = .ok (.iconst 0, 1) := by decide +kernel
theorem dD_pass_139 : decode bD_pass 139 = .ok (.istore 6, 2) := by decide +kernel
theorem dD_pass_141 : decode bD_pass 141 = .ok (.aload_n 0, 1) := by decide +kernel
theorem dD_pass_142 : decode bD_pass 142 = .ok (.getfield 50, 3) := by decide +kernel
theorem dD_pass_145 : decode bD_pass 145 = .ok (.iload 5, 2) := by decide +kernel
theorem dD_pass_147 : decode bD_pass 147 = .ok (.iload 6, 2) := by decide +kernel
theorem dD_pass_149 : decode bD_pass 149 = .ok (.ifCond .eq 16, 3) := by decide +kernel
theorem dD_pass_152 : decode bD_pass 152 = .ok (.aload_n 0, 1) := by decide +kernel
theorem dD_pass_153 : decode bD_pass 153 = .ok (.getfield 50, 3) := by decide +kernel
theorem dD_pass_156 : decode bD_pass 156 = .ok (.iload 5, 2) := by decide +kernel
theorem dD_pass_158 : decode bD_pass 158 = .ok (.iaload, 1) := by decide +kernel
theorem dD_pass_159 : decode bD_pass 159 = .ok (.iload 4, 2) := by decide +kernel
theorem dD_pass_161 : decode bD_pass 161 = .ok (.ior, 1) := by decide +kernel
theorem dD_pass_162 : decode bD_pass 162 = .ok (.goto 15, 3) := by decide +kernel
theorem dD_pass_165 : decode bD_pass 165 = .ok (.aload_n 0, 1) := by decide +kernel
theorem dD_pass_166 : decode bD_pass 166 = .ok (.getfield 50, 3) := by decide +kernel
theorem dD_pass_169 : decode bD_pass 169 = .ok (.iload 5, 2) := by decide +kernel
theorem dD_pass_171 : decode bD_pass 171 = .ok (.iaload, 1) := by decide +kernel
theorem dD_pass_172 : decode bD_pass 172 = .ok (.iload 4, 2) := by decide +kernel
theorem dD_pass_174 : decode bD_pass 174 = .ok (.iconst (-1), 1) := by decide +kernel
theorem dD_pass_175 : decode bD_pass 175 = .ok (.ixor, 1) := by decide +kernel
theorem dD_pass_176 : decode bD_pass 176 = .ok (.iand, 1) := by decide +kernel
theorem dD_pass_177 : decode bD_pass 177 = .ok (.iastore, 1) := by decide +kernel
theorem dD_pass_178 : decode bD_pass 178 = .ok (.iinc 5 1, 3) := by decide +kernel
theorem dD_pass_181 : decode bD_pass 181 = .ok (.goto (-87), 3) := by decide +kernel
theorem dD_pass_184 : decode bD_pass 184 = .ok (.aload_n 0, 1) := by decide +kernel
theorem dD_pass_185 : decode bD_pass 185 = .ok (.getfield 13, 3) := by decide +kernel
theorem dD_pass_188 : decode bD_pass 188 = .ok (.iload_n 1, 1) := by decide +kernel
theorem dD_pass_189 : decode bD_pass 189 = .ok (.iaload, 1) := by decide +kernel
theorem dD_pass_190 : decode bD_pass 190 = .ok (.istore 4, 2) := by decide +kernel
theorem dD_pass_192 : decode bD_pass 192 = .ok (.iload_n 3, 1) := by decide +kernel
theorem dD_pass_193 : decode bD_pass 193 = .ok (.ifCond .eq 15, 3) := by decide +kernel
theorem dD_pass_196 : decode bD_pass 196 = .ok (.bipush 63, 2) := by decide +kernel
theorem dD_pass_198 : decode bD_pass 198 = .ok (.iconst 1, 1) := by decide +kernel
theorem dD_pass_199 : decode bD_pass 199 = .ok (.iload 4, 2) := by decide +kernel
theorem dD_pass_201 : decode bD_pass 201 = .ok (.ishl, 1) := by decide +kernel
theorem dD_pass_202 : decode bD_pass 202 = .ok (.iconst (-1), 1) := by decide +kernel
theorem dD_pass_203 : decode bD_pass 203 = .ok (.ixor, 1) := by decide +kernel
theorem dD_pass_204 : decode bD_pass 204 = .ok (.iand, 1) := by decide +kernel
theorem dD_pass_205 : decode bD_pass 205 = .ok (.goto 5, 3) := by decide +kernel
theorem dD_pass_208 : decode bD_pass 208 = .ok (.bipush 63, 2) := by decide +kernel
theorem dD_pass_210 : decode bD_pass 210 = .ok (.istore 5, 2) := by decide +kernel
theorem dD_pass_212 : decode bD_pass 212 = .ok (.aload_n 0, 1) := by decide +kernel
theorem dD_pass_213 : decode bD_pass 213 = .ok (.getfield 7, 3) := by decide +kernel
theorem dD_pass_216 : decode bD_pass 216 = .ok (.iload_n 1, 1) := by decide +kernel
theorem dD_pass_217 : decode bD_pass 217 = .ok (.iaload, 1) := by decide +kernel
theorem dD_pass_218 : decode bD_pass 218 = .ok (.ifCond .eq 13, 3) := by decide +kernel
theorem dD_pass_221 : decode bD_pass 221 = .ok (.aload_n 0, 1) := by decide +kernel
theorem dD_pass_222 : decode bD_pass 222 = .ok (.getfield 7, 3) := by decide +kernel
theorem dD_pass_225 : decode bD_pass 225 = .ok (.iload_n 1, 1) := by decide +kernel
theorem dD_pass_226 : decode bD_pass 226 = .ok (.iaload, 1) := by decide +kernel
theorem dD_pass_227 : decode bD_pass 227 = .ok (.iconst 2, 1) := by decide +kernel
theorem dD_pass_228 : decode bD_pass 228 = .ok (.if_icmp .ne 22, 3) := by decide +kernel
theorem dD_pass_231 : decode bD_pass 231 = .ok (.aload_n 0, 1) := by decide +kernel
theorem dD_pass_232 : decode bD_pass 232 = .ok (.getfield 50, 3) := by decide +kernel
theorem dD_pass_235 : decode bD_pass 235 = .ok (.iload 4, 2) := by decide +kernel
theorem dD_pass_237 : decode bD_pass 237 = .ok (.iload 5, 2) := by decide +kernel
theorem dD_pass_239 : decode bD_pass 239 = .ok (.iastore, 1) := by decide +kernel
theorem dD_pass_240 : decode bD_pass 240 = .ok (.aload_n 0, 1) := by decide +kernel
theorem dD_pass_241 : decode bD_pass 241 = .ok (.getfield 53, 3) := by decide +kernel
theorem dD_pass_244 : decode bD_pass 244 = .ok (.iload 4, 2) := by decide +kernel
theorem dD_pass_246 : decode bD_pass 246 = .ok (.iconst 1, 1) := by decide +kernel
theorem dD_pass_247 : decode bD_pass 247 = .ok (.iload_n 1, 1) := by decide +kernel
theorem dD_pass_248 : decode bD_pass 248 = .ok (.ishl, 1) := by decide +kernel
theorem dD_pass_249 : decode bD_pass 249 = .ok (.iastore, 1) := by decide +kernel
theorem dD_pass_250 : decode bD_pass 250 = .ok (.aload_n 0, 1) := by decide +kernel
theorem dD_pass_251 : decode bD_pass 251 = .ok (.getfield 7, 3) := by decide +kernel
theorem dD_pass_254 : decode bD_pass 254 = .ok (.iload_n 1, 1) := by decide +kernel
theorem dD_pass_255 : decode bD_pass 255 = .ok (.iaload, 1) := by decide +kernel
theorem dD_pass_256 : decode bD_pass 256 = .ok (.iconst 1, 1) := by decide +kernel
theorem dD_pass_257 : decode bD_pass 257 = .ok (.if_icmp .ne 64, 3) := by decide +kernel
theorem dD_pass_260 : decode bD_pass 260 = .ok (.aload_n 0, 1) := by decide +kernel
theorem dD_pass_261 : decode bD_pass 261 = .ok (.getfield 50, 3) := by decide +kernel
theorem dD_pass_264 : decode bD_pass 264 = .ok (.aload_n 0, 1) := by decide +kernel
theorem dD_pass_265 : decode bD_pass 265 = .ok (.getfield 16, 3) := by decide +kernel
theorem dD_pass_268 : decode bD_pass 268 = .ok (.iload_n 1, 1) := by decide +kernel
theorem dD_pass_269 : decode bD_pass 269 = .ok (.iaload, 1) := by decide +kernel
theorem dD_pass_270 : decode bD_pass 270 = .ok (.iaload, 1) := by decide +kernel
theorem dD_pass_271 : decode bD_pass 271 = .ok (.istore 6, 2) := by decide +kernel
theorem dD_pass_273 : decode bD_pass 273 = .ok (.aload_n 0, 1) := by decide +kernel
theorem dD_pass_274 : decode bD_pass 274 = .ok (.getfield 50, 3) := by decide +kernel
theorem dD_pass_277 : decode bD_pass 277 = .ok (.iload 4, 2) := by decide +kernel
theorem dD_pass_279 : decode bD_pass 279 = .ok (.iload_n 3, 1) := by decide +kernel
theorem dD_pass_280 : decode bD_pass 280 = .ok (.ifCond .eq 15, 3) := by decide +kernel
theorem dD_pass_283 : decode bD_pass 283 = .ok (.iload 6, 2) := by decide +kernel
theorem dD_pass_285 : decode bD_pass 285 = .ok (.iconst 1, 1) := by decide +kernel
theorem dD_pass_286 : decode bD_pass 286 = .ok (.iload 4, 2) := by decide +kernel
theorem dD_pass_288 : decode bD_pass 288 = .ok (.ishl, 1) := by decide +kernel
theorem dD_pass_289 : decode bD_pass 289 = .ok (.iconst (-1), 1) := by decide +kernel
theorem dD_pass_290 : decode bD_pass 290 = .ok (.ixor, 1) := by decide +kernel
theorem dD_pass_291 : decode bD_pass 291 = .ok (.iand, 1) := by decide +kernel
theorem dD_pass_292 : decode bD_pass 292 = .ok (.goto 5, 3) := by decide +kernel
theorem dD_pass_295 : decode bD_pass 295 = .ok (.iload 6, 2) := by decide +kernel
theorem dD_pass_297 : decode bD_pass 297 = .ok (.iastore, 1) := by decide +kernel
theorem dD_pass_298 : decode bD_pass 298 = .ok (.aload_n 0, 1) := by decide +kernel
theorem dD_pass_299 : decode bD_pass 299 = .ok (.getfield 53, 3) := by decide +kernel
theorem dD_pass_302 : decode bD_pass 302 = .ok (.iload 4, 2) := by decide +kernel
theorem dD_pass_304 : decode bD_pass 304 = .ok (.aload_n 0, 1) := by decide +kernel
theorem dD_pass_305 : decode bD_pass 305 = .ok (.getfield 47, 3) := by decide +kernel
theorem dD_pass_308 : decode bD_pass 308 = .ok (.bipush 9, 2) := by decide +kernel
theorem dD_pass_310 : decode bD_pass 310 = .ok (.iload_n 1, 1) := by decide +kernel
theorem dD_pass_311 : decode bD_pass 311 = .ok (.imul, 1) := by decide +kernel
theorem dD_pass_312 : decode bD_pass 312 = .ok (.aload_n 0, 1) := by decide +kernel
theorem dD_pass_313 : decode bD_pass 313 = .ok (.getfield 16, 3) := by decide +kernel
theorem dD_pass_316 : decode bD_pass 316 = .ok (.iload_n 1, 1) := by decide +kernel
theorem dD_pass_317 : decode bD_pass 317 = .ok (.iaload, 1) := by decide +kernel
theorem dD_pass_318 : decode bD_pass 318 = .ok (.iadd, 1) := by decide +kernel
theorem dD_pass_319 : decode bD_pass 319 = .ok (.iaload, 1) := by decide +kernel
theorem dD_pass_320 : decode bD_pass 320 = .ok (.iastore, 1) := by decide +kernel
theorem dD_pass_321 : decode bD_pass 321 = .ok (.aload_n 0, 1) := by decide +kernel
theorem dD_pass_322 : decode bD_pass 322 = .ok (.getfield 7, 3) := by decide +kernel
theorem dD_pass_325 : decode bD_pass 325 = .ok (.iload_n 1, 1) := by decide +kernel
theorem dD_pass_326 : decode bD_pass 326 = .ok (.iaload, 1) := by decide +kernel
theorem dD_pass_327 : decode bD_pass 327 = .ok (.iconst 5, 1) := by decide +kernel
theorem dD_pass_328 : decode bD_pass 328 = .ok (.if_icmp .ne 45, 3) := by decide +kernel
theorem dD_pass_331 : decode bD_pass 331 = .ok (.aload_n 0, 1) := by decide +kernel
theorem dD_pass_332 : decode bD_pass 332 = .ok (.getfield 50, 3) := by decide +kernel
theorem dD_pass_335 : decode bD_pass 335 = .ok (.bipush 6, 2) := by decide +kernel
theorem dD_pass_337 : decode bD_pass 337 = .ok (.iload 4, 2) := by decide +kernel
theorem dD_pass_339 : decode bD_pass 339 = .ok (.iadd, 1) := by decide +kernel
theorem dD_pass_340 : decode bD_pass 340 = .ok (.aload_n 0, 1) := by decide +kernel
theorem dD_pass_341 : decode bD_pass 341 = .ok (.getfield 50, 3) := by decide +kernel
theorem dD_pass_344 : decode bD_pass 344 = .ok (.aload_n 0, 1) := by decide +kernel
theorem dD_pass_345 : decode bD_pass 345 = .ok (.getfield 16, 3) := by decide +kernel
theorem dD_pass_348 : decode bD_pass 348 = .ok (.iload_n 1, 1) := by decide +kernel
theorem dD_pass_349 : decode bD_pass 349 = .ok (.iaload, 1) := by decide +kernel
theorem dD_pass_350 : decode bD_pass 350 = .ok (.iaload, 1) := by decide +kernel
theorem dD_pass_351 : decode bD_pass 351 = .ok (.iastore, 1) := by decide +kernel
theorem dD_pass_352 : decode bD_pass 352 = .ok (.aload_n 0, 1) := by decide +kernel
theorem dD_pass_353 : decode bD_pass 353 = .ok (.getfield 53, 3) := by decide +kernel
theorem dD_pass_356 : decode bD_pass 356 = .ok (.bipush 6, 2) := by decide +kernel
theorem dD_pass_358 : decode bD_pass 358 = .ok (.iload 4, 2) := by decide +kernel
theorem dD_pass_360 : decode bD_pass 360 = .ok (.iadd, 1) := by decide +kernel
theorem dD_pass_361 : decode bD_pass 361 = .ok (.aload_n 0, 1) := by decide +kernel
theorem dD_pass_362 : decode bD_pass 362 = .ok (.getfield 53, 3) := by decide +kernel
theorem dD_pass_365 : decode bD_pass 365 = .ok (.aload_n 0, 1) := by decide +kernel
theorem dD_pass_366 : decode bD_pass 366 = .ok (.getfield 16, 3) := by decide +kernel
theorem dD_pass_369 : decode bD_pass 369 = .ok (.iload_n 1, 1) := by decide +kernel
theorem dD_pass_370 : decode bD_pass 370 = .ok (.iaload, 1) := by decide +kernel
theorem dD_pass_371 : decode bD_pass 371 = .ok (.iaload, 1) := by decide +kernel
theorem dD_pass_372 : decode bD_pass 372 = .ok (.iastore, 1) := by decide +kernel
theorem dD_pass_373 : decode bD_pass 373 = .ok (.return_, 1) := by decide +kernel
theorem dD_spread_0 : decode bD_spread 0 = .ok (.iconst 0, 1) := by decide +kernel
theorem dD_spread_1 : decode bD_spread 1 = .ok (.istore_n 2, 1) := by decide +kernel
theorem dD_spread_2 : decode bD_spread 2 = .ok (.iconst 0, 1) := by decide +kernel
theorem dD_spread_3 : decode bD_spread 3 = .ok (.istore_n 3, 1) := by decide +kernel
theorem dD_spread_4 : decode bD_spread 4 = .ok (.iload_n 3, 1) := by decide +kernel
theorem dD_spread_5 : decode bD_spread 5 = .ok (.bipush 9, 2) := by decide +kernel
theorem dD_spread_7 : decode bD_spread 7 = .ok (.if_icmp .ge 117, 3) := by decide +kernel
theorem dD_spread_10 : decode bD_spread 10 = .ok (.aload_n 0, 1) := by decide +kernel
theorem dD_spread_11 : decode bD_spread 11 = .ok (.getfield 44, 3) := by decide +kernel
theorem dD_spread_14 : decode bD_spread 14 = .ok (.bipush 9, 2) := by decide +kernel
theorem dD_spread_16 : decode bD_spread 16 = .ok (.iload_n 1, 1) := by decide +kernel
theorem dD_spread_17 : decode bD_spread 17 = .ok (.imul, 1) := by decide +kernel
theorem dD_spread_18 : decode bD_spread 18 = .ok (.iload_n 3, 1) := by decide +kernel
theorem dD_spread_19 : decode bD_spread 19 = .ok (.iadd, 1) := by decide +kernel
theorem dD_spread_20 : decode bD_spread 20 = .ok (.iaload, 1) := by decide +kernel
theorem dD_spread_21 : decode bD_spread 21 = .ok (.aload_n 0, 1) := by decide +kernel
theorem dD_spread_22 : decode bD_spread 22 = .ok (.getfield 50, 3) := by decide +kernel
theorem dD_spread_25 : decode bD_spread 25 = .ok (.iload_n 3, 1) := by decide +kernel
theorem dD_spread_26 : decode bD_spread 26 = .ok (.iaload, 1) := by decide +kernel
theorem dD_spread_27 : decode bD_spread 27 = .ok (.ior, 1) := by decide +kernel
theorem dD_spread_28 : decode bD_spread 28 = .ok (.istore 4, 2) := by decide +kernel
theorem dD_spread_30 : decode bD_spread 30 = .ok (.aload_n 0, 1) := by decide +kernel
theorem dD_spread_31 : decode bD_spread 31 = .ok (.getfield 47, 3) := by decide +kernel
theorem dD_spread_34 : decode bD_spread 34 = .ok (.bipush 9, 2) := by decide +kernel
theorem dD_spread_36 : decode bD_spread 36 = .ok (.iload_n 1, 1) := by decide +kernel
theorem dD_spread_37 : decode bD_spread 37 = .ok (.imul, 1) := by decide +kernel
theorem dD_spread_38 : decode bD_spread 38 = .ok (.iload_n 3, 1) := by decide +kernel
theorem dD_spread_39 : decode bD_spread 39 = .ok (.iadd, 1) := by decide +kernel
theorem dD_spread_40 : decode bD_spread 40 = .ok (.iaload, 1) := by decide +kernel
theorem dD_spread_41 : decode bD_spread 41 = .ok (.aload_n 0, 1) := by decide +kernel
theorem dD_spread_42 : decode bD_spread 42 = .ok (.getfield 53, 3) := by decide +kernel
theorem dD_spread_45 : decode bD_spread 45 = .ok (.iload_n 3, 1) := by decide +kernel
theorem dD_spread_46 : decode bD_spread 46 = .ok (.iaload, 1) := by decide +kernel
theorem dD_spread_47 : decode bD_spread 47 = .ok (.ior, 1) := by decide +kernel
theorem dD_spread_48 : decode bD_spread 48 = .ok (.istore 5, 2) := by decide +kernel
theorem dD_spread_50 : decode bD_spread 50 = .ok (.iload_n 2, 1) := by decide +kernel
theorem dD_spread_51 : decode bD_spread 51 = .ok (.ifCond .ne 35, 3) := by decide +kernel
theorem dD_spread_54 : decode bD_spread 54 = .ok (.iload 4, 2) := by decide +kernel
theorem dD_spread_56 : decode bD_spread 56 = .ok (.aload_n 0, 1) := by decide +kernel
theorem dD_spread_57 : decode bD_spread 57 = .ok (.getfield 44, 3) := by decide +kernel
theorem dD_spread_60 : decode bD_spread 60 = .ok (.bipush 9, 2) := by decide +kernel
theorem dD_spread_62 : decode bD_spread 62 = .ok (.iload_n 1, 1) := by decide +kernel
theorem dD_spread_63 : decode bD_spread 63 = .ok (.imul, 1) := by decide +kernel
theorem dD_spread_64 : decode bD_spread 64 = .ok (.iload_n 3, 1) := by decide +kernel
theorem dD_spread_65 : decode bD_spread 65 = .ok (.iadd, 1) := by decide +kernel
theorem dD_spread_66 : decode bD_spread 66 = .ok (.iaload, 1) := by decide +kernel
theorem dD_spread_67 : decode bD_spread 67 = .ok (.if_icmp .ne 19, 3) := by decide +kernel
theorem dD_spread_70 : decode bD_spread 70 = .ok (.iload 5, 2) := by decide +kernel
theorem dD_spread_72 : decode bD_spread 72 = .ok (.aload_n 0, 1) := by decide +kernel
theorem dD_spread_73 : decode bD_spread 73 = .ok (.getfield 47, 3) := by decide +kernel
theorem dD_spread_76 : decode bD_spread 76 = .ok (.bipush 9, 2) := by decide +kernel
theorem dD_spread_78 : decode bD_spread 78 = .ok (.iload_n 1, 1) := by decide +kernel
theorem dD_spread_79 : decode bD_spread 79 = .ok (.imul, 1) := by decide +kernel
theorem dD_spread_80 : decode bD_spread 80 = .ok (.iload_n 3, 1) := by decide +kernel
theorem dD_spread_81 : decode bD_spread 81 = .ok (.iadd, 1) := by decide +kernel
theorem dD_spread_82 : decode bD_spread 82 = .ok (.iaload, 1) := by decide +kernel
theorem dD_spread_83 : decode bD_spread 83 = .ok (.if_icmp .eq 7, 3) := by decide +kernel
theorem dD_spread_86 : decode bD_spread 86 = .ok (.iconst 1, 1) := by decide +kernel
theorem dD_spread_87 : decode bD_spread 87 = .ok (.goto 4, 3) := by decide +kernel
theorem dD_spread_90 : decode bD_spread 90 = .ok (.iconst 0, 1) := by decide +kernel
theorem dD_spread_91 : decode bD_spread 91 = .ok (.istore_n 2, 1) := by decide +kernel
theorem dD_spread_92 : decode bD_spread 92 = .ok (.aload_n 0, 1) := by decide +kernel
theorem dD_spread_93 : decode bD_spread 93 = .ok (.getfield 44, 3) := by decide +kernel
theorem dD_spread_96 : decode bD_spread 96 = .ok (.bipush 9, 2) := by decide +kernel
theorem dD_spread_98 : decode bD_spread 98 = .ok (.iload_n 1, 1) := by decide +kernel
theorem dD_spread_99 : decode bD_spread 99 = .ok (.imul, 1) := by decide +kernel
theorem dD_spread_100 : decode bD_spread 100 = .ok (.iload_n 3, 1) := by decide +kernel
theorem dD_spread_101 : decode bD_spread 101 = .ok (.iadd, 1) := by decide +kernel
theorem dD_spread_102 : decode bD_spread 102 = .ok (.iload 4, 2) := by decide +kernel
theorem dD_spread_104 : decode bD_spread 104 = .ok (.iastore, 1) := by decide +kernel
theorem dD_spread_105 : decode bD_spread 105 = .ok (.aload_n 0, 1) := by decide +kernel
theorem dD_spread_106 : decode bD_spread 106 = .ok (.getfield 47, 3) := by decide +kernel
theorem dD_spread_109 : decode bD_spread 109 = .ok (.bipush 9, 2) := by decide +kernel
theorem dD_spread_111 : decode bD_spread 111 = .ok (.iload_n 1, 1) := by decide +kernel
theorem dD_spread_112 : decode bD_spread 112 = .ok (.imul, 1) := by decide +kernel
theorem dD_spread_113 : decode bD_spread 113 = .ok (.iload_n 3, 1) := by decide +kernel
theorem dD_spread_114 : decode bD_spread 114 = .ok (.iadd, 1) := by decide +kernel
theorem dD_spread_115 : decode bD_spread 115 = .ok (.iload 5, 2) := by decide +kernel
theorem dD_spread_117 : decode bD_spread 117 = .ok (.iastore, 1) := by decide +kernel
theorem dD_spread_118 : decode bD_spread 118 = .ok (.iinc 3 1, 3) := by decide +kernel
theorem dD_spread_121 : decode bD_spread 121 = .ok (.goto (-117), 3) := by decide +kernel
theorem dD_spread_124 : decode bD_spread 124 = .ok (.iload_n 2, 1) := by decide +kernel
theorem dD_spread_125 : decode bD_spread 125 = .ok (.ireturn, 1) := by decide +kernel
theorem dD_begin_0 : decode bD_begin 0 = .ok (.aload_n 0, 1) := by decide +kernel
theorem dD_begin_1 : decode bD_begin 1 = .ok (.iconst 0, 1) := by decide +kernel
theorem dD_begin_2 : decode bD_begin 2 = .ok (.putfield 156, 3) := by decide +kernel
theorem dD_begin_5 : decode bD_begin 5 = .ok (.aload_n 0, 1) := by decide +kernel
theorem dD_begin_6 : decode bD_begin 6 = .ok (.iconst 0, 1) := by decide +kernel
theorem dD_begin_7 : decode bD_begin 7 = .ok (.putfield 159, 3) := by decide +kernel
theorem dD_begin_10 : decode bD_begin 10 = .ok (.aload_n 0, 1) := by decide +kernel
theorem dD_begin_11 : decode bD_begin 11 = .ok (.iconst 0, 1) := by decide +kernel
theorem dD_begin_12 : decode bD_begin 12 = .ok (.putfield 162, 3) := by decide +kernel
theorem dD_begin_15 : decode bD_begin 15 = .ok (.iconst 0, 1) := by decide +kernel
theorem dD_begin_16 : decode bD_begin 16 = .ok (.istore_n 1, 1) := by decide +kernel
theorem dD_begin_17 : decode bD_begin 17 = .ok (.iload_n 1, 1) := by decide +kernel
theorem dD_begin_18 : decode bD_begin 18 = .ok (.bipush 12, 2) := by decide +kernel
theorem dD_begin_20 : decode bD_begin 20 = .ok (.if_icmp .ge 16, 3) := by decide +kernel
theorem dD_begin_23 : decode bD_begin 23 = .ok (.aload_n 0, 1) := by decide +kernel
theorem dD_begin_24 : decode bD_begin 24 = .ok (.getfield 56, 3) := by decide +kernel
theorem dD_begin_27 : decode bD_begin 27 = .ok (.iload_n 1, 1) := by decide +kernel
theorem dD_begin_28 : decode bD_begin 28 = .ok (.iconst 0, 1) := by decide +kernel
theorem dD_begin_29 : decode bD_begin 29 = .ok (.iastore, 1) := by decide +kernel
theorem dD_begin_30 : decode bD_begin 30 = .ok (.iinc 1 1, 3) := by decide +kernel
theorem dD_begin_33 : decode bD_begin 33 = .ok (.goto (-16), 3) := by decide +kernel
theorem dD_begin_36 : decode bD_begin 36 = .ok (.iconst 0, 1) := by decide +kernel
theorem dD_begin_37 : decode bD_begin 37 = .ok (.istore_n 1, 1) := by decide +kernel
theorem dD_begin_38 : decode bD_begin 38 = .ok (.iload_n 1, 1) := by decide +kernel
theorem dD_begin_39 : decode bD_begin 39 = .ok (.iconst 3, 1) := by decide +kernel
theorem dD_begin_40 : decode bD_begin 40 = .ok (.if_icmp .ge 16, 3) := by decide +kernel
theorem dD_begin_43 : decode bD_begin 43 = .ok (.aload_n 0, 1) := by decide +kernel
theorem dD_begin_44 : decode bD_begin 44 = .ok (.getfield 62, 3) := by decide +kernel
theorem dD_begin_47 : decode bD_begin 47 = .ok (.iload_n 1, 1) := by decide +kernel
theorem dD_begin_48 : decode bD_begin 48 = .ok (.iconst 0, 1) := by decide +kernel
theorem dD_begin_49 : decode bD_begin 49 = .ok (.bastore, 1) := by decide +kernel
theorem dD_begin_50 : decode bD_begin 50 = .ok (.iinc 1 1, 3) := by decide +kernel
theorem dD_begin_53 : decode bD_begin 53 = .ok (.goto (-15), 3) := by decide +kernel
theorem dD_begin_56 : decode bD_begin 56 = .ok (.return_, 1) := by decide +kernel
theorem dD_kept_0 : decode bD_kept 0 = .ok (.aload_n 0, 1) := by decide +kernel
theorem dD_kept_1 : decode bD_kept 1 = .ok (.aload_n 0, 1) := by decide +kernel
theorem dD_kept_2 : decode bD_kept 2 = .ok (.getfield 75, 3) := by decide +kernel
theorem dD_kept_5 : decode bD_kept 5 = .ok (.ifCond .eq 7, 3) := by decide +kernel
theorem dD_kept_8 : decode bD_kept 8 = .ok (.iconst 0, 1) := by decide +kernel
theorem dD_kept_9 : decode bD_kept 9 = .ok (.goto 4, 3) := by decide +kernel
theorem dD_kept_12 : decode bD_kept 12 = .ok (.iconst 1, 1) := by decide +kernel
theorem dD_kept_13 : decode bD_kept 13 = .ok (.putfield 68, 3) := by decide +kernel
theorem dD_kept_16 : decode bD_kept 16 = .ok (.iconst 0, 1) := by decide +kernel
theorem dD_kept_17 : decode bD_kept 17 = .ok (.istore_n 1, 1) := by decide +kernel
theorem dD_kept_18 : decode bD_kept 18 = .ok (.iconst 0, 1) := by decide +kernel
theorem dD_kept_19 : decode bD_kept 19 = .ok (.istore_n 2, 1) := by decide +kernel
theorem dD_kept_20 : decode bD_kept 20 = .ok (.iload_n 2, 1) := by decide +kernel
theorem dD_kept_21 : decode bD_kept 21 = .ok (.aload_n 0, 1) := by decide +kernel
theorem dD_kept_22 : decode bD_kept 22 = .ok (.getfield 72, 3) := by decide +kernel
theorem dD_kept_25 : decode bD_kept 25 = .ok (.if_icmp .ge 37, 3) := by decide +kernel
theorem dD_kept_28 : decode bD_kept 28 = .ok (.aload_n 0, 1) := by decide +kernel
theorem dD_kept_29 : decode bD_kept 29 = .ok (.getfield 75, 3) := by decide +kernel
theorem dD_kept_32 : decode bD_kept 32 = .ok (.ifCond .eq 30, 3) := by decide +kernel
theorem dD_kept_35 : decode bD_kept 35 = .ok (.aload_n 0, 1) := by decide +kernel
theorem dD_kept_36 : decode bD_kept 36 = .ok (.getfield 7, 3) := by decide +kernel
theorem dD_kept_39 : decode bD_kept 39 = .ok (.bipush 16, 2) := by decide +kernel
theorem dD_kept_41 : decode bD_kept 41 = .ok (.iload_n 2, 1) := by decide +kernel
theorem dD_kept_42 : decode bD_kept 42 = .ok (.iadd, 1) := by decide +kernel
theorem dD_kept_43 : decode bD_kept 43 = .ok (.iaload, 1) := by decide +kernel
theorem dD_kept_44 : decode bD_kept 44 = .ok (.iconst (-1), 1) := by decide +kernel
theorem dD_kept_45 : decode bD_kept 45 = .ok (.if_icmp .ne 7, 3) := by decide +kernel
theorem dD_kept_48 : decode bD_kept 48 = .ok (.iload_n 1, 1) := by decide +kernel
theorem dD_kept_49 : decode bD_kept 49 = .ok (.goto 6, 3) := by decide +kernel
theorem dD_kept_52 : decode bD_kept 52 = .ok (.iload_n 1, 1) := by decide +kernel
theorem dD_kept_53 : decode bD_kept 53 = .ok (.iconst 1, 1) := by decide +kernel
theorem dD_kept_54 : decode bD_kept 54 = .ok (.iadd, 1) := by decide +kernel
theorem dD_kept_55 : decode bD_kept 55 = .ok (.istore_n 1, 1) := by decide +kernel
theorem dD_kept_56 : decode bD_kept 56 = .ok (.iinc 2 1, 3) := by decide +kernel
theorem dD_kept_59 : decode bD_kept 59 = .ok (.goto (-39), 3) := by decide +kernel
theorem dD_kept_62 : decode bD_kept 62 = .ok (.iload_n 1, 1) := by decide +kernel
theorem dD_kept_63 : decode bD_kept 63 = .ok (.ireturn, 1) := by decide +kernel
theorem dD_part_0 : decode bD_part 0 = .ok (.aload_n 0, 1) := by decide +kernel
theorem dD_part_1 : decode bD_part 1 = .ok (.aload_n 0, 1) := by decide +kernel
theorem dD_part_2 : decode bD_part 2 = .ok (.getfield 75, 3) := by decide +kernel
theorem dD_part_5 : decode bD_part 5 = .ok (.ifCond .ne 7, 3) := by decide +kernel
theorem dD_part_8 : decode bD_part 8 = .ok (.iconst 1, 1) := by decide +kernel
theorem dD_part_9 : decode bD_part 9 = .ok (.goto 29, 3) := by decide +kernel
theorem dD_part_12 : decode bD_part 12 = .ok (.iload_n 1, 1) := by decide +kernel
theorem dD_part_13 : decode bD_part 13 = .ok (.ifCond .lt 20, 3) := by decide +kernel
theorem dD_part_16 : decode bD_part 16 = .ok (.iload_n 1, 1) := by decide +kernel
theorem dD_part_17 : decode bD_part 17 = .ok (.aload_n 0, 1) := by decide +kernel
theorem dD_part_18 : decode bD_part 18 = .ok (.getfield 72, 3) := by decide +kernel
theorem dD_part_21 : decode bD_part 21 = .ok (.if_icmp .ge 12, 3) := by decide +kernel
theorem dD_part_24 : decode bD_part 24 = .ok (.iload_n 2, 1) := by decide +kernel
theorem dD_part_25 : decode bD_part 25 = .ok (.ifCond .lt 8, 3) := by decide +kernel
theorem dD_part_28 : decode bD_part 28 = .ok (.iload_n 2, 1) := by decide +kernel
theorem dD_part_29 : decode bD_part 29 = .ok (.iconst 3, 1) := by decide +kernel
theorem dD_part_30 : decode bD_part 30 = .ok (.if_icmp .le 7, 3) := by decide +kernel
theorem dD_part_33 : decode bD_part 33 = .ok (.iconst 2, 1) := by decide +kernel
theorem dD_part_34 : decode bD_part 34 = .ok (.goto 4, 3) := by decide +kernel
theorem dD_part_37 : decode bD_part 37 = .ok (.iconst 0, 1) := by decide +kernel
theorem dD_part_38 : decode bD_part 38 = .ok (.putfield 68, 3) := by decide +kernel
theorem dD_part_41 : decode bD_part 41 = .ok (.aload_n 0, 1) := by decide +kernel
theorem dD_part_42 : decode bD_part 42 = .ok (.getfield 68, 3) := by decide +kernel
theorem dD_part_45 : decode bD_part 45 = .ok (.ifCond .le 5, 3) := by decide +kernel
theorem dD_part_48 : decode bD_part 48 = .ok (.iconst 0, 1) := by decide +kernel
theorem dD_part_49 : decode bD_part 49 = .ok (.ireturn, 1) := by decide +kernel
theorem dD_part_50 : decode bD_part 50 = .ok (.bipush 16, 2) := by decide +kernel
theorem dD_part_52 : decode bD_part 52 = .ok (.iload_n 1, 1) := by decide +kernel
theorem dD_part_53 : decode bD_part 53 = .ok (.iadd, 1) := by decide +kernel
theorem dD_part_54 : decode bD_part 54 = .ok (.istore_n 3, 1) := by decide +kernel
theorem dD_part_55 : decode bD_part 55 = .ok (.iload_n 2, 1) := by decide +kernel
theorem dD_part_56 : decode bD_part 56 = .ok (.ifCond .ne 12, 3) := by decide +kernel
theorem dD_part_59 : decode bD_part 59 = .ok (.aload_n 0, 1) := by decide +kernel
theorem dD_part_60 : decode bD_part 60 = .ok (.getfield 7, 3) := by decide +kernel
theorem dD_part_63 : decode bD_part 63 = .ok (.iload_n 3, 1) := by decide +kernel
theorem dD_part_64 : decode bD_part 64 = .ok (.iaload, 1) := by decide +kernel
theorem dD_part_65 : decode bD_part 65 = .ok (.goto 37, 3) := by decide +kernel
theorem dD_part_68 : decode bD_part 68 = .ok (.iload_n 2, 1) := by decide +kernel
theorem dD_part_69 : decode bD_part 69 = .ok (.iconst 1, 1) := by decide +kernel
theorem dD_part_70 : decode bD_part 70 = .ok (.if_icmp .ne 12, 3) := by decide +kernel
theorem dD_part_73 : decode bD_part 73 = .ok (.aload_n 0, 1) := by decide +kernel
theorem dD_part_74 : decode bD_part 74 = .ok (.getfield 13, 3) := by decide +kernel
theorem dD_part_77 : decode bD_part 77 = .ok (.iload_n 3, 1) := by decide +kernel
theorem dD_part_78 : decode bD_part 78 = .ok (.iaload, 1) := by decide +kernel
theorem dD_part_79 : decode bD_part 79 = .ok (.goto 23, 3) := by decide +kernel
theorem dD_part_82 : decode bD_part 82 = .ok (.iload_n 2, 1) := by decide +kernel
theorem dD_part_83 : decode bD_part 83 = .ok (.iconst 2, 1) := by decide +kernel
theorem dD_part_84 : decode bD_part 84 = .ok (.if_icmp .ne 12, 3) := by decide +kernel
theorem dD_part_87 : decode bD_part 87 = .ok (.aload_n 0, 1) := by decide +kernel
theorem dD_part_88 : decode bD_part 88 = .ok (.getfield 16, 3) := by decide +kernel
theorem dD_part_91 : decode bD_part 91 = .ok (.iload_n 3, 1) := by decide +kernel
theorem dD_part_92 : decode bD_part 92 = .ok (.iaload, 1) := by decide +kernel
theorem dD_part_93 : decode bD_part 93 = .ok (.goto 9, 3) := by decide +kernel
theorem dD_part_96 : decode bD_part 96 = .ok (.aload_n 0, 1) := by decide +kernel
theorem dD_part_97 : decode bD_part 97 = .ok (.getfield 19, 3) := by decide +kernel
theorem dD_part_100 : decode bD_part 100 = .ok (.iload_n 3, 1) := by decide +kernel
theorem dD_part_101 : decode bD_part 101 = .ok (.iaload, 1) := by decide +kernel
theorem dD_part_102 : decode bD_part 102 = .ok (.ireturn, 1) := by decide +kernel
theorem dD_where_0 : decode bD_where 0 = .ok (.aload_n 0, 1) := by decide +kernel
theorem dD_where_1 : decode bD_where 1 = .ok (.aload_n 0, 1) := by decide +kernel
theorem dD_where_2 : decode bD_where 2 = .ok (.getfield 75, 3) := by decide +kernel
theorem dD_where_5 : decode bD_where 5 = .ok (.ifCond .ne 7, 3) := by decide +kernel
theorem dD_where_8 : decode bD_where 8 = .ok (.iconst 1, 1) := by decide +kernel
theorem dD_where_9 : decode bD_where 9 = .ok (.goto 29, 3) := by decide +kernel
theorem dD_where_12 : decode bD_where 12 = .ok (.iload_n 1, 1) := by decide +kernel
theorem dD_where_13 : decode bD_where 13 = .ok (.ifCond .lt 20, 3) := by decide +kernel
theorem dD_where_16 : decode bD_where 16 = .ok (.iload_n 1, 1) := by decide +kernel
theorem dD_where_17 : decode bD_where 17 = .ok (.aload_n 0, 1) := by decide +kernel
theorem dD_where_18 : decode bD_where 18 = .ok (.getfield 72, 3) := by decide +kernel
theorem dD_where_21 : decode bD_where 21 = .ok (.if_icmp .gt 12, 3) := by decide +kernel
theorem dD_where_24 : decode bD_where 24 = .ok (.iload_n 2, 1) := by decide +kernel
theorem dD_where_25 : decode bD_where 25 = .ok (.ifCond .lt 8, 3) := by decide +kernel
theorem dD_where_28 : decode bD_where 28 = .ok (.iload_n 2, 1) := by decide +kernel
theorem dD_where_29 : decode bD_where 29 = .ok (.iconst 2, 1) := by decide +kernel
theorem dD_where_30 : decode bD_where 30 = .ok (.if_icmp .le 7, 3) := by decide +kernel
theorem dD_where_33 : decode bD_where 33 = .ok (.iconst 2, 1) := by decide +kernel
theorem dD_where_34 : decode bD_where 34 = .ok (.goto 4, 3) := by decide +kernel
theorem dD_where_37 : decode bD_where 37 = .ok (.iconst 0, 1) := by decide +kernel
theorem dD_where_38 : decode bD_where 38 = .ok (.putfield 68, 3) := by decide +kernel
theorem dD_where_41 : decode bD_where 41 = .ok (.aload_n 0, 1) := by decide +kernel
theorem dD_where_42 : decode bD_where 42 = .ok (.getfield 68, 3) := by decide +kernel
theorem dD_where_45 : decode bD_where 45 = .ok (.ifCond .le 7, 3) := by decide +kernel
theorem dD_where_48 : decode bD_where 48 = .ok (.iconst 0, 1) := by decide +kernel
theorem dD_where_49 : decode bD_where 49 = .ok (.goto 9, 3) := by decide +kernel
theorem dD_where_52 : decode bD_where 52 = .ok (.aload_n 0, 1) := by decide +kernel
theorem dD_where_53 : decode bD_where 53 = .ok (.iload_n 1, 1) := by decide +kernel
theorem dD_where_54 : decode bD_where 54 = .ok (.iload_n 2, 1) := by decide +kernel
theorem dD_where_55 : decode bD_where 55 = .ok (.invokevirtual 152, 3) := by decide +kernel
theorem dD_where_58 : decode bD_where 58 = .ok (.ireturn, 1) := by decide +kernel
theorem dD_placeOf_0 : decode bD_placeOf 0 = .ok (.bipush 9, 2) := by decide +kernel
theorem dD_placeOf_2 : decode bD_placeOf 2 = .ok (.iload_n 1, 1) := by decide +kernel
theorem dD_placeOf_3 : decode bD_placeOf 3 = .ok (.imul, 1) := by decide +kernel
theorem dD_placeOf_4 : decode bD_placeOf 4 = .ok (.bipush 6, 2) := by decide +kernel
theorem dD_placeOf_6 : decode bD_placeOf 6 = .ok (.iadd, 1) := by decide +kernel
theorem dD_placeOf_7 : decode bD_placeOf 7 = .ok (.iload_n 2, 1) := by decide +kernel
theorem dD_placeOf_8 : decode bD_placeOf 8 = .ok (.iadd, 1) := by decide +kernel
theorem dD_placeOf_9 : decode bD_placeOf 9 = .ok (.istore_n 3, 1) := by decide +kernel
theorem dD_placeOf_10 : decode bD_placeOf 10 = .ok (.aload_n 0, 1) := by decide +kernel
theorem dD_placeOf_11 : decode bD_placeOf 11 = .ok (.getfield 35, 3) := by decide +kernel
theorem dD_placeOf_14 : decode bD_placeOf 14 = .ok (.iload_n 1, 1) := by decide +kernel
theorem dD_placeOf_15 : decode bD_placeOf 15 = .ok (.baload, 1) := by decide +kernel
theorem dD_placeOf_16 : decode bD_placeOf 16 = .ok (.ifCond .eq 15, 3) := by decide +kernel
theorem dD_placeOf_19 : decode bD_placeOf 19 = .ok (.aload_n 0, 1) := by decide +kernel
theorem dD_placeOf_20 : decode bD_placeOf 20 = .ok (.getfield 47, 3) := by decide +kernel
theorem dD_placeOf_23 : decode bD_placeOf 23 = .ok (.iload_n 3, 1) := by decide +kernel
theorem dD_placeOf_24 : decode bD_placeOf 24 = .ok (.iaload, 1) := by decide +kernel
theorem dD_placeOf_25 : decode bD_placeOf 25 = .ok (.ldc 123, 2) := by decide +kernel
theorem dD_placeOf_27 : decode bD_placeOf 27 = .ok (.iand, 1) := by decide +kernel
theorem dD_placeOf_28 : decode bD_placeOf 28 = .ok (.ifCond .le 5, 3) := by decide +kernel
theorem dD_placeOf_31 : decode bD_placeOf 31 = .ok (.iconst (-1), 1) := by decide +kernel
theorem dD_placeOf_32 : decode bD_placeOf 32 = .ok (.ireturn, 1) := by decide +kernel
theorem dD_placeOf_33 : decode bD_placeOf 33 = .ok (.iconst 0, 1) := by decide +kernel
theorem dD_placeOf_34 : decode bD_placeOf 34 = .ok (.istore 4, 2) := by decide +kernel
theorem dD_placeOf_36 : decode bD_placeOf 36 = .ok (.iload 4, 2) := by decide +kernel
theorem dD_placeOf_38 : decode bD_placeOf 38 = .ok (.bipush 6, 2) := by decide +kernel
theorem dD_placeOf_40 : decode bD_placeOf 40 = .ok (.if_icmp .ge 26, 3) := by decide +kernel
theorem dD_placeOf_43 : decode bD_placeOf 43 = .ok (.aload_n 0, 1) := by decide +kernel
theorem dD_placeOf_44 : decode bD_placeOf 44 = .ok (.getfield 44, 3) := by decide +kernel
theorem dD_placeOf_47 : decode bD_placeOf 47 = .ok (.iload_n 3, 1) := by decide +kernel
theorem dD_placeOf_48 : decode bD_placeOf 48 = .ok (.iaload, 1) := by decide +kernel
theorem dD_placeOf_49 : decode bD_placeOf 49 = .ok (.iload 4, 2) := by decide +kernel
theorem dD_placeOf_51 : decode bD_placeOf 51 = .ok (.ishr, 1) := by decide +kernel
theorem dD_placeOf_52 : decode bD_placeOf 52 = .ok (.iconst 1, 1) := by decide +kernel
theorem dD_placeOf_53 : decode bD_placeOf 53 = .ok (.iand, 1) := by decide +kernel
theorem dD_placeOf_54 : decode bD_placeOf 54 = .ok (.ifCond .ne 6, 3) := by decide +kernel
theorem dD_placeOf_57 : decode bD_placeOf 57 = .ok (.iload 4, 2) := by decide +kernel
theorem dD_placeOf_59 : decode bD_placeOf 59 = .ok (.ireturn, 1) := by decide +kernel
theorem dD_placeOf_60 : decode bD_placeOf 60 = .ok (.iinc 4 1, 3) := by decide +kernel
theorem dD_placeOf_63 : decode bD_placeOf 63 = .ok (.goto (-27), 3) := by decide +kernel
theorem dD_placeOf_66 : decode bD_placeOf 66 = .ok (.aload_n 0, 1) := by decide +kernel
theorem dD_placeOf_67 : decode bD_placeOf 67 = .ok (.iload_n 3, 1) := by decide +kernel
theorem dD_placeOf_68 : decode bD_placeOf 68 = .ok (.invokevirtual 149, 3) := by decide +kernel
theorem dD_placeOf_71 : decode bD_placeOf 71 = .ok (.ifCond .eq 8, 3) := by decide +kernel
theorem dD_placeOf_74 : decode bD_placeOf 74 = .ok (.bipush 6, 2) := by decide +kernel
theorem dD_placeOf_76 : decode bD_placeOf 76 = .ok (.goto 4, 3) := by decide +kernel
theorem dD_placeOf_79 : decode bD_placeOf 79 = .ok (.iconst (-1), 1) := by decide +kernel
theorem dD_placeOf_80 : decode bD_placeOf 80 = .ok (.ireturn, 1) := by decide +kernel
theorem dD_isConstant_0 : decode bD_isConstant 0 = .ok (.aload_n 0, 1) := by decide +kernel
theorem dD_isConstant_1 : decode bD_isConstant 1 = .ok (.getfield 47, 3) := by decide +kernel
theorem dD_isConstant_4 : decode bD_isConstant 4 = .ok (.iload_n 1, 1) := by decide +kernel
theorem dD_isConstant_5 : decode bD_isConstant 5 = .ok (.iaload, 1) := by decide +kernel
theorem dD_isConstant_6 : decode bD_isConstant 6 = .ok (.istore_n 2, 1) := by decide +kernel
theorem dD_isConstant_7 : decode bD_isConstant 7 = .ok (.iload_n 2, 1) := by decide +kernel
theorem dD_isConstant_8 : decode bD_isConstant 8 = .ok (.ldc 122, 2) := by decide +kernel
theorem dD_isConstant_10 : decode bD_isConstant 10 = .ok (.iand, 1) := by decide +kernel
theorem dD_isConstant_11 : decode bD_isConstant 11 = .ok (.ifCond .le 7, 3) := by decide +kernel
theorem dD_isConstant_14 : decode bD_isConstant 14 = .ok (.iconst 1, 1) := by decide +kernel
theorem dD_isConstant_15 : decode bD_isConstant 15 = .ok (.goto 4, 3) := by decide +kernel
theorem dD_isConstant_18 : decode bD_isConstant 18 = .ok (.iconst 0, 1) := by decide +kernel
theorem dD_isConstant_19 : decode bD_isConstant 19 = .ok (.istore_n 3, 1) := by decide +kernel
theorem dD_isConstant_20 : decode bD_isConstant 20 = .ok (.aload_n 0, 1) := by decide +kernel
theorem dD_isConstant_21 : decode bD_isConstant 21 = .ok (.iconst 0, 1) := by decide +kernel
theorem dD_isConstant_22 : decode bD_isConstant 22 = .ok (.putfield 146, 3) := by decide +kernel
theorem dD_isConstant_25 : decode bD_isConstant 25 = .ok (.iload_n 2, 1) := by decide +kernel
theorem dD_isConstant_26 : decode bD_isConstant 26 = .ok (.ldc 123, 2) := by decide +kernel
theorem dD_isConstant_28 : decode bD_isConstant 28 = .ok (.iand, 1) := by decide +kernel
theorem dD_isConstant_29 : decode bD_isConstant 29 = .ok (.ifCond .le 5, 3) := by decide +kernel
theorem dD_isConstant_32 : decode bD_isConstant 32 = .ok (.iconst 0, 1) := by decide +kernel
theorem dD_isConstant_33 : decode bD_isConstant 33 = .ok (.ireturn, 1) := by decide +kernel
theorem dD_isConstant_34 : decode bD_isConstant 34 = .ok (.iconst 0, 1) := by decide +kernel
theorem dD_isConstant_35 : decode bD_isConstant 35 = .ok (.istore 4, 2) := by decide +kernel
theorem dD_isConstant_37 : decode bD_isConstant 37 = .ok (.iload 4, 2) := by decide +kernel
theorem dD_isConstant_39 : decode bD_isConstant 39 = .ok (.aload_n 0, 1) := by decide +kernel
theorem dD_isConstant_40 : decode bD_isConstant 40 = .ok (.getfield 72, 3) := by decide +kernel
theorem dD_isConstant_43 : decode bD_isConstant 43 = .ok (.if_icmp .ge 62, 3) := by decide +kernel
theorem dD_isConstant_46 : decode bD_isConstant 46 = .ok (.iload_n 2, 1) := by decide +kernel
theorem dD_isConstant_47 : decode bD_isConstant 47 = .ok (.iload 4, 2) := by decide +kernel
theorem dD_isConstant_49 : decode bD_isConstant 49 = .ok (.ishr, 1) := by decide +kernel
theorem dD_isConstant_50 : decode bD_isConstant 50 = .ok (.iconst 1, 1) := by decide +kernel
theorem dD_isConstant_51 : decode bD_isConstant 51 = .ok (.iand, 1) := by decide +kernel
theorem dD_isConstant_52 : decode bD_isConstant 52 = .ok (.iconst 1, 1) := by decide +kernel
theorem dD_isConstant_53 : decode bD_isConstant 53 = .ok (.if_icmp .ne 46, 3) := by decide +kernel
theorem dD_isConstant_56 : decode bD_isConstant 56 = .ok (.aload_n 0, 1) := by decide +kernel
theorem dD_isConstant_57 : decode bD_isConstant 57 = .ok (.getfield 7, 3) := by decide +kernel
theorem dD_isConstant_60 : decode bD_isConstant 60 = .ok (.iload 4, 2) := by decide +kernel
theorem dD_isConstant_62 : decode bD_isConstant 62 = .ok (.iaload, 1) := by decide +kernel
theorem dD_isConstant_63 : decode bD_isConstant 63 = .ok (.ifCond .ne 21, 3) := by decide +kernel
theorem dD_isConstant_66 : decode bD_isConstant 66 = .ok (.iload_n 3, 1) := by decide +kernel
theorem dD_isConstant_67 : decode bD_isConstant 67 = .ok (.ifCond .eq 19, 3) := by decide +kernel
theorem dD_isConstant_70 : decode bD_isConstant 70 = .ok (.aload_n 0, 1) := by decide +kernel
theorem dD_isConstant_71 : decode bD_isConstant 71 = .ok (.getfield 16, 3) := by decide +kernel
theorem dD_isConstant_74 : decode bD_isConstant 74 = .ok (.iload 4, 2) := by decide +kernel
theorem dD_isConstant_76 : decode bD_isConstant 76 = .ok (.iaload, 1) := by decide +kernel
theorem dD_isConstant_77 : decode bD_isConstant 77 = .ok (.aload_n 0, 1) := by decide +kernel
theorem dD_isConstant_78 : decode bD_isConstant 78 = .ok (.getfield 146, 3) := by decide +kernel
theorem dD_isConstant_81 : decode bD_isConstant 81 = .ok (.if_icmp .eq 5, 3) := by decide +kernel
theorem dD_isConstant_84 : decode bD_isConstant 84 = .ok (.iconst 0, 1) := by decide +kernel
theorem dD_isConstant_85 : decode bD_isConstant 85 = .ok (.ireturn, 1) := by decide +kernel
theorem dD_isConstant_86 : decode bD_isConstant 86 = .ok (.aload_n 0, 1) := by decide +kernel
theorem dD_isConstant_87 : decode bD_isConstant 87 = .ok (.aload_n 0, 1) := by decide +kernel
theorem dD_isConstant_88 : decode bD_isConstant 88 = .ok (.getfield 16, 3) := by decide +kernel
theorem dD_isConstant_91 : decode bD_isConstant 91 = .ok (.iload 4, 2) := by decide +kernel
theorem dD_isConstant_93 : decode bD_isConstant 93 = .ok (.iaload, 1) := by decide +kernel
theorem dD_isConstant_94 : decode bD_isConstant 94 = .ok (.putfield 146, 3) := by decide +kernel
theorem dD_isConstant_97 : decode bD_isConstant 97 = .ok (.iconst 1, 1) := by decide +kernel
theorem dD_isConstant_98 : decode bD_isConstant 98 = .ok (.istore_n 3, 1) := by decide +kernel
theorem dD_isConstant_99 : decode bD_isConstant 99 = .ok (.iinc 4 1, 3) := by decide +kernel
theorem dD_isConstant_102 : decode bD_isConstant 102 = .ok (.goto (-65), 3) := by decide +kernel
theorem dD_isConstant_105 : decode bD_isConstant 105 = .ok (.iload_n 3, 1) := by decide +kernel
theorem dD_isConstant_106 : decode bD_isConstant 106 = .ok (.ireturn, 1) := by decide +kernel
theorem dD_carriers_0 : decode bD_carriers 0 = .ok (.aload_n 0, 1) := by decide +kernel
theorem dD_carriers_1 : decode bD_carriers 1 = .ok (.aload_n 0, 1) := by decide +kernel
theorem dD_carriers_2 : decode bD_carriers 2 = .ok (.getfield 75, 3) := by decide +kernel
theorem dD_carriers_5 : decode bD_carriers 5 = .ok (.ifCond .ne 7, 3) := by decide +kernel
theorem dD_carriers_8 : decode bD_carriers 8 = .ok (.iconst 1, 1) := by decide +kernel
theorem dD_carriers_9 : decode bD_carriers 9 = .ok (.goto 27, 3) := by decide +kernel
theorem dD_carriers_12 : decode bD_carriers 12 = .ok (.iload_n 1, 1) := by decide +kernel
theorem dD_carriers_13 : decode bD_carriers 13 = .ok (.ifCond .lt 18, 3) := by decide +kernel
theorem dD_carriers_16 : decode bD_carriers 16 = .ok (.iload_n 1, 1) := by decide +kernel
theorem dD_carriers_17 : decode bD_carriers 17 = .ok (.aload_n 0, 1) := by decide +kernel
theorem dD_carriers_18 : decode bD_carriers 18 = .ok (.getfield 72, 3) := by decide +kernel
theorem dD_carriers_21 : decode bD_carriers 21 = .ok (.if_icmp .gt 10, 3) := by decide +kernel
theorem dD_carriers_24 : decode bD_carriers 24 = .ok (.iload_n 2, 1) := by decide +kernel
theorem dD_carriers_25 : decode bD_carriers 25 = .ok (.invokestatic 79, 3) := by decide +kernel
theorem dD_carriers_28 : decode bD_carriers 28 = .ok (.ifCond .eq 7, 3) := by decide +kernel
theorem dD_carriers_31 : decode bD_carriers 31 = .ok (.iconst 2, 1) := by decide +kernel
theorem dD_carriers_32 : decode bD_carriers 32 = .ok (.goto 4, 3) := by decide +kernel
theorem dD_carriers_35 : decode bD_carriers 35 = .ok (.iconst 0, 1) := by decide +kernel
theorem dD_carriers_36 : decode bD_carriers 36 = .ok (.putfield 68, 3) := by decide +kernel
theorem dD_carriers_39 : decode bD_carriers 39 = .ok (.aload_n 0, 1) := by decide +kernel
theorem dD_carriers_40 : decode bD_carriers 40 = .ok (.getfield 68, 3) := by decide +kernel
theorem dD_carriers_43 : decode bD_carriers 43 = .ok (.ifCond .gt 12, 3) := by decide +kernel
theorem dD_carriers_46 : decode bD_carriers 46 = .ok (.aload_n 0, 1) := by decide +kernel
theorem dD_carriers_47 : decode bD_carriers 47 = .ok (.getfield 35, 3) := by decide +kernel
theorem dD_carriers_50 : decode bD_carriers 50 = .ok (.iload_n 1, 1) := by decide +kernel
theorem dD_carriers_51 : decode bD_carriers 51 = .ok (.baload, 1) := by decide +kernel
theorem dD_carriers_52 : decode bD_carriers 52 = .ok (.ifCond .ne 7, 3) := by decide +kernel
theorem dD_carriers_55 : decode bD_carriers 55 = .ok (.iconst 0, 1) := by decide +kernel
theorem dD_carriers_56 : decode bD_carriers 56 = .ok (.goto 19, 3) := by decide +kernel
theorem dD_carriers_59 : decode bD_carriers 59 = .ok (.bipush 63, 2) := by decide +kernel
theorem dD_carriers_61 : decode bD_carriers 61 = .ok (.aload_n 0, 1) := by decide +kernel
theorem dD_carriers_62 : decode bD_carriers 62 = .ok (.getfield 44, 3) := by decide +kernel
theorem dD_carriers_65 : decode bD_carriers 65 = .ok (.bipush 9, 2) := by decide +kernel
theorem dD_carriers_67 : decode bD_carriers 67 = .ok (.iload_n 1, 1) := by decide +kernel
theorem dD_carriers_68 : decode bD_carriers 68 = .ok (.imul, 1) := by decide +kernel
theorem dD_carriers_69 : decode bD_carriers 69 = .ok (.iload_n 2, 1) := by decide +kernel
theorem dD_carriers_70 : decode bD_carriers 70 = .ok (.iadd, 1) := by decide +kernel
theorem dD_carriers_71 : decode bD_carriers 71 = .ok (.iaload, 1) := by decide +kernel
theorem dD_carriers_72 : decode bD_carriers 72 = .ok (.iconst (-1), 1) := by decide +kernel
theorem dD_carriers_73 : decode bD_carriers 73 = .ok (.ixor, 1) := by decide +kernel
theorem dD_carriers_74 : decode bD_carriers 74 = .ok (.iand, 1) := by decide +kernel
theorem dD_carriers_75 : decode bD_carriers 75 = .ok (.ireturn, 1) := by decide +kernel
theorem dD_restart_0 : decode bD_restart 0 = .ok (.aload_n 0, 1) := by decide +kernel
theorem dD_restart_1 : decode bD_restart 1 = .ok (.aload_n 0, 1) := by decide +kernel
theorem dD_restart_2 : decode bD_restart 2 = .ok (.getfield 75, 3) := by decide +kernel
theorem dD_restart_5 : decode bD_restart 5 = .ok (.ifCond .eq 7, 3) := by decide +kernel
theorem dD_restart_8 : decode bD_restart 8 = .ok (.iconst 0, 1) := by decide +kernel
theorem dD_restart_9 : decode bD_restart 9 = .ok (.goto 4, 3) := by decide +kernel
theorem dD_restart_12 : decode bD_restart 12 = .ok (.iconst 1, 1) := by decide +kernel
theorem dD_restart_13 : decode bD_restart 13 = .ok (.putfield 68, 3) := by decide +kernel
theorem dD_restart_16 : decode bD_restart 16 = .ok (.aload_n 0, 1) := by decide +kernel
theorem dD_restart_17 : decode bD_restart 17 = .ok (.getfield 75, 3) := by decide +kernel
theorem dD_restart_20 : decode bD_restart 20 = .ok (.ifCond .eq 7, 3) := by decide +kernel
theorem dD_restart_23 : decode bD_restart 23 = .ok (.aload_n 0, 1) := by decide +kernel
theorem dD_restart_24 : decode bD_restart 24 = .ok (.invokevirtual 143, 3) := by decide +kernel
theorem dD_restart_27 : decode bD_restart 27 = .ok (.return_, 1) := by decide +kernel
theorem dD_step_0 : decode bD_step 0 = .ok (.aload_n 0, 1) := by decide +kernel
theorem dD_step_1 : decode bD_step 1 = .ok (.aload_n 0, 1) := by decide +kernel
theorem dD_step_2 : decode bD_step 2 = .ok (.getfield 75, 3) := by decide +kernel
theorem dD_step_5 : decode bD_step 5 = .ok (.ifCond .eq 7, 3) := by decide +kernel
theorem dD_step_8 : decode bD_step 8 = .ok (.iconst 0, 1) := by decide +kernel
theorem dD_step_9 : decode bD_step 9 = .ok (.goto 4, 3) := by decide +kernel
theorem dD_step_12 : decode bD_step 12 = .ok (.iconst 1, 1) := by decide +kernel
theorem dD_step_13 : decode bD_step 13 = .ok (.putfield 68, 3) := by decide +kernel
theorem dD_step_16 : decode bD_step 16 = .ok (.aload_n 0, 1) := by decide +kernel
theorem dD_step_17 : decode bD_step 17 = .ok (.getfield 68, 3) := by decide +kernel
theorem dD_step_20 : decode bD_step 20 = .ok (.ifCond .le 5, 3) := by decide +kernel
theorem dD_step_23 : decode bD_step 23 = .ok (.iconst 0, 1) := by decide +kernel
theorem dD_step_24 : decode bD_step 24 = .ok (.ireturn, 1) := by decide +kernel
theorem dD_step_25 : decode bD_step 25 = .ok (.aload_n 0, 1) := by decide +kernel
theorem dD_step_26 : decode bD_step 26 = .ok (.getfield 156, 3) := by decide +kernel
theorem dD_step_29 : decode bD_step 29 = .ok (.aload_n 0, 1) := by decide +kernel
theorem dD_step_30 : decode bD_step 30 = .ok (.getfield 72, 3) := by decide +kernel
theorem dD_step_33 : decode bD_step 33 = .ok (.if_icmp .eq 13, 3) := by decide +kernel
theorem dD_step_36 : decode bD_step 36 = .ok (.aload_n 0, 1) := by decide +kernel
theorem dD_step_37 : decode bD_step 37 = .ok (.getfield 159, 3) := by decide +kernel
theorem dD_step_40 : decode bD_step 40 = .ok (.sipush 200, 3) := by decide +kernel
theorem dD_step_43 : decode bD_step 43 = .ok (.if_icmp .ne 5, 3) := by decide +kernel
theorem dD_step_46 : decode bD_step 46 = .ok (.iconst (-1), 1) := by decide +kernel
theorem dD_step_47 : decode bD_step 47 = .ok (.ireturn, 1) := by decide +kernel
theorem dD_step_48 : decode bD_step 48 = .ok (.aload_n 0, 1) := by decide +kernel
theorem dD_step_49 : decode bD_step 49 = .ok (.dup, 1) := by decide +kernel
theorem dD_step_50 : decode bD_step 50 = .ok (.getfield 159, 3) := by decide +kernel
theorem dD_step_53 : decode bD_step 53 = .ok (.iconst 1, 1) := by decide +kernel
theorem dD_step_54 : decode bD_step 54 = .ok (.iadd, 1) := by decide +kernel
theorem dD_step_55 : decode bD_step 55 = .ok (.putfield 159, 3) := by decide +kernel
theorem dD_step_58 : decode bD_step 58 = .ok (.aload_n 0, 1) := by decide +kernel
theorem dD_step_59 : decode bD_step 59 = .ok (.getfield 156, 3) := by decide +kernel
theorem dD_step_62 : decode bD_step 62 = .ok (.istore_n 1, 1) := by decide +kernel
theorem dD_step_63 : decode bD_step 63 = .ok (.aload_n 0, 1) := by decide +kernel
theorem dD_step_64 : decode bD_step 64 = .ok (.iload_n 1, 1) := by decide +kernel
theorem dD_step_65 : decode bD_step 65 = .ok (.iconst 0, 1) := by decide +kernel
theorem dD_step_66 : decode bD_step 66 = .ok (.invokevirtual 165, 3) := by decide +kernel
theorem dD_step_69 : decode bD_step 69 = .ok (.istore_n 2, 1) := by decide +kernel
theorem dD_step_70 : decode bD_step 70 = .ok (.aload_n 0, 1) := by decide +kernel
theorem dD_step_71 : decode bD_step 71 = .ok (.bipush 16, 2) := by decide +kernel
theorem dD_step_73 : decode bD_step 73 = .ok (.iload_n 1, 1) := by decide +kernel
theorem dD_step_74 : decode bD_step 74 = .ok (.iadd, 1) := by decide +kernel
theorem dD_step_75 : decode bD_step 75 = .ok (.bipush 6, 2) := by decide +kernel
theorem dD_step_77 : decode bD_step 77 = .ok (.invokevirtual 165, 3) := by decide +kernel
theorem dD_step_80 : decode bD_step 80 = .ok (.istore_n 3, 1) := by decide +kernel
theorem dD_step_81 : decode bD_step 81 = .ok (.aload_n 0, 1) := by decide +kernel
theorem dD_step_82 : decode bD_step 82 = .ok (.getfield 7, 3) := by decide +kernel
theorem dD_step_85 : decode bD_step 85 = .ok (.iload_n 1, 1) := by decide +kernel
theorem dD_step_86 : decode bD_step 86 = .ok (.iaload, 1) := by decide +kernel
theorem dD_step_87 : decode bD_step 87 = .ok (.iconst 3, 1) := by decide +kernel
theorem dD_step_88 : decode bD_step 88 = .ok (.if_icmp .ne 13, 3) := by decide +kernel
theorem dD_step_91 : decode bD_step 91 = .ok (.aload_n 0, 1) := by decide +kernel
theorem dD_step_92 : decode bD_step 92 = .ok (.dup, 1) := by decide +kernel
theorem dD_step_93 : decode bD_step 93 = .ok (.getfield 162, 3) := by decide +kernel
theorem dD_step_96 : decode bD_step 96 = .ok (.iconst 1, 1) := by decide +kernel
theorem dD_step_97 : decode bD_step 97 = .ok (.iadd, 1) := by decide +kernel
theorem dD_step_98 : decode bD_step 98 = .ok (.putfield 162, 3) := by decide +kernel
theorem dD_step_101 : decode bD_step 101 = .ok (.aload_n 0, 1) := by decide +kernel
theorem dD_step_102 : decode bD_step 102 = .ok (.getfield 7, 3) := by decide +kernel
theorem dD_step_105 : decode bD_step 105 = .ok (.iload_n 1, 1) := by decide +kernel
theorem dD_step_106 : decode bD_step 106 = .ok (.iaload, 1) := by decide +kernel
theorem dD_step_107 : decode bD_step 107 = .ok (.iconst 5, 1) := by decide +kernel
theorem dD_step_108 : decode bD_step 108 = .ok (.if_icmp .ne 37, 3) := by decide +kernel
theorem dD_step_111 : decode bD_step 111 = .ok (.aload_n 0, 1) := by decide +kernel
theorem dD_step_112 : decode bD_step 112 = .ok (.getfield 59, 3) := by decide +kernel
theorem dD_step_115 : decode bD_step 115 = .ok (.aload_n 0, 1) := by decide +kernel
theorem dD_step_116 : decode bD_step 116 = .ok (.getfield 13, 3) := by decide +kernel
theorem dD_step_119 : decode bD_step 119 = .ok (.iload_n 1, 1) := by decide +kernel
theorem dD_step_120 : decode bD_step 120 = .ok (.iaload, 1) := by decide +kernel
theorem dD_step_121 : decode bD_step 121 = .ok (.aload_n 0, 1) := by decide +kernel
theorem dD_step_122 : decode bD_step 122 = .ok (.getfield 56, 3) := by decide +kernel
theorem dD_step_125 : decode bD_step 125 = .ok (.aload_n 0, 1) := by decide +kernel
theorem dD_step_126 : decode bD_step 126 = .ok (.getfield 16, 3) := by decide +kernel
theorem dD_step_129 : decode bD_step 129 = .ok (.iload_n 1, 1) := by decide +kernel
theorem dD_step_130 : decode bD_step 130 = .ok (.iaload, 1) := by decide +kernel
theorem dD_step_131 : decode bD_step 131 = .ok (.iaload, 1) := by decide +kernel
theorem dD_step_132 : decode bD_step 132 = .ok (.iastore, 1) := by decide +kernel
theorem dD_step_133 : decode bD_step 133 = .ok (.aload_n 0, 1) := by decide +kernel
theorem dD_step_134 : decode bD_step 134 = .ok (.getfield 62, 3) := by decide +kernel
theorem dD_step_137 : decode bD_step 137 = .ok (.aload_n 0, 1) := by decide +kernel
theorem dD_step_138 : decode bD_step 138 = .ok (.getfield 13, 3) := by decide +kernel
theorem dD_step_141 : decode bD_step 141 = .ok (.iload_n 1, 1) := by decide +kernel
theorem dD_step_142 : decode bD_step 142 = .ok (.iaload, 1) := by decide +kernel
theorem dD_step_143 : decode bD_step 143 = .ok (.iconst 1, 1) := by decide +kernel
theorem dD_step_144 : decode bD_step 144 = .ok (.bastore, 1) := by decide +kernel
theorem dD_step_145 : decode bD_step 145 = .ok (.aload_n 0, 1) := by decide +kernel
theorem dD_step_146 : decode bD_step 146 = .ok (.iload_n 2, 1) := by decide +kernel
theorem dD_step_147 : decode bD_step 147 = .ok (.ifCond .eq 11, 3) := by decide +kernel
theorem dD_step_150 : decode bD_step 150 = .ok (.aload_n 0, 1) := by decide +kernel
theorem dD_step_151 : decode bD_step 151 = .ok (.iload_n 1, 1) := by decide +kernel
theorem dD_step_152 : decode bD_step 152 = .ok (.invokevirtual 97, 3) := by decide +kernel
theorem dD_step_155 : decode bD_step 155 = .ok (.goto 6, 3) := by decide +kernel
theorem dD_step_158 : decode bD_step 158 = .ok (.iload_n 1, 1) := by decide +kernel
theorem dD_step_159 : decode bD_step 159 = .ok (.iconst 1, 1) := by decide +kernel
theorem dD_step_160 : decode bD_step 160 = .ok (.iadd, 1) := by decide +kernel
theorem dD_step_161 : decode bD_step 161 = .ok (.putfield 156, 3) := by decide +kernel
theorem dD_step_164 : decode bD_step 164 = .ok (.aload_n 0, 1) := by decide +kernel
theorem dD_step_165 : decode bD_step 165 = .ok (.getfield 156, 3) := by decide +kernel
theorem dD_step_168 : decode bD_step 168 = .ok (.ireturn, 1) := by decide +kernel
theorem dD_does_0 : decode bD_does 0 = .ok (.iload_n 2, 1) := by decide +kernel
theorem dD_does_1 : decode bD_does 1 = .ok (.aload_n 0, 1) := by decide +kernel
theorem dD_does_2 : decode bD_does 2 = .ok (.getfield 13, 3) := by decide +kernel
theorem dD_does_5 : decode bD_does 5 = .ok (.iload_n 1, 1) := by decide +kernel
theorem dD_does_6 : decode bD_does 6 = .ok (.iaload, 1) := by decide +kernel
theorem dD_does_7 : decode bD_does 7 = .ok (.iadd, 1) := by decide +kernel
theorem dD_does_8 : decode bD_does 8 = .ok (.istore_n 3, 1) := by decide +kernel
theorem dD_does_9 : decode bD_does 9 = .ok (.aload_n 0, 1) := by decide +kernel
theorem dD_does_10 : decode bD_does 10 = .ok (.getfield 7, 3) := by decide +kernel
theorem dD_does_13 : decode bD_does 13 = .ok (.iload_n 1, 1) := by decide +kernel
theorem dD_does_14 : decode bD_does 14 = .ok (.iaload, 1) := by decide +kernel
theorem dD_does_15 : decode bD_does 15 = .ok (.tableswitch 147 0 4 #[33, 47, 68, 103, 132], 33) := by decide +kernel
theorem dD_does_48 : decode bD_does 48 = .ok (.aload_n 0, 1) := by decide +kernel
theorem dD_does_49 : decode bD_does 49 = .ok (.getfield 56, 3) := by decide +kernel
theorem dD_does_52 : decode bD_does 52 = .ok (.iload_n 3, 1) := by decide +kernel
theorem dD_does_53 : decode bD_does 53 = .ok (.aload_n 0, 1) := by decide +kernel
theorem dD_does_54 : decode bD_does 54 = .ok (.getfield 16, 3) := by decide +kernel
theorem dD_does_57 : decode bD_does 57 = .ok (.iload_n 1, 1) := by decide +kernel
theorem dD_does_58 : decode bD_does 58 = .ok (.iaload, 1) := by decide +kernel
theorem dD_does_59 : decode bD_does 59 = .ok (.iastore, 1) := by decide +kernel
theorem dD_does_60 : decode bD_does 60 = .ok (.iconst 0, 1) := by decide +kernel
theorem dD_does_61 : decode bD_does 61 = .ok (.ireturn, 1) := by decide +kernel
theorem dD_does_62 : decode bD_does 62 = .ok (.aload_n 0, 1) := by decide +kernel
theorem dD_does_63 : decode bD_does 63 = .ok (.getfield 56, 3) := by decide +kernel
theorem dD_does_66 : decode bD_does 66 = .ok (.iload_n 3, 1) := by decide +kernel
theorem dD_does_67 : decode bD_does 67 = .ok (.aload_n 0, 1) := by decide +kernel
theorem dD_does_68 : decode bD_does 68 = .ok (.getfield 56, 3) := by decide +kernel
theorem dD_does_71 : decode bD_does 71 = .ok (.iload_n 2, 1) := by decide +kernel
theorem dD_does_72 : decode bD_does 72 = .ok (.aload_n 0, 1) := by decide +kernel
theorem dD_does_73 : decode bD_does 73 = .ok (.getfield 16, 3) := by decide +kernel
theorem dD_does_76 : decode bD_does 76 = .ok (.iload_n 1, 1) := by decide +kernel
theorem dD_does_77 : decode bD_does 77 = .ok (.iaload, 1) := by decide +kernel
theorem dD_does_78 : decode bD_does 78 = .ok (.iadd, 1) := by decide +kernel
theorem dD_does_79 : decode bD_does 79 = .ok (.iaload, 1) := by decide +kernel
theorem dD_does_80 : decode bD_does 80 = .ok (.iastore, 1) := by decide +kernel
theorem dD_does_81 : decode bD_does 81 = .ok (.iconst 0, 1) := by decide +kernel
theorem dD_does_82 : decode bD_does 82 = .ok (.ireturn, 1) := by decide +kernel
theorem dD_does_83 : decode bD_does 83 = .ok (.aload_n 0, 1) := by decide +kernel
theorem dD_does_84 : decode bD_does 84 = .ok (.getfield 56, 3) := by decide +kernel
theorem dD_does_87 : decode bD_does 87 = .ok (.iload_n 3, 1) := by decide +kernel
theorem dD_does_88 : decode bD_does 88 = .ok (.aload_n 0, 1) := by decide +kernel
theorem dD_does_89 : decode bD_does 89 = .ok (.getfield 56, 3) := by decide +kernel
theorem dD_does_92 : decode bD_does 92 = .ok (.iload_n 2, 1) := by decide +kernel
theorem dD_does_93 : decode bD_does 93 = .ok (.aload_n 0, 1) := by decide +kernel
theorem dD_does_94 : decode bD_does 94 = .ok (.getfield 16, 3) := by decide +kernel
theorem dD_does_97 : decode bD_does 97 = .ok (.iload_n 1, 1) := by decide +kernel
theorem dD_does_98 : decode bD_does 98 = .ok (.iaload, 1) := by decide +kernel
theorem dD_does_99 : decode bD_does 99 = .ok (.iadd, 1) := by decide +kernel
theorem dD_does_100 : decode bD_does 100 = .ok (.iaload, 1) := by decide +kernel
theorem dD_does_101 : decode bD_does 101 = .ok (.aload_n 0, 1) := by decide +kernel
theorem dD_does_102 : decode bD_does 102 = .ok (.getfield 56, 3) := by decide +kernel
theorem dD_does_105 : decode bD_does 105 = .ok (.iload_n 2, 1) := by decide +kernel
theorem dD_does_106 : decode bD_does 106 = .ok (.aload_n 0, 1) := by decide +kernel
theorem dD_does_107 : decode bD_does 107 = .ok (.getfield 19, 3) := by decide +kernel
theorem dD_does_110 : decode bD_does 110 = .ok (.iload_n 1, 1) := by decide +kernel
theorem dD_does_111 : decode bD_does 111 = .ok (.iaload, 1) := by decide +kernel
theorem dD_does_112 : decode bD_does 112 = .ok (.iadd, 1) := by decide +kernel
theorem dD_does_113 : decode bD_does 113 = .ok (.iaload, 1) := by decide +kernel
theorem dD_does_114 : decode bD_does 114 = .ok (.iadd, 1) := by decide +kernel
theorem dD_does_115 : decode bD_does 115 = .ok (.iastore, 1) := by decide +kernel
theorem dD_does_116 : decode bD_does 116 = .ok (.iconst 0, 1) := by decide +kernel
theorem dD_does_117 : decode bD_does 117 = .ok (.ireturn, 1) := by decide +kernel
theorem dD_does_118 : decode bD_does 118 = .ok (.aload_n 0, 1) := by decide +kernel
theorem dD_does_119 : decode bD_does 119 = .ok (.getfield 65, 3) := by decide +kernel
theorem dD_does_122 : decode bD_does 122 = .ok (.iconst 2, 1) := by decide +kernel
theorem dD_does_123 : decode bD_does 123 = .ok (.aload_n 0, 1) := by decide +kernel
theorem dD_does_124 : decode bD_does 124 = .ok (.getfield 162, 3) := by decide +kernel
theorem dD_does_127 : decode bD_does 127 = .ok (.imul, 1) := by decide +kernel
theorem dD_does_128 : decode bD_does 128 = .ok (.iload_n 2, 1) := by decide +kernel
theorem dD_does_129 : decode bD_does 129 = .ok (.ifCond .le 7, 3) := by decide +kernel
theorem dD_does_132 : decode bD_does 132 = .ok (.iconst 1, 1) := by decide +kernel
theorem dD_does_133 : decode bD_does 133 = .ok (.goto 4, 3) := by decide +kernel
theorem dD_does_136 : decode bD_does 136 = .ok (.iconst 0, 1) := by decide +kernel
theorem dD_does_137 : decode bD_does 137 = .ok (.iadd, 1) := by decide +kernel
theorem dD_does_138 : decode bD_does 138 = .ok (.aload_n 0, 1) := by decide +kernel
theorem dD_does_139 : decode bD_does 139 = .ok (.getfield 56, 3) := by decide +kernel
theorem dD_does_142 : decode bD_does 142 = .ok (.iload_n 3, 1) := by decide +kernel
theorem dD_does_143 : decode bD_does 143 = .ok (.iaload, 1) := by decide +kernel
theorem dD_does_144 : decode bD_does 144 = .ok (.iastore, 1) := by decide +kernel
theorem dD_does_145 : decode bD_does 145 = .ok (.iconst 0, 1) := by decide +kernel
theorem dD_does_146 : decode bD_does 146 = .ok (.ireturn, 1) := by decide +kernel
theorem dD_does_147 : decode bD_does 147 = .ok (.aload_n 0, 1) := by decide +kernel
theorem dD_does_148 : decode bD_does 148 = .ok (.getfield 56, 3) := by decide +kernel
theorem dD_does_151 : decode bD_does 151 = .ok (.iload_n 3, 1) := by decide +kernel
theorem dD_does_152 : decode bD_does 152 = .ok (.iaload, 1) := by decide +kernel
theorem dD_does_153 : decode bD_does 153 = .ok (.ifCond .ne 7, 3) := by decide +kernel
theorem dD_does_156 : decode bD_does 156 = .ok (.iconst 1, 1) := by decide +kernel
theorem dD_does_157 : decode bD_does 157 = .ok (.goto 4, 3) := by decide +kernel
theorem dD_does_160 : decode bD_does 160 = .ok (.iconst 0, 1) := by decide +kernel
theorem dD_does_161 : decode bD_does 161 = .ok (.ireturn, 1) := by decide +kernel
theorem dD_does_162 : decode bD_does 162 = .ok (.iconst 0, 1) := by decide +kernel
theorem dD_does_163 : decode bD_does 163 = .ok (.ireturn, 1) := by decide +kernel
theorem dD_line_0 : decode bD_line 0 = .ok (.aload_n 0, 1) := by decide +kernel
theorem dD_line_1 : decode bD_line 1 = .ok (.aload_n 0, 1) := by decide +kernel
theorem dD_line_2 : decode bD_line 2 = .ok (.getfield 75, 3) := by decide +kernel
theorem dD_line_5 : decode bD_line 5 = .ok (.ifCond .eq 7, 3) := by decide +kernel
theorem dD_line_8 : decode bD_line 8 = .ok (.iconst 0, 1) := by decide +kernel
theorem dD_line_9 : decode bD_line 9 = .ok (.goto 4, 3) := by decide +kernel
theorem dD_line_12 : decode bD_line 12 = .ok (.iconst 1, 1) := by decide +kernel
theorem dD_line_13 : decode bD_line 13 = .ok (.putfield 68, 3) := by decide +kernel
theorem dD_line_16 : decode bD_line 16 = .ok (.aload_n 0, 1) := by decide +kernel
theorem dD_line_17 : decode bD_line 17 = .ok (.getfield 68, 3) := by decide +kernel
theorem dD_line_20 : decode bD_line 20 = .ok (.ifCond .le 7, 3) := by decide +kernel
theorem dD_line_23 : decode bD_line 23 = .ok (.iconst 0, 1) := by decide +kernel
theorem dD_line_24 : decode bD_line 24 = .ok (.goto 7, 3) := by decide +kernel
theorem dD_line_27 : decode bD_line 27 = .ok (.aload_n 0, 1) := by decide +kernel
theorem dD_line_28 : decode bD_line 28 = .ok (.getfield 156, 3) := by decide +kernel
theorem dD_line_31 : decode bD_line 31 = .ok (.ireturn, 1) := by decide +kernel
theorem dD_register_0 : decode bD_register 0 = .ok (.aload_n 0, 1) := by decide +kernel
theorem dD_register_1 : decode bD_register 1 = .ok (.aload_n 0, 1) := by decide +kernel
theorem dD_register_2 : decode bD_register 2 = .ok (.getfield 75, 3) := by decide +kernel
theorem dD_register_5 : decode bD_register 5 = .ok (.ifCond .ne 7, 3) := by decide +kernel
theorem dD_register_8 : decode bD_register 8 = .ok (.iconst 1, 1) := by decide +kernel
theorem dD_register_9 : decode bD_register 9 = .ok (.goto 15, 3) := by decide +kernel
theorem dD_register_12 : decode bD_register 12 = .ok (.iload_n 1, 1) := by decide +kernel
theorem dD_register_13 : decode bD_register 13 = .ok (.invokestatic 79, 3) := by decide +kernel
theorem dD_register_16 : decode bD_register 16 = .ok (.ifCond .eq 7, 3) := by decide +kernel
theorem dD_register_19 : decode bD_register 19 = .ok (.iconst 2, 1) := by decide +kernel
theorem dD_register_20 : decode bD_register 20 = .ok (.goto 4, 3) := by decide +kernel
theorem dD_register_23 : decode bD_register 23 = .ok (.iconst 0, 1) := by decide +kernel
theorem dD_register_24 : decode bD_register 24 = .ok (.putfield 68, 3) := by decide +kernel
theorem dD_register_27 : decode bD_register 27 = .ok (.aload_n 0, 1) := by decide +kernel
theorem dD_register_28 : decode bD_register 28 = .ok (.getfield 68, 3) := by decide +kernel
theorem dD_register_31 : decode bD_register 31 = .ok (.ifCond .le 7, 3) := by decide +kernel
theorem dD_register_34 : decode bD_register 34 = .ok (.iconst 0, 1) := by decide +kernel
theorem dD_register_35 : decode bD_register 35 = .ok (.goto 20, 3) := by decide +kernel
theorem dD_register_38 : decode bD_register 38 = .ok (.aload_n 0, 1) := by decide +kernel
theorem dD_register_39 : decode bD_register 39 = .ok (.getfield 56, 3) := by decide +kernel
theorem dD_register_42 : decode bD_register 42 = .ok (.iload_n 2, 1) := by decide +kernel
theorem dD_register_43 : decode bD_register 43 = .ok (.ifCond .eq 10, 3) := by decide +kernel
theorem dD_register_46 : decode bD_register 46 = .ok (.bipush 6, 2) := by decide +kernel
theorem dD_register_48 : decode bD_register 48 = .ok (.iload_n 1, 1) := by decide +kernel
theorem dD_register_49 : decode bD_register 49 = .ok (.iadd, 1) := by decide +kernel
theorem dD_register_50 : decode bD_register 50 = .ok (.goto 4, 3) := by decide +kernel
theorem dD_register_53 : decode bD_register 53 = .ok (.iload_n 1, 1) := by decide +kernel
theorem dD_register_54 : decode bD_register 54 = .ok (.iaload, 1) := by decide +kernel
theorem dD_register_55 : decode bD_register 55 = .ok (.ireturn, 1) := by decide +kernel
theorem dD_output_0 : decode bD_output 0 = .ok (.aload_n 0, 1) := by decide +kernel
theorem dD_output_1 : decode bD_output 1 = .ok (.aload_n 0, 1) := by decide +kernel
theorem dD_output_2 : decode bD_output 2 = .ok (.getfield 75, 3) := by decide +kernel
theorem dD_output_5 : decode bD_output 5 = .ok (.ifCond .ne 7, 3) := by decide +kernel
theorem dD_output_8 : decode bD_output 8 = .ok (.iconst 1, 1) := by decide +kernel
theorem dD_output_9 : decode bD_output 9 = .ok (.goto 20, 3) := by decide +kernel
theorem dD_output_12 : decode bD_output 12 = .ok (.iload_n 1, 1) := by decide +kernel
theorem dD_output_13 : decode bD_output 13 = .ok (.ifCond .lt 11, 3) := by decide +kernel
theorem dD_output_16 : decode bD_output 16 = .ok (.iload_n 1, 1) := by decide +kernel
theorem dD_output_17 : decode bD_output 17 = .ok (.aload_n 0, 1) := by decide +kernel
theorem dD_output_18 : decode bD_output 18 = .ok (.getfield 162, 3) := by decide +kernel
theorem dD_output_21 : decode bD_output 21 = .ok (.if_icmp .lt 7, 3) := by decide +kernel
theorem dD_output_24 : decode bD_output 24 = .ok (.iconst 2, 1) := by decide +kernel
theorem dD_output_25 : decode bD_output 25 = .ok (.goto 4, 3) := by decide +kernel
theorem dD_output_28 : decode bD_output 28 = .ok (.iconst 0, 1) := by decide +kernel
theorem dD_output_29 : decode bD_output 29 = .ok (.putfield 68, 3) := by decide +kernel
theorem dD_output_32 : decode bD_output 32 = .ok (.aload_n 0, 1) := by decide +kernel
theorem dD_output_33 : decode bD_output 33 = .ok (.getfield 68, 3) := by decide +kernel
theorem dD_output_36 : decode bD_output 36 = .ok (.ifCond .le 7, 3) := by decide +kernel
theorem dD_output_39 : decode bD_output 39 = .ok (.iconst 0, 1) := by decide +kernel
theorem dD_output_40 : decode bD_output 40 = .ok (.goto 21, 3) := by decide +kernel
theorem dD_output_43 : decode bD_output 43 = .ok (.aload_n 0, 1) := by decide +kernel
theorem dD_output_44 : decode bD_output 44 = .ok (.getfield 65, 3) := by decide +kernel
theorem dD_output_47 : decode bD_output 47 = .ok (.iconst 2, 1) := by decide +kernel
theorem dD_output_48 : decode bD_output 48 = .ok (.iload_n 1, 1) := by decide +kernel
theorem dD_output_49 : decode bD_output 49 = .ok (.imul, 1) := by decide +kernel
theorem dD_output_50 : decode bD_output 50 = .ok (.iload_n 2, 1) := by decide +kernel
theorem dD_output_51 : decode bD_output 51 = .ok (.ifCond .eq 7, 3) := by decide +kernel
theorem dD_output_54 : decode bD_output 54 = .ok (.iconst 1, 1) := by decide +kernel
theorem dD_output_55 : decode bD_output 55 = .ok (.goto 4, 3) := by decide +kernel
theorem dD_output_58 : decode bD_output 58 = .ok (.iconst 0, 1) := by decide +kernel
theorem dD_output_59 : decode bD_output 59 = .ok (.iadd, 1) := by decide +kernel
theorem dD_output_60 : decode bD_output 60 = .ok (.iaload, 1) := by decide +kernel
theorem dD_output_61 : decode bD_output 61 = .ok (.ireturn, 1) := by decide +kernel
theorem dD_value_0 : decode bD_value 0 = .ok (.aload_n 0, 1) := by decide +kernel
theorem dD_value_1 : decode bD_value 1 = .ok (.aload_n 0, 1) := by decide +kernel
theorem dD_value_2 : decode bD_value 2 = .ok (.getfield 75, 3) := by decide +kernel
theorem dD_value_5 : decode bD_value 5 = .ok (.ifCond .ne 7, 3) := by decide +kernel
theorem dD_value_8 : decode bD_value 8 = .ok (.iconst 1, 1) := by decide +kernel
theorem dD_value_9 : decode bD_value 9 = .ok (.goto 30, 3) := by decide +kernel
theorem dD_value_12 : decode bD_value 12 = .ok (.iload_n 1, 1) := by decide +kernel
theorem dD_value_13 : decode bD_value 13 = .ok (.ifCond .lt 8, 3) := by decide +kernel
theorem dD_value_16 : decode bD_value 16 = .ok (.iload_n 1, 1) := by decide +kernel
theorem dD_value_17 : decode bD_value 17 = .ok (.iconst 2, 1) := by decide +kernel
theorem dD_value_18 : decode bD_value 18 = .ok (.if_icmp .le 7, 3) := by decide +kernel
theorem dD_value_21 : decode bD_value 21 = .ok (.iconst 2, 1) := by decide +kernel
theorem dD_value_22 : decode bD_value 22 = .ok (.goto 17, 3) := by decide +kernel
theorem dD_value_25 : decode bD_value 25 = .ok (.aload_n 0, 1) := by decide +kernel
theorem dD_value_26 : decode bD_value 26 = .ok (.getfield 62, 3) := by decide +kernel
theorem dD_value_29 : decode bD_value 29 = .ok (.iload_n 1, 1) := by decide +kernel
theorem dD_value_30 : decode bD_value 30 = .ok (.baload, 1) := by decide +kernel
theorem dD_value_31 : decode bD_value 31 = .ok (.ifCond .ne 7, 3) := by decide +kernel
theorem dD_value_34 : decode bD_value 34 = .ok (.iconst 1, 1) := by decide +kernel
theorem dD_value_35 : decode bD_value 35 = .ok (.goto 4, 3) := by decide +kernel
theorem dD_value_38 : decode bD_value 38 = .ok (.iconst 0, 1) := by decide +kernel
theorem dD_value_39 : decode bD_value 39 = .ok (.putfield 68, 3) := by decide +kernel
theorem dD_value_42 : decode bD_value 42 = .ok (.aload_n 0, 1) := by decide +kernel
theorem dD_value_43 : decode bD_value 43 = .ok (.getfield 68, 3) := by decide +kernel
theorem dD_value_46 : decode bD_value 46 = .ok (.ifCond .le 7, 3) := by decide +kernel
theorem dD_value_49 : decode bD_value 49 = .ok (.iconst 0, 1) := by decide +kernel
theorem dD_value_50 : decode bD_value 50 = .ok (.goto 9, 3) := by decide +kernel
theorem dD_value_53 : decode bD_value 53 = .ok (.aload_n 0, 1) := by decide +kernel
theorem dD_value_54 : decode bD_value 54 = .ok (.getfield 59, 3) := by decide +kernel
theorem dD_value_57 : decode bD_value 57 = .ok (.iload_n 1, 1) := by decide +kernel
theorem dD_value_58 : decode bD_value 58 = .ok (.iaload, 1) := by decide +kernel
theorem dD_value_59 : decode bD_value 59 = .ok (.ireturn, 1) := by decide +kernel
theorem dD_read_0 : decode bD_read 0 = .ok (.aload_n 0, 1) := by decide +kernel
theorem dD_read_1 : decode bD_read 1 = .ok (.aload_n 0, 1) := by decide +kernel
theorem dD_read_2 : decode bD_read 2 = .ok (.getfield 75, 3) := by decide +kernel
theorem dD_read_5 : decode bD_read 5 = .ok (.ifCond .ne 7, 3) := by decide +kernel
theorem dD_read_8 : decode bD_read 8 = .ok (.iconst 1, 1) := by decide +kernel
theorem dD_read_9 : decode bD_read 9 = .ok (.goto 17, 3) := by decide +kernel
theorem dD_read_12 : decode bD_read 12 = .ok (.iload_n 1, 1) := by decide +kernel
theorem dD_read_13 : decode bD_read 13 = .ok (.ifCond .lt 8, 3) := by decide +kernel
theorem dD_read_16 : decode bD_read 16 = .ok (.iload_n 1, 1) := by decide +kernel
theorem dD_read_17 : decode bD_read 17 = .ok (.iconst 2, 1) := by decide +kernel
theorem dD_read_18 : decode bD_read 18 = .ok (.if_icmp .le 7, 3) := by decide +kernel
theorem dD_read_21 : decode bD_read 21 = .ok (.iconst 2, 1) := by decide +kernel
theorem dD_read_22 : decode bD_read 22 = .ok (.goto 4, 3) := by decide +kernel
theorem dD_read_25 : decode bD_read 25 = .ok (.iconst 0, 1) := by decide +kernel
theorem dD_read_26 : decode bD_read 26 = .ok (.putfield 68, 3) := by decide +kernel
theorem dD_read_29 : decode bD_read 29 = .ok (.aload_n 0, 1) := by decide +kernel
theorem dD_read_30 : decode bD_read 30 = .ok (.getfield 68, 3) := by decide +kernel
theorem dD_read_33 : decode bD_read 33 = .ok (.ifCond .le 5, 3) := by decide +kernel
theorem dD_read_36 : decode bD_read 36 = .ok (.iconst 0, 1) := by decide +kernel
theorem dD_read_37 : decode bD_read 37 = .ok (.ireturn, 1) := by decide +kernel
theorem dD_read_38 : decode bD_read 38 = .ok (.aload_n 0, 1) := by decide +kernel
theorem dD_read_39 : decode bD_read 39 = .ok (.aload_n 0, 1) := by decide +kernel
theorem dD_read_40 : decode bD_read 40 = .ok (.getfield 156, 3) := by decide +kernel
theorem dD_read_43 : decode bD_read 43 = .ok (.iload_n 1, 1) := by decide +kernel
theorem dD_read_44 : decode bD_read 44 = .ok (.invokevirtual 152, 3) := by decide +kernel
theorem dD_read_47 : decode bD_read 47 = .ok (.istore_n 2, 1) := by decide +kernel
theorem dD_read_48 : decode bD_read 48 = .ok (.iload_n 2, 1) := by decide +kernel
theorem dD_read_49 : decode bD_read 49 = .ok (.iconst (-1), 1) := by decide +kernel
theorem dD_read_50 : decode bD_read 50 = .ok (.if_icmp .ne 10, 3) := by decide +kernel
theorem dD_read_53 : decode bD_read 53 = .ok (.aload_n 0, 1) := by decide +kernel
theorem dD_read_54 : decode bD_read 54 = .ok (.iconst 3, 1) := by decide +kernel
theorem dD_read_55 : decode bD_read 55 = .ok (.putfield 68, 3) := by decide +kernel
theorem dD_read_58 : decode bD_read 58 = .ok (.iconst 0, 1) := by decide +kernel
theorem dD_read_59 : decode bD_read 59 = .ok (.ireturn, 1) := by decide +kernel
theorem dD_read_60 : decode bD_read 60 = .ok (.iload_n 2, 1) := by decide +kernel
theorem dD_read_61 : decode bD_read 61 = .ok (.bipush 6, 2) := by decide +kernel
theorem dD_read_63 : decode bD_read 63 = .ok (.if_icmp .ge 13, 3) := by decide +kernel
theorem dD_read_66 : decode bD_read 66 = .ok (.aload_n 0, 1) := by decide +kernel
theorem dD_read_67 : decode bD_read 67 = .ok (.getfield 56, 3) := by decide +kernel
theorem dD_read_70 : decode bD_read 70 = .ok (.bipush 6, 2) := by decide +kernel
theorem dD_read_72 : decode bD_read 72 = .ok (.iload_n 2, 1) := by decide +kernel
theorem dD_read_73 : decode bD_read 73 = .ok (.iadd, 1) := by decide +kernel
theorem dD_read_74 : decode bD_read 74 = .ok (.iaload, 1) := by decide +kernel
theorem dD_read_75 : decode bD_read 75 = .ok (.ireturn, 1) := by decide +kernel
theorem dD_read_76 : decode bD_read 76 = .ok (.aload_n 0, 1) := by decide +kernel
theorem dD_read_77 : decode bD_read 77 = .ok (.bipush 9, 2) := by decide +kernel
theorem dD_read_79 : decode bD_read 79 = .ok (.aload_n 0, 1) := by decide +kernel
theorem dD_read_80 : decode bD_read 80 = .ok (.getfield 156, 3) := by decide +kernel
theorem dD_read_83 : decode bD_read 83 = .ok (.imul, 1) := by decide +kernel
theorem dD_read_84 : decode bD_read 84 = .ok (.bipush 6, 2) := by decide +kernel
theorem dD_read_86 : decode bD_read 86 = .ok (.iadd, 1) := by decide +kernel
theorem dD_read_87 : decode bD_read 87 = .ok (.iload_n 1, 1) := by decide +kernel
theorem dD_read_88 : decode bD_read 88 = .ok (.iadd, 1) := by decide +kernel
theorem dD_read_89 : decode bD_read 89 = .ok (.invokevirtual 149, 3) := by decide +kernel
theorem dD_read_92 : decode bD_read 92 = .ok (.istore_n 3, 1) := by decide +kernel
theorem dD_read_93 : decode bD_read 93 = .ok (.aload_n 0, 1) := by decide +kernel
theorem dD_read_94 : decode bD_read 94 = .ok (.getfield 146, 3) := by decide +kernel
theorem dD_read_97 : decode bD_read 97 = .ok (.ireturn, 1) := by decide +kernel
def tc_KI (F : Int32 → tc_S → Prop) : Outcome → tc_S → Prop := fun o v => ∃ r, o = .returned (some (.int r)) ∧ F r v
def tc_KV (F : tc_S → Prop) : Outcome → tc_S → Prop := fun o v => o = .returned none ∧ F v
theorem tc_up_v {u : tc_S} {k i k' j : Nat} {x : Int32} : tc_up u k i x k' j = if k' = k then (if j = i then x else u k j) else u k' j := by
  unfold tc_up
  by_cases h : k' = k
  · rw [if_pos h, if_pos h]; unfold upd; rfl
  · rw [if_neg h, if_neg h]
section TV2
variable {X : tc_X} {G : tc_G} {p : Program} {l : Launch} {e : Env} {R : Room} {s : State} {m : MethodId} {args : Array Value} {below : List Frame} {meth : Method} {c : Code}
variable {cc : ByteArray} {nL : Nat} {Ts : List Cond} {own : String} {ret : Option FieldType} {hh : List (Nat × Nat × Nat × Nat)} {Q : State → Prop} {cells slots : Nat} {u : tc_S} {pc : Nat} {lv : List (Option Value)} {rest : List Value}
theorem tv_callVI {b ci N index maxL n : Nat} {fl : List Nat} {C : String} {T : u_T} {y : MethodName} {ws : List Cond} {rm : Room} {bytes : ByteArray} {ret' : Option FieldType} (As : List Value) {F : Int32 → tc_S → Prop} (hk0 : X.1[b]? = some (4, ci, fl)) (hc0 : X.2.1[ci]? = some (C, T, N)) (hC : tc_C X G l y ws rm 0 0 (.ref (tc_ad G b) :: As) u (tc_KI F)) (cw : (∀ w ∈ Ts, w.before args s = true) → CallW R s args own C index y bytes maxL ret' ws rm 0 0 n) (hn : As.length = n) (hW : (rest.map fun v => v.category).sum ≤ 8) (d : decode cc pc = .ok (.invokevirtual index, 3)) (hf : cells + 0 ≤ R.cells ∧ slots + 0 ≤ R.slots) (kk : ∀ (r : Int32) (u' : tc_S), F r u' → tc_V X G p l e R s m args below meth c cc nL Ts own ret hh Q cells slots u' (pc + 3) lv (.int r :: rest)) : tc_V X G p l e R s m args below meth c cc nL Ts own ret hh Q cells slots u pc lv (As.reverse ++ .ref (tc_ad G b) :: rest) :=
  tv_callV_g As hk0 hc0 hC cw hn hW d hf (fun v u2 hK => by obtain ⟨r, h1, h2⟩ := hK; cases h1; exact kk r u2 h2)
theorem tv_callVV {b ci N index maxL n : Nat} {fl : List Nat} {C : String} {T : u_T} {y : MethodName} {ws : List Cond} {rm : Room} {bytes : ByteArray} {ret' : Option FieldType} (As : List Value) {F : tc_S → Prop} (hk0 : X.1[b]? = some (4, ci, fl)) (hc0 : X.2.1[ci]? = some (C, T, N)) (hC : tc_C X G l y ws rm 0 0 (.ref (tc_ad G b) :: As) u (tc_KV F)) (cw : (∀ w ∈ Ts, w.before args s = true) → CallW R s args own C index y bytes maxL ret' ws rm 0 0 n) (hn : As.length = n) (hW : (rest.map fun v => v.category).sum ≤ 8) (d : decode cc pc = .ok (.invokevirtual index, 3)) (hf : cells + 0 ≤ R.cells ∧ slots + 0 ≤ R.slots) (kk : ∀ (u' : tc_S), F u' → tc_V X G p l e R s m args below meth c cc nL Ts own ret hh Q cells slots u' (pc + 3) lv rest) : tc_V X G p l e R s m args below meth c cc nL Ts own ret hh Q cells slots u pc lv (As.reverse ++ .ref (tc_ad G b) :: rest) :=
  tv_callV_g As hk0 hc0 hC cw hn hW d hf (fun v u2 hK => by obtain ⟨h1, h2⟩ := hK; cases h1; exact kk u2 h2)
end TV2
