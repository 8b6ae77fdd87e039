theorem dL_set_0 : decode bL_set 0 = .ok (.aload_n 3, 1) := by decide +kernel
theorem dL_set_1 : decode bL_set 1 = .ok (.iconst 0, 1) := by decide +kernel
theorem dL_set_2 : decode bL_set 2 = .ok (.aload_n 0, 1) := by decide +kernel
theorem dL_set_3 : decode bL_set 3 = .ok (.iload_n 1, 1) := by decide +kernel
theorem dL_set_4 : decode bL_set 4 = .ok (.iload_n 2, 1) := by decide +kernel
theorem dL_set_5 : decode bL_set 5 = .ok (.invokevirtual 7, 3) := by decide +kernel
theorem dL_set_8 : decode bL_set 8 = .ok (.i2l, 1) := by decide +kernel
theorem dL_set_9 : decode bL_set 9 = .ok (.lastore, 1) := by decide +kernel
theorem dL_set_10 : decode bL_set 10 = .ok (.goto 11, 3) := by decide +kernel
theorem dL_set_13 : decode bL_set 13 = .ok (.astore 4, 2) := by decide +kernel
theorem dL_set_15 : decode bL_set 15 = .ok (.iconst 1, 1) := by decide +kernel
theorem dL_set_16 : decode bL_set 16 = .ok (.ireturn, 1) := by decide +kernel
theorem dL_set_17 : decode bL_set 17 = .ok (.astore 4, 2) := by decide +kernel
theorem dL_set_19 : decode bL_set 19 = .ok (.iconst 2, 1) := by decide +kernel
theorem dL_set_20 : decode bL_set 20 = .ok (.ireturn, 1) := by decide +kernel
theorem dL_set_21 : decode bL_set 21 = .ok (.iconst 0, 1) := by decide +kernel
theorem dL_set_22 : decode bL_set 22 = .ok (.ireturn, 1) := by decide +kernel
theorem dL_copy_0 : decode bL_copy 0 = .ok (.aload_n 3, 1) := by decide +kernel
theorem dL_copy_1 : decode bL_copy 1 = .ok (.iconst 0, 1) := by decide +kernel
theorem dL_copy_2 : decode bL_copy 2 = .ok (.aload_n 0, 1) := by decide +kernel
theorem dL_copy_3 : decode bL_copy 3 = .ok (.iload_n 1, 1) := by decide +kernel
theorem dL_copy_4 : decode bL_copy 4 = .ok (.iload_n 2, 1) := by decide +kernel
theorem dL_copy_5 : decode bL_copy 5 = .ok (.invokevirtual 17, 3) := by decide +kernel
theorem dL_copy_8 : decode bL_copy 8 = .ok (.i2l, 1) := by decide +kernel
theorem dL_copy_9 : decode bL_copy 9 = .ok (.lastore, 1) := by decide +kernel
theorem dL_copy_10 : decode bL_copy 10 = .ok (.goto 11, 3) := by decide +kernel
theorem dL_copy_13 : decode bL_copy 13 = .ok (.astore 4, 2) := by decide +kernel
theorem dL_copy_15 : decode bL_copy 15 = .ok (.iconst 1, 1) := by decide +kernel
theorem dL_copy_16 : decode bL_copy 16 = .ok (.ireturn, 1) := by decide +kernel
theorem dL_copy_17 : decode bL_copy 17 = .ok (.astore 4, 2) := by decide +kernel
theorem dL_copy_19 : decode bL_copy 19 = .ok (.iconst 2, 1) := by decide +kernel
theorem dL_copy_20 : decode bL_copy 20 = .ok (.ireturn, 1) := by decide +kernel
theorem dL_copy_21 : decode bL_copy 21 = .ok (.iconst 0, 1) := by decide +kernel
theorem dL_copy_22 : decode bL_copy 22 = .ok (.ireturn, 1) := by decide +kernel
theorem dL_add_0 : decode bL_add 0 = .ok (.aload 4, 2) := by decide +kernel
theorem dL_add_2 : decode bL_add 2 = .ok (.iconst 0, 1) := by decide +kernel
theorem dL_add_3 : decode bL_add 3 = .ok (.aload_n 0, 1) := by decide +kernel
theorem dL_add_4 : decode bL_add 4 = .ok (.iload_n 1, 1) := by decide +kernel
theorem dL_add_5 : decode bL_add 5 = .ok (.iload_n 2, 1) := by decide +kernel
theorem dL_add_6 : decode bL_add 6 = .ok (.iload_n 3, 1) := by decide +kernel
theorem dL_add_7 : decode bL_add 7 = .ok (.invokevirtual 20, 3) := by decide +kernel
theorem dL_add_10 : decode bL_add 10 = .ok (.i2l, 1) := by decide +kernel
theorem dL_add_11 : decode bL_add 11 = .ok (.lastore, 1) := by decide +kernel
theorem dL_add_12 : decode bL_add 12 = .ok (.goto 11, 3) := by decide +kernel
theorem dL_add_15 : decode bL_add 15 = .ok (.astore 5, 2) := by decide +kernel
theorem dL_add_17 : decode bL_add 17 = .ok (.iconst 1, 1) := by decide +kernel
theorem dL_add_18 : decode bL_add 18 = .ok (.ireturn, 1) := by decide +kernel
theorem dL_add_19 : decode bL_add 19 = .ok (.astore 5, 2) := by decide +kernel
theorem dL_add_21 : decode bL_add 21 = .ok (.iconst 2, 1) := by decide +kernel
theorem dL_add_22 : decode bL_add 22 = .ok (.ireturn, 1) := by decide +kernel
theorem dL_add_23 : decode bL_add 23 = .ok (.iconst 0, 1) := by decide +kernel
theorem dL_add_24 : decode bL_add 24 = .ok (.ireturn, 1) := by decide +kernel
theorem dL_out_0 : decode bL_out 0 = .ok (.aload_n 2, 1) := by decide +kernel
theorem dL_out_1 : decode bL_out 1 = .ok (.iconst 0, 1) := by decide +kernel
theorem dL_out_2 : decode bL_out 2 = .ok (.aload_n 0, 1) := by decide +kernel
theorem dL_out_3 : decode bL_out 3 = .ok (.iload_n 1, 1) := by decide +kernel
theorem dL_out_4 : decode bL_out 4 = .ok (.invokevirtual 24, 3) := by decide +kernel
theorem dL_out_7 : decode bL_out 7 = .ok (.i2l, 1) := by decide +kernel
theorem dL_out_8 : decode bL_out 8 = .ok (.lastore, 1) := by decide +kernel
theorem dL_out_9 : decode bL_out 9 = .ok (.goto 9, 3) := by decide +kernel
theorem dL_out_12 : decode bL_out 12 = .ok (.astore_n 3, 1) := by decide +kernel
theorem dL_out_13 : decode bL_out 13 = .ok (.iconst 1, 1) := by decide +kernel
theorem dL_out_14 : decode bL_out 14 = .ok (.ireturn, 1) := by decide +kernel
theorem dL_out_15 : decode bL_out 15 = .ok (.astore_n 3, 1) := by decide +kernel
theorem dL_out_16 : decode bL_out 16 = .ok (.iconst 2, 1) := by decide +kernel
theorem dL_out_17 : decode bL_out 17 = .ok (.ireturn, 1) := by decide +kernel
theorem dL_out_18 : decode bL_out 18 = .ok (.iconst 0, 1) := by decide +kernel
theorem dL_out_19 : decode bL_out 19 = .ok (.ireturn, 1) := by decide +kernel
theorem dL_jump_0 : decode bL_jump 0 = .ok (.aload_n 3, 1) := by decide +kernel
theorem dL_jump_1 : decode bL_jump 1 = .ok (.iconst 0, 1) := by decide +kernel
theorem dL_jump_2 : decode bL_jump 2 = .ok (.aload_n 0, 1) := by decide +kernel
theorem dL_jump_3 : decode bL_jump 3 = .ok (.iload_n 1, 1) := by decide +kernel
theorem dL_jump_4 : decode bL_jump 4 = .ok (.iload_n 2, 1) := by decide +kernel
theorem dL_jump_5 : decode bL_jump 5 = .ok (.invokevirtual 28, 3) := by decide +kernel
theorem dL_jump_8 : decode bL_jump 8 = .ok (.i2l, 1) := by decide +kernel
theorem dL_jump_9 : decode bL_jump 9 = .ok (.lastore, 1) := by decide +kernel
theorem dL_jump_10 : decode bL_jump 10 = .ok (.goto 11, 3) := by decide +kernel
theorem dL_jump_13 : decode bL_jump 13 = .ok (.astore 4, 2) := by decide +kernel
theorem dL_jump_15 : decode bL_jump 15 = .ok (.iconst 1, 1) := by decide +kernel
theorem dL_jump_16 : decode bL_jump 16 = .ok (.ireturn, 1) := by decide +kernel
theorem dL_jump_17 : decode bL_jump 17 = .ok (.astore 4, 2) := by decide +kernel
theorem dL_jump_19 : decode bL_jump 19 = .ok (.iconst 2, 1) := by decide +kernel
theorem dL_jump_20 : decode bL_jump 20 = .ok (.ireturn, 1) := by decide +kernel
theorem dL_jump_21 : decode bL_jump 21 = .ok (.iconst 0, 1) := by decide +kernel
theorem dL_jump_22 : decode bL_jump 22 = .ok (.ireturn, 1) := by decide +kernel
theorem dL_name_0 : decode bL_name 0 = .ok (.aload_n 3, 1) := by decide +kernel
theorem dL_name_1 : decode bL_name 1 = .ok (.iconst 0, 1) := by decide +kernel
theorem dL_name_2 : decode bL_name 2 = .ok (.aload_n 0, 1) := by decide +kernel
theorem dL_name_3 : decode bL_name 3 = .ok (.iload_n 1, 1) := by decide +kernel
theorem dL_name_4 : decode bL_name 4 = .ok (.iload_n 2, 1) := by decide +kernel
theorem dL_name_5 : decode bL_name 5 = .ok (.invokevirtual 31, 3) := by decide +kernel
theorem dL_name_8 : decode bL_name 8 = .ok (.i2l, 1) := by decide +kernel
theorem dL_name_9 : decode bL_name 9 = .ok (.lastore, 1) := by decide +kernel
theorem dL_name_10 : decode bL_name 10 = .ok (.goto 11, 3) := by decide +kernel
theorem dL_name_13 : decode bL_name 13 = .ok (.astore 4, 2) := by decide +kernel
theorem dL_name_15 : decode bL_name 15 = .ok (.iconst 1, 1) := by decide +kernel
theorem dL_name_16 : decode bL_name 16 = .ok (.ireturn, 1) := by decide +kernel
theorem dL_name_17 : decode bL_name 17 = .ok (.astore 4, 2) := by decide +kernel
theorem dL_name_19 : decode bL_name 19 = .ok (.iconst 2, 1) := by decide +kernel
theorem dL_name_20 : decode bL_name 20 = .ok (.ireturn, 1) := by decide +kernel
theorem dL_name_21 : decode bL_name 21 = .ok (.iconst 0, 1) := by decide +kernel
theorem dL_name_22 : decode bL_name 22 = .ok (.ireturn, 1) := by decide +kernel
theorem dL_kept_0 : decode bL_kept 0 = .ok (.aload_n 1, 1) := by decide +kernel
theorem dL_kept_1 : decode bL_kept 1 = .ok (.iconst 0, 1) := by decide +kernel
theorem dL_kept_2 : decode bL_kept 2 = .ok (.aload_n 0, 1) := by decide +kernel
theorem dL_kept_3 : decode bL_kept 3 = .ok (.invokevirtual 34, 3) := by decide +kernel
theorem dL_kept_6 : decode bL_kept 6 = .ok (.i2l, 1) := by decide +kernel
theorem dL_kept_7 : decode bL_kept 7 = .ok (.lastore, 1) := by decide +kernel
theorem dL_kept_8 : decode bL_kept 8 = .ok (.goto 6, 3) := by decide +kernel
theorem dL_kept_11 : decode bL_kept 11 = .ok (.astore_n 2, 1) := by decide +kernel
theorem dL_kept_12 : decode bL_kept 12 = .ok (.iconst 1, 1) := by decide +kernel
theorem dL_kept_13 : decode bL_kept 13 = .ok (.ireturn, 1) := by decide +kernel
theorem dL_kept_14 : decode bL_kept 14 = .ok (.iconst 0, 1) := by decide +kernel
theorem dL_kept_15 : decode bL_kept 15 = .ok (.ireturn, 1) := by decide +kernel
theorem dL_part_0 : decode bL_part 0 = .ok (.aload_n 3, 1) := by decide +kernel
theorem dL_part_1 : decode bL_part 1 = .ok (.iconst 0, 1) := by decide +kernel
theorem dL_part_2 : decode bL_part 2 = .ok (.aload_n 0, 1) := by decide +kernel
theorem dL_part_3 : decode bL_part 3 = .ok (.iload_n 1, 1) := by decide +kernel
theorem dL_part_4 : decode bL_part 4 = .ok (.iload_n 2, 1) := by decide +kernel
theorem dL_part_5 : decode bL_part 5 = .ok (.invokevirtual 38, 3) := by decide +kernel
theorem dL_part_8 : decode bL_part 8 = .ok (.i2l, 1) := by decide +kernel
theorem dL_part_9 : decode bL_part 9 = .ok (.lastore, 1) := by decide +kernel
theorem dL_part_10 : decode bL_part 10 = .ok (.goto 11, 3) := by decide +kernel
theorem dL_part_13 : decode bL_part 13 = .ok (.astore 4, 2) := by decide +kernel
theorem dL_part_15 : decode bL_part 15 = .ok (.iconst 1, 1) := by decide +kernel
theorem dL_part_16 : decode bL_part 16 = .ok (.ireturn, 1) := by decide +kernel
theorem dL_part_17 : decode bL_part 17 = .ok (.astore 4, 2) := by decide +kernel
theorem dL_part_19 : decode bL_part 19 = .ok (.iconst 2, 1) := by decide +kernel
theorem dL_part_20 : decode bL_part 20 = .ok (.ireturn, 1) := by decide +kernel
theorem dL_part_21 : decode bL_part 21 = .ok (.iconst 0, 1) := by decide +kernel
theorem dL_part_22 : decode bL_part 22 = .ok (.ireturn, 1) := by decide +kernel
theorem dL_where_0 : decode bL_where 0 = .ok (.aload_n 3, 1) := by decide +kernel
theorem dL_where_1 : decode bL_where 1 = .ok (.iconst 0, 1) := by decide +kernel
theorem dL_where_2 : decode bL_where 2 = .ok (.aload_n 0, 1) := by decide +kernel
theorem dL_where_3 : decode bL_where 3 = .ok (.iload_n 1, 1) := by decide +kernel
theorem dL_where_4 : decode bL_where 4 = .ok (.iload_n 2, 1) := by decide +kernel
theorem dL_where_5 : decode bL_where 5 = .ok (.invokevirtual 43, 3) := by decide +kernel
theorem dL_where_8 : decode bL_where 8 = .ok (.i2l, 1) := by decide +kernel
theorem dL_where_9 : decode bL_where 9 = .ok (.lastore, 1) := by decide +kernel
theorem dL_where_10 : decode bL_where 10 = .ok (.goto 11, 3) := by decide +kernel
theorem dL_where_13 : decode bL_where 13 = .ok (.astore 4, 2) := by decide +kernel
theorem dL_where_15 : decode bL_where 15 = .ok (.iconst 1, 1) := by decide +kernel
theorem dL_where_16 : decode bL_where 16 = .ok (.ireturn, 1) := by decide +kernel
theorem dL_where_17 : decode bL_where 17 = .ok (.astore 4, 2) := by decide +kernel
theorem dL_where_19 : decode bL_where 19 = .ok (.iconst 2, 1) := by decide +kernel
theorem dL_where_20 : decode bL_where 20 = .ok (.ireturn, 1) := by decide +kernel
theorem dL_where_21 : decode bL_where 21 = .ok (.iconst 0, 1) := by decide +kernel
theorem dL_where_22 : decode bL_where 22 = .ok (.ireturn, 1) := by decide +kernel
theorem dL_carriers_0 : decode bL_carriers 0 = .ok (.aload_n 3, 1) := by decide +kernel
theorem dL_carriers_1 : decode bL_carriers 1 = .ok (.iconst 0, 1) := by decide +kernel
theorem dL_carriers_2 : decode bL_carriers 2 = .ok (.aload_n 0, 1) := by decide +kernel
theorem dL_carriers_3 : decode bL_carriers 3 = .ok (.iload_n 1, 1) := by decide +kernel
theorem dL_carriers_4 : decode bL_carriers 4 = .ok (.iload_n 2, 1) := by decide +kernel
theorem dL_carriers_5 : decode bL_carriers 5 = .ok (.invokevirtual 46, 3) := by decide +kernel
theorem dL_carriers_8 : decode bL_carriers 8 = .ok (.i2l, 1) := by decide +kernel
theorem dL_carriers_9 : decode bL_carriers 9 = .ok (.lastore, 1) := by decide +kernel
theorem dL_carriers_10 : decode bL_carriers 10 = .ok (.goto 11, 3) := by decide +kernel
theorem dL_carriers_13 : decode bL_carriers 13 = .ok (.astore 4, 2) := by decide +kernel
theorem dL_carriers_15 : decode bL_carriers 15 = .ok (.iconst 1, 1) := by decide +kernel
theorem dL_carriers_16 : decode bL_carriers 16 = .ok (.ireturn, 1) := by decide +kernel
theorem dL_carriers_17 : decode bL_carriers 17 = .ok (.astore 4, 2) := by decide +kernel
theorem dL_carriers_19 : decode bL_carriers 19 = .ok (.iconst 2, 1) := by decide +kernel
theorem dL_carriers_20 : decode bL_carriers 20 = .ok (.ireturn, 1) := by decide +kernel
theorem dL_carriers_21 : decode bL_carriers 21 = .ok (.iconst 0, 1) := by decide +kernel
theorem dL_carriers_22 : decode bL_carriers 22 = .ok (.ireturn, 1) := by decide +kernel
theorem dL_restart_0 : decode bL_restart 0 = .ok (.aload_n 0, 1) := by decide +kernel
theorem dL_restart_1 : decode bL_restart 1 = .ok (.invokevirtual 49, 3) := by decide +kernel
theorem dL_restart_4 : decode bL_restart 4 = .ok (.goto 6, 3) := by decide +kernel
theorem dL_restart_7 : decode bL_restart 7 = .ok (.astore_n 1, 1) := by decide +kernel
theorem dL_restart_8 : decode bL_restart 8 = .ok (.iconst 1, 1) := by decide +kernel
theorem dL_restart_9 : decode bL_restart 9 = .ok (.ireturn, 1) := by decide +kernel
theorem dL_restart_10 : decode bL_restart 10 = .ok (.iconst 0, 1) := by decide +kernel
theorem dL_restart_11 : decode bL_restart 11 = .ok (.ireturn, 1) := by decide +kernel
theorem dL_step_0 : decode bL_step 0 = .ok (.aload_n 1, 1) := by decide +kernel
theorem dL_step_1 : decode bL_step 1 = .ok (.iconst 0, 1) := by decide +kernel
theorem dL_step_2 : decode bL_step 2 = .ok (.aload_n 0, 1) := by decide +kernel
theorem dL_step_3 : decode bL_step 3 = .ok (.invokevirtual 52, 3) := by decide +kernel
theorem dL_step_6 : decode bL_step 6 = .ok (.i2l, 1) := by decide +kernel
theorem dL_step_7 : decode bL_step 7 = .ok (.lastore, 1) := by decide +kernel
theorem dL_step_8 : decode bL_step 8 = .ok (.goto 6, 3) := by decide +kernel
theorem dL_step_11 : decode bL_step 11 = .ok (.astore_n 2, 1) := by decide +kernel
theorem dL_step_12 : decode bL_step 12 = .ok (.iconst 1, 1) := by decide +kernel
theorem dL_step_13 : decode bL_step 13 = .ok (.ireturn, 1) := by decide +kernel
theorem dL_step_14 : decode bL_step 14 = .ok (.iconst 0, 1) := by decide +kernel
theorem dL_step_15 : decode bL_step 15 = .ok (.ireturn, 1) := by decide +kernel
theorem dL_line_0 : decode bL_line 0 = .ok (.aload_n 1, 1) := by decide +kernel
theorem dL_line_1 : decode bL_line 1 = .ok (.iconst 0, 1) := by decide +kernel
theorem dL_line_2 : decode bL_line 2 = .ok (.aload_n 0, 1) := by decide +kernel
theorem dL_line_3 : decode bL_line 3 = .ok (.invokevirtual 55, 3) := by decide +kernel
theorem dL_line_6 : decode bL_line 6 = .ok (.i2l, 1) := by decide +kernel
theorem dL_line_7 : decode bL_line 7 = .ok (.lastore, 1) := by decide +kernel
theorem dL_line_8 : decode bL_line 8 = .ok (.goto 6, 3) := by decide +kernel
theorem dL_line_11 : decode bL_line 11 = .ok (.astore_n 2, 1) := by decide +kernel
theorem dL_line_12 : decode bL_line 12 = .ok (.iconst 1, 1) := by decide +kernel
theorem dL_line_13 : decode bL_line 13 = .ok (.ireturn, 1) := by decide +kernel
theorem dL_line_14 : decode bL_line 14 = .ok (.iconst 0, 1) := by decide +kernel
theorem dL_line_15 : decode bL_line 15 = .ok (.ireturn, 1) := by decide +kernel
theorem dL_register_0 : decode bL_register 0 = .ok (.aload_n 3, 1) := by decide +kernel
theorem dL_register_1 : decode bL_register 1 = .ok (.iconst 0, 1) := by decide +kernel
theorem dL_register_2 : decode bL_register 2 = .ok (.aload_n 0, 1) := by decide +kernel
theorem dL_register_3 : decode bL_register 3 = .ok (.iload_n 1, 1) := by decide +kernel
theorem dL_register_4 : decode bL_register 4 = .ok (.iload_n 2, 1) := by decide +kernel
theorem dL_register_5 : decode bL_register 5 = .ok (.invokevirtual 58, 3) := by decide +kernel
theorem dL_register_8 : decode bL_register 8 = .ok (.i2l, 1) := by decide +kernel
theorem dL_register_9 : decode bL_register 9 = .ok (.lastore, 1) := by decide +kernel
theorem dL_register_10 : decode bL_register 10 = .ok (.goto 11, 3) := by decide +kernel
theorem dL_register_13 : decode bL_register 13 = .ok (.astore 4, 2) := by decide +kernel
theorem dL_register_15 : decode bL_register 15 = .ok (.iconst 1, 1) := by decide +kernel
theorem dL_register_16 : decode bL_register 16 = .ok (.ireturn, 1) := by decide +kernel
theorem dL_register_17 : decode bL_register 17 = .ok (.astore 4, 2) := by decide +kernel
theorem dL_register_19 : decode bL_register 19 = .ok (.iconst 2, 1) := by decide +kernel
theorem dL_register_20 : decode bL_register 20 = .ok (.ireturn, 1) := by decide +kernel
theorem dL_register_21 : decode bL_register 21 = .ok (.iconst 0, 1) := by decide +kernel
theorem dL_register_22 : decode bL_register 22 = .ok (.ireturn, 1) := by decide +kernel
theorem dL_output_0 : decode bL_output 0 = .ok (.aload_n 3, 1) := by decide +kernel
theorem dL_output_1 : decode bL_output 1 = .ok (.iconst 0, 1) := by decide +kernel
theorem dL_output_2 : decode bL_output 2 = .ok (.aload_n 0, 1) := by decide +kernel
theorem dL_output_3 : decode bL_output 3 = .ok (.iload_n 1, 1) := by decide +kernel
theorem dL_output_4 : decode bL_output 4 = .ok (.iload_n 2, 1) := by decide +kernel
theorem dL_output_5 : decode bL_output 5 = .ok (.invokevirtual 62, 3) := by decide +kernel
theorem dL_output_8 : decode bL_output 8 = .ok (.i2l, 1) := by decide +kernel
theorem dL_output_9 : decode bL_output 9 = .ok (.lastore, 1) := by decide +kernel
theorem dL_output_10 : decode bL_output 10 = .ok (.goto 11, 3) := by decide +kernel
theorem dL_output_13 : decode bL_output 13 = .ok (.astore 4, 2) := by decide +kernel
theorem dL_output_15 : decode bL_output 15 = .ok (.iconst 1, 1) := by decide +kernel
theorem dL_output_16 : decode bL_output 16 = .ok (.ireturn, 1) := by decide +kernel
theorem dL_output_17 : decode bL_output 17 = .ok (.astore 4, 2) := by decide +kernel
theorem dL_output_19 : decode bL_output 19 = .ok (.iconst 2, 1) := by decide +kernel
theorem dL_output_20 : decode bL_output 20 = .ok (.ireturn, 1) := by decide +kernel
theorem dL_output_21 : decode bL_output 21 = .ok (.iconst 0, 1) := by decide +kernel
theorem dL_output_22 : decode bL_output 22 = .ok (.ireturn, 1) := by decide +kernel
theorem dL_value_0 : decode bL_value 0 = .ok (.aload_n 2, 1) := by decide +kernel
theorem dL_value_1 : decode bL_value 1 = .ok (.iconst 0, 1) := by decide +kernel
theorem dL_value_2 : decode bL_value 2 = .ok (.aload_n 0, 1) := by decide +kernel
theorem dL_value_3 : decode bL_value 3 = .ok (.iload_n 1, 1) := by decide +kernel
theorem dL_value_4 : decode bL_value 4 = .ok (.invokevirtual 65, 3) := by decide +kernel
theorem dL_value_7 : decode bL_value 7 = .ok (.i2l, 1) := by decide +kernel
theorem dL_value_8 : decode bL_value 8 = .ok (.lastore, 1) := by decide +kernel
theorem dL_value_9 : decode bL_value 9 = .ok (.goto 9, 3) := by decide +kernel
theorem dL_value_12 : decode bL_value 12 = .ok (.astore_n 3, 1) := by decide +kernel
theorem dL_value_13 : decode bL_value 13 = .ok (.iconst 1, 1) := by decide +kernel
theorem dL_value_14 : decode bL_value 14 = .ok (.ireturn, 1) := by decide +kernel
theorem dL_value_15 : decode bL_value 15 = .ok (.astore_n 3, 1) := by decide +kernel
theorem dL_value_16 : decode bL_value 16 = .ok (.iconst 2, 1) := by decide +kernel
theorem dL_value_17 : decode bL_value 17 = .ok (.ireturn, 1) := by decide +kernel
theorem dL_value_18 : decode bL_value 18 = .ok (.iconst 0, 1) := by decide +kernel
theorem dL_value_19 : decode bL_value 19 = .ok (.ireturn, 1) := by decide +kernel
theorem dL_read_0 : decode bL_read 0 = .ok (.aload_n 2, 1) := by decide +kernel
theorem dL_read_1 : decode bL_read 1 = .ok (.iconst 0, 1) := by decide +kernel
theorem dL_read_2 : decode bL_read 2 = .ok (.aload_n 0, 1) := by decide +kernel
theorem dL_read_3 : decode bL_read 3 = .ok (.iload_n 1, 1) := by decide +kernel
theorem dL_read_4 : decode bL_read 4 = .ok (.invokevirtual 68, 3) := by decide +kernel
theorem dL_read_7 : decode bL_read 7 = .ok (.i2l, 1) := by decide +kernel
theorem dL_read_8 : decode bL_read 8 = .ok (.lastore, 1) := by decide +kernel
theorem dL_read_9 : decode bL_read 9 = .ok (.goto 12, 3) := by decide +kernel
theorem dL_read_12 : decode bL_read 12 = .ok (.astore_n 3, 1) := by decide +kernel
theorem dL_read_13 : decode bL_read 13 = .ok (.iconst 1, 1) := by decide +kernel
theorem dL_read_14 : decode bL_read 14 = .ok (.ireturn, 1) := by decide +kernel
theorem dL_read_15 : decode bL_read 15 = .ok (.astore_n 3, 1) := by decide +kernel
theorem dL_read_16 : decode bL_read 16 = .ok (.iconst 2, 1) := by decide +kernel
theorem dL_read_17 : decode bL_read 17 = .ok (.ireturn, 1) := by decide +kernel
theorem dL_read_18 : decode bL_read 18 = .ok (.astore_n 3, 1) := by decide +kernel
theorem dL_read_19 : decode bL_read 19 = .ok (.iconst 3, 1) := by decide +kernel
theorem dL_read_20 : decode bL_read 20 = .ok (.ireturn, 1) := by decide +kernel
theorem dL_read_21 : decode bL_read 21 = .ok (.iconst 0, 1) := by decide +kernel
theorem dL_read_22 : decode bL_read 22 = .ok (.ireturn, 1) := by decide +kernel
abbrev r1L_set : Room := { frames := 9, cells := 1, slots := 6, locals := 162 }
abbrev wL_set : List Cond := Cond.codeWith yL_set bL_set 5 (some .int) [(0, 10, 13, 13), (0, 10, 17, 15)] :: tw
abbrev r1L_copy : Room := { frames := 9, cells := 1, slots := 6, locals := 162 }
abbrev wL_copy : List Cond := Cond.codeWith yL_copy bL_copy 5 (some .int) [(0, 10, 13, 13), (0, 10, 17, 15)] :: tw
abbrev r1L_add : Room := { frames := 9, cells := 1, slots := 6, locals := 163 }
abbrev wL_add : List Cond := Cond.codeWith yL_add bL_add 6 (some .int) [(0, 12, 15, 13), (0, 12, 19, 15)] :: tw
abbrev r1L_out : Room := { frames := 9, cells := 1, slots := 6, locals := 161 }
abbrev wL_out : List Cond := Cond.codeWith yL_out bL_out 4 (some .int) [(0, 9, 12, 13), (0, 9, 15, 15)] :: tw
abbrev r1L_jump : Room := { frames := 9, cells := 1, slots := 6, locals := 162 }
abbrev wL_jump : List Cond := Cond.codeWith yL_jump bL_jump 5 (some .int) [(0, 10, 13, 13), (0, 10, 17, 15)] :: tw
abbrev r1L_name : Room := { frames := 9, cells := 1, slots := 6, locals := 162 }
abbrev wL_name : List Cond := Cond.codeWith yL_name bL_name 5 (some .int) [(0, 10, 13, 13), (0, 10, 17, 15)] :: tw
abbrev r1L_kept : Room := { frames := 9, cells := 1, slots := 6, locals := 156 }
abbrev wL_kept : List Cond := Cond.codeWith yL_kept bL_kept 3 (some .int) [(0, 8, 11, 15)] :: tw
abbrev r1L_part : Room := { frames := 9, cells := 1, slots := 6, locals := 158 }
abbrev wL_part : List Cond := Cond.codeWith yL_part bL_part 5 (some .int) [(0, 10, 13, 15), (0, 10, 17, 41)] :: tw
abbrev r1L_where : Room := { frames := 9, cells := 1, slots := 6, locals := 158 }
abbrev wL_where : List Cond := Cond.codeWith yL_where bL_where 5 (some .int) [(0, 10, 13, 15), (0, 10, 17, 41)] :: tw
abbrev r1L_carriers : Room := { frames := 9, cells := 1, slots := 6, locals := 158 }
abbrev wL_carriers : List Cond := Cond.codeWith yL_carriers bL_carriers 5 (some .int) [(0, 10, 13, 15), (0, 10, 17, 41)] :: tw
abbrev r1L_restart : Room := { frames := 9, cells := 1, slots := 6, locals := 156 }
abbrev wL_restart : List Cond := Cond.codeWith yL_restart bL_restart 2 (some .int) [(0, 4, 7, 15)] :: tw
abbrev r1L_step : Room := { frames := 9, cells := 1, slots := 6, locals := 156 }
abbrev wL_step : List Cond := Cond.codeWith yL_step bL_step 3 (some .int) [(0, 8, 11, 15)] :: tw
abbrev r1L_line : Room := { frames := 9, cells := 1, slots := 6, locals := 156 }
abbrev wL_line : List Cond := Cond.codeWith yL_line bL_line 3 (some .int) [(0, 8, 11, 15)] :: tw
abbrev r1L_register : Room := { frames := 9, cells := 1, slots := 6, locals := 158 }
abbrev wL_register : List Cond := Cond.codeWith yL_register bL_register 5 (some .int) [(0, 10, 13, 15), (0, 10, 17, 41)] :: tw
abbrev r1L_output : Room := { frames := 9, cells := 1, slots := 6, locals := 158 }
abbrev wL_output : List Cond := Cond.codeWith yL_output bL_output 5 (some .int) [(0, 10, 13, 15), (0, 10, 17, 41)] :: tw
abbrev r1L_value : Room := { frames := 9, cells := 1, slots := 6, locals := 157 }
abbrev wL_value : List Cond := Cond.codeWith yL_value bL_value 4 (some .int) [(0, 9, 12, 15), (0, 9, 15, 41)] :: tw
abbrev r1L_read : Room := { frames := 9, cells := 1, slots := 6, locals := 158 }
abbrev wL_read : List Cond := Cond.codeWith yL_read bL_read 4 (some .int) [(0, 9, 12, 15), (0, 9, 15, 41), (0, 9, 18, 71)] :: tw
set_option maxRecDepth 100000 in
set_option maxHeartbeats 4000000 in
theorem w_set (l : Launch) (hl : l.stackTraces = false) (G : tc_G) (u : tc_S) {n : Nat} (h : jI n u) (r c1 : Int32) : tc_C tcx G l yL_set wL_set r1L_set 1 6 [.ref (tc_ad G 0), .int r, .int c1, .ref (tc_ad G 76)] u (tc_KI (fun k v => tc_C tcx G l yD_set wD_set r0D_set 0 0 [.ref (tc_ad G 56), .int r, .int c1] v (tc_KI (jE k)))) := by
  refine tw_ofVW (own := "TracedCodeLaw") [some (.ref (tc_ad G 0)), some (.int r), some (.int c1), some (.ref (tc_ad G 76)), none] (by decide +kernel) rfl (Nat.le_of_ble_eq_true rfl) (by rfl) (fun p e s m args below meth c => ?_)
  by_cases ho : ((¬ r < 0 ∧ ¬ 6 ≤ r))
  · by_cases hn : n < 16
    · skip
      refine tv_aload_n (pc := 0) dL_set_0 (by rfl) ?_
      refine tv_iconst (v := 0) (pc := 1) dL_set_1 (by decide) ?_
      refine tv_aload_n (pc := 2) dL_set_2 (by rfl) ?_
      refine tv_iload_n (pc := 3) dL_set_3 (by rfl) ?_
      refine tv_iload_n (pc := 4) dL_set_4 (by rfl) ?_
      refine tv_callVi (pc := 5) [_, _] tb_0 (by rfl) (c_T_set l G u h.1.s1 hn r c1 ho) (kVT_set wm_322 ⟨by decide, by decide⟩) (by rfl) (Nat.le_of_ble_eq_true rfl) dL_set_5 ⟨by decide, by decide⟩ ?_
      refine tv_i2l (pc := 8) dL_set_8 ?_
      refine tv_last (pc := 9) (j := 0) tb_76 ⟨by decide, by decide, by decide⟩ dL_set_9 ?_
      refine tv_goto (pc := 10) 21 dL_set_10 (by decide) ?_
      refine tv_iconst (v := 0) (pc := 21) dL_set_21 (by decide) ?_
      exact tv_iret (pc := 22) dL_set_22 rfl (by decide) (by decide) ⟨_, rfl, jK (c_D_set l G _ (j_ap0 h) hn r c1 ho) (j_ap1 h hn (j_l0 ho) (by decide))⟩
    · have hn16 : n = 16 := by have := h.1.hn; omega
      refine tv_aload_n (pc := 0) dL_set_0 (by rfl) ?_
      refine tv_iconst (v := 0) (pc := 1) dL_set_1 (by decide) ?_
      refine tv_aload_n (pc := 2) dL_set_2 (by rfl) ?_
      refine tv_iload_n (pc := 3) dL_set_3 (by rfl) ?_
      refine tv_iload_n (pc := 4) dL_set_4 (by rfl) ?_
      refine tv_catV (pc := 5) [_, _] tb_0 (by rfl) (t_T_set_S l hl G u h.1.s1 hn16 r c1 ho) (kV1T_set wm_322 ⟨by decide, by decide⟩) (by rfl) (Nat.le_of_ble_eq_true rfl) dL_set_5 ⟨by decide, by decide⟩ (h := 17) (tc_hp2 "java/lang/IllegalArgumentException" (by decide) (by decide) (by decide) wm_320 (by decide +kernel) (tc_hp1 "java/lang/IllegalStateException" (by decide) (by decide) (by decide) wm_321 (by decide +kernel))) (fun a => ?_)
      refine tv_astore4 (pc := 17) dL_set_17 (by rfl) ?_
      refine tv_iconst (v := 2) (pc := 19) dL_set_19 (by decide) ?_
      exact tv_iret (pc := 20) dL_set_20 rfl (by decide) (by decide) ⟨_, rfl, jK (c_D_set2 l G _ (by rw [h.1.s2, hn16]; rfl) r c1 ho) (j_no2 h (by decide))⟩
  · skip
    refine tv_aload_n (pc := 0) dL_set_0 (by rfl) ?_
    refine tv_iconst (v := 0) (pc := 1) dL_set_1 (by decide) ?_
    refine tv_aload_n (pc := 2) dL_set_2 (by rfl) ?_
    refine tv_iload_n (pc := 3) dL_set_3 (by rfl) ?_
    refine tv_iload_n (pc := 4) dL_set_4 (by rfl) ?_
    refine tv_catV (pc := 5) [_, _] tb_0 (by rfl) (t_T_set_A l hl G u r c1 ho) (kV1T_set wm_322 ⟨by decide, by decide⟩) (by rfl) (Nat.le_of_ble_eq_true rfl) dL_set_5 ⟨by decide, by decide⟩ (h := 13) (tc_hp1 "java/lang/IllegalArgumentException" (by decide) (by decide) (by decide) wm_320 (by decide +kernel)) (fun a => ?_)
    refine tv_astore4 (pc := 13) dL_set_13 (by rfl) ?_
    refine tv_iconst (v := 1) (pc := 15) dL_set_15 (by decide) ?_
    exact tv_iret (pc := 16) dL_set_16 rfl (by decide) (by decide) ⟨_, rfl, jK (c_D_set1 l G _ r c1 ho) (j_no h (by decide))⟩
set_option maxRecDepth 100000 in
set_option maxHeartbeats 4000000 in
theorem w_copy (l : Launch) (hl : l.stackTraces = false) (G : tc_G) (u : tc_S) {n : Nat} (h : jI n u) (r s1 : Int32) : tc_C tcx G l yL_copy wL_copy r1L_copy 1 6 [.ref (tc_ad G 0), .int r, .int s1, .ref (tc_ad G 76)] u (tc_KI (fun k v => tc_C tcx G l yD_copy wD_copy r0D_copy 0 0 [.ref (tc_ad G 56), .int r, .int s1] v (tc_KI (jE k)))) := by
  refine tw_ofVW (own := "TracedCodeLaw") [some (.ref (tc_ad G 0)), some (.int r), some (.int s1), some (.ref (tc_ad G 76)), none] (by decide +kernel) rfl (Nat.le_of_ble_eq_true rfl) (by rfl) (fun p e s m args below meth c => ?_)
  by_cases ho : ((¬ r < 0 ∧ ¬ 6 ≤ r)) ∧ ((¬ s1 < 0 ∧ ¬ 6 ≤ s1))
  · by_cases hn : n < 16
    · skip
      refine tv_aload_n (pc := 0) dL_copy_0 (by rfl) ?_
      refine tv_iconst (v := 0) (pc := 1) dL_copy_1 (by decide) ?_
      refine tv_aload_n (pc := 2) dL_copy_2 (by rfl) ?_
      refine tv_iload_n (pc := 3) dL_copy_3 (by rfl) ?_
      refine tv_iload_n (pc := 4) dL_copy_4 (by rfl) ?_
      refine tv_callVi (pc := 5) [_, _] tb_0 (by rfl) (c_T_copy l G u h.1.s1 hn r s1 ho) (kVT_copy wm_429 ⟨by decide, by decide⟩) (by rfl) (Nat.le_of_ble_eq_true rfl) dL_copy_5 ⟨by decide, by decide⟩ ?_
      refine tv_i2l (pc := 8) dL_copy_8 ?_
      refine tv_last (pc := 9) (j := 0) tb_76 ⟨by decide, by decide, by decide⟩ dL_copy_9 ?_
      refine tv_goto (pc := 10) 21 dL_copy_10 (by decide) ?_
      refine tv_iconst (v := 0) (pc := 21) dL_copy_21 (by decide) ?_
      exact tv_iret (pc := 22) dL_copy_22 rfl (by decide) (by decide) ⟨_, rfl, jK (c_D_copy l G _ (j_ap0 h) hn r s1 ho) (j_ap1 h hn (j_l1 ho) (by decide))⟩
    · have hn16 : n = 16 := by have := h.1.hn; omega
      refine tv_aload_n (pc := 0) dL_copy_0 (by rfl) ?_
      refine tv_iconst (v := 0) (pc := 1) dL_copy_1 (by decide) ?_
      refine tv_aload_n (pc := 2) dL_copy_2 (by rfl) ?_
      refine tv_iload_n (pc := 3) dL_copy_3 (by rfl) ?_
      refine tv_iload_n (pc := 4) dL_copy_4 (by rfl) ?_
      refine tv_catV (pc := 5) [_, _] tb_0 (by rfl) (t_T_copy_S l hl G u h.1.s1 hn16 r s1 ho) (kV1T_copy wm_429 ⟨by decide, by decide⟩) (by rfl) (Nat.le_of_ble_eq_true rfl) dL_copy_5 ⟨by decide, by decide⟩ (h := 17) (tc_hp2 "java/lang/IllegalArgumentException" (by decide) (by decide) (by decide) wm_320 (by decide +kernel) (tc_hp1 "java/lang/IllegalStateException" (by decide) (by decide) (by decide) wm_321 (by decide +kernel))) (fun a => ?_)
      refine tv_astore4 (pc := 17) dL_copy_17 (by rfl) ?_
      refine tv_iconst (v := 2) (pc := 19) dL_copy_19 (by decide) ?_
      exact tv_iret (pc := 20) dL_copy_20 rfl (by decide) (by decide) ⟨_, rfl, jK (c_D_copy2 l G _ (by rw [h.1.s2, hn16]; rfl) r s1 ho) (j_no2 h (by decide))⟩
  · skip
    refine tv_aload_n (pc := 0) dL_copy_0 (by rfl) ?_
    refine tv_iconst (v := 0) (pc := 1) dL_copy_1 (by decide) ?_
    refine tv_aload_n (pc := 2) dL_copy_2 (by rfl) ?_
    refine tv_iload_n (pc := 3) dL_copy_3 (by rfl) ?_
    refine tv_iload_n (pc := 4) dL_copy_4 (by rfl) ?_
    refine tv_catV (pc := 5) [_, _] tb_0 (by rfl) (t_T_copy_A l hl G u r s1 ho) (kV1T_copy wm_429 ⟨by decide, by decide⟩) (by rfl) (Nat.le_of_ble_eq_true rfl) dL_copy_5 ⟨by decide, by decide⟩ (h := 13) (tc_hp1 "java/lang/IllegalArgumentException" (by decide) (by decide) (by decide) wm_320 (by decide +kernel)) (fun a => ?_)
    refine tv_astore4 (pc := 13) dL_copy_13 (by rfl) ?_
    refine tv_iconst (v := 1) (pc := 15) dL_copy_15 (by decide) ?_
    exact tv_iret (pc := 16) dL_copy_16 rfl (by decide) (by decide) ⟨_, rfl, jK (c_D_copy1 l G _ r s1 ho) (j_no h (by decide))⟩
set_option maxRecDepth 100000 in
set_option maxHeartbeats 4000000 in
theorem w_add (l : Launch) (hl : l.stackTraces = false) (G : tc_G) (u : tc_S) {n : Nat} (h : jI n u) (r s1 t : Int32) : tc_C tcx G l yL_add wL_add r1L_add 1 6 [.ref (tc_ad G 0), .int r, .int s1, .int t, .ref (tc_ad G 76)] u (tc_KI (fun k v => tc_C tcx G l yD_add wD_add r0D_add 0 0 [.ref (tc_ad G 56), .int r, .int s1, .int t] v (tc_KI (jE k)))) := by
  refine tw_ofVW (own := "TracedCodeLaw") [some (.ref (tc_ad G 0)), some (.int r), some (.int s1), some (.int t), some (.ref (tc_ad G 76)), none] (by decide +kernel) rfl (Nat.le_of_ble_eq_true rfl) (by rfl) (fun p e s m args below meth c => ?_)
  by_cases ho : ((¬ r < 0 ∧ ¬ 6 ≤ r)) ∧ ((¬ s1 < 0 ∧ ¬ 6 ≤ s1)) ∧ ((¬ t < 0 ∧ ¬ 6 ≤ t))
  · by_cases hn : n < 16
    · skip
      refine tv_aload (pc := 0) dL_add_0 (by rfl) ?_
      refine tv_iconst (v := 0) (pc := 2) dL_add_2 (by decide) ?_
      refine tv_aload_n (pc := 3) dL_add_3 (by rfl) ?_
      refine tv_iload_n (pc := 4) dL_add_4 (by rfl) ?_
      refine tv_iload_n (pc := 5) dL_add_5 (by rfl) ?_
      refine tv_iload_n (pc := 6) dL_add_6 (by rfl) ?_
      refine tv_callVi (pc := 7) [_, _, _] tb_0 (by rfl) (c_T_add l G u h.1.s1 hn r s1 t ho) (kVT_add wm_436 ⟨by decide, by decide⟩) (by rfl) (Nat.le_of_ble_eq_true rfl) dL_add_7 ⟨by decide, by decide⟩ ?_
      refine tv_i2l (pc := 10) dL_add_10 ?_
      refine tv_last (pc := 11) (j := 0) tb_76 ⟨by decide, by decide, by decide⟩ dL_add_11 ?_
      refine tv_goto (pc := 12) 23 dL_add_12 (by decide) ?_
      refine tv_iconst (v := 0) (pc := 23) dL_add_23 (by decide) ?_
      exact tv_iret (pc := 24) dL_add_24 rfl (by decide) (by decide) ⟨_, rfl, jK (c_D_add l G _ (j_ap0 h) hn r s1 t ho) (j_ap1 h hn (j_l2 ho) (by decide))⟩
    · have hn16 : n = 16 := by have := h.1.hn; omega
      refine tv_aload (pc := 0) dL_add_0 (by rfl) ?_
      refine tv_iconst (v := 0) (pc := 2) dL_add_2 (by decide) ?_
      refine tv_aload_n (pc := 3) dL_add_3 (by rfl) ?_
      refine tv_iload_n (pc := 4) dL_add_4 (by rfl) ?_
      refine tv_iload_n (pc := 5) dL_add_5 (by rfl) ?_
      refine tv_iload_n (pc := 6) dL_add_6 (by rfl) ?_
      refine tv_catV (pc := 7) [_, _, _] tb_0 (by rfl) (t_T_add_S l hl G u h.1.s1 hn16 r s1 t ho) (kV1T_add wm_436 ⟨by decide, by decide⟩) (by rfl) (Nat.le_of_ble_eq_true rfl) dL_add_7 ⟨by decide, by decide⟩ (h := 19) (tc_hp2 "java/lang/IllegalArgumentException" (by decide) (by decide) (by decide) wm_320 (by decide +kernel) (tc_hp1 "java/lang/IllegalStateException" (by decide) (by decide) (by decide) wm_321 (by decide +kernel))) (fun a => ?_)
      refine tv_astore5 (pc := 19) dL_add_19 (by rfl) ?_
      refine tv_iconst (v := 2) (pc := 21) dL_add_21 (by decide) ?_
      exact tv_iret (pc := 22) dL_add_22 rfl (by decide) (by decide) ⟨_, rfl, jK (c_D_add2 l G _ (by rw [h.1.s2, hn16]; rfl) r s1 t ho) (j_no2 h (by decide))⟩
  · skip
    refine tv_aload (pc := 0) dL_add_0 (by rfl) ?_
    refine tv_iconst (v := 0) (pc := 2) dL_add_2 (by decide) ?_
    refine tv_aload_n (pc := 3) dL_add_3 (by rfl) ?_
    refine tv_iload_n (pc := 4) dL_add_4 (by rfl) ?_
    refine tv_iload_n (pc := 5) dL_add_5 (by rfl) ?_
    refine tv_iload_n (pc := 6) dL_add_6 (by rfl) ?_
    refine tv_catV (pc := 7) [_, _, _] tb_0 (by rfl) (t_T_add_A l hl G u r s1 t ho) (kV1T_add wm_436 ⟨by decide, by decide⟩) (by rfl) (Nat.le_of_ble_eq_true rfl) dL_add_7 ⟨by decide, by decide⟩ (h := 15) (tc_hp1 "java/lang/IllegalArgumentException" (by decide) (by decide) (by decide) wm_320 (by decide +kernel)) (fun a => ?_)
    refine tv_astore5 (pc := 15) dL_add_15 (by rfl) ?_
    refine tv_iconst (v := 1) (pc := 17) dL_add_17 (by decide) ?_
    exact tv_iret (pc := 18) dL_add_18 rfl (by decide) (by decide) ⟨_, rfl, jK (c_D_add1 l G _ r s1 t ho) (j_no h (by decide))⟩
set_option maxRecDepth 100000 in
set_option maxHeartbeats 4000000 in
theorem w_out (l : Launch) (hl : l.stackTraces = false) (G : tc_G) (u : tc_S) {n : Nat} (h : jI n u) (r : Int32) : tc_C tcx G l yL_out wL_out r1L_out 1 6 [.ref (tc_ad G 0), .int r, .ref (tc_ad G 76)] u (tc_KI (fun k v => tc_C tcx G l yD_out wD_out r0D_out 0 0 [.ref (tc_ad G 56), .int r] v (tc_KI (jE k)))) := by
  refine tw_ofVW (own := "TracedCodeLaw") [some (.ref (tc_ad G 0)), some (.int r), some (.ref (tc_ad G 76)), none] (by decide +kernel) rfl (Nat.le_of_ble_eq_true rfl) (by rfl) (fun p e s m args below meth c => ?_)
  by_cases ho : ((¬ r < 0 ∧ ¬ 6 ≤ r))
  · by_cases hn : n < 16
    · skip
      refine tv_aload_n (pc := 0) dL_out_0 (by rfl) ?_
      refine tv_iconst (v := 0) (pc := 1) dL_out_1 (by decide) ?_
      refine tv_aload_n (pc := 2) dL_out_2 (by rfl) ?_
      refine tv_iload_n (pc := 3) dL_out_3 (by rfl) ?_
      refine tv_callVi (pc := 4) [_] tb_0 (by rfl) (c_T_out l G u h.1.s1 hn r ho) (kVT_out wm_443 ⟨by decide, by decide⟩) (by rfl) (Nat.le_of_ble_eq_true rfl) dL_out_4 ⟨by decide, by decide⟩ ?_
      refine tv_i2l (pc := 7) dL_out_7 ?_
      refine tv_last (pc := 8) (j := 0) tb_76 ⟨by decide, by decide, by decide⟩ dL_out_8 ?_
      refine tv_goto (pc := 9) 18 dL_out_9 (by decide) ?_
      refine tv_iconst (v := 0) (pc := 18) dL_out_18 (by decide) ?_
      exact tv_iret (pc := 19) dL_out_19 rfl (by decide) (by decide) ⟨_, rfl, jK (c_D_out l G _ (j_ap0 h) hn r ho) (j_ap1 h hn (j_l3 ho) (by decide))⟩
    · have hn16 : n = 16 := by have := h.1.hn; omega
      refine tv_aload_n (pc := 0) dL_out_0 (by rfl) ?_
      refine tv_iconst (v := 0) (pc := 1) dL_out_1 (by decide) ?_
      refine tv_aload_n (pc := 2) dL_out_2 (by rfl) ?_
      refine tv_iload_n (pc := 3) dL_out_3 (by rfl) ?_
      refine tv_catV (pc := 4) [_] tb_0 (by rfl) (t_T_out_S l hl G u h.1.s1 hn16 r ho) (kV1T_out wm_443 ⟨by decide, by decide⟩) (by rfl) (Nat.le_of_ble_eq_true rfl) dL_out_4 ⟨by decide, by decide⟩ (h := 15) (tc_hp2 "java/lang/IllegalArgumentException" (by decide) (by decide) (by decide) wm_320 (by decide +kernel) (tc_hp1 "java/lang/IllegalStateException" (by decide) (by decide) (by decide) wm_321 (by decide +kernel))) (fun a => ?_)
      refine tv_astore3 (pc := 15) dL_out_15 (by rfl) ?_
      refine tv_iconst (v := 2) (pc := 16) dL_out_16 (by decide) ?_
      exact tv_iret (pc := 17) dL_out_17 rfl (by decide) (by decide) ⟨_, rfl, jK (c_D_out2 l G _ (by rw [h.1.s2, hn16]; rfl) r ho) (j_no2 h (by decide))⟩
  · skip
    refine tv_aload_n (pc := 0) dL_out_0 (by rfl) ?_
    refine tv_iconst (v := 0) (pc := 1) dL_out_1 (by decide) ?_
    refine tv_aload_n (pc := 2) dL_out_2 (by rfl) ?_
    refine tv_iload_n (pc := 3) dL_out_3 (by rfl) ?_
    refine tv_catV (pc := 4) [_] tb_0 (by rfl) (t_T_out_A l hl G u r ho) (kV1T_out wm_443 ⟨by decide, by decide⟩) (by rfl) (Nat.le_of_ble_eq_true rfl) dL_out_4 ⟨by decide, by decide⟩ (h := 12) (tc_hp1 "java/lang/IllegalArgumentException" (by decide) (by decide) (by decide) wm_320 (by decide +kernel)) (fun a => ?_)
    refine tv_astore3 (pc := 12) dL_out_12 (by rfl) ?_
    refine tv_iconst (v := 1) (pc := 13) dL_out_13 (by decide) ?_
    exact tv_iret (pc := 14) dL_out_14 rfl (by decide) (by decide) ⟨_, rfl, jK (c_D_out1 l G _ r ho) (j_no h (by decide))⟩
set_option maxRecDepth 100000 in
set_option maxHeartbeats 4000000 in
theorem w_jump (l : Launch) (hl : l.stackTraces = false) (G : tc_G) (u : tc_S) {n : Nat} (h : jI n u) (r s1 : Int32) : tc_C tcx G l yL_jump wL_jump r1L_jump 1 6 [.ref (tc_ad G 0), .int r, .int s1, .ref (tc_ad G 76)] u (tc_KI (fun k v => tc_C tcx G l yD_jump wD_jump r0D_jump 0 0 [.ref (tc_ad G 56), .int r, .int s1] v (tc_KI (jE k)))) := by
  refine tw_ofVW (own := "TracedCodeLaw") [some (.ref (tc_ad G 0)), some (.int r), some (.int s1), some (.ref (tc_ad G 76)), none] (by decide +kernel) rfl (Nat.le_of_ble_eq_true rfl) (by rfl) (fun p e s m args below meth c => ?_)
  by_cases ho : ((¬ r < 0 ∧ ¬ 6 ≤ r)) ∧ ((¬ s1 < 0 ∧ ¬ 17 ≤ s1))
  · by_cases hn : n < 16
    · skip
      refine tv_aload_n (pc := 0) dL_jump_0 (by rfl) ?_
      refine tv_iconst (v := 0) (pc := 1) dL_jump_1 (by decide) ?_
      refine tv_aload_n (pc := 2) dL_jump_2 (by rfl) ?_
      refine tv_iload_n (pc := 3) dL_jump_3 (by rfl) ?_
      refine tv_iload_n (pc := 4) dL_jump_4 (by rfl) ?_
      refine tv_callVi (pc := 5) [_, _] tb_0 (by rfl) (c_T_jump l G u h.1.s1 hn r s1 ho) (kVT_jump wm_450 ⟨by decide, by decide⟩) (by rfl) (Nat.le_of_ble_eq_true rfl) dL_jump_5 ⟨by decide, by decide⟩ ?_
      refine tv_i2l (pc := 8) dL_jump_8 ?_
      refine tv_last (pc := 9) (j := 0) tb_76 ⟨by decide, by decide, by decide⟩ dL_jump_9 ?_
      refine tv_goto (pc := 10) 21 dL_jump_10 (by decide) ?_
      refine tv_iconst (v := 0) (pc := 21) dL_jump_21 (by decide) ?_
      exact tv_iret (pc := 22) dL_jump_22 rfl (by decide) (by decide) ⟨_, rfl, jK (c_D_jump l G _ (j_ap0 h) hn r s1 ho) (j_ap1 h hn (j_l4 ho) (by decide))⟩
    · have hn16 : n = 16 := by have := h.1.hn; omega
      refine tv_aload_n (pc := 0) dL_jump_0 (by rfl) ?_
      refine tv_iconst (v := 0) (pc := 1) dL_jump_1 (by decide) ?_
      refine tv_aload_n (pc := 2) dL_jump_2 (by rfl) ?_
      refine tv_iload_n (pc := 3) dL_jump_3 (by rfl) ?_
      refine tv_iload_n (pc := 4) dL_jump_4 (by rfl) ?_
      refine tv_catV (pc := 5) [_, _] tb_0 (by rfl) (t_T_jump_S l hl G u h.1.s1 hn16 r s1 ho) (kV1T_jump wm_450 ⟨by decide, by decide⟩) (by rfl) (Nat.le_of_ble_eq_true rfl) dL_jump_5 ⟨by decide, by decide⟩ (h := 17) (tc_hp2 "java/lang/IllegalArgumentException" (by decide) (by decide) (by decide) wm_320 (by decide +kernel) (tc_hp1 "java/lang/IllegalStateException" (by decide) (by decide) (by decide) wm_321 (by decide +kernel))) (fun a => ?_)
      refine tv_astore4 (pc := 17) dL_jump_17 (by rfl) ?_
      refine tv_iconst (v := 2) (pc := 19) dL_jump_19 (by decide) ?_
      exact tv_iret (pc := 20) dL_jump_20 rfl (by decide) (by decide) ⟨_, rfl, jK (c_D_jump2 l G _ (by rw [h.1.s2, hn16]; rfl) r s1 ho) (j_no2 h (by decide))⟩
  · skip
    refine tv_aload_n (pc := 0) dL_jump_0 (by rfl) ?_
    refine tv_iconst (v := 0) (pc := 1) dL_jump_1 (by decide) ?_
    refine tv_aload_n (pc := 2) dL_jump_2 (by rfl) ?_
    refine tv_iload_n (pc := 3) dL_jump_3 (by rfl) ?_
    refine tv_iload_n (pc := 4) dL_jump_4 (by rfl) ?_
    refine tv_catV (pc := 5) [_, _] tb_0 (by rfl) (t_T_jump_A l hl G u r s1 ho) (kV1T_jump wm_450 ⟨by decide, by decide⟩) (by rfl) (Nat.le_of_ble_eq_true rfl) dL_jump_5 ⟨by decide, by decide⟩ (h := 13) (tc_hp1 "java/lang/IllegalArgumentException" (by decide) (by decide) (by decide) wm_320 (by decide +kernel)) (fun a => ?_)
    refine tv_astore4 (pc := 13) dL_jump_13 (by rfl) ?_
    refine tv_iconst (v := 1) (pc := 15) dL_jump_15 (by decide) ?_
    exact tv_iret (pc := 16) dL_jump_16 rfl (by decide) (by decide) ⟨_, rfl, jK (c_D_jump1 l G _ r s1 ho) (j_no h (by decide))⟩
set_option maxRecDepth 100000 in
set_option maxHeartbeats 4000000 in
theorem w_name (l : Launch) (hl : l.stackTraces = false) (G : tc_G) (u : tc_S) {n : Nat} (h : jI n u) (v1 r : Int32) : tc_C tcx G l yL_name wL_name r1L_name 1 6 [.ref (tc_ad G 0), .int v1, .int r, .ref (tc_ad G 76)] u (tc_KI (fun k v => tc_C tcx G l yD_name wD_name r0D_name 0 0 [.ref (tc_ad G 56), .int v1, .int r] v (tc_KI (jE k)))) := by
  refine tw_ofVW (own := "TracedCodeLaw") [some (.ref (tc_ad G 0)), some (.int v1), some (.int r), some (.ref (tc_ad G 76)), none] (by decide +kernel) rfl (Nat.le_of_ble_eq_true rfl) (by rfl) (fun p e s m args below meth c => ?_)
  by_cases ho : ((¬ v1 < 0 ∧ ¬ 3 ≤ v1)) ∧ ((¬ r < 0 ∧ ¬ 6 ≤ r))
  · by_cases hn : n < 16
    · skip
      refine tv_aload_n (pc := 0) dL_name_0 (by rfl) ?_
      refine tv_iconst (v := 0) (pc := 1) dL_name_1 (by decide) ?_
      refine tv_aload_n (pc := 2) dL_name_2 (by rfl) ?_
      refine tv_iload_n (pc := 3) dL_name_3 (by rfl) ?_
      refine tv_iload_n (pc := 4) dL_name_4 (by rfl) ?_
      refine tv_callVi (pc := 5) [_, _] tb_0 (by rfl) (c_T_name l G u h.1.s1 hn v1 r ho) (kVT_name wm_457 ⟨by decide, by decide⟩) (by rfl) (Nat.le_of_ble_eq_true rfl) dL_name_5 ⟨by decide, by decide⟩ ?_
      refine tv_i2l (pc := 8) dL_name_8 ?_
      refine tv_last (pc := 9) (j := 0) tb_76 ⟨by decide, by decide, by decide⟩ dL_name_9 ?_
      refine tv_goto (pc := 10) 21 dL_name_10 (by decide) ?_
      refine tv_iconst (v := 0) (pc := 21) dL_name_21 (by decide) ?_
      exact tv_iret (pc := 22) dL_name_22 rfl (by decide) (by decide) ⟨_, rfl, jK (c_D_name l G _ (j_ap0 h) hn v1 r ho) (j_ap1 h hn (j_l5 ho) (by decide))⟩
    · have hn16 : n = 16 := by have := h.1.hn; omega
      refine tv_aload_n (pc := 0) dL_name_0 (by rfl) ?_
      refine tv_iconst (v := 0) (pc := 1) dL_name_1 (by decide) ?_
      refine tv_aload_n (pc := 2) dL_name_2 (by rfl) ?_
      refine tv_iload_n (pc := 3) dL_name_3 (by rfl) ?_
      refine tv_iload_n (pc := 4) dL_name_4 (by rfl) ?_
      refine tv_catV (pc := 5) [_, _] tb_0 (by rfl) (t_T_name_S l hl G u h.1.s1 hn16 v1 r ho) (kV1T_name wm_457 ⟨by decide, by decide⟩) (by rfl) (Nat.le_of_ble_eq_true rfl) dL_name_5 ⟨by decide, by decide⟩ (h := 17) (tc_hp2 "java/lang/IllegalArgumentException" (by decide) (by decide) (by decide) wm_320 (by decide +kernel) (tc_hp1 "java/lang/IllegalStateException" (by decide) (by decide) (by decide) wm_321 (by decide +kernel))) (fun a => ?_)
      refine tv_astore4 (pc := 17) dL_name_17 (by rfl) ?_
      refine tv_iconst (v := 2) (pc := 19) dL_name_19 (by decide) ?_
      exact tv_iret (pc := 20) dL_name_20 rfl (by decide) (by decide) ⟨_, rfl, jK (c_D_name2 l G _ (by rw [h.1.s2, hn16]; rfl) v1 r ho) (j_no2 h (by decide))⟩
  · skip
    refine tv_aload_n (pc := 0) dL_name_0 (by rfl) ?_
    refine tv_iconst (v := 0) (pc := 1) dL_name_1 (by decide) ?_
    refine tv_aload_n (pc := 2) dL_name_2 (by rfl) ?_
    refine tv_iload_n (pc := 3) dL_name_3 (by rfl) ?_
    refine tv_iload_n (pc := 4) dL_name_4 (by rfl) ?_
    refine tv_catV (pc := 5) [_, _] tb_0 (by rfl) (t_T_name_A l hl G u v1 r ho) (kV1T_name wm_457 ⟨by decide, by decide⟩) (by rfl) (Nat.le_of_ble_eq_true rfl) dL_name_5 ⟨by decide, by decide⟩ (h := 13) (tc_hp1 "java/lang/IllegalArgumentException" (by decide) (by decide) (by decide) wm_320 (by decide +kernel)) (fun a => ?_)
    refine tv_astore4 (pc := 13) dL_name_13 (by rfl) ?_
    refine tv_iconst (v := 1) (pc := 15) dL_name_15 (by decide) ?_
    exact tv_iret (pc := 16) dL_name_16 rfl (by decide) (by decide) ⟨_, rfl, jK (c_D_name1 l G _ v1 r ho) (j_no h (by decide))⟩
