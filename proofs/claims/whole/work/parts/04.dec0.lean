theorem dX0_init_0 : decode cX0_init 0 = .ok (.aload_n 0, 1) := by decide +kernel
theorem dX0_init_1 : decode cX0_init 1 = .ok (.invokespecial 3, 3) := by decide +kernel
theorem dX0_init_4 : decode cX0_init 4 = .ok (.aload_n 0, 1) := by decide +kernel
theorem dX0_init_5 : decode cX0_init 5 = .ok (.sipush 4096, 3) := by decide +kernel
theorem dX0_init_8 : decode cX0_init 8 = .ok (.newarray .int, 2) := by decide +kernel
theorem dX0_init_10 : decode cX0_init 10 = .ok (.putfield 9, 3) := by decide +kernel
theorem dX0_init_13 : decode cX0_init 13 = .ok (.aload_n 0, 1) := by decide +kernel
theorem dX0_init_14 : decode cX0_init 14 = .ok (.iconst 4, 1) := by decide +kernel
theorem dX0_init_15 : decode cX0_init 15 = .ok (.newarray .int, 2) := by decide +kernel
theorem dX0_init_17 : decode cX0_init 17 = .ok (.dup, 1) := by decide +kernel
theorem dX0_init_18 : decode cX0_init 18 = .ok (.iconst 0, 1) := by decide +kernel
theorem dX0_init_19 : decode cX0_init 19 = .ok (.bipush 7, 2) := by decide +kernel
theorem dX0_init_21 : decode cX0_init 21 = .ok (.iastore, 1) := by decide +kernel
theorem dX0_init_22 : decode cX0_init 22 = .ok (.dup, 1) := by decide +kernel
theorem dX0_init_23 : decode cX0_init 23 = .ok (.iconst 1, 1) := by decide +kernel
theorem dX0_init_24 : decode cX0_init 24 = .ok (.bipush 7, 2) := by decide +kernel
theorem dX0_init_26 : decode cX0_init 26 = .ok (.iastore, 1) := by decide +kernel
theorem dX0_init_27 : decode cX0_init 27 = .ok (.dup, 1) := by decide +kernel
theorem dX0_init_28 : decode cX0_init 28 = .ok (.iconst 2, 1) := by decide +kernel
theorem dX0_init_29 : decode cX0_init 29 = .ok (.bipush 7, 2) := by decide +kernel
theorem dX0_init_31 : decode cX0_init 31 = .ok (.iastore, 1) := by decide +kernel
theorem dX0_init_32 : decode cX0_init 32 = .ok (.dup, 1) := by decide +kernel
theorem dX0_init_33 : decode cX0_init 33 = .ok (.iconst 3, 1) := by decide +kernel
theorem dX0_init_34 : decode cX0_init 34 = .ok (.bipush 7, 2) := by decide +kernel
theorem dX0_init_36 : decode cX0_init 36 = .ok (.iastore, 1) := by decide +kernel
theorem dX0_init_37 : decode cX0_init 37 = .ok (.putfield 13, 3) := by decide +kernel
theorem dX0_init_40 : decode cX0_init 40 = .ok (.aload_n 0, 1) := by decide +kernel
theorem dX0_init_41 : decode cX0_init 41 = .ok (.bipush 32, 2) := by decide +kernel
theorem dX0_init_43 : decode cX0_init 43 = .ok (.newarray .int, 2) := by decide +kernel
theorem dX0_init_45 : decode cX0_init 45 = .ok (.putfield 16, 3) := by decide +kernel
theorem dX0_init_48 : decode cX0_init 48 = .ok (.aload_n 0, 1) := by decide +kernel
theorem dX0_init_49 : decode cX0_init 49 = .ok (.iconst 0, 1) := by decide +kernel
theorem dX0_init_50 : decode cX0_init 50 = .ok (.putfield 19, 3) := by decide +kernel
theorem dX0_init_53 : decode cX0_init 53 = .ok (.aload_n 0, 1) := by decide +kernel
theorem dX0_init_54 : decode cX0_init 54 = .ok (.iconst (-1), 1) := by decide +kernel
theorem dX0_init_55 : decode cX0_init 55 = .ok (.putfield 23, 3) := by decide +kernel
theorem dX0_init_58 : decode cX0_init 58 = .ok (.aload_n 0, 1) := by decide +kernel
theorem dX0_init_59 : decode cX0_init 59 = .ok (.iconst 0, 1) := by decide +kernel
theorem dX0_init_60 : decode cX0_init 60 = .ok (.putfield 26, 3) := by decide +kernel
theorem dX0_init_63 : decode cX0_init 63 = .ok (.aload_n 0, 1) := by decide +kernel
theorem dX0_init_64 : decode cX0_init 64 = .ok (.iconst 0, 1) := by decide +kernel
theorem dX0_init_65 : decode cX0_init 65 = .ok (.putfield 29, 3) := by decide +kernel
theorem dX0_init_68 : decode cX0_init 68 = .ok (.return_, 1) := by decide +kernel
theorem dX0_poke_0 : decode cX0_poke 0 = .ok (.iload_n 2, 1) := by decide +kernel
theorem dX0_poke_1 : decode cX0_poke 1 = .ok (.iconst 1, 1) := by decide +kernel
theorem dX0_poke_2 : decode cX0_poke 2 = .ok (.if_icmp .lt 9, 3) := by decide +kernel
theorem dX0_poke_5 : decode cX0_poke 5 = .ok (.iload_n 2, 1) := by decide +kernel
theorem dX0_poke_6 : decode cX0_poke 6 = .ok (.bipush 8, 2) := by decide +kernel
theorem dX0_poke_8 : decode cX0_poke 8 = .ok (.if_icmp .le 5, 3) := by decide +kernel
theorem dX0_poke_11 : decode cX0_poke 11 = .ok (.iconst 0, 1) := by decide +kernel
theorem dX0_poke_12 : decode cX0_poke 12 = .ok (.ireturn, 1) := by decide +kernel
theorem dX0_poke_13 : decode cX0_poke 13 = .ok (.iload_n 1, 1) := by decide +kernel
theorem dX0_poke_14 : decode cX0_poke 14 = .ok (.ifCond .lt 12, 3) := by decide +kernel
theorem dX0_poke_17 : decode cX0_poke 17 = .ok (.iload_n 1, 1) := by decide +kernel
theorem dX0_poke_18 : decode cX0_poke 18 = .ok (.sipush 16384, 3) := by decide +kernel
theorem dX0_poke_21 : decode cX0_poke 21 = .ok (.iload_n 2, 1) := by decide +kernel
theorem dX0_poke_22 : decode cX0_poke 22 = .ok (.isub, 1) := by decide +kernel
theorem dX0_poke_23 : decode cX0_poke 23 = .ok (.if_icmp .le 5, 3) := by decide +kernel
theorem dX0_poke_26 : decode cX0_poke 26 = .ok (.iconst 0, 1) := by decide +kernel
theorem dX0_poke_27 : decode cX0_poke 27 = .ok (.ireturn, 1) := by decide +kernel
theorem dX0_poke_28 : decode cX0_poke 28 = .ok (.aload_n 0, 1) := by decide +kernel
theorem dX0_poke_29 : decode cX0_poke 29 = .ok (.iload_n 1, 1) := by decide +kernel
theorem dX0_poke_30 : decode cX0_poke 30 = .ok (.iload_n 2, 1) := by decide +kernel
theorem dX0_poke_31 : decode cX0_poke 31 = .ok (.lload_n 3, 1) := by decide +kernel
theorem dX0_poke_32 : decode cX0_poke 32 = .ok (.invokevirtual 32, 3) := by decide +kernel
theorem dX0_poke_35 : decode cX0_poke 35 = .ok (.iconst 1, 1) := by decide +kernel
theorem dX0_poke_36 : decode cX0_poke 36 = .ok (.ireturn, 1) := by decide +kernel
theorem dX0_peek_0 : decode cX0_peek 0 = .ok (.iload_n 1, 1) := by decide +kernel
theorem dX0_peek_1 : decode cX0_peek 1 = .ok (.invokestatic 36, 3) := by decide +kernel
theorem dX0_peek_4 : decode cX0_peek 4 = .ok (.ifCond .ne 5, 3) := by decide +kernel
theorem dX0_peek_7 : decode cX0_peek 7 = .ok (.iconst (-1), 1) := by decide +kernel
theorem dX0_peek_8 : decode cX0_peek 8 = .ok (.ireturn, 1) := by decide +kernel
theorem dX0_peek_9 : decode cX0_peek 9 = .ok (.aload_n 0, 1) := by decide +kernel
theorem dX0_peek_10 : decode cX0_peek 10 = .ok (.iload_n 1, 1) := by decide +kernel
theorem dX0_peek_11 : decode cX0_peek 11 = .ok (.invokevirtual 40, 3) := by decide +kernel
theorem dX0_peek_14 : decode cX0_peek 14 = .ok (.sipush 255, 3) := by decide +kernel
theorem dX0_peek_17 : decode cX0_peek 17 = .ok (.iand, 1) := by decide +kernel
theorem dX0_peek_18 : decode cX0_peek 18 = .ok (.ireturn, 1) := by decide +kernel
theorem dX0_protect_0 : decode cX0_protect 0 = .ok (.iload_n 1, 1) := by decide +kernel
theorem dX0_protect_1 : decode cX0_protect 1 = .ok (.ifCond .lt 18, 3) := by decide +kernel
theorem dX0_protect_4 : decode cX0_protect 4 = .ok (.iload_n 1, 1) := by decide +kernel
theorem dX0_protect_5 : decode cX0_protect 5 = .ok (.iconst 4, 1) := by decide +kernel
theorem dX0_protect_6 : decode cX0_protect 6 = .ok (.if_icmp .ge 13, 3) := by decide +kernel
theorem dX0_protect_9 : decode cX0_protect 9 = .ok (.iload_n 2, 1) := by decide +kernel
theorem dX0_protect_10 : decode cX0_protect 10 = .ok (.ifCond .lt 9, 3) := by decide +kernel
theorem dX0_protect_13 : decode cX0_protect 13 = .ok (.iload_n 2, 1) := by decide +kernel
theorem dX0_protect_14 : decode cX0_protect 14 = .ok (.bipush 7, 2) := by decide +kernel
theorem dX0_protect_16 : decode cX0_protect 16 = .ok (.if_icmp .le 5, 3) := by decide +kernel
theorem dX0_protect_19 : decode cX0_protect 19 = .ok (.iconst 0, 1) := by decide +kernel
theorem dX0_protect_20 : decode cX0_protect 20 = .ok (.ireturn, 1) := by decide +kernel
theorem dX0_protect_21 : decode cX0_protect 21 = .ok (.aload_n 0, 1) := by decide +kernel
theorem dX0_protect_22 : decode cX0_protect 22 = .ok (.getfield 13, 3) := by decide +kernel
theorem dX0_protect_25 : decode cX0_protect 25 = .ok (.iload_n 1, 1) := by decide +kernel
theorem dX0_protect_26 : decode cX0_protect 26 = .ok (.iload_n 2, 1) := by decide +kernel
theorem dX0_protect_27 : decode cX0_protect 27 = .ok (.iastore, 1) := by decide +kernel
theorem dX0_protect_28 : decode cX0_protect 28 = .ok (.iconst 1, 1) := by decide +kernel
theorem dX0_protect_29 : decode cX0_protect 29 = .ok (.ireturn, 1) := by decide +kernel
theorem dX0_set_0 : decode cX0_set 0 = .ok (.iload_n 1, 1) := by decide +kernel
theorem dX0_set_1 : decode cX0_set 1 = .ok (.invokestatic 44, 3) := by decide +kernel
theorem dX0_set_4 : decode cX0_set 4 = .ok (.ifCond .ne 5, 3) := by decide +kernel
theorem dX0_set_7 : decode cX0_set 7 = .ok (.iconst 0, 1) := by decide +kernel
theorem dX0_set_8 : decode cX0_set 8 = .ok (.ireturn, 1) := by decide +kernel
theorem dX0_set_9 : decode cX0_set 9 = .ok (.aload_n 0, 1) := by decide +kernel
theorem dX0_set_10 : decode cX0_set 10 = .ok (.iload_n 1, 1) := by decide +kernel
theorem dX0_set_11 : decode cX0_set 11 = .ok (.iload_n 2, 1) := by decide +kernel
theorem dX0_set_12 : decode cX0_set 12 = .ok (.invokevirtual 47, 3) := by decide +kernel
theorem dX0_set_15 : decode cX0_set 15 = .ok (.iconst 1, 1) := by decide +kernel
theorem dX0_set_16 : decode cX0_set 16 = .ok (.ireturn, 1) := by decide +kernel
theorem dX0_register_0 : decode cX0_register 0 = .ok (.iload_n 1, 1) := by decide +kernel
theorem dX0_register_1 : decode cX0_register 1 = .ok (.invokestatic 44, 3) := by decide +kernel
theorem dX0_register_4 : decode cX0_register 4 = .ok (.ifCond .eq 12, 3) := by decide +kernel
theorem dX0_register_7 : decode cX0_register 7 = .ok (.aload_n 0, 1) := by decide +kernel
theorem dX0_register_8 : decode cX0_register 8 = .ok (.getfield 16, 3) := by decide +kernel
theorem dX0_register_11 : decode cX0_register 11 = .ok (.iload_n 1, 1) := by decide +kernel
theorem dX0_register_12 : decode cX0_register 12 = .ok (.iaload, 1) := by decide +kernel
theorem dX0_register_13 : decode cX0_register 13 = .ok (.goto 4, 3) := by decide +kernel
theorem dX0_register_16 : decode cX0_register 16 = .ok (.iconst 0, 1) := by decide +kernel
theorem dX0_register_17 : decode cX0_register 17 = .ok (.ireturn, 1) := by decide +kernel
theorem dX0_jump_0 : decode cX0_jump 0 = .ok (.aload_n 0, 1) := by decide +kernel
theorem dX0_jump_1 : decode cX0_jump 1 = .ok (.iload_n 1, 1) := by decide +kernel
theorem dX0_jump_2 : decode cX0_jump 2 = .ok (.putfield 19, 3) := by decide +kernel
theorem dX0_jump_5 : decode cX0_jump 5 = .ok (.return_, 1) := by decide +kernel
theorem dX0_pc_0 : decode cX0_pc 0 = .ok (.aload_n 0, 1) := by decide +kernel
theorem dX0_pc_1 : decode cX0_pc 1 = .ok (.getfield 19, 3) := by decide +kernel
theorem dX0_pc_4 : decode cX0_pc 4 = .ok (.ireturn, 1) := by decide +kernel
theorem dX0_run_0 : decode cX0_run 0 = .ok (.iload_n 1, 1) := by decide +kernel
theorem dX0_run_1 : decode cX0_run 1 = .ok (.ifCond .lt 10, 3) := by decide +kernel
theorem dX0_run_4 : decode cX0_run 4 = .ok (.iload_n 1, 1) := by decide +kernel
theorem dX0_run_5 : decode cX0_run 5 = .ok (.sipush 2000, 3) := by decide +kernel
theorem dX0_run_8 : decode cX0_run 8 = .ok (.if_icmp .le 13, 3) := by decide +kernel
theorem dX0_run_11 : decode cX0_run 11 = .ok (.new 51, 3) := by decide +kernel
theorem dX0_run_14 : decode cX0_run 14 = .ok (.dup, 1) := by decide +kernel
theorem dX0_run_15 : decode cX0_run 15 = .ok (.ldc 53, 2) := by decide +kernel
theorem dX0_run_17 : decode cX0_run 17 = .ok (.invokespecial 55, 3) := by decide +kernel
theorem dX0_run_20 : decode cX0_run 20 = .ok (.athrow, 1) := by decide +kernel
theorem dX0_run_21 : decode cX0_run 21 = .ok (.aload_n 0, 1) := by decide +kernel
theorem dX0_run_22 : decode cX0_run 22 = .ok (.iconst (-1), 1) := by decide +kernel
theorem dX0_run_23 : decode cX0_run 23 = .ok (.putfield 23, 3) := by decide +kernel
theorem dX0_run_26 : decode cX0_run 26 = .ok (.aload_n 0, 1) := by decide +kernel
theorem dX0_run_27 : decode cX0_run 27 = .ok (.iconst 0, 1) := by decide +kernel
theorem dX0_run_28 : decode cX0_run 28 = .ok (.putfield 26, 3) := by decide +kernel
theorem dX0_run_31 : decode cX0_run 31 = .ok (.iconst 0, 1) := by decide +kernel
theorem dX0_run_32 : decode cX0_run 32 = .ok (.istore_n 2, 1) := by decide +kernel
theorem dX0_run_33 : decode cX0_run 33 = .ok (.iconst 0, 1) := by decide +kernel
theorem dX0_run_34 : decode cX0_run 34 = .ok (.istore_n 3, 1) := by decide +kernel
theorem dX0_run_35 : decode cX0_run 35 = .ok (.iload_n 3, 1) := by decide +kernel
theorem dX0_run_36 : decode cX0_run 36 = .ok (.iload_n 1, 1) := by decide +kernel
theorem dX0_run_37 : decode cX0_run 37 = .ok (.if_icmp .ge 22, 3) := by decide +kernel
theorem dX0_run_40 : decode cX0_run 40 = .ok (.aload_n 0, 1) := by decide +kernel
theorem dX0_run_41 : decode cX0_run 41 = .ok (.invokevirtual 58, 3) := by decide +kernel
theorem dX0_run_44 : decode cX0_run 44 = .ok (.ifCond .ne 6, 3) := by decide +kernel
theorem dX0_run_47 : decode cX0_run 47 = .ok (.goto 12, 3) := by decide +kernel
theorem dX0_run_50 : decode cX0_run 50 = .ok (.iinc 2 1, 3) := by decide +kernel
theorem dX0_run_53 : decode cX0_run 53 = .ok (.iinc 3 1, 3) := by decide +kernel
theorem dX0_run_56 : decode cX0_run 56 = .ok (.goto (-21), 3) := by decide +kernel
theorem dX0_run_59 : decode cX0_run 59 = .ok (.aload_n 0, 1) := by decide +kernel
theorem dX0_run_60 : decode cX0_run 60 = .ok (.dup, 1) := by decide +kernel
theorem dX0_run_61 : decode cX0_run 61 = .ok (.getfield 29, 3) := by decide +kernel
theorem dX0_run_64 : decode cX0_run 64 = .ok (.iload_n 2, 1) := by decide +kernel
theorem dX0_run_65 : decode cX0_run 65 = .ok (.iadd, 1) := by decide +kernel
theorem dX0_run_66 : decode cX0_run 66 = .ok (.putfield 29, 3) := by decide +kernel
theorem dX0_run_69 : decode cX0_run 69 = .ok (.iload_n 2, 1) := by decide +kernel
theorem dX0_run_70 : decode cX0_run 70 = .ok (.ireturn, 1) := by decide +kernel
theorem dX0_trap_0 : decode cX0_trap 0 = .ok (.aload_n 0, 1) := by decide +kernel
theorem dX0_trap_1 : decode cX0_trap 1 = .ok (.getfield 23, 3) := by decide +kernel
theorem dX0_trap_4 : decode cX0_trap 4 = .ok (.ireturn, 1) := by decide +kernel
theorem dX0_value_0 : decode cX0_value 0 = .ok (.aload_n 0, 1) := by decide +kernel
theorem dX0_value_1 : decode cX0_value 1 = .ok (.getfield 26, 3) := by decide +kernel
theorem dX0_value_4 : decode cX0_value 4 = .ok (.ireturn, 1) := by decide +kernel
theorem dX0_done_0 : decode cX0_done 0 = .ok (.aload_n 0, 1) := by decide +kernel
theorem dX0_done_1 : decode cX0_done 1 = .ok (.getfield 29, 3) := by decide +kernel
theorem dX0_done_4 : decode cX0_done 4 = .ok (.ireturn, 1) := by decide +kernel
theorem dX0_makeStep_0 : decode cX0_makeStep 0 = .ok (.aload_n 0, 1) := by decide +kernel
theorem dX0_makeStep_1 : decode cX0_makeStep 1 = .ok (.getfield 19, 3) := by decide +kernel
theorem dX0_makeStep_4 : decode cX0_makeStep 4 = .ok (.iconst 4, 1) := by decide +kernel
theorem dX0_makeStep_5 : decode cX0_makeStep 5 = .ok (.invokestatic 62, 3) := by decide +kernel
theorem dX0_makeStep_8 : decode cX0_makeStep 8 = .ok (.ifCond .eq 13, 3) := by decide +kernel
theorem dX0_makeStep_11 : decode cX0_makeStep 11 = .ok (.aload_n 0, 1) := by decide +kernel
theorem dX0_makeStep_12 : decode cX0_makeStep 12 = .ok (.iconst 0, 1) := by decide +kernel
theorem dX0_makeStep_13 : decode cX0_makeStep 13 = .ok (.aload_n 0, 1) := by decide +kernel
theorem dX0_makeStep_14 : decode cX0_makeStep 14 = .ok (.getfield 19, 3) := by decide +kernel
theorem dX0_makeStep_17 : decode cX0_makeStep 17 = .ok (.invokevirtual 66, 3) := by decide +kernel
theorem dX0_makeStep_20 : decode cX0_makeStep 20 = .ok (.ireturn, 1) := by decide +kernel
theorem dX0_makeStep_21 : decode cX0_makeStep 21 = .ok (.aload_n 0, 1) := by decide +kernel
theorem dX0_makeStep_22 : decode cX0_makeStep 22 = .ok (.aload_n 0, 1) := by decide +kernel
theorem dX0_makeStep_23 : decode cX0_makeStep 23 = .ok (.getfield 19, 3) := by decide +kernel
theorem dX0_makeStep_26 : decode cX0_makeStep 26 = .ok (.iconst 4, 1) := by decide +kernel
theorem dX0_makeStep_27 : decode cX0_makeStep 27 = .ok (.invokevirtual 69, 3) := by decide +kernel
theorem dX0_makeStep_30 : decode cX0_makeStep 30 = .ok (.ifCond .ne 14, 3) := by decide +kernel
theorem dX0_makeStep_33 : decode cX0_makeStep 33 = .ok (.aload_n 0, 1) := by decide +kernel
theorem dX0_makeStep_34 : decode cX0_makeStep 34 = .ok (.bipush 12, 2) := by decide +kernel
theorem dX0_makeStep_36 : decode cX0_makeStep 36 = .ok (.aload_n 0, 1) := by decide +kernel
theorem dX0_makeStep_37 : decode cX0_makeStep 37 = .ok (.getfield 19, 3) := by decide +kernel
theorem dX0_makeStep_40 : decode cX0_makeStep 40 = .ok (.invokevirtual 66, 3) := by decide +kernel
theorem dX0_makeStep_43 : decode cX0_makeStep 43 = .ok (.ireturn, 1) := by decide +kernel
theorem dX0_makeStep_44 : decode cX0_makeStep 44 = .ok (.aload_n 0, 1) := by decide +kernel
theorem dX0_makeStep_45 : decode cX0_makeStep 45 = .ok (.aload_n 0, 1) := by decide +kernel
theorem dX0_makeStep_46 : decode cX0_makeStep 46 = .ok (.getfield 9, 3) := by decide +kernel
theorem dX0_makeStep_49 : decode cX0_makeStep 49 = .ok (.aload_n 0, 1) := by decide +kernel
theorem dX0_makeStep_50 : decode cX0_makeStep 50 = .ok (.getfield 19, 3) := by decide +kernel
theorem dX0_makeStep_53 : decode cX0_makeStep 53 = .ok (.iconst 2, 1) := by decide +kernel
theorem dX0_makeStep_54 : decode cX0_makeStep 54 = .ok (.iushr, 1) := by decide +kernel
theorem dX0_makeStep_55 : decode cX0_makeStep 55 = .ok (.iaload, 1) := by decide +kernel
theorem dX0_makeStep_56 : decode cX0_makeStep 56 = .ok (.invokevirtual 72, 3) := by decide +kernel
theorem dX0_makeStep_59 : decode cX0_makeStep 59 = .ok (.ireturn, 1) := by decide +kernel
theorem dX0_execute_0 : decode cX0_execute 0 = .ok (.iload_n 1, 1) := by decide +kernel
theorem dX0_execute_1 : decode cX0_execute 1 = .ok (.bipush 127, 2) := by decide +kernel
theorem dX0_execute_3 : decode cX0_execute 3 = .ok (.iand, 1) := by decide +kernel
theorem dX0_execute_4 : decode cX0_execute 4 = .ok (.lookupswitch 188 #[(3, 152), (15, 176), (19, 164), (23, 110), (35, 158), (51, 170), (55, 100), (99, 146), (103, 140), (111, 125), (115, 182)], 100) := by decide +kernel
theorem dX0_execute_104 : decode cX0_execute 104 = .ok (.aload_n 0, 1) := by decide +kernel
theorem dX0_execute_105 : decode cX0_execute 105 = .ok (.iload_n 1, 1) := by decide +kernel
theorem dX0_execute_106 : decode cX0_execute 106 = .ok (.iload_n 1, 1) := by decide +kernel
theorem dX0_execute_107 : decode cX0_execute 107 = .ok (.invokestatic 75, 3) := by decide +kernel
theorem dX0_execute_110 : decode cX0_execute 110 = .ok (.invokevirtual 78, 3) := by decide +kernel
theorem dX0_execute_113 : decode cX0_execute 113 = .ok (.ireturn, 1) := by decide +kernel
theorem dX0_execute_114 : decode cX0_execute 114 = .ok (.aload_n 0, 1) := by decide +kernel
theorem dX0_execute_115 : decode cX0_execute 115 = .ok (.iload_n 1, 1) := by decide +kernel
theorem dX0_execute_116 : decode cX0_execute 116 = .ok (.aload_n 0, 1) := by decide +kernel
theorem dX0_execute_117 : decode cX0_execute 117 = .ok (.getfield 19, 3) := by decide +kernel
theorem dX0_execute_120 : decode cX0_execute 120 = .ok (.iload_n 1, 1) := by decide +kernel
theorem dX0_execute_121 : decode cX0_execute 121 = .ok (.invokestatic 75, 3) := by decide +kernel
theorem dX0_execute_124 : decode cX0_execute 124 = .ok (.iadd, 1) := by decide +kernel
theorem dX0_execute_125 : decode cX0_execute 125 = .ok (.invokevirtual 78, 3) := by decide +kernel
theorem dX0_execute_128 : decode cX0_execute 128 = .ok (.ireturn, 1) := by decide +kernel
theorem dX0_execute_129 : decode cX0_execute 129 = .ok (.aload_n 0, 1) := by decide +kernel
theorem dX0_execute_130 : decode cX0_execute 130 = .ok (.iload_n 1, 1) := by decide +kernel
theorem dX0_execute_131 : decode cX0_execute 131 = .ok (.aload_n 0, 1) := by decide +kernel
theorem dX0_execute_132 : decode cX0_execute 132 = .ok (.getfield 19, 3) := by decide +kernel
theorem dX0_execute_135 : decode cX0_execute 135 = .ok (.iload_n 1, 1) := by decide +kernel
theorem dX0_execute_136 : decode cX0_execute 136 = .ok (.invokestatic 81, 3) := by decide +kernel
theorem dX0_execute_139 : decode cX0_execute 139 = .ok (.iadd, 1) := by decide +kernel
theorem dX0_execute_140 : decode cX0_execute 140 = .ok (.invokevirtual 84, 3) := by decide +kernel
theorem dX0_execute_143 : decode cX0_execute 143 = .ok (.ireturn, 1) := by decide +kernel
theorem dX0_execute_144 : decode cX0_execute 144 = .ok (.aload_n 0, 1) := by decide +kernel
theorem dX0_execute_145 : decode cX0_execute 145 = .ok (.iload_n 1, 1) := by decide +kernel
theorem dX0_execute_146 : decode cX0_execute 146 = .ok (.invokevirtual 87, 3) := by decide +kernel
theorem dX0_execute_149 : decode cX0_execute 149 = .ok (.ireturn, 1) := by decide +kernel
theorem dX0_execute_150 : decode cX0_execute 150 = .ok (.aload_n 0, 1) := by decide +kernel
theorem dX0_execute_151 : decode cX0_execute 151 = .ok (.iload_n 1, 1) := by decide +kernel
theorem dX0_execute_152 : decode cX0_execute 152 = .ok (.invokevirtual 90, 3) := by decide +kernel
theorem dX0_execute_155 : decode cX0_execute 155 = .ok (.ireturn, 1) := by decide +kernel
theorem dX0_execute_156 : decode cX0_execute 156 = .ok (.aload_n 0, 1) := by decide +kernel
theorem dX0_execute_157 : decode cX0_execute 157 = .ok (.iload_n 1, 1) := by decide +kernel
theorem dX0_execute_158 : decode cX0_execute 158 = .ok (.invokevirtual 93, 3) := by decide +kernel
theorem dX0_execute_161 : decode cX0_execute 161 = .ok (.ireturn, 1) := by decide +kernel
theorem dX0_execute_162 : decode cX0_execute 162 = .ok (.aload_n 0, 1) := by decide +kernel
theorem dX0_execute_163 : decode cX0_execute 163 = .ok (.iload_n 1, 1) := by decide +kernel
theorem dX0_execute_164 : decode cX0_execute 164 = .ok (.invokevirtual 96, 3) := by decide +kernel
theorem dX0_execute_167 : decode cX0_execute 167 = .ok (.ireturn, 1) := by decide +kernel
theorem dX0_execute_168 : decode cX0_execute 168 = .ok (.aload_n 0, 1) := by decide +kernel
theorem dX0_execute_169 : decode cX0_execute 169 = .ok (.iload_n 1, 1) := by decide +kernel
theorem dX0_execute_170 : decode cX0_execute 170 = .ok (.invokevirtual 99, 3) := by decide +kernel
theorem dX0_execute_173 : decode cX0_execute 173 = .ok (.ireturn, 1) := by decide +kernel
theorem dX0_execute_174 : decode cX0_execute 174 = .ok (.aload_n 0, 1) := by decide +kernel
theorem dX0_execute_175 : decode cX0_execute 175 = .ok (.iload_n 1, 1) := by decide +kernel
theorem dX0_execute_176 : decode cX0_execute 176 = .ok (.invokevirtual 102, 3) := by decide +kernel
theorem dX0_execute_179 : decode cX0_execute 179 = .ok (.ireturn, 1) := by decide +kernel
theorem dX0_execute_180 : decode cX0_execute 180 = .ok (.aload_n 0, 1) := by decide +kernel
theorem dX0_execute_181 : decode cX0_execute 181 = .ok (.iload_n 1, 1) := by decide +kernel
theorem dX0_execute_182 : decode cX0_execute 182 = .ok (.invokevirtual 105, 3) := by decide +kernel
theorem dX0_execute_185 : decode cX0_execute 185 = .ok (.ireturn, 1) := by decide +kernel
theorem dX0_execute_186 : decode cX0_execute 186 = .ok (.aload_n 0, 1) := by decide +kernel
theorem dX0_execute_187 : decode cX0_execute 187 = .ok (.iload_n 1, 1) := by decide +kernel
theorem dX0_execute_188 : decode cX0_execute 188 = .ok (.invokevirtual 108, 3) := by decide +kernel
theorem dX0_execute_191 : decode cX0_execute 191 = .ok (.ireturn, 1) := by decide +kernel
theorem dX0_execute_192 : decode cX0_execute 192 = .ok (.aload_n 0, 1) := by decide +kernel
theorem dX0_execute_193 : decode cX0_execute 193 = .ok (.iload_n 1, 1) := by decide +kernel
theorem dX0_execute_194 : decode cX0_execute 194 = .ok (.invokevirtual 111, 3) := by decide +kernel
theorem dX0_execute_197 : decode cX0_execute 197 = .ok (.ireturn, 1) := by decide +kernel
theorem dX0_goToRegister_0 : decode cX0_goToRegister 0 = .ok (.iload_n 1, 1) := by decide +kernel
theorem dX0_goToRegister_1 : decode cX0_goToRegister 1 = .ok (.invokestatic 114, 3) := by decide +kernel
theorem dX0_goToRegister_4 : decode cX0_goToRegister 4 = .ok (.ifCond .eq 9, 3) := by decide +kernel
theorem dX0_goToRegister_7 : decode cX0_goToRegister 7 = .ok (.aload_n 0, 1) := by decide +kernel
theorem dX0_goToRegister_8 : decode cX0_goToRegister 8 = .ok (.iload_n 1, 1) := by decide +kernel
theorem dX0_goToRegister_9 : decode cX0_goToRegister 9 = .ok (.invokevirtual 111, 3) := by decide +kernel
theorem dX0_goToRegister_12 : decode cX0_goToRegister 12 = .ok (.ireturn, 1) := by decide +kernel
theorem dX0_goToRegister_13 : decode cX0_goToRegister 13 = .ok (.aload_n 0, 1) := by decide +kernel
theorem dX0_goToRegister_14 : decode cX0_goToRegister 14 = .ok (.iload_n 1, 1) := by decide +kernel
theorem dX0_goToRegister_15 : decode cX0_goToRegister 15 = .ok (.aload_n 0, 1) := by decide +kernel
theorem dX0_goToRegister_16 : decode cX0_goToRegister 16 = .ok (.iload_n 1, 1) := by decide +kernel
theorem dX0_goToRegister_17 : decode cX0_goToRegister 17 = .ok (.invokevirtual 117, 3) := by decide +kernel
theorem dX0_goToRegister_20 : decode cX0_goToRegister 20 = .ok (.iload_n 1, 1) := by decide +kernel
theorem dX0_goToRegister_21 : decode cX0_goToRegister 21 = .ok (.invokestatic 120, 3) := by decide +kernel
theorem dX0_goToRegister_24 : decode cX0_goToRegister 24 = .ok (.iadd, 1) := by decide +kernel
theorem dX0_goToRegister_25 : decode cX0_goToRegister 25 = .ok (.bipush (-2), 2) := by decide +kernel
theorem dX0_goToRegister_27 : decode cX0_goToRegister 27 = .ok (.iand, 1) := by decide +kernel
theorem dX0_goToRegister_28 : decode cX0_goToRegister 28 = .ok (.invokevirtual 84, 3) := by decide +kernel
theorem dX0_goToRegister_31 : decode cX0_goToRegister 31 = .ok (.ireturn, 1) := by decide +kernel
theorem dX0_branch_0 : decode cX0_branch 0 = .ok (.iload_n 1, 1) := by decide +kernel
theorem dX0_branch_1 : decode cX0_branch 1 = .ok (.invokestatic 114, 3) := by decide +kernel
theorem dX0_branch_4 : decode cX0_branch 4 = .ok (.istore_n 2, 1) := by decide +kernel
theorem dX0_branch_5 : decode cX0_branch 5 = .ok (.iload_n 2, 1) := by decide +kernel
theorem dX0_branch_6 : decode cX0_branch 6 = .ok (.iconst 2, 1) := by decide +kernel
theorem dX0_branch_7 : decode cX0_branch 7 = .ok (.if_icmp .eq 8, 3) := by decide +kernel
theorem dX0_branch_10 : decode cX0_branch 10 = .ok (.iload_n 2, 1) := by decide +kernel
theorem dX0_branch_11 : decode cX0_branch 11 = .ok (.iconst 3, 1) := by decide +kernel
theorem dX0_branch_12 : decode cX0_branch 12 = .ok (.if_icmp .ne 9, 3) := by decide +kernel
theorem dX0_branch_15 : decode cX0_branch 15 = .ok (.aload_n 0, 1) := by decide +kernel
theorem dX0_branch_16 : decode cX0_branch 16 = .ok (.iload_n 1, 1) := by decide +kernel
theorem dX0_branch_17 : decode cX0_branch 17 = .ok (.invokevirtual 111, 3) := by decide +kernel
theorem dX0_branch_20 : decode cX0_branch 20 = .ok (.ireturn, 1) := by decide +kernel
theorem dX0_branch_21 : decode cX0_branch 21 = .ok (.iload_n 2, 1) := by decide +kernel
theorem dX0_branch_22 : decode cX0_branch 22 = .ok (.iconst 1, 1) := by decide +kernel
theorem dX0_branch_23 : decode cX0_branch 23 = .ok (.iand, 1) := by decide +kernel
theorem dX0_branch_24 : decode cX0_branch 24 = .ok (.iconst 1, 1) := by decide +kernel
theorem dX0_branch_25 : decode cX0_branch 25 = .ok (.if_icmp .ne 7, 3) := by decide +kernel
theorem dX0_branch_28 : decode cX0_branch 28 = .ok (.iconst 1, 1) := by decide +kernel
theorem dX0_branch_29 : decode cX0_branch 29 = .ok (.goto 4, 3) := by decide +kernel
theorem dX0_branch_32 : decode cX0_branch 32 = .ok (.iconst 0, 1) := by decide +kernel
theorem dX0_branch_33 : decode cX0_branch 33 = .ok (.istore_n 3, 1) := by decide +kernel
theorem dX0_branch_34 : decode cX0_branch 34 = .ok (.iload_n 2, 1) := by decide +kernel
theorem dX0_branch_35 : decode cX0_branch 35 = .ok (.bipush 6, 2) := by decide +kernel
theorem dX0_branch_37 : decode cX0_branch 37 = .ok (.iand, 1) := by decide +kernel
theorem dX0_branch_38 : decode cX0_branch 38 = .ok (.aload_n 0, 1) := by decide +kernel
theorem dX0_branch_39 : decode cX0_branch 39 = .ok (.iload_n 1, 1) := by decide +kernel
theorem dX0_branch_40 : decode cX0_branch 40 = .ok (.invokevirtual 117, 3) := by decide +kernel
theorem dX0_branch_43 : decode cX0_branch 43 = .ok (.aload_n 0, 1) := by decide +kernel
theorem dX0_branch_44 : decode cX0_branch 44 = .ok (.iload_n 1, 1) := by decide +kernel
theorem dX0_branch_45 : decode cX0_branch 45 = .ok (.invokevirtual 123, 3) := by decide +kernel
theorem dX0_branch_48 : decode cX0_branch 48 = .ok (.invokestatic 126, 3) := by decide +kernel
theorem dX0_branch_51 : decode cX0_branch 51 = .ok (.iload_n 3, 1) := by decide +kernel
theorem dX0_branch_52 : decode cX0_branch 52 = .ok (.if_icmp .eq 7, 3) := by decide +kernel
theorem dX0_branch_55 : decode cX0_branch 55 = .ok (.iconst 1, 1) := by decide +kernel
theorem dX0_branch_56 : decode cX0_branch 56 = .ok (.goto 4, 3) := by decide +kernel
theorem dX0_branch_59 : decode cX0_branch 59 = .ok (.iconst 0, 1) := by decide +kernel
theorem dX0_branch_60 : decode cX0_branch 60 = .ok (.istore 4, 2) := by decide +kernel
theorem dX0_branch_62 : decode cX0_branch 62 = .ok (.iload 4, 2) := by decide +kernel
theorem dX0_branch_64 : decode cX0_branch 64 = .ok (.ifCond .eq 15, 3) := by decide +kernel
theorem dX0_branch_67 : decode cX0_branch 67 = .ok (.aload_n 0, 1) := by decide +kernel
theorem dX0_branch_68 : decode cX0_branch 68 = .ok (.getfield 19, 3) := by decide +kernel
theorem dX0_branch_71 : decode cX0_branch 71 = .ok (.iload_n 1, 1) := by decide +kernel
theorem dX0_branch_72 : decode cX0_branch 72 = .ok (.invokestatic 130, 3) := by decide +kernel
theorem dX0_branch_75 : decode cX0_branch 75 = .ok (.iadd, 1) := by decide +kernel
theorem dX0_branch_76 : decode cX0_branch 76 = .ok (.goto 9, 3) := by decide +kernel
theorem dX0_branch_79 : decode cX0_branch 79 = .ok (.aload_n 0, 1) := by decide +kernel
theorem dX0_branch_80 : decode cX0_branch 80 = .ok (.getfield 19, 3) := by decide +kernel
theorem dX0_branch_83 : decode cX0_branch 83 = .ok (.iconst 4, 1) := by decide +kernel
theorem dX0_branch_84 : decode cX0_branch 84 = .ok (.iadd, 1) := by decide +kernel
theorem dX0_branch_85 : decode cX0_branch 85 = .ok (.istore 5, 2) := by decide +kernel
theorem dX0_branch_87 : decode cX0_branch 87 = .ok (.iload 5, 2) := by decide +kernel
theorem dX0_branch_89 : decode cX0_branch 89 = .ok (.iconst 4, 1) := by decide +kernel
theorem dX0_branch_90 : decode cX0_branch 90 = .ok (.invokestatic 62, 3) := by decide +kernel
theorem dX0_branch_93 : decode cX0_branch 93 = .ok (.ifCond .eq 11, 3) := by decide +kernel
theorem dX0_branch_96 : decode cX0_branch 96 = .ok (.aload_n 0, 1) := by decide +kernel
theorem dX0_branch_97 : decode cX0_branch 97 = .ok (.iconst 0, 1) := by decide +kernel
theorem dX0_branch_98 : decode cX0_branch 98 = .ok (.iload 5, 2) := by decide +kernel
theorem dX0_branch_100 : decode cX0_branch 100 = .ok (.invokevirtual 66, 3) := by decide +kernel
theorem dX0_branch_103 : decode cX0_branch 103 = .ok (.ireturn, 1) := by decide +kernel
theorem dX0_branch_104 : decode cX0_branch 104 = .ok (.aload_n 0, 1) := by decide +kernel
theorem dX0_branch_105 : decode cX0_branch 105 = .ok (.iload 5, 2) := by decide +kernel
theorem dX0_branch_107 : decode cX0_branch 107 = .ok (.putfield 19, 3) := by decide +kernel
theorem dX0_branch_110 : decode cX0_branch 110 = .ok (.iconst 1, 1) := by decide +kernel
theorem dX0_branch_111 : decode cX0_branch 111 = .ok (.ireturn, 1) := by decide +kernel
theorem dX0_load_0 : decode cX0_load 0 = .ok (.iload_n 1, 1) := by decide +kernel
theorem dX0_load_1 : decode cX0_load 1 = .ok (.invokestatic 114, 3) := by decide +kernel
theorem dX0_load_4 : decode cX0_load 4 = .ok (.istore_n 2, 1) := by decide +kernel
theorem dX0_load_5 : decode cX0_load 5 = .ok (.iload_n 2, 1) := by decide +kernel
theorem dX0_load_6 : decode cX0_load 6 = .ok (.iconst 3, 1) := by decide +kernel
theorem dX0_load_7 : decode cX0_load 7 = .ok (.if_icmp .eq 8, 3) := by decide +kernel
theorem dX0_load_10 : decode cX0_load 10 = .ok (.iload_n 2, 1) := by decide +kernel
theorem dX0_load_11 : decode cX0_load 11 = .ok (.iconst 5, 1) := by decide +kernel
theorem dX0_load_12 : decode cX0_load 12 = .ok (.if_icmp .le 9, 3) := by decide +kernel
theorem dX0_load_15 : decode cX0_load 15 = .ok (.aload_n 0, 1) := by decide +kernel
theorem dX0_load_16 : decode cX0_load 16 = .ok (.iload_n 1, 1) := by decide +kernel
theorem dX0_load_17 : decode cX0_load 17 = .ok (.invokevirtual 111, 3) := by decide +kernel
theorem dX0_load_20 : decode cX0_load 20 = .ok (.ireturn, 1) := by decide +kernel
theorem dX0_load_21 : decode cX0_load 21 = .ok (.aload_n 0, 1) := by decide +kernel
theorem dX0_load_22 : decode cX0_load 22 = .ok (.iload_n 1, 1) := by decide +kernel
theorem dX0_load_23 : decode cX0_load 23 = .ok (.invokevirtual 117, 3) := by decide +kernel
theorem dX0_load_26 : decode cX0_load 26 = .ok (.iload_n 1, 1) := by decide +kernel
theorem dX0_load_27 : decode cX0_load 27 = .ok (.invokestatic 120, 3) := by decide +kernel
theorem dX0_load_30 : decode cX0_load 30 = .ok (.iadd, 1) := by decide +kernel
theorem dX0_load_31 : decode cX0_load 31 = .ok (.istore_n 3, 1) := by decide +kernel
theorem dX0_load_32 : decode cX0_load 32 = .ok (.iload_n 3, 1) := by decide +kernel
theorem dX0_load_33 : decode cX0_load 33 = .ok (.iconst 1, 1) := by decide +kernel
theorem dX0_load_34 : decode cX0_load 34 = .ok (.iload_n 2, 1) := by decide +kernel
theorem dX0_load_35 : decode cX0_load 35 = .ok (.iconst 3, 1) := by decide +kernel
theorem dX0_load_36 : decode cX0_load 36 = .ok (.iand, 1) := by decide +kernel
theorem dX0_load_37 : decode cX0_load 37 = .ok (.ishl, 1) := by decide +kernel
theorem dX0_load_38 : decode cX0_load 38 = .ok (.invokestatic 62, 3) := by decide +kernel
theorem dX0_load_41 : decode cX0_load 41 = .ok (.ifCond .eq 10, 3) := by decide +kernel
theorem dX0_load_44 : decode cX0_load 44 = .ok (.aload_n 0, 1) := by decide +kernel
theorem dX0_load_45 : decode cX0_load 45 = .ok (.iconst 4, 1) := by decide +kernel
theorem dX0_load_46 : decode cX0_load 46 = .ok (.iload_n 3, 1) := by decide +kernel
theorem dX0_load_47 : decode cX0_load 47 = .ok (.invokevirtual 66, 3) := by decide +kernel
theorem dX0_load_50 : decode cX0_load 50 = .ok (.ireturn, 1) := by decide +kernel
theorem dX0_load_51 : decode cX0_load 51 = .ok (.aload_n 0, 1) := by decide +kernel
theorem dX0_load_52 : decode cX0_load 52 = .ok (.iload_n 3, 1) := by decide +kernel
theorem dX0_load_53 : decode cX0_load 53 = .ok (.iconst 1, 1) := by decide +kernel
theorem dX0_load_54 : decode cX0_load 54 = .ok (.invokevirtual 69, 3) := by decide +kernel
theorem dX0_load_57 : decode cX0_load 57 = .ok (.ifCond .ne 11, 3) := by decide +kernel
theorem dX0_load_60 : decode cX0_load 60 = .ok (.aload_n 0, 1) := by decide +kernel
theorem dX0_load_61 : decode cX0_load 61 = .ok (.bipush 13, 2) := by decide +kernel
theorem dX0_load_63 : decode cX0_load 63 = .ok (.iload_n 3, 1) := by decide +kernel
theorem dX0_load_64 : decode cX0_load 64 = .ok (.invokevirtual 66, 3) := by decide +kernel
theorem dX0_load_67 : decode cX0_load 67 = .ok (.ireturn, 1) := by decide +kernel
theorem dX0_load_68 : decode cX0_load 68 = .ok (.aload_n 0, 1) := by decide +kernel
theorem dX0_load_69 : decode cX0_load 69 = .ok (.iload_n 1, 1) := by decide +kernel
theorem dX0_load_70 : decode cX0_load 70 = .ok (.iload_n 2, 1) := by decide +kernel
theorem dX0_load_71 : decode cX0_load 71 = .ok (.aload_n 0, 1) := by decide +kernel
theorem dX0_load_72 : decode cX0_load 72 = .ok (.iload_n 3, 1) := by decide +kernel
theorem dX0_load_73 : decode cX0_load 73 = .ok (.invokevirtual 40, 3) := by decide +kernel
theorem dX0_load_76 : decode cX0_load 76 = .ok (.invokestatic 133, 3) := by decide +kernel
theorem dX0_load_79 : decode cX0_load 79 = .ok (.invokevirtual 78, 3) := by decide +kernel
theorem dX0_load_82 : decode cX0_load 82 = .ok (.ireturn, 1) := by decide +kernel
theorem dX0_store_0 : decode cX0_store 0 = .ok (.iload_n 1, 1) := by decide +kernel
theorem dX0_store_1 : decode cX0_store 1 = .ok (.invokestatic 114, 3) := by decide +kernel
theorem dX0_store_4 : decode cX0_store 4 = .ok (.istore_n 2, 1) := by decide +kernel
theorem dX0_store_5 : decode cX0_store 5 = .ok (.iload_n 2, 1) := by decide +kernel
theorem dX0_store_6 : decode cX0_store 6 = .ok (.iconst 2, 1) := by decide +kernel
theorem dX0_store_7 : decode cX0_store 7 = .ok (.if_icmp .le 9, 3) := by decide +kernel
theorem dX0_store_10 : decode cX0_store 10 = .ok (.aload_n 0, 1) := by decide +kernel
theorem dX0_store_11 : decode cX0_store 11 = .ok (.iload_n 1, 1) := by decide +kernel
theorem dX0_store_12 : decode cX0_store 12 = .ok (.invokevirtual 111, 3) := by decide +kernel
theorem dX0_store_15 : decode cX0_store 15 = .ok (.ireturn, 1) := by decide +kernel
theorem dX0_store_16 : decode cX0_store 16 = .ok (.aload_n 0, 1) := by decide +kernel
theorem dX0_store_17 : decode cX0_store 17 = .ok (.iload_n 1, 1) := by decide +kernel
theorem dX0_store_18 : decode cX0_store 18 = .ok (.invokevirtual 117, 3) := by decide +kernel
theorem dX0_store_21 : decode cX0_store 21 = .ok (.iload_n 1, 1) := by decide +kernel
theorem dX0_store_22 : decode cX0_store 22 = .ok (.invokestatic 137, 3) := by decide +kernel
theorem dX0_store_25 : decode cX0_store 25 = .ok (.iadd, 1) := by decide +kernel
theorem dX0_store_26 : decode cX0_store 26 = .ok (.istore_n 3, 1) := by decide +kernel
theorem dX0_store_27 : decode cX0_store 27 = .ok (.iconst 1, 1) := by decide +kernel
theorem dX0_store_28 : decode cX0_store 28 = .ok (.iload_n 2, 1) := by decide +kernel
theorem dX0_store_29 : decode cX0_store 29 = .ok (.ishl, 1) := by decide +kernel
theorem dX0_store_30 : decode cX0_store 30 = .ok (.istore 4, 2) := by decide +kernel
theorem dX0_store_32 : decode cX0_store 32 = .ok (.iload_n 3, 1) := by decide +kernel
theorem dX0_store_33 : decode cX0_store 33 = .ok (.iload 4, 2) := by decide +kernel
theorem dX0_store_35 : decode cX0_store 35 = .ok (.invokestatic 62, 3) := by decide +kernel
theorem dX0_store_38 : decode cX0_store 38 = .ok (.ifCond .eq 11, 3) := by decide +kernel
theorem dX0_store_41 : decode cX0_store 41 = .ok (.aload_n 0, 1) := by decide +kernel
theorem dX0_store_42 : decode cX0_store 42 = .ok (.bipush 6, 2) := by decide +kernel
theorem dX0_store_44 : decode cX0_store 44 = .ok (.iload_n 3, 1) := by decide +kernel
theorem dX0_store_45 : decode cX0_store 45 = .ok (.invokevirtual 66, 3) := by decide +kernel
theorem dX0_store_48 : decode cX0_store 48 = .ok (.ireturn, 1) := by decide +kernel
theorem dX0_store_49 : decode cX0_store 49 = .ok (.aload_n 0, 1) := by decide +kernel
theorem dX0_store_50 : decode cX0_store 50 = .ok (.iload_n 3, 1) := by decide +kernel
theorem dX0_store_51 : decode cX0_store 51 = .ok (.iconst 2, 1) := by decide +kernel
theorem dX0_store_52 : decode cX0_store 52 = .ok (.invokevirtual 69, 3) := by decide +kernel
theorem dX0_store_55 : decode cX0_store 55 = .ok (.ifCond .ne 11, 3) := by decide +kernel
theorem dX0_store_58 : decode cX0_store 58 = .ok (.aload_n 0, 1) := by decide +kernel
theorem dX0_store_59 : decode cX0_store 59 = .ok (.bipush 15, 2) := by decide +kernel
theorem dX0_store_61 : decode cX0_store 61 = .ok (.iload_n 3, 1) := by decide +kernel
theorem dX0_store_62 : decode cX0_store 62 = .ok (.invokevirtual 66, 3) := by decide +kernel
theorem dX0_store_65 : decode cX0_store 65 = .ok (.ireturn, 1) := by decide +kernel
theorem dX0_store_66 : decode cX0_store 66 = .ok (.aload_n 0, 1) := by decide +kernel
theorem dX0_store_67 : decode cX0_store 67 = .ok (.iload_n 3, 1) := by decide +kernel
theorem dX0_store_68 : decode cX0_store 68 = .ok (.iload 4, 2) := by decide +kernel
theorem dX0_store_70 : decode cX0_store 70 = .ok (.aload_n 0, 1) := by decide +kernel
theorem dX0_store_71 : decode cX0_store 71 = .ok (.iload_n 1, 1) := by decide +kernel
theorem dX0_store_72 : decode cX0_store 72 = .ok (.invokevirtual 123, 3) := by decide +kernel
theorem dX0_store_75 : decode cX0_store 75 = .ok (.i2l, 1) := by decide +kernel
theorem dX0_store_76 : decode cX0_store 76 = .ok (.invokevirtual 32, 3) := by decide +kernel
theorem dX0_store_79 : decode cX0_store 79 = .ok (.aload_n 0, 1) := by decide +kernel
theorem dX0_store_80 : decode cX0_store 80 = .ok (.dup, 1) := by decide +kernel
theorem dX0_store_81 : decode cX0_store 81 = .ok (.getfield 19, 3) := by decide +kernel
theorem dX0_store_84 : decode cX0_store 84 = .ok (.iconst 4, 1) := by decide +kernel
theorem dX0_store_85 : decode cX0_store 85 = .ok (.iadd, 1) := by decide +kernel
theorem dX0_store_86 : decode cX0_store 86 = .ok (.putfield 19, 3) := by decide +kernel
theorem dX0_store_89 : decode cX0_store 89 = .ok (.iconst 1, 1) := by decide +kernel
theorem dX0_store_90 : decode cX0_store 90 = .ok (.ireturn, 1) := by decide +kernel
theorem dX0_computeWithImmediate_0 : decode cX0_computeWithImmediate 0 = .ok (.iload_n 1, 1) := by decide +kernel
theorem dX0_computeWithImmediate_1 : decode cX0_computeWithImmediate 1 = .ok (.invokestatic 114, 3) := by decide +kernel
theorem dX0_computeWithImmediate_4 : decode cX0_computeWithImmediate 4 = .ok (.istore_n 2, 1) := by decide +kernel
theorem dX0_computeWithImmediate_5 : decode cX0_computeWithImmediate 5 = .ok (.iload_n 1, 1) := by decide +kernel
theorem dX0_computeWithImmediate_6 : decode cX0_computeWithImmediate 6 = .ok (.invokestatic 140, 3) := by decide +kernel
theorem dX0_computeWithImmediate_9 : decode cX0_computeWithImmediate 9 = .ok (.istore_n 3, 1) := by decide +kernel
theorem dX0_computeWithImmediate_10 : decode cX0_computeWithImmediate 10 = .ok (.iload_n 2, 1) := by decide +kernel
theorem dX0_computeWithImmediate_11 : decode cX0_computeWithImmediate 11 = .ok (.iconst 5, 1) := by decide +kernel
theorem dX0_computeWithImmediate_12 : decode cX0_computeWithImmediate 12 = .ok (.if_icmp .ne 25, 3) := by decide +kernel
theorem dX0_computeWithImmediate_15 : decode cX0_computeWithImmediate 15 = .ok (.iload_n 3, 1) := by decide +kernel
theorem dX0_computeWithImmediate_16 : decode cX0_computeWithImmediate 16 = .ok (.bipush 32, 2) := by decide +kernel
theorem dX0_computeWithImmediate_18 : decode cX0_computeWithImmediate 18 = .ok (.if_icmp .ne 19, 3) := by decide +kernel
theorem dX0_computeWithImmediate_21 : decode cX0_computeWithImmediate 21 = .ok (.aload_n 0, 1) := by decide +kernel
theorem dX0_computeWithImmediate_22 : decode cX0_computeWithImmediate 22 = .ok (.iload_n 1, 1) := by decide +kernel
theorem dX0_computeWithImmediate_23 : decode cX0_computeWithImmediate 23 = .ok (.aload_n 0, 1) := by decide +kernel
theorem dX0_computeWithImmediate_24 : decode cX0_computeWithImmediate 24 = .ok (.iload_n 1, 1) := by decide +kernel
theorem dX0_computeWithImmediate_25 : decode cX0_computeWithImmediate 25 = .ok (.invokevirtual 117, 3) := by decide +kernel
theorem dX0_computeWithImmediate_28 : decode cX0_computeWithImmediate 28 = .ok (.iload_n 1, 1) := by decide +kernel
theorem dX0_computeWithImmediate_29 : decode cX0_computeWithImmediate 29 = .ok (.invokestatic 143, 3) := by decide +kernel
theorem dX0_computeWithImmediate_32 : decode cX0_computeWithImmediate 32 = .ok (.ishr, 1) := by decide +kernel
theorem dX0_computeWithImmediate_33 : decode cX0_computeWithImmediate 33 = .ok (.invokevirtual 78, 3) := by decide +kernel
theorem dX0_computeWithImmediate_36 : decode cX0_computeWithImmediate 36 = .ok (.ireturn, 1) := by decide +kernel
theorem dX0_computeWithImmediate_37 : decode cX0_computeWithImmediate 37 = .ok (.iload_n 2, 1) := by decide +kernel
theorem dX0_computeWithImmediate_38 : decode cX0_computeWithImmediate 38 = .ok (.iconst 1, 1) := by decide +kernel
theorem dX0_computeWithImmediate_39 : decode cX0_computeWithImmediate 39 = .ok (.if_icmp .eq 8, 3) := by decide +kernel
theorem dX0_computeWithImmediate_42 : decode cX0_computeWithImmediate 42 = .ok (.iload_n 2, 1) := by decide +kernel
theorem dX0_computeWithImmediate_43 : decode cX0_computeWithImmediate 43 = .ok (.iconst 5, 1) := by decide +kernel
theorem dX0_computeWithImmediate_44 : decode cX0_computeWithImmediate 44 = .ok (.if_icmp .ne 13, 3) := by decide +kernel
theorem dX0_computeWithImmediate_47 : decode cX0_computeWithImmediate 47 = .ok (.iload_n 3, 1) := by decide +kernel
theorem dX0_computeWithImmediate_48 : decode cX0_computeWithImmediate 48 = .ok (.ifCond .eq 9, 3) := by decide +kernel
theorem dX0_computeWithImmediate_51 : decode cX0_computeWithImmediate 51 = .ok (.aload_n 0, 1) := by decide +kernel
theorem dX0_computeWithImmediate_52 : decode cX0_computeWithImmediate 52 = .ok (.iload_n 1, 1) := by decide +kernel
theorem dX0_computeWithImmediate_53 : decode cX0_computeWithImmediate 53 = .ok (.invokevirtual 111, 3) := by decide +kernel
theorem dX0_computeWithImmediate_56 : decode cX0_computeWithImmediate 56 = .ok (.ireturn, 1) := by decide +kernel
theorem dX0_computeWithImmediate_57 : decode cX0_computeWithImmediate 57 = .ok (.aload_n 0, 1) := by decide +kernel
theorem dX0_computeWithImmediate_58 : decode cX0_computeWithImmediate 58 = .ok (.iload_n 1, 1) := by decide +kernel
theorem dX0_computeWithImmediate_59 : decode cX0_computeWithImmediate 59 = .ok (.iload_n 2, 1) := by decide +kernel
theorem dX0_computeWithImmediate_60 : decode cX0_computeWithImmediate 60 = .ok (.aload_n 0, 1) := by decide +kernel
theorem dX0_computeWithImmediate_61 : decode cX0_computeWithImmediate 61 = .ok (.iload_n 1, 1) := by decide +kernel
theorem dX0_computeWithImmediate_62 : decode cX0_computeWithImmediate 62 = .ok (.invokevirtual 117, 3) := by decide +kernel
theorem dX0_computeWithImmediate_65 : decode cX0_computeWithImmediate 65 = .ok (.iload_n 1, 1) := by decide +kernel
theorem dX0_computeWithImmediate_66 : decode cX0_computeWithImmediate 66 = .ok (.invokestatic 120, 3) := by decide +kernel
theorem dX0_computeWithImmediate_69 : decode cX0_computeWithImmediate 69 = .ok (.invokestatic 146, 3) := by decide +kernel
theorem dX0_computeWithImmediate_72 : decode cX0_computeWithImmediate 72 = .ok (.invokevirtual 78, 3) := by decide +kernel
theorem dX0_computeWithImmediate_75 : decode cX0_computeWithImmediate 75 = .ok (.ireturn, 1) := by decide +kernel
theorem dX0_computeWithRegisters_0 : decode cX0_computeWithRegisters 0 = .ok (.iload_n 1, 1) := by decide +kernel
theorem dX0_computeWithRegisters_1 : decode cX0_computeWithRegisters 1 = .ok (.invokestatic 114, 3) := by decide +kernel
theorem dX0_computeWithRegisters_4 : decode cX0_computeWithRegisters 4 = .ok (.istore_n 2, 1) := by decide +kernel
theorem dX0_computeWithRegisters_5 : decode cX0_computeWithRegisters 5 = .ok (.aload_n 0, 1) := by decide +kernel
theorem dX0_computeWithRegisters_6 : decode cX0_computeWithRegisters 6 = .ok (.iload_n 1, 1) := by decide +kernel
theorem dX0_computeWithRegisters_7 : decode cX0_computeWithRegisters 7 = .ok (.invokevirtual 117, 3) := by decide +kernel
theorem dX0_computeWithRegisters_10 : decode cX0_computeWithRegisters 10 = .ok (.istore_n 3, 1) := by decide +kernel
theorem dX0_computeWithRegisters_11 : decode cX0_computeWithRegisters 11 = .ok (.aload_n 0, 1) := by decide +kernel
theorem dX0_computeWithRegisters_12 : decode cX0_computeWithRegisters 12 = .ok (.iload_n 1, 1) := by decide +kernel
theorem dX0_computeWithRegisters_13 : decode cX0_computeWithRegisters 13 = .ok (.invokevirtual 123, 3) := by decide +kernel
theorem dX0_computeWithRegisters_16 : decode cX0_computeWithRegisters 16 = .ok (.istore 4, 2) := by decide +kernel
theorem dX0_computeWithRegisters_18 : decode cX0_computeWithRegisters 18 = .ok (.iload_n 1, 1) := by decide +kernel
theorem dX0_computeWithRegisters_19 : decode cX0_computeWithRegisters 19 = .ok (.invokestatic 140, 3) := by decide +kernel
theorem dX0_computeWithRegisters_22 : decode cX0_computeWithRegisters 22 = .ok (.lookupswitch 100 #[(0, 34), (1, 47), (32, 60)], 34) := by decide +kernel
theorem dX0_computeWithRegisters_56 : decode cX0_computeWithRegisters 56 = .ok (.aload_n 0, 1) := by decide +kernel
theorem dX0_computeWithRegisters_57 : decode cX0_computeWithRegisters 57 = .ok (.iload_n 1, 1) := by decide +kernel
theorem dX0_computeWithRegisters_58 : decode cX0_computeWithRegisters 58 = .ok (.iload_n 2, 1) := by decide +kernel
theorem dX0_computeWithRegisters_59 : decode cX0_computeWithRegisters 59 = .ok (.iload_n 3, 1) := by decide +kernel
theorem dX0_computeWithRegisters_60 : decode cX0_computeWithRegisters 60 = .ok (.iload 4, 2) := by decide +kernel
theorem dX0_computeWithRegisters_62 : decode cX0_computeWithRegisters 62 = .ok (.invokestatic 146, 3) := by decide +kernel
theorem dX0_computeWithRegisters_65 : decode cX0_computeWithRegisters 65 = .ok (.invokevirtual 78, 3) := by decide +kernel
theorem dX0_computeWithRegisters_68 : decode cX0_computeWithRegisters 68 = .ok (.ireturn, 1) := by decide +kernel
theorem dX0_computeWithRegisters_69 : decode cX0_computeWithRegisters 69 = .ok (.aload_n 0, 1) := by decide +kernel
theorem dX0_computeWithRegisters_70 : decode cX0_computeWithRegisters 70 = .ok (.iload_n 1, 1) := by decide +kernel
theorem dX0_computeWithRegisters_71 : decode cX0_computeWithRegisters 71 = .ok (.iload_n 2, 1) := by decide +kernel
theorem dX0_computeWithRegisters_72 : decode cX0_computeWithRegisters 72 = .ok (.iload_n 3, 1) := by decide +kernel
theorem dX0_computeWithRegisters_73 : decode cX0_computeWithRegisters 73 = .ok (.iload 4, 2) := by decide +kernel
theorem dX0_computeWithRegisters_75 : decode cX0_computeWithRegisters 75 = .ok (.invokestatic 150, 3) := by decide +kernel
theorem dX0_computeWithRegisters_78 : decode cX0_computeWithRegisters 78 = .ok (.invokevirtual 78, 3) := by decide +kernel
theorem dX0_computeWithRegisters_81 : decode cX0_computeWithRegisters 81 = .ok (.ireturn, 1) := by decide +kernel
theorem dX0_computeWithRegisters_82 : decode cX0_computeWithRegisters 82 = .ok (.iload_n 2, 1) := by decide +kernel
theorem dX0_computeWithRegisters_83 : decode cX0_computeWithRegisters 83 = .ok (.ifCond .ne 13, 3) := by decide +kernel
theorem dX0_computeWithRegisters_86 : decode cX0_computeWithRegisters 86 = .ok (.aload_n 0, 1) := by decide +kernel
theorem dX0_computeWithRegisters_87 : decode cX0_computeWithRegisters 87 = .ok (.iload_n 1, 1) := by decide +kernel
theorem dX0_computeWithRegisters_88 : decode cX0_computeWithRegisters 88 = .ok (.iload_n 3, 1) := by decide +kernel
theorem dX0_computeWithRegisters_89 : decode cX0_computeWithRegisters 89 = .ok (.iload 4, 2) := by decide +kernel
theorem dX0_computeWithRegisters_91 : decode cX0_computeWithRegisters 91 = .ok (.isub, 1) := by decide +kernel
theorem dX0_computeWithRegisters_92 : decode cX0_computeWithRegisters 92 = .ok (.invokevirtual 78, 3) := by decide +kernel
theorem dX0_computeWithRegisters_95 : decode cX0_computeWithRegisters 95 = .ok (.ireturn, 1) := by decide +kernel
theorem dX0_computeWithRegisters_96 : decode cX0_computeWithRegisters 96 = .ok (.iload_n 2, 1) := by decide +kernel
theorem dX0_computeWithRegisters_97 : decode cX0_computeWithRegisters 97 = .ok (.iconst 5, 1) := by decide +kernel
theorem dX0_computeWithRegisters_98 : decode cX0_computeWithRegisters 98 = .ok (.if_icmp .ne 18, 3) := by decide +kernel
theorem dX0_computeWithRegisters_101 : decode cX0_computeWithRegisters 101 = .ok (.aload_n 0, 1) := by decide +kernel
theorem dX0_computeWithRegisters_102 : decode cX0_computeWithRegisters 102 = .ok (.iload_n 1, 1) := by decide +kernel
theorem dX0_computeWithRegisters_103 : decode cX0_computeWithRegisters 103 = .ok (.iload_n 3, 1) := by decide +kernel
theorem dX0_computeWithRegisters_104 : decode cX0_computeWithRegisters 104 = .ok (.iload 4, 2) := by decide +kernel
theorem dX0_computeWithRegisters_106 : decode cX0_computeWithRegisters 106 = .ok (.bipush 31, 2) := by decide +kernel
theorem dX0_computeWithRegisters_108 : decode cX0_computeWithRegisters 108 = .ok (.iand, 1) := by decide +kernel
theorem dX0_computeWithRegisters_109 : decode cX0_computeWithRegisters 109 = .ok (.ishr, 1) := by decide +kernel
theorem dX0_computeWithRegisters_110 : decode cX0_computeWithRegisters 110 = .ok (.invokevirtual 78, 3) := by decide +kernel
theorem dX0_computeWithRegisters_113 : decode cX0_computeWithRegisters 113 = .ok (.goto 8, 3) := by decide +kernel
theorem dX0_computeWithRegisters_116 : decode cX0_computeWithRegisters 116 = .ok (.aload_n 0, 1) := by decide +kernel
theorem dX0_computeWithRegisters_117 : decode cX0_computeWithRegisters 117 = .ok (.iload_n 1, 1) := by decide +kernel
theorem dX0_computeWithRegisters_118 : decode cX0_computeWithRegisters 118 = .ok (.invokevirtual 111, 3) := by decide +kernel
theorem dX0_computeWithRegisters_121 : decode cX0_computeWithRegisters 121 = .ok (.ireturn, 1) := by decide +kernel
theorem dX0_computeWithRegisters_122 : decode cX0_computeWithRegisters 122 = .ok (.aload_n 0, 1) := by decide +kernel
theorem dX0_computeWithRegisters_123 : decode cX0_computeWithRegisters 123 = .ok (.iload_n 1, 1) := by decide +kernel
theorem dX0_computeWithRegisters_124 : decode cX0_computeWithRegisters 124 = .ok (.invokevirtual 111, 3) := by decide +kernel
theorem dX0_computeWithRegisters_127 : decode cX0_computeWithRegisters 127 = .ok (.ireturn, 1) := by decide +kernel
theorem dX0_fence_0 : decode cX0_fence 0 = .ok (.iload_n 1, 1) := by decide +kernel
theorem dX0_fence_1 : decode cX0_fence 1 = .ok (.invokestatic 114, 3) := by decide +kernel
theorem dX0_fence_4 : decode cX0_fence 4 = .ok (.ifCond .eq 9, 3) := by decide +kernel
theorem dX0_fence_7 : decode cX0_fence 7 = .ok (.aload_n 0, 1) := by decide +kernel
theorem dX0_fence_8 : decode cX0_fence 8 = .ok (.iload_n 1, 1) := by decide +kernel
theorem dX0_fence_9 : decode cX0_fence 9 = .ok (.invokevirtual 111, 3) := by decide +kernel
theorem dX0_fence_12 : decode cX0_fence 12 = .ok (.ireturn, 1) := by decide +kernel
theorem dX0_fence_13 : decode cX0_fence 13 = .ok (.aload_n 0, 1) := by decide +kernel
theorem dX0_fence_14 : decode cX0_fence 14 = .ok (.dup, 1) := by decide +kernel
theorem dX0_fence_15 : decode cX0_fence 15 = .ok (.getfield 19, 3) := by decide +kernel
theorem dX0_fence_18 : decode cX0_fence 18 = .ok (.iconst 4, 1) := by decide +kernel
theorem dX0_fence_19 : decode cX0_fence 19 = .ok (.iadd, 1) := by decide +kernel
theorem dX0_fence_20 : decode cX0_fence 20 = .ok (.putfield 19, 3) := by decide +kernel
theorem dX0_fence_23 : decode cX0_fence 23 = .ok (.iconst 1, 1) := by decide +kernel
theorem dX0_fence_24 : decode cX0_fence 24 = .ok (.ireturn, 1) := by decide +kernel
theorem dX0_callOrBreak_0 : decode cX0_callOrBreak 0 = .ok (.iload_n 1, 1) := by decide +kernel
theorem dX0_callOrBreak_1 : decode cX0_callOrBreak 1 = .ok (.bipush 115, 2) := by decide +kernel
theorem dX0_callOrBreak_3 : decode cX0_callOrBreak 3 = .ok (.if_icmp .ne 11, 3) := by decide +kernel
theorem dX0_callOrBreak_6 : decode cX0_callOrBreak 6 = .ok (.aload_n 0, 1) := by decide +kernel
theorem dX0_callOrBreak_7 : decode cX0_callOrBreak 7 = .ok (.bipush 8, 2) := by decide +kernel
theorem dX0_callOrBreak_9 : decode cX0_callOrBreak 9 = .ok (.iconst 0, 1) := by decide +kernel
theorem dX0_callOrBreak_10 : decode cX0_callOrBreak 10 = .ok (.invokevirtual 66, 3) := by decide +kernel
theorem dX0_callOrBreak_13 : decode cX0_callOrBreak 13 = .ok (.ireturn, 1) := by decide +kernel
theorem dX0_callOrBreak_14 : decode cX0_callOrBreak 14 = .ok (.iload_n 1, 1) := by decide +kernel
theorem dX0_callOrBreak_15 : decode cX0_callOrBreak 15 = .ok (.ldc 153, 2) := by decide +kernel
theorem dX0_callOrBreak_17 : decode cX0_callOrBreak 17 = .ok (.if_icmp .ne 12, 3) := by decide +kernel
theorem dX0_callOrBreak_20 : decode cX0_callOrBreak 20 = .ok (.aload_n 0, 1) := by decide +kernel
theorem dX0_callOrBreak_21 : decode cX0_callOrBreak 21 = .ok (.iconst 3, 1) := by decide +kernel
theorem dX0_callOrBreak_22 : decode cX0_callOrBreak 22 = .ok (.iconst 0, 1) := by decide +kernel
theorem dX0_callOrBreak_23 : decode cX0_callOrBreak 23 = .ok (.invokevirtual 66, 3) := by decide +kernel
theorem dX0_callOrBreak_26 : decode cX0_callOrBreak 26 = .ok (.goto 8, 3) := by decide +kernel
theorem dX0_callOrBreak_29 : decode cX0_callOrBreak 29 = .ok (.aload_n 0, 1) := by decide +kernel
theorem dX0_callOrBreak_30 : decode cX0_callOrBreak 30 = .ok (.iload_n 1, 1) := by decide +kernel
theorem dX0_callOrBreak_31 : decode cX0_callOrBreak 31 = .ok (.invokevirtual 111, 3) := by decide +kernel
theorem dX0_callOrBreak_34 : decode cX0_callOrBreak 34 = .ok (.ireturn, 1) := by decide +kernel
theorem dX0_finish_0 : decode cX0_finish 0 = .ok (.aload_n 0, 1) := by decide +kernel
theorem dX0_finish_1 : decode cX0_finish 1 = .ok (.iload_n 1, 1) := by decide +kernel
theorem dX0_finish_2 : decode cX0_finish 2 = .ok (.invokestatic 154, 3) := by decide +kernel
theorem dX0_finish_5 : decode cX0_finish 5 = .ok (.iload_n 2, 1) := by decide +kernel
theorem dX0_finish_6 : decode cX0_finish 6 = .ok (.invokevirtual 47, 3) := by decide +kernel
theorem dX0_finish_9 : decode cX0_finish 9 = .ok (.aload_n 0, 1) := by decide +kernel
theorem dX0_finish_10 : decode cX0_finish 10 = .ok (.dup, 1) := by decide +kernel
theorem dX0_finish_11 : decode cX0_finish 11 = .ok (.getfield 19, 3) := by decide +kernel
theorem dX0_finish_14 : decode cX0_finish 14 = .ok (.iconst 4, 1) := by decide +kernel
theorem dX0_finish_15 : decode cX0_finish 15 = .ok (.iadd, 1) := by decide +kernel
theorem dX0_finish_16 : decode cX0_finish 16 = .ok (.putfield 19, 3) := by decide +kernel
theorem dX0_finish_19 : decode cX0_finish 19 = .ok (.iconst 1, 1) := by decide +kernel
theorem dX0_finish_20 : decode cX0_finish 20 = .ok (.ireturn, 1) := by decide +kernel
theorem dX0_linkAndGo_0 : decode cX0_linkAndGo 0 = .ok (.iload_n 2, 1) := by decide +kernel
theorem dX0_linkAndGo_1 : decode cX0_linkAndGo 1 = .ok (.iconst 4, 1) := by decide +kernel
theorem dX0_linkAndGo_2 : decode cX0_linkAndGo 2 = .ok (.invokestatic 62, 3) := by decide +kernel
theorem dX0_linkAndGo_5 : decode cX0_linkAndGo 5 = .ok (.ifCond .eq 10, 3) := by decide +kernel
theorem dX0_linkAndGo_8 : decode cX0_linkAndGo 8 = .ok (.aload_n 0, 1) := by decide +kernel
theorem dX0_linkAndGo_9 : decode cX0_linkAndGo 9 = .ok (.iconst 0, 1) := by decide +kernel
theorem dX0_linkAndGo_10 : decode cX0_linkAndGo 10 = .ok (.iload_n 2, 1) := by decide +kernel
theorem dX0_linkAndGo_11 : decode cX0_linkAndGo 11 = .ok (.invokevirtual 66, 3) := by decide +kernel
theorem dX0_linkAndGo_14 : decode cX0_linkAndGo 14 = .ok (.ireturn, 1) := by decide +kernel
theorem dX0_linkAndGo_15 : decode cX0_linkAndGo 15 = .ok (.aload_n 0, 1) := by decide +kernel
theorem dX0_linkAndGo_16 : decode cX0_linkAndGo 16 = .ok (.iload_n 1, 1) := by decide +kernel
theorem dX0_linkAndGo_17 : decode cX0_linkAndGo 17 = .ok (.invokestatic 154, 3) := by decide +kernel
theorem dX0_linkAndGo_20 : decode cX0_linkAndGo 20 = .ok (.aload_n 0, 1) := by decide +kernel
theorem dX0_linkAndGo_21 : decode cX0_linkAndGo 21 = .ok (.getfield 19, 3) := by decide +kernel
theorem dX0_linkAndGo_24 : decode cX0_linkAndGo 24 = .ok (.iconst 4, 1) := by decide +kernel
theorem dX0_linkAndGo_25 : decode cX0_linkAndGo 25 = .ok (.iadd, 1) := by decide +kernel
theorem dX0_linkAndGo_26 : decode cX0_linkAndGo 26 = .ok (.invokevirtual 47, 3) := by decide +kernel
theorem dX0_linkAndGo_29 : decode cX0_linkAndGo 29 = .ok (.aload_n 0, 1) := by decide +kernel
theorem dX0_linkAndGo_30 : decode cX0_linkAndGo 30 = .ok (.iload_n 2, 1) := by decide +kernel
theorem dX0_linkAndGo_31 : decode cX0_linkAndGo 31 = .ok (.putfield 19, 3) := by decide +kernel
theorem dX0_linkAndGo_34 : decode cX0_linkAndGo 34 = .ok (.iconst 1, 1) := by decide +kernel
theorem dX0_linkAndGo_35 : decode cX0_linkAndGo 35 = .ok (.ireturn, 1) := by decide +kernel
theorem dX0_refuse_0 : decode cX0_refuse 0 = .ok (.aload_n 0, 1) := by decide +kernel
theorem dX0_refuse_1 : decode cX0_refuse 1 = .ok (.iconst 2, 1) := by decide +kernel
theorem dX0_refuse_2 : decode cX0_refuse 2 = .ok (.iload_n 1, 1) := by decide +kernel
theorem dX0_refuse_3 : decode cX0_refuse 3 = .ok (.invokevirtual 66, 3) := by decide +kernel
theorem dX0_refuse_6 : decode cX0_refuse 6 = .ok (.ireturn, 1) := by decide +kernel
theorem dX0_trapWith_0 : decode cX0_trapWith 0 = .ok (.aload_n 0, 1) := by decide +kernel
theorem dX0_trapWith_1 : decode cX0_trapWith 1 = .ok (.iload_n 1, 1) := by decide +kernel
theorem dX0_trapWith_2 : decode cX0_trapWith 2 = .ok (.putfield 23, 3) := by decide +kernel
theorem dX0_trapWith_5 : decode cX0_trapWith 5 = .ok (.aload_n 0, 1) := by decide +kernel
theorem dX0_trapWith_6 : decode cX0_trapWith 6 = .ok (.iload_n 2, 1) := by decide +kernel
theorem dX0_trapWith_7 : decode cX0_trapWith 7 = .ok (.putfield 26, 3) := by decide +kernel
theorem dX0_trapWith_10 : decode cX0_trapWith 10 = .ok (.iconst 0, 1) := by decide +kernel
theorem dX0_trapWith_11 : decode cX0_trapWith 11 = .ok (.ireturn, 1) := by decide +kernel
theorem dX0_isRegister_0 : decode cX0_isRegister 0 = .ok (.iload_n 0, 1) := by decide +kernel
theorem dX0_isRegister_1 : decode cX0_isRegister 1 = .ok (.ifCond .lt 13, 3) := by decide +kernel
theorem dX0_isRegister_4 : decode cX0_isRegister 4 = .ok (.iload_n 0, 1) := by decide +kernel
theorem dX0_isRegister_5 : decode cX0_isRegister 5 = .ok (.bipush 32, 2) := by decide +kernel
theorem dX0_isRegister_7 : decode cX0_isRegister 7 = .ok (.if_icmp .ge 7, 3) := by decide +kernel
theorem dX0_isRegister_10 : decode cX0_isRegister 10 = .ok (.iconst 1, 1) := by decide +kernel
theorem dX0_isRegister_11 : decode cX0_isRegister 11 = .ok (.goto 4, 3) := by decide +kernel
theorem dX0_isRegister_14 : decode cX0_isRegister 14 = .ok (.iconst 0, 1) := by decide +kernel
theorem dX0_isRegister_15 : decode cX0_isRegister 15 = .ok (.ireturn, 1) := by decide +kernel
theorem dX0_putRegister_0 : decode cX0_putRegister 0 = .ok (.iload_n 1, 1) := by decide +kernel
theorem dX0_putRegister_1 : decode cX0_putRegister 1 = .ok (.ifCond .le 16, 3) := by decide +kernel
theorem dX0_putRegister_4 : decode cX0_putRegister 4 = .ok (.iload_n 1, 1) := by decide +kernel
theorem dX0_putRegister_5 : decode cX0_putRegister 5 = .ok (.bipush 32, 2) := by decide +kernel
theorem dX0_putRegister_7 : decode cX0_putRegister 7 = .ok (.if_icmp .ge 10, 3) := by decide +kernel
theorem dX0_putRegister_10 : decode cX0_putRegister 10 = .ok (.aload_n 0, 1) := by decide +kernel
theorem dX0_putRegister_11 : decode cX0_putRegister 11 = .ok (.getfield 16, 3) := by decide +kernel
theorem dX0_putRegister_14 : decode cX0_putRegister 14 = .ok (.iload_n 1, 1) := by decide +kernel
theorem dX0_putRegister_15 : decode cX0_putRegister 15 = .ok (.iload_n 2, 1) := by decide +kernel
theorem dX0_putRegister_16 : decode cX0_putRegister 16 = .ok (.iastore, 1) := by decide +kernel
theorem dX0_putRegister_17 : decode cX0_putRegister 17 = .ok (.return_, 1) := by decide +kernel
theorem dX0_registerA_0 : decode cX0_registerA 0 = .ok (.aload_n 0, 1) := by decide +kernel
theorem dX0_registerA_1 : decode cX0_registerA 1 = .ok (.getfield 16, 3) := by decide +kernel
theorem dX0_registerA_4 : decode cX0_registerA 4 = .ok (.iload_n 1, 1) := by decide +kernel
theorem dX0_registerA_5 : decode cX0_registerA 5 = .ok (.bipush 15, 2) := by decide +kernel
theorem dX0_registerA_7 : decode cX0_registerA 7 = .ok (.iushr, 1) := by decide +kernel
theorem dX0_registerA_8 : decode cX0_registerA 8 = .ok (.bipush 31, 2) := by decide +kernel
theorem dX0_registerA_10 : decode cX0_registerA 10 = .ok (.iand, 1) := by decide +kernel
theorem dX0_registerA_11 : decode cX0_registerA 11 = .ok (.iaload, 1) := by decide +kernel
theorem dX0_registerA_12 : decode cX0_registerA 12 = .ok (.ireturn, 1) := by decide +kernel
theorem dX0_registerB_0 : decode cX0_registerB 0 = .ok (.aload_n 0, 1) := by decide +kernel
theorem dX0_registerB_1 : decode cX0_registerB 1 = .ok (.getfield 16, 3) := by decide +kernel
theorem dX0_registerB_4 : decode cX0_registerB 4 = .ok (.iload_n 1, 1) := by decide +kernel
theorem dX0_registerB_5 : decode cX0_registerB 5 = .ok (.invokestatic 143, 3) := by decide +kernel
theorem dX0_registerB_8 : decode cX0_registerB 8 = .ok (.iaload, 1) := by decide +kernel
theorem dX0_registerB_9 : decode cX0_registerB 9 = .ok (.ireturn, 1) := by decide +kernel
theorem dX0_isInPages_0 : decode cX0_isInPages 0 = .ok (.iload_n 0, 1) := by decide +kernel
theorem dX0_isInPages_1 : decode cX0_isInPages 1 = .ok (.ifCond .lt 14, 3) := by decide +kernel
theorem dX0_isInPages_4 : decode cX0_isInPages 4 = .ok (.iload_n 0, 1) := by decide +kernel
theorem dX0_isInPages_5 : decode cX0_isInPages 5 = .ok (.sipush 16384, 3) := by decide +kernel
theorem dX0_isInPages_8 : decode cX0_isInPages 8 = .ok (.if_icmp .ge 7, 3) := by decide +kernel
theorem dX0_isInPages_11 : decode cX0_isInPages 11 = .ok (.iconst 1, 1) := by decide +kernel
theorem dX0_isInPages_12 : decode cX0_isInPages 12 = .ok (.goto 4, 3) := by decide +kernel
theorem dX0_isInPages_15 : decode cX0_isInPages 15 = .ok (.iconst 0, 1) := by decide +kernel
theorem dX0_isInPages_16 : decode cX0_isInPages 16 = .ok (.ireturn, 1) := by decide +kernel
theorem dX0_isCrooked_0 : decode cX0_isCrooked 0 = .ok (.iload_n 0, 1) := by decide +kernel
theorem dX0_isCrooked_1 : decode cX0_isCrooked 1 = .ok (.iload_n 1, 1) := by decide +kernel
theorem dX0_isCrooked_2 : decode cX0_isCrooked 2 = .ok (.iconst 1, 1) := by decide +kernel
theorem dX0_isCrooked_3 : decode cX0_isCrooked 3 = .ok (.isub, 1) := by decide +kernel
theorem dX0_isCrooked_4 : decode cX0_isCrooked 4 = .ok (.iand, 1) := by decide +kernel
theorem dX0_isCrooked_5 : decode cX0_isCrooked 5 = .ok (.ifCond .eq 7, 3) := by decide +kernel
theorem dX0_isCrooked_8 : decode cX0_isCrooked 8 = .ok (.iconst 1, 1) := by decide +kernel
theorem dX0_isCrooked_9 : decode cX0_isCrooked 9 = .ok (.goto 4, 3) := by decide +kernel
theorem dX0_isCrooked_12 : decode cX0_isCrooked 12 = .ok (.iconst 0, 1) := by decide +kernel
theorem dX0_isCrooked_13 : decode cX0_isCrooked 13 = .ok (.ireturn, 1) := by decide +kernel
theorem dX0_hasRight_0 : decode cX0_hasRight 0 = .ok (.iload_n 1, 1) := by decide +kernel
theorem dX0_hasRight_1 : decode cX0_hasRight 1 = .ok (.invokestatic 36, 3) := by decide +kernel
theorem dX0_hasRight_4 : decode cX0_hasRight 4 = .ok (.ifCond .eq 21, 3) := by decide +kernel
theorem dX0_hasRight_7 : decode cX0_hasRight 7 = .ok (.aload_n 0, 1) := by decide +kernel
theorem dX0_hasRight_8 : decode cX0_hasRight 8 = .ok (.getfield 13, 3) := by decide +kernel
theorem dX0_hasRight_11 : decode cX0_hasRight 11 = .ok (.iload_n 1, 1) := by decide +kernel
theorem dX0_hasRight_12 : decode cX0_hasRight 12 = .ok (.bipush 12, 2) := by decide +kernel
theorem dX0_hasRight_14 : decode cX0_hasRight 14 = .ok (.iushr, 1) := by decide +kernel
theorem dX0_hasRight_15 : decode cX0_hasRight 15 = .ok (.iaload, 1) := by decide +kernel
theorem dX0_hasRight_16 : decode cX0_hasRight 16 = .ok (.iload_n 2, 1) := by decide +kernel
theorem dX0_hasRight_17 : decode cX0_hasRight 17 = .ok (.iand, 1) := by decide +kernel
theorem dX0_hasRight_18 : decode cX0_hasRight 18 = .ok (.ifCond .eq 7, 3) := by decide +kernel
theorem dX0_hasRight_21 : decode cX0_hasRight 21 = .ok (.iconst 1, 1) := by decide +kernel
theorem dX0_hasRight_22 : decode cX0_hasRight 22 = .ok (.goto 4, 3) := by decide +kernel
theorem dX0_hasRight_25 : decode cX0_hasRight 25 = .ok (.iconst 0, 1) := by decide +kernel
theorem dX0_hasRight_26 : decode cX0_hasRight 26 = .ok (.ireturn, 1) := by decide +kernel
theorem dX0_bytesFrom_0 : decode cX0_bytesFrom 0 = .ok (.aload_n 0, 1) := by decide +kernel
theorem dX0_bytesFrom_1 : decode cX0_bytesFrom 1 = .ok (.getfield 9, 3) := by decide +kernel
theorem dX0_bytesFrom_4 : decode cX0_bytesFrom 4 = .ok (.iload_n 1, 1) := by decide +kernel
theorem dX0_bytesFrom_5 : decode cX0_bytesFrom 5 = .ok (.iconst 2, 1) := by decide +kernel
theorem dX0_bytesFrom_6 : decode cX0_bytesFrom 6 = .ok (.iushr, 1) := by decide +kernel
theorem dX0_bytesFrom_7 : decode cX0_bytesFrom 7 = .ok (.iaload, 1) := by decide +kernel
theorem dX0_bytesFrom_8 : decode cX0_bytesFrom 8 = .ok (.iload_n 1, 1) := by decide +kernel
theorem dX0_bytesFrom_9 : decode cX0_bytesFrom 9 = .ok (.iconst 3, 1) := by decide +kernel
theorem dX0_bytesFrom_10 : decode cX0_bytesFrom 10 = .ok (.iand, 1) := by decide +kernel
theorem dX0_bytesFrom_11 : decode cX0_bytesFrom 11 = .ok (.bipush 8, 2) := by decide +kernel
theorem dX0_bytesFrom_13 : decode cX0_bytesFrom 13 = .ok (.imul, 1) := by decide +kernel
theorem dX0_bytesFrom_14 : decode cX0_bytesFrom 14 = .ok (.iushr, 1) := by decide +kernel
theorem dX0_bytesFrom_15 : decode cX0_bytesFrom 15 = .ok (.ireturn, 1) := by decide +kernel
theorem dX0_putBytes_0 : decode cX0_putBytes 0 = .ok (.iconst 0, 1) := by decide +kernel
theorem dX0_putBytes_1 : decode cX0_putBytes 1 = .ok (.istore 5, 2) := by decide +kernel
theorem dX0_putBytes_3 : decode cX0_putBytes 3 = .ok (.iload 5, 2) := by decide +kernel
theorem dX0_putBytes_5 : decode cX0_putBytes 5 = .ok (.iload_n 2, 1) := by decide +kernel
theorem dX0_putBytes_6 : decode cX0_putBytes 6 = .ok (.if_icmp .ge 71, 3) := by decide +kernel
theorem dX0_putBytes_9 : decode cX0_putBytes 9 = .ok (.iload_n 1, 1) := by decide +kernel
theorem dX0_putBytes_10 : decode cX0_putBytes 10 = .ok (.iload 5, 2) := by decide +kernel
theorem dX0_putBytes_12 : decode cX0_putBytes 12 = .ok (.iadd, 1) := by decide +kernel
theorem dX0_putBytes_13 : decode cX0_putBytes 13 = .ok (.istore 6, 2) := by decide +kernel
theorem dX0_putBytes_15 : decode cX0_putBytes 15 = .ok (.iload 6, 2) := by decide +kernel
theorem dX0_putBytes_17 : decode cX0_putBytes 17 = .ok (.iconst 3, 1) := by decide +kernel
theorem dX0_putBytes_18 : decode cX0_putBytes 18 = .ok (.iand, 1) := by decide +kernel
theorem dX0_putBytes_19 : decode cX0_putBytes 19 = .ok (.bipush 8, 2) := by decide +kernel
theorem dX0_putBytes_21 : decode cX0_putBytes 21 = .ok (.imul, 1) := by decide +kernel
theorem dX0_putBytes_22 : decode cX0_putBytes 22 = .ok (.istore 7, 2) := by decide +kernel
theorem dX0_putBytes_24 : decode cX0_putBytes 24 = .ok (.lload_n 3, 1) := by decide +kernel
theorem dX0_putBytes_25 : decode cX0_putBytes 25 = .ok (.bipush 8, 2) := by decide +kernel
theorem dX0_putBytes_27 : decode cX0_putBytes 27 = .ok (.iload 5, 2) := by decide +kernel
theorem dX0_putBytes_29 : decode cX0_putBytes 29 = .ok (.imul, 1) := by decide +kernel
theorem dX0_putBytes_30 : decode cX0_putBytes 30 = .ok (.lushr, 1) := by decide +kernel
theorem dX0_putBytes_31 : decode cX0_putBytes 31 = .ok (.l2i, 1) := by decide +kernel
theorem dX0_putBytes_32 : decode cX0_putBytes 32 = .ok (.sipush 255, 3) := by decide +kernel
theorem dX0_putBytes_35 : decode cX0_putBytes 35 = .ok (.iand, 1) := by decide +kernel
theorem dX0_putBytes_36 : decode cX0_putBytes 36 = .ok (.istore 8, 2) := by decide +kernel
theorem dX0_putBytes_38 : decode cX0_putBytes 38 = .ok (.aload_n 0, 1) := by decide +kernel
theorem dX0_putBytes_39 : decode cX0_putBytes 39 = .ok (.getfield 9, 3) := by decide +kernel
theorem dX0_putBytes_42 : decode cX0_putBytes 42 = .ok (.iload 6, 2) := by decide +kernel
theorem dX0_putBytes_44 : decode cX0_putBytes 44 = .ok (.iconst 2, 1) := by decide +kernel
theorem dX0_putBytes_45 : decode cX0_putBytes 45 = .ok (.iushr, 1) := by decide +kernel
theorem dX0_putBytes_46 : decode cX0_putBytes 46 = .ok (.aload_n 0, 1) := by decide +kernel
theorem dX0_putBytes_47 : decode cX0_putBytes 47 = .ok (.getfield 9, 3) := by decide +kernel
theorem dX0_putBytes_50 : decode cX0_putBytes 50 = .ok (.iload 6, 2) := by decide +kernel
theorem dX0_putBytes_52 : decode cX0_putBytes 52 = .ok (.iconst 2, 1) := by decide +kernel
theorem dX0_putBytes_53 : decode cX0_putBytes 53 = .ok (.iushr, 1) := by decide +kernel
theorem dX0_putBytes_54 : decode cX0_putBytes 54 = .ok (.iaload, 1) := by decide +kernel
theorem dX0_putBytes_55 : decode cX0_putBytes 55 = .ok (.sipush 255, 3) := by decide +kernel
theorem dX0_putBytes_58 : decode cX0_putBytes 58 = .ok (.iload 7, 2) := by decide +kernel
theorem dX0_putBytes_60 : decode cX0_putBytes 60 = .ok (.ishl, 1) := by decide +kernel
theorem dX0_putBytes_61 : decode cX0_putBytes 61 = .ok (.iconst (-1), 1) := by decide +kernel
theorem dX0_putBytes_62 : decode cX0_putBytes 62 = .ok (.ixor, 1) := by decide +kernel
theorem dX0_putBytes_63 : decode cX0_putBytes 63 = .ok (.iand, 1) := by decide +kernel
theorem dX0_putBytes_64 : decode cX0_putBytes 64 = .ok (.iload 8, 2) := by decide +kernel
theorem dX0_putBytes_66 : decode cX0_putBytes 66 = .ok (.iload 7, 2) := by decide +kernel
theorem dX0_putBytes_68 : decode cX0_putBytes 68 = .ok (.ishl, 1) := by decide +kernel
theorem dX0_putBytes_69 : decode cX0_putBytes 69 = .ok (.ior, 1) := by decide +kernel
theorem dX0_putBytes_70 : decode cX0_putBytes 70 = .ok (.iastore, 1) := by decide +kernel
theorem dX0_putBytes_71 : decode cX0_putBytes 71 = .ok (.iinc 5 1, 3) := by decide +kernel
theorem dX0_putBytes_74 : decode cX0_putBytes 74 = .ok (.goto (-71), 3) := by decide +kernel
theorem dX0_putBytes_77 : decode cX0_putBytes 77 = .ok (.return_, 1) := by decide +kernel
theorem dX0_unsigned_0 : decode cX0_unsigned 0 = .ok (.iload_n 0, 1) := by decide +kernel
theorem dX0_unsigned_1 : decode cX0_unsigned 1 = .ok (.i2l, 1) := by decide +kernel
theorem dX0_unsigned_2 : decode cX0_unsigned 2 = .ok (.ldc2_w 157, 3) := by decide +kernel
theorem dX0_unsigned_5 : decode cX0_unsigned 5 = .ok (.land, 1) := by decide +kernel
theorem dX0_unsigned_6 : decode cX0_unsigned 6 = .ok (.lreturn, 1) := by decide +kernel
theorem dX0_compare_0 : decode cX0_compare 0 = .ok (.iload_n 0, 1) := by decide +kernel
theorem dX0_compare_1 : decode cX0_compare 1 = .ok (.lookupswitch 49 #[(0, 27), (4, 38)], 27) := by decide +kernel
theorem dX0_compare_28 : decode cX0_compare 28 = .ok (.iload_n 1, 1) := by decide +kernel
theorem dX0_compare_29 : decode cX0_compare 29 = .ok (.iload_n 2, 1) := by decide +kernel
theorem dX0_compare_30 : decode cX0_compare 30 = .ok (.if_icmp .ne 7, 3) := by decide +kernel
theorem dX0_compare_33 : decode cX0_compare 33 = .ok (.iconst 1, 1) := by decide +kernel
theorem dX0_compare_34 : decode cX0_compare 34 = .ok (.goto 4, 3) := by decide +kernel
theorem dX0_compare_37 : decode cX0_compare 37 = .ok (.iconst 0, 1) := by decide +kernel
theorem dX0_compare_38 : decode cX0_compare 38 = .ok (.ireturn, 1) := by decide +kernel
theorem dX0_compare_39 : decode cX0_compare 39 = .ok (.iload_n 1, 1) := by decide +kernel
theorem dX0_compare_40 : decode cX0_compare 40 = .ok (.iload_n 2, 1) := by decide +kernel
theorem dX0_compare_41 : decode cX0_compare 41 = .ok (.if_icmp .ge 7, 3) := by decide +kernel
theorem dX0_compare_44 : decode cX0_compare 44 = .ok (.iconst 1, 1) := by decide +kernel
theorem dX0_compare_45 : decode cX0_compare 45 = .ok (.goto 4, 3) := by decide +kernel
theorem dX0_compare_48 : decode cX0_compare 48 = .ok (.iconst 0, 1) := by decide +kernel
theorem dX0_compare_49 : decode cX0_compare 49 = .ok (.ireturn, 1) := by decide +kernel
theorem dX0_compare_50 : decode cX0_compare 50 = .ok (.iload_n 1, 1) := by decide +kernel
theorem dX0_compare_51 : decode cX0_compare 51 = .ok (.invokestatic 159, 3) := by decide +kernel
theorem dX0_compare_54 : decode cX0_compare 54 = .ok (.iload_n 2, 1) := by decide +kernel
theorem dX0_compare_55 : decode cX0_compare 55 = .ok (.invokestatic 159, 3) := by decide +kernel
theorem dX0_compare_58 : decode cX0_compare 58 = .ok (.lcmp, 1) := by decide +kernel
theorem dX0_compare_59 : decode cX0_compare 59 = .ok (.ifCond .ge 7, 3) := by decide +kernel
theorem dX0_compare_62 : decode cX0_compare 62 = .ok (.iconst 1, 1) := by decide +kernel
theorem dX0_compare_63 : decode cX0_compare 63 = .ok (.goto 4, 3) := by decide +kernel
theorem dX0_compare_66 : decode cX0_compare 66 = .ok (.iconst 0, 1) := by decide +kernel
theorem dX0_compare_67 : decode cX0_compare 67 = .ok (.ireturn, 1) := by decide +kernel
theorem dX0_narrow_0 : decode cX0_narrow 0 = .ok (.iload_n 0, 1) := by decide +kernel
theorem dX0_narrow_1 : decode cX0_narrow 1 = .ok (.tableswitch 56 0 5 #[39, 42, 56, 56, 45, 51], 39) := by decide +kernel
theorem dX0_narrow_40 : decode cX0_narrow 40 = .ok (.iload_n 1, 1) := by decide +kernel
theorem dX0_narrow_41 : decode cX0_narrow 41 = .ok (.i2b, 1) := by decide +kernel
theorem dX0_narrow_42 : decode cX0_narrow 42 = .ok (.ireturn, 1) := by decide +kernel
theorem dX0_narrow_43 : decode cX0_narrow 43 = .ok (.iload_n 1, 1) := by decide +kernel
theorem dX0_narrow_44 : decode cX0_narrow 44 = .ok (.i2s, 1) := by decide +kernel
theorem dX0_narrow_45 : decode cX0_narrow 45 = .ok (.ireturn, 1) := by decide +kernel
theorem dX0_narrow_46 : decode cX0_narrow 46 = .ok (.iload_n 1, 1) := by decide +kernel
theorem dX0_narrow_47 : decode cX0_narrow 47 = .ok (.sipush 255, 3) := by decide +kernel
theorem dX0_narrow_50 : decode cX0_narrow 50 = .ok (.iand, 1) := by decide +kernel
theorem dX0_narrow_51 : decode cX0_narrow 51 = .ok (.ireturn, 1) := by decide +kernel
theorem dX0_narrow_52 : decode cX0_narrow 52 = .ok (.iload_n 1, 1) := by decide +kernel
theorem dX0_narrow_53 : decode cX0_narrow 53 = .ok (.ldc 163, 2) := by decide +kernel
theorem dX0_narrow_55 : decode cX0_narrow 55 = .ok (.iand, 1) := by decide +kernel
theorem dX0_narrow_56 : decode cX0_narrow 56 = .ok (.ireturn, 1) := by decide +kernel
theorem dX0_narrow_57 : decode cX0_narrow 57 = .ok (.iload_n 1, 1) := by decide +kernel
theorem dX0_narrow_58 : decode cX0_narrow 58 = .ok (.ireturn, 1) := by decide +kernel
theorem dX0_compute_0 : decode cX0_compute 0 = .ok (.iload_n 0, 1) := by decide +kernel
theorem dX0_compute_1 : decode cX0_compute 1 = .ok (.tableswitch 98 0 6 #[43, 47, 54, 65, 83, 87, 94], 43) := by decide +kernel
theorem dX0_compute_44 : decode cX0_compute 44 = .ok (.iload_n 1, 1) := by decide +kernel
theorem dX0_compute_45 : decode cX0_compute 45 = .ok (.iload_n 2, 1) := by decide +kernel
theorem dX0_compute_46 : decode cX0_compute 46 = .ok (.iadd, 1) := by decide +kernel
theorem dX0_compute_47 : decode cX0_compute 47 = .ok (.ireturn, 1) := by decide +kernel
theorem dX0_compute_48 : decode cX0_compute 48 = .ok (.iload_n 1, 1) := by decide +kernel
theorem dX0_compute_49 : decode cX0_compute 49 = .ok (.iload_n 2, 1) := by decide +kernel
theorem dX0_compute_50 : decode cX0_compute 50 = .ok (.bipush 31, 2) := by decide +kernel
theorem dX0_compute_52 : decode cX0_compute 52 = .ok (.iand, 1) := by decide +kernel
theorem dX0_compute_53 : decode cX0_compute 53 = .ok (.ishl, 1) := by decide +kernel
theorem dX0_compute_54 : decode cX0_compute 54 = .ok (.ireturn, 1) := by decide +kernel
theorem dX0_compute_55 : decode cX0_compute 55 = .ok (.iload_n 1, 1) := by decide +kernel
theorem dX0_compute_56 : decode cX0_compute 56 = .ok (.iload_n 2, 1) := by decide +kernel
theorem dX0_compute_57 : decode cX0_compute 57 = .ok (.if_icmp .ge 7, 3) := by decide +kernel
theorem dX0_compute_60 : decode cX0_compute 60 = .ok (.iconst 1, 1) := by decide +kernel
theorem dX0_compute_61 : decode cX0_compute 61 = .ok (.goto 4, 3) := by decide +kernel
theorem dX0_compute_64 : decode cX0_compute 64 = .ok (.iconst 0, 1) := by decide +kernel
theorem dX0_compute_65 : decode cX0_compute 65 = .ok (.ireturn, 1) := by decide +kernel
theorem dX0_compute_66 : decode cX0_compute 66 = .ok (.iload_n 1, 1) := by decide +kernel
theorem dX0_compute_67 : decode cX0_compute 67 = .ok (.invokestatic 159, 3) := by decide +kernel
theorem dX0_compute_70 : decode cX0_compute 70 = .ok (.iload_n 2, 1) := by decide +kernel
theorem dX0_compute_71 : decode cX0_compute 71 = .ok (.invokestatic 159, 3) := by decide +kernel
theorem dX0_compute_74 : decode cX0_compute 74 = .ok (.lcmp, 1) := by decide +kernel
theorem dX0_compute_75 : decode cX0_compute 75 = .ok (.ifCond .ge 7, 3) := by decide +kernel
theorem dX0_compute_78 : decode cX0_compute 78 = .ok (.iconst 1, 1) := by decide +kernel
theorem dX0_compute_79 : decode cX0_compute 79 = .ok (.goto 4, 3) := by decide +kernel
theorem dX0_compute_82 : decode cX0_compute 82 = .ok (.iconst 0, 1) := by decide +kernel
theorem dX0_compute_83 : decode cX0_compute 83 = .ok (.ireturn, 1) := by decide +kernel
theorem dX0_compute_84 : decode cX0_compute 84 = .ok (.iload_n 1, 1) := by decide +kernel
theorem dX0_compute_85 : decode cX0_compute 85 = .ok (.iload_n 2, 1) := by decide +kernel
theorem dX0_compute_86 : decode cX0_compute 86 = .ok (.ixor, 1) := by decide +kernel
theorem dX0_compute_87 : decode cX0_compute 87 = .ok (.ireturn, 1) := by decide +kernel
theorem dX0_compute_88 : decode cX0_compute 88 = .ok (.iload_n 1, 1) := by decide +kernel
theorem dX0_compute_89 : decode cX0_compute 89 = .ok (.iload_n 2, 1) := by decide +kernel
theorem dX0_compute_90 : decode cX0_compute 90 = .ok (.bipush 31, 2) := by decide +kernel
theorem dX0_compute_92 : decode cX0_compute 92 = .ok (.iand, 1) := by decide +kernel
theorem dX0_compute_93 : decode cX0_compute 93 = .ok (.iushr, 1) := by decide +kernel
theorem dX0_compute_94 : decode cX0_compute 94 = .ok (.ireturn, 1) := by decide +kernel
theorem dX0_compute_95 : decode cX0_compute 95 = .ok (.iload_n 1, 1) := by decide +kernel
theorem dX0_compute_96 : decode cX0_compute 96 = .ok (.iload_n 2, 1) := by decide +kernel
theorem dX0_compute_97 : decode cX0_compute 97 = .ok (.ior, 1) := by decide +kernel
theorem dX0_compute_98 : decode cX0_compute 98 = .ok (.ireturn, 1) := by decide +kernel
theorem dX0_compute_99 : decode cX0_compute 99 = .ok (.iload_n 1, 1) := by decide +kernel
theorem dX0_compute_100 : decode cX0_compute 100 = .ok (.iload_n 2, 1) := by decide +kernel
theorem dX0_compute_101 : decode cX0_compute 101 = .ok (.iand, 1) := by decide +kernel
theorem dX0_compute_102 : decode cX0_compute 102 = .ok (.ireturn, 1) := by decide +kernel
theorem dX0_multiplyOrDivide_0 : decode cX0_multiplyOrDivide 0 = .ok (.iload_n 0, 1) := by decide +kernel
theorem dX0_multiplyOrDivide_1 : decode cX0_multiplyOrDivide 1 = .ok (.tableswitch 68 0 3 #[31, 35, 44, 55], 31) := by decide +kernel
theorem dX0_multiplyOrDivide_32 : decode cX0_multiplyOrDivide 32 = .ok (.iload_n 1, 1) := by decide +kernel
theorem dX0_multiplyOrDivide_33 : decode cX0_multiplyOrDivide 33 = .ok (.iload_n 2, 1) := by decide +kernel
theorem dX0_multiplyOrDivide_34 : decode cX0_multiplyOrDivide 34 = .ok (.imul, 1) := by decide +kernel
theorem dX0_multiplyOrDivide_35 : decode cX0_multiplyOrDivide 35 = .ok (.ireturn, 1) := by decide +kernel
theorem dX0_multiplyOrDivide_36 : decode cX0_multiplyOrDivide 36 = .ok (.iload_n 1, 1) := by decide +kernel
theorem dX0_multiplyOrDivide_37 : decode cX0_multiplyOrDivide 37 = .ok (.i2l, 1) := by decide +kernel
theorem dX0_multiplyOrDivide_38 : decode cX0_multiplyOrDivide 38 = .ok (.iload_n 2, 1) := by decide +kernel
theorem dX0_multiplyOrDivide_39 : decode cX0_multiplyOrDivide 39 = .ok (.i2l, 1) := by decide +kernel
theorem dX0_multiplyOrDivide_40 : decode cX0_multiplyOrDivide 40 = .ok (.lmul, 1) := by decide +kernel
theorem dX0_multiplyOrDivide_41 : decode cX0_multiplyOrDivide 41 = .ok (.invokestatic 164, 3) := by decide +kernel
theorem dX0_multiplyOrDivide_44 : decode cX0_multiplyOrDivide 44 = .ok (.ireturn, 1) := by decide +kernel
theorem dX0_multiplyOrDivide_45 : decode cX0_multiplyOrDivide 45 = .ok (.iload_n 1, 1) := by decide +kernel
theorem dX0_multiplyOrDivide_46 : decode cX0_multiplyOrDivide 46 = .ok (.i2l, 1) := by decide +kernel
theorem dX0_multiplyOrDivide_47 : decode cX0_multiplyOrDivide 47 = .ok (.iload_n 2, 1) := by decide +kernel
theorem dX0_multiplyOrDivide_48 : decode cX0_multiplyOrDivide 48 = .ok (.invokestatic 159, 3) := by decide +kernel
theorem dX0_multiplyOrDivide_51 : decode cX0_multiplyOrDivide 51 = .ok (.lmul, 1) := by decide +kernel
theorem dX0_multiplyOrDivide_52 : decode cX0_multiplyOrDivide 52 = .ok (.invokestatic 164, 3) := by decide +kernel
theorem dX0_multiplyOrDivide_55 : decode cX0_multiplyOrDivide 55 = .ok (.ireturn, 1) := by decide +kernel
theorem dX0_multiplyOrDivide_56 : decode cX0_multiplyOrDivide 56 = .ok (.iload_n 1, 1) := by decide +kernel
theorem dX0_multiplyOrDivide_57 : decode cX0_multiplyOrDivide 57 = .ok (.invokestatic 159, 3) := by decide +kernel
theorem dX0_multiplyOrDivide_60 : decode cX0_multiplyOrDivide 60 = .ok (.iload_n 2, 1) := by decide +kernel
theorem dX0_multiplyOrDivide_61 : decode cX0_multiplyOrDivide 61 = .ok (.invokestatic 159, 3) := by decide +kernel
theorem dX0_multiplyOrDivide_64 : decode cX0_multiplyOrDivide 64 = .ok (.lmul, 1) := by decide +kernel
theorem dX0_multiplyOrDivide_65 : decode cX0_multiplyOrDivide 65 = .ok (.invokestatic 164, 3) := by decide +kernel
theorem dX0_multiplyOrDivide_68 : decode cX0_multiplyOrDivide 68 = .ok (.ireturn, 1) := by decide +kernel
theorem dX0_multiplyOrDivide_69 : decode cX0_multiplyOrDivide 69 = .ok (.iload_n 0, 1) := by decide +kernel
theorem dX0_multiplyOrDivide_70 : decode cX0_multiplyOrDivide 70 = .ok (.iload_n 1, 1) := by decide +kernel
theorem dX0_multiplyOrDivide_71 : decode cX0_multiplyOrDivide 71 = .ok (.iload_n 2, 1) := by decide +kernel
theorem dX0_multiplyOrDivide_72 : decode cX0_multiplyOrDivide 72 = .ok (.invokestatic 168, 3) := by decide +kernel
theorem dX0_multiplyOrDivide_75 : decode cX0_multiplyOrDivide 75 = .ok (.ireturn, 1) := by decide +kernel
theorem dX0_upperHalf_0 : decode cX0_upperHalf 0 = .ok (.lload_n 0, 1) := by decide +kernel
theorem dX0_upperHalf_1 : decode cX0_upperHalf 1 = .ok (.bipush 32, 2) := by decide +kernel
theorem dX0_upperHalf_3 : decode cX0_upperHalf 3 = .ok (.lushr, 1) := by decide +kernel
theorem dX0_upperHalf_4 : decode cX0_upperHalf 4 = .ok (.l2i, 1) := by decide +kernel
theorem dX0_upperHalf_5 : decode cX0_upperHalf 5 = .ok (.ireturn, 1) := by decide +kernel
theorem dX0_divide_0 : decode cX0_divide 0 = .ok (.iload_n 2, 1) := by decide +kernel
theorem dX0_divide_1 : decode cX0_divide 1 = .ok (.ifCond .ne 15, 3) := by decide +kernel
theorem dX0_divide_4 : decode cX0_divide 4 = .ok (.iload_n 0, 1) := by decide +kernel
theorem dX0_divide_5 : decode cX0_divide 5 = .ok (.bipush 6, 2) := by decide +kernel
theorem dX0_divide_7 : decode cX0_divide 7 = .ok (.if_icmp .ge 7, 3) := by decide +kernel
theorem dX0_divide_10 : decode cX0_divide 10 = .ok (.iconst (-1), 1) := by decide +kernel
theorem dX0_divide_11 : decode cX0_divide 11 = .ok (.goto 4, 3) := by decide +kernel
theorem dX0_divide_14 : decode cX0_divide 14 = .ok (.iload_n 1, 1) := by decide +kernel
theorem dX0_divide_15 : decode cX0_divide 15 = .ok (.ireturn, 1) := by decide +kernel
theorem dX0_divide_16 : decode cX0_divide 16 = .ok (.iload_n 0, 1) := by decide +kernel
theorem dX0_divide_17 : decode cX0_divide 17 = .ok (.tableswitch 46 4 6 #[27, 31, 42], 27) := by decide +kernel
theorem dX0_divide_44 : decode cX0_divide 44 = .ok (.iload_n 1, 1) := by decide +kernel
theorem dX0_divide_45 : decode cX0_divide 45 = .ok (.iload_n 2, 1) := by decide +kernel
theorem dX0_divide_46 : decode cX0_divide 46 = .ok (.idiv, 1) := by decide +kernel
theorem dX0_divide_47 : decode cX0_divide 47 = .ok (.ireturn, 1) := by decide +kernel
theorem dX0_divide_48 : decode cX0_divide 48 = .ok (.iload_n 1, 1) := by decide +kernel
theorem dX0_divide_49 : decode cX0_divide 49 = .ok (.invokestatic 159, 3) := by decide +kernel
theorem dX0_divide_52 : decode cX0_divide 52 = .ok (.iload_n 2, 1) := by decide +kernel
theorem dX0_divide_53 : decode cX0_divide 53 = .ok (.invokestatic 159, 3) := by decide +kernel
theorem dX0_divide_56 : decode cX0_divide 56 = .ok (.ldiv, 1) := by decide +kernel
theorem dX0_divide_57 : decode cX0_divide 57 = .ok (.l2i, 1) := by decide +kernel
theorem dX0_divide_58 : decode cX0_divide 58 = .ok (.ireturn, 1) := by decide +kernel
theorem dX0_divide_59 : decode cX0_divide 59 = .ok (.iload_n 1, 1) := by decide +kernel
theorem dX0_divide_60 : decode cX0_divide 60 = .ok (.iload_n 2, 1) := by decide +kernel
theorem dX0_divide_61 : decode cX0_divide 61 = .ok (.irem, 1) := by decide +kernel
theorem dX0_divide_62 : decode cX0_divide 62 = .ok (.ireturn, 1) := by decide +kernel
theorem dX0_divide_63 : decode cX0_divide 63 = .ok (.iload_n 1, 1) := by decide +kernel
theorem dX0_divide_64 : decode cX0_divide 64 = .ok (.invokestatic 159, 3) := by decide +kernel
theorem dX0_divide_67 : decode cX0_divide 67 = .ok (.iload_n 2, 1) := by decide +kernel
theorem dX0_divide_68 : decode cX0_divide 68 = .ok (.invokestatic 159, 3) := by decide +kernel
theorem dX0_divide_71 : decode cX0_divide 71 = .ok (.lrem, 1) := by decide +kernel
theorem dX0_divide_72 : decode cX0_divide 72 = .ok (.l2i, 1) := by decide +kernel
theorem dX0_divide_73 : decode cX0_divide 73 = .ok (.ireturn, 1) := by decide +kernel
theorem dX0_partD_0 : decode cX0_partD 0 = .ok (.iload_n 0, 1) := by decide +kernel
theorem dX0_partD_1 : decode cX0_partD 1 = .ok (.bipush 7, 2) := by decide +kernel
theorem dX0_partD_3 : decode cX0_partD 3 = .ok (.iushr, 1) := by decide +kernel
theorem dX0_partD_4 : decode cX0_partD 4 = .ok (.bipush 31, 2) := by decide +kernel
theorem dX0_partD_6 : decode cX0_partD 6 = .ok (.iand, 1) := by decide +kernel
theorem dX0_partD_7 : decode cX0_partD 7 = .ok (.ireturn, 1) := by decide +kernel
theorem dX0_partF_0 : decode cX0_partF 0 = .ok (.iload_n 0, 1) := by decide +kernel
theorem dX0_partF_1 : decode cX0_partF 1 = .ok (.bipush 12, 2) := by decide +kernel
theorem dX0_partF_3 : decode cX0_partF 3 = .ok (.iushr, 1) := by decide +kernel
theorem dX0_partF_4 : decode cX0_partF 4 = .ok (.bipush 7, 2) := by decide +kernel
theorem dX0_partF_6 : decode cX0_partF 6 = .ok (.iand, 1) := by decide +kernel
theorem dX0_partF_7 : decode cX0_partF 7 = .ok (.ireturn, 1) := by decide +kernel
theorem dX0_partB_0 : decode cX0_partB 0 = .ok (.iload_n 0, 1) := by decide +kernel
theorem dX0_partB_1 : decode cX0_partB 1 = .ok (.bipush 20, 2) := by decide +kernel
theorem dX0_partB_3 : decode cX0_partB 3 = .ok (.iushr, 1) := by decide +kernel
theorem dX0_partB_4 : decode cX0_partB 4 = .ok (.bipush 31, 2) := by decide +kernel
theorem dX0_partB_6 : decode cX0_partB 6 = .ok (.iand, 1) := by decide +kernel
theorem dX0_partB_7 : decode cX0_partB 7 = .ok (.ireturn, 1) := by decide +kernel
theorem dX0_partG_0 : decode cX0_partG 0 = .ok (.iload_n 0, 1) := by decide +kernel
theorem dX0_partG_1 : decode cX0_partG 1 = .ok (.bipush 25, 2) := by decide +kernel
theorem dX0_partG_3 : decode cX0_partG 3 = .ok (.iushr, 1) := by decide +kernel
theorem dX0_partG_4 : decode cX0_partG 4 = .ok (.ireturn, 1) := by decide +kernel
theorem dX0_lowImmediate_0 : decode cX0_lowImmediate 0 = .ok (.iload_n 0, 1) := by decide +kernel
theorem dX0_lowImmediate_1 : decode cX0_lowImmediate 1 = .ok (.bipush 20, 2) := by decide +kernel
theorem dX0_lowImmediate_3 : decode cX0_lowImmediate 3 = .ok (.ishr, 1) := by decide +kernel
theorem dX0_lowImmediate_4 : decode cX0_lowImmediate 4 = .ok (.ireturn, 1) := by decide +kernel
theorem dX0_storeImmediate_0 : decode cX0_storeImmediate 0 = .ok (.iload_n 0, 1) := by decide +kernel
theorem dX0_storeImmediate_1 : decode cX0_storeImmediate 1 = .ok (.bipush 25, 2) := by decide +kernel
theorem dX0_storeImmediate_3 : decode cX0_storeImmediate 3 = .ok (.ishr, 1) := by decide +kernel
theorem dX0_storeImmediate_4 : decode cX0_storeImmediate 4 = .ok (.iconst 5, 1) := by decide +kernel
theorem dX0_storeImmediate_5 : decode cX0_storeImmediate 5 = .ok (.ishl, 1) := by decide +kernel
theorem dX0_storeImmediate_6 : decode cX0_storeImmediate 6 = .ok (.iload_n 0, 1) := by decide +kernel
theorem dX0_storeImmediate_7 : decode cX0_storeImmediate 7 = .ok (.invokestatic 154, 3) := by decide +kernel
theorem dX0_storeImmediate_10 : decode cX0_storeImmediate 10 = .ok (.ior, 1) := by decide +kernel
theorem dX0_storeImmediate_11 : decode cX0_storeImmediate 11 = .ok (.ireturn, 1) := by decide +kernel
theorem dX0_branchImmediate_0 : decode cX0_branchImmediate 0 = .ok (.iload_n 0, 1) := by decide +kernel
theorem dX0_branchImmediate_1 : decode cX0_branchImmediate 1 = .ok (.bipush 31, 2) := by decide +kernel
theorem dX0_branchImmediate_3 : decode cX0_branchImmediate 3 = .ok (.ishr, 1) := by decide +kernel
theorem dX0_branchImmediate_4 : decode cX0_branchImmediate 4 = .ok (.bipush 12, 2) := by decide +kernel
theorem dX0_branchImmediate_6 : decode cX0_branchImmediate 6 = .ok (.ishl, 1) := by decide +kernel
theorem dX0_branchImmediate_7 : decode cX0_branchImmediate 7 = .ok (.iload_n 0, 1) := by decide +kernel
theorem dX0_branchImmediate_8 : decode cX0_branchImmediate 8 = .ok (.bipush 7, 2) := by decide +kernel
theorem dX0_branchImmediate_10 : decode cX0_branchImmediate 10 = .ok (.iushr, 1) := by decide +kernel
theorem dX0_branchImmediate_11 : decode cX0_branchImmediate 11 = .ok (.iconst 1, 1) := by decide +kernel
theorem dX0_branchImmediate_12 : decode cX0_branchImmediate 12 = .ok (.iand, 1) := by decide +kernel
theorem dX0_branchImmediate_13 : decode cX0_branchImmediate 13 = .ok (.bipush 11, 2) := by decide +kernel
theorem dX0_branchImmediate_15 : decode cX0_branchImmediate 15 = .ok (.ishl, 1) := by decide +kernel
theorem dX0_branchImmediate_16 : decode cX0_branchImmediate 16 = .ok (.ior, 1) := by decide +kernel
theorem dX0_branchImmediate_17 : decode cX0_branchImmediate 17 = .ok (.iload_n 0, 1) := by decide +kernel
theorem dX0_branchImmediate_18 : decode cX0_branchImmediate 18 = .ok (.bipush 25, 2) := by decide +kernel
theorem dX0_branchImmediate_20 : decode cX0_branchImmediate 20 = .ok (.iushr, 1) := by decide +kernel
theorem dX0_branchImmediate_21 : decode cX0_branchImmediate 21 = .ok (.bipush 63, 2) := by decide +kernel
theorem dX0_branchImmediate_23 : decode cX0_branchImmediate 23 = .ok (.iand, 1) := by decide +kernel
theorem dX0_branchImmediate_24 : decode cX0_branchImmediate 24 = .ok (.iconst 5, 1) := by decide +kernel
theorem dX0_branchImmediate_25 : decode cX0_branchImmediate 25 = .ok (.ishl, 1) := by decide +kernel
theorem dX0_branchImmediate_26 : decode cX0_branchImmediate 26 = .ok (.ior, 1) := by decide +kernel
theorem dX0_branchImmediate_27 : decode cX0_branchImmediate 27 = .ok (.iload_n 0, 1) := by decide +kernel
theorem dX0_branchImmediate_28 : decode cX0_branchImmediate 28 = .ok (.bipush 8, 2) := by decide +kernel
theorem dX0_branchImmediate_30 : decode cX0_branchImmediate 30 = .ok (.iushr, 1) := by decide +kernel
theorem dX0_branchImmediate_31 : decode cX0_branchImmediate 31 = .ok (.bipush 15, 2) := by decide +kernel
theorem dX0_branchImmediate_33 : decode cX0_branchImmediate 33 = .ok (.iand, 1) := by decide +kernel
theorem dX0_branchImmediate_34 : decode cX0_branchImmediate 34 = .ok (.iconst 1, 1) := by decide +kernel
theorem dX0_branchImmediate_35 : decode cX0_branchImmediate 35 = .ok (.ishl, 1) := by decide +kernel
theorem dX0_branchImmediate_36 : decode cX0_branchImmediate 36 = .ok (.ior, 1) := by decide +kernel
theorem dX0_branchImmediate_37 : decode cX0_branchImmediate 37 = .ok (.ireturn, 1) := by decide +kernel
theorem dX0_upperImmediate_0 : decode cX0_upperImmediate 0 = .ok (.iload_n 0, 1) := by decide +kernel
theorem dX0_upperImmediate_1 : decode cX0_upperImmediate 1 = .ok (.bipush 12, 2) := by decide +kernel
theorem dX0_upperImmediate_3 : decode cX0_upperImmediate 3 = .ok (.iushr, 1) := by decide +kernel
theorem dX0_upperImmediate_4 : decode cX0_upperImmediate 4 = .ok (.bipush 12, 2) := by decide +kernel
theorem dX0_upperImmediate_6 : decode cX0_upperImmediate 6 = .ok (.ishl, 1) := by decide +kernel
theorem dX0_upperImmediate_7 : decode cX0_upperImmediate 7 = .ok (.ireturn, 1) := by decide +kernel
theorem dX0_jumpImmediate_0 : decode cX0_jumpImmediate 0 = .ok (.iload_n 0, 1) := by decide +kernel
theorem dX0_jumpImmediate_1 : decode cX0_jumpImmediate 1 = .ok (.bipush 31, 2) := by decide +kernel
theorem dX0_jumpImmediate_3 : decode cX0_jumpImmediate 3 = .ok (.ishr, 1) := by decide +kernel
theorem dX0_jumpImmediate_4 : decode cX0_jumpImmediate 4 = .ok (.bipush 20, 2) := by decide +kernel
theorem dX0_jumpImmediate_6 : decode cX0_jumpImmediate 6 = .ok (.ishl, 1) := by decide +kernel
theorem dX0_jumpImmediate_7 : decode cX0_jumpImmediate 7 = .ok (.iload_n 0, 1) := by decide +kernel
theorem dX0_jumpImmediate_8 : decode cX0_jumpImmediate 8 = .ok (.bipush 12, 2) := by decide +kernel
theorem dX0_jumpImmediate_10 : decode cX0_jumpImmediate 10 = .ok (.iushr, 1) := by decide +kernel
theorem dX0_jumpImmediate_11 : decode cX0_jumpImmediate 11 = .ok (.sipush 255, 3) := by decide +kernel
theorem dX0_jumpImmediate_14 : decode cX0_jumpImmediate 14 = .ok (.iand, 1) := by decide +kernel
theorem dX0_jumpImmediate_15 : decode cX0_jumpImmediate 15 = .ok (.bipush 12, 2) := by decide +kernel
theorem dX0_jumpImmediate_17 : decode cX0_jumpImmediate 17 = .ok (.ishl, 1) := by decide +kernel
theorem dX0_jumpImmediate_18 : decode cX0_jumpImmediate 18 = .ok (.ior, 1) := by decide +kernel
theorem dX0_jumpImmediate_19 : decode cX0_jumpImmediate 19 = .ok (.iload_n 0, 1) := by decide +kernel
theorem dX0_jumpImmediate_20 : decode cX0_jumpImmediate 20 = .ok (.bipush 20, 2) := by decide +kernel
theorem dX0_jumpImmediate_22 : decode cX0_jumpImmediate 22 = .ok (.iushr, 1) := by decide +kernel
theorem dX0_jumpImmediate_23 : decode cX0_jumpImmediate 23 = .ok (.iconst 1, 1) := by decide +kernel
theorem dX0_jumpImmediate_24 : decode cX0_jumpImmediate 24 = .ok (.iand, 1) := by decide +kernel
theorem dX0_jumpImmediate_25 : decode cX0_jumpImmediate 25 = .ok (.bipush 11, 2) := by decide +kernel
theorem dX0_jumpImmediate_27 : decode cX0_jumpImmediate 27 = .ok (.ishl, 1) := by decide +kernel
theorem dX0_jumpImmediate_28 : decode cX0_jumpImmediate 28 = .ok (.ior, 1) := by decide +kernel
theorem dX0_jumpImmediate_29 : decode cX0_jumpImmediate 29 = .ok (.iload_n 0, 1) := by decide +kernel
theorem dX0_jumpImmediate_30 : decode cX0_jumpImmediate 30 = .ok (.bipush 21, 2) := by decide +kernel
theorem dX0_jumpImmediate_32 : decode cX0_jumpImmediate 32 = .ok (.iushr, 1) := by decide +kernel
theorem dX0_jumpImmediate_33 : decode cX0_jumpImmediate 33 = .ok (.sipush 1023, 3) := by decide +kernel
theorem dX0_jumpImmediate_36 : decode cX0_jumpImmediate 36 = .ok (.iand, 1) := by decide +kernel
theorem dX0_jumpImmediate_37 : decode cX0_jumpImmediate 37 = .ok (.iconst 1, 1) := by decide +kernel
theorem dX0_jumpImmediate_38 : decode cX0_jumpImmediate 38 = .ok (.ishl, 1) := by decide +kernel
theorem dX0_jumpImmediate_39 : decode cX0_jumpImmediate 39 = .ok (.ior, 1) := by decide +kernel
theorem dX0_jumpImmediate_40 : decode cX0_jumpImmediate 40 = .ok (.ireturn, 1) := by decide +kernel
