theorem dX1_init_0 : decode cX1_init 0 = .ok (.aload_n 0, 1) := by decide +kernel
theorem dX1_init_1 : decode cX1_init 1 = .ok (.invokespecial 1, 3) := by decide +kernel
theorem dX1_init_4 : decode cX1_init 4 = .ok (.aload_n 0, 1) := by decide +kernel
theorem dX1_init_5 : decode cX1_init 5 = .ok (.sipush 16384, 3) := by decide +kernel
theorem dX1_init_8 : decode cX1_init 8 = .ok (.newarray .byte, 2) := by decide +kernel
theorem dX1_init_10 : decode cX1_init 10 = .ok (.putfield 7, 3) := by decide +kernel
theorem dX1_init_13 : decode cX1_init 13 = .ok (.aload_n 0, 1) := by decide +kernel
theorem dX1_init_14 : decode cX1_init 14 = .ok (.iconst 4, 1) := by decide +kernel
theorem dX1_init_15 : decode cX1_init 15 = .ok (.newarray .int, 2) := by decide +kernel
theorem dX1_init_17 : decode cX1_init 17 = .ok (.dup, 1) := by decide +kernel
theorem dX1_init_18 : decode cX1_init 18 = .ok (.iconst 0, 1) := by decide +kernel
theorem dX1_init_19 : decode cX1_init 19 = .ok (.bipush 7, 2) := by decide +kernel
theorem dX1_init_21 : decode cX1_init 21 = .ok (.iastore, 1) := by decide +kernel
theorem dX1_init_22 : decode cX1_init 22 = .ok (.dup, 1) := by decide +kernel
theorem dX1_init_23 : decode cX1_init 23 = .ok (.iconst 1, 1) := by decide +kernel
theorem dX1_init_24 : decode cX1_init 24 = .ok (.bipush 7, 2) := by decide +kernel
theorem dX1_init_26 : decode cX1_init 26 = .ok (.iastore, 1) := by decide +kernel
theorem dX1_init_27 : decode cX1_init 27 = .ok (.dup, 1) := by decide +kernel
theorem dX1_init_28 : decode cX1_init 28 = .ok (.iconst 2, 1) := by decide +kernel
theorem dX1_init_29 : decode cX1_init 29 = .ok (.bipush 7, 2) := by decide +kernel
theorem dX1_init_31 : decode cX1_init 31 = .ok (.iastore, 1) := by decide +kernel
theorem dX1_init_32 : decode cX1_init 32 = .ok (.dup, 1) := by decide +kernel
theorem dX1_init_33 : decode cX1_init 33 = .ok (.iconst 3, 1) := by decide +kernel
theorem dX1_init_34 : decode cX1_init 34 = .ok (.bipush 7, 2) := by decide +kernel
theorem dX1_init_36 : decode cX1_init 36 = .ok (.iastore, 1) := by decide +kernel
theorem dX1_init_37 : decode cX1_init 37 = .ok (.putfield 13, 3) := by decide +kernel
theorem dX1_init_40 : decode cX1_init 40 = .ok (.aload_n 0, 1) := by decide +kernel
theorem dX1_init_41 : decode cX1_init 41 = .ok (.bipush 32, 2) := by decide +kernel
theorem dX1_init_43 : decode cX1_init 43 = .ok (.newarray .int, 2) := by decide +kernel
theorem dX1_init_45 : decode cX1_init 45 = .ok (.putfield 17, 3) := by decide +kernel
theorem dX1_init_48 : decode cX1_init 48 = .ok (.aload_n 0, 1) := by decide +kernel
theorem dX1_init_49 : decode cX1_init 49 = .ok (.iconst (-1), 1) := by decide +kernel
theorem dX1_init_50 : decode cX1_init 50 = .ok (.putfield 20, 3) := by decide +kernel
theorem dX1_init_53 : decode cX1_init 53 = .ok (.return_, 1) := by decide +kernel
theorem dX1_thrown_0 : decode cX1_thrown 0 = .ok (.aload_n 0, 1) := by decide +kernel
theorem dX1_thrown_1 : decode cX1_thrown 1 = .ok (.getfield 24, 3) := by decide +kernel
theorem dX1_thrown_4 : decode cX1_thrown 4 = .ok (.ireturn, 1) := by decide +kernel
theorem dX1_poke_0 : decode cX1_poke 0 = .ok (.aload_n 0, 1) := by decide +kernel
theorem dX1_poke_1 : decode cX1_poke 1 = .ok (.iconst 0, 1) := by decide +kernel
theorem dX1_poke_2 : decode cX1_poke 2 = .ok (.putfield 24, 3) := by decide +kernel
theorem dX1_poke_5 : decode cX1_poke 5 = .ok (.iload_n 2, 1) := by decide +kernel
theorem dX1_poke_6 : decode cX1_poke 6 = .ok (.iconst 1, 1) := by decide +kernel
theorem dX1_poke_7 : decode cX1_poke 7 = .ok (.if_icmp .lt 22, 3) := by decide +kernel
theorem dX1_poke_10 : decode cX1_poke 10 = .ok (.iload_n 2, 1) := by decide +kernel
theorem dX1_poke_11 : decode cX1_poke 11 = .ok (.bipush 8, 2) := by decide +kernel
theorem dX1_poke_13 : decode cX1_poke 13 = .ok (.if_icmp .gt 16, 3) := by decide +kernel
theorem dX1_poke_16 : decode cX1_poke 16 = .ok (.iload_n 1, 1) := by decide +kernel
theorem dX1_poke_17 : decode cX1_poke 17 = .ok (.ifCond .lt 12, 3) := by decide +kernel
theorem dX1_poke_20 : decode cX1_poke 20 = .ok (.iload_n 1, 1) := by decide +kernel
theorem dX1_poke_21 : decode cX1_poke 21 = .ok (.sipush 16384, 3) := by decide +kernel
theorem dX1_poke_24 : decode cX1_poke 24 = .ok (.iload_n 2, 1) := by decide +kernel
theorem dX1_poke_25 : decode cX1_poke 25 = .ok (.isub, 1) := by decide +kernel
theorem dX1_poke_26 : decode cX1_poke 26 = .ok (.if_icmp .le 5, 3) := by decide +kernel
theorem dX1_poke_29 : decode cX1_poke 29 = .ok (.iconst 0, 1) := by decide +kernel
theorem dX1_poke_30 : decode cX1_poke 30 = .ok (.ireturn, 1) := by decide +kernel
theorem dX1_poke_31 : decode cX1_poke 31 = .ok (.iconst 0, 1) := by decide +kernel
theorem dX1_poke_32 : decode cX1_poke 32 = .ok (.istore 5, 2) := by decide +kernel
theorem dX1_poke_34 : decode cX1_poke 34 = .ok (.iload 5, 2) := by decide +kernel
theorem dX1_poke_36 : decode cX1_poke 36 = .ok (.iload_n 2, 1) := by decide +kernel
theorem dX1_poke_37 : decode cX1_poke 37 = .ok (.if_icmp .ge 27, 3) := by decide +kernel
theorem dX1_poke_40 : decode cX1_poke 40 = .ok (.aload_n 0, 1) := by decide +kernel
theorem dX1_poke_41 : decode cX1_poke 41 = .ok (.getfield 7, 3) := by decide +kernel
theorem dX1_poke_44 : decode cX1_poke 44 = .ok (.iload_n 1, 1) := by decide +kernel
theorem dX1_poke_45 : decode cX1_poke 45 = .ok (.iload 5, 2) := by decide +kernel
theorem dX1_poke_47 : decode cX1_poke 47 = .ok (.iadd, 1) := by decide +kernel
theorem dX1_poke_48 : decode cX1_poke 48 = .ok (.lload_n 3, 1) := by decide +kernel
theorem dX1_poke_49 : decode cX1_poke 49 = .ok (.bipush 8, 2) := by decide +kernel
theorem dX1_poke_51 : decode cX1_poke 51 = .ok (.iload 5, 2) := by decide +kernel
theorem dX1_poke_53 : decode cX1_poke 53 = .ok (.imul, 1) := by decide +kernel
theorem dX1_poke_54 : decode cX1_poke 54 = .ok (.lshr, 1) := by decide +kernel
theorem dX1_poke_55 : decode cX1_poke 55 = .ok (.l2i, 1) := by decide +kernel
theorem dX1_poke_56 : decode cX1_poke 56 = .ok (.i2b, 1) := by decide +kernel
theorem dX1_poke_57 : decode cX1_poke 57 = .ok (.bastore, 1) := by decide +kernel
theorem dX1_poke_58 : decode cX1_poke 58 = .ok (.iinc 5 1, 3) := by decide +kernel
theorem dX1_poke_61 : decode cX1_poke 61 = .ok (.goto (-27), 3) := by decide +kernel
theorem dX1_poke_64 : decode cX1_poke 64 = .ok (.iconst 1, 1) := by decide +kernel
theorem dX1_poke_65 : decode cX1_poke 65 = .ok (.ireturn, 1) := by decide +kernel
theorem dX1_peek_0 : decode cX1_peek 0 = .ok (.aload_n 0, 1) := by decide +kernel
theorem dX1_peek_1 : decode cX1_peek 1 = .ok (.iconst 0, 1) := by decide +kernel
theorem dX1_peek_2 : decode cX1_peek 2 = .ok (.putfield 24, 3) := by decide +kernel
theorem dX1_peek_5 : decode cX1_peek 5 = .ok (.iload_n 1, 1) := by decide +kernel
theorem dX1_peek_6 : decode cX1_peek 6 = .ok (.ifCond .lt 23, 3) := by decide +kernel
theorem dX1_peek_9 : decode cX1_peek 9 = .ok (.iload_n 1, 1) := by decide +kernel
theorem dX1_peek_10 : decode cX1_peek 10 = .ok (.sipush 16384, 3) := by decide +kernel
theorem dX1_peek_13 : decode cX1_peek 13 = .ok (.if_icmp .ge 16, 3) := by decide +kernel
theorem dX1_peek_16 : decode cX1_peek 16 = .ok (.aload_n 0, 1) := by decide +kernel
theorem dX1_peek_17 : decode cX1_peek 17 = .ok (.getfield 7, 3) := by decide +kernel
theorem dX1_peek_20 : decode cX1_peek 20 = .ok (.iload_n 1, 1) := by decide +kernel
theorem dX1_peek_21 : decode cX1_peek 21 = .ok (.baload, 1) := by decide +kernel
theorem dX1_peek_22 : decode cX1_peek 22 = .ok (.sipush 255, 3) := by decide +kernel
theorem dX1_peek_25 : decode cX1_peek 25 = .ok (.iand, 1) := by decide +kernel
theorem dX1_peek_26 : decode cX1_peek 26 = .ok (.goto 4, 3) := by decide +kernel
theorem dX1_peek_29 : decode cX1_peek 29 = .ok (.iconst (-1), 1) := by decide +kernel
theorem dX1_peek_30 : decode cX1_peek 30 = .ok (.ireturn, 1) := by decide +kernel
theorem dX1_protect_0 : decode cX1_protect 0 = .ok (.aload_n 0, 1) := by decide +kernel
theorem dX1_protect_1 : decode cX1_protect 1 = .ok (.iconst 0, 1) := by decide +kernel
theorem dX1_protect_2 : decode cX1_protect 2 = .ok (.putfield 24, 3) := by decide +kernel
theorem dX1_protect_5 : decode cX1_protect 5 = .ok (.iload_n 1, 1) := by decide +kernel
theorem dX1_protect_6 : decode cX1_protect 6 = .ok (.ifCond .lt 18, 3) := by decide +kernel
theorem dX1_protect_9 : decode cX1_protect 9 = .ok (.iload_n 1, 1) := by decide +kernel
theorem dX1_protect_10 : decode cX1_protect 10 = .ok (.iconst 3, 1) := by decide +kernel
theorem dX1_protect_11 : decode cX1_protect 11 = .ok (.if_icmp .gt 13, 3) := by decide +kernel
theorem dX1_protect_14 : decode cX1_protect 14 = .ok (.iload_n 2, 1) := by decide +kernel
theorem dX1_protect_15 : decode cX1_protect 15 = .ok (.ifCond .lt 9, 3) := by decide +kernel
theorem dX1_protect_18 : decode cX1_protect 18 = .ok (.iload_n 2, 1) := by decide +kernel
theorem dX1_protect_19 : decode cX1_protect 19 = .ok (.bipush 7, 2) := by decide +kernel
theorem dX1_protect_21 : decode cX1_protect 21 = .ok (.if_icmp .le 5, 3) := by decide +kernel
theorem dX1_protect_24 : decode cX1_protect 24 = .ok (.iconst 0, 1) := by decide +kernel
theorem dX1_protect_25 : decode cX1_protect 25 = .ok (.ireturn, 1) := by decide +kernel
theorem dX1_protect_26 : decode cX1_protect 26 = .ok (.aload_n 0, 1) := by decide +kernel
theorem dX1_protect_27 : decode cX1_protect 27 = .ok (.getfield 13, 3) := by decide +kernel
theorem dX1_protect_30 : decode cX1_protect 30 = .ok (.iload_n 1, 1) := by decide +kernel
theorem dX1_protect_31 : decode cX1_protect 31 = .ok (.iload_n 2, 1) := by decide +kernel
theorem dX1_protect_32 : decode cX1_protect 32 = .ok (.iastore, 1) := by decide +kernel
theorem dX1_protect_33 : decode cX1_protect 33 = .ok (.iconst 1, 1) := by decide +kernel
theorem dX1_protect_34 : decode cX1_protect 34 = .ok (.ireturn, 1) := by decide +kernel
theorem dX1_may_0 : decode cX1_may 0 = .ok (.iload_n 1, 1) := by decide +kernel
theorem dX1_may_1 : decode cX1_may 1 = .ok (.ifCond .lt 14, 3) := by decide +kernel
theorem dX1_may_4 : decode cX1_may 4 = .ok (.iload_n 1, 1) := by decide +kernel
theorem dX1_may_5 : decode cX1_may 5 = .ok (.sipush 16384, 3) := by decide +kernel
theorem dX1_may_8 : decode cX1_may 8 = .ok (.if_icmp .ge 7, 3) := by decide +kernel
theorem dX1_may_11 : decode cX1_may 11 = .ok (.iconst 1, 1) := by decide +kernel
theorem dX1_may_12 : decode cX1_may 12 = .ok (.goto 4, 3) := by decide +kernel
theorem dX1_may_15 : decode cX1_may 15 = .ok (.iconst 0, 1) := by decide +kernel
theorem dX1_may_16 : decode cX1_may 16 = .ok (.istore_n 3, 1) := by decide +kernel
theorem dX1_may_17 : decode cX1_may 17 = .ok (.iload_n 3, 1) := by decide +kernel
theorem dX1_may_18 : decode cX1_may 18 = .ok (.ifCond .eq 25, 3) := by decide +kernel
theorem dX1_may_21 : decode cX1_may 21 = .ok (.aload_n 0, 1) := by decide +kernel
theorem dX1_may_22 : decode cX1_may 22 = .ok (.getfield 13, 3) := by decide +kernel
theorem dX1_may_25 : decode cX1_may 25 = .ok (.iload_n 1, 1) := by decide +kernel
theorem dX1_may_26 : decode cX1_may 26 = .ok (.sipush 4096, 3) := by decide +kernel
theorem dX1_may_29 : decode cX1_may 29 = .ok (.idiv, 1) := by decide +kernel
theorem dX1_may_30 : decode cX1_may 30 = .ok (.iaload, 1) := by decide +kernel
theorem dX1_may_31 : decode cX1_may 31 = .ok (.iload_n 2, 1) := by decide +kernel
theorem dX1_may_32 : decode cX1_may 32 = .ok (.idiv, 1) := by decide +kernel
theorem dX1_may_33 : decode cX1_may 33 = .ok (.iconst 2, 1) := by decide +kernel
theorem dX1_may_34 : decode cX1_may 34 = .ok (.irem, 1) := by decide +kernel
theorem dX1_may_35 : decode cX1_may 35 = .ok (.iconst 1, 1) := by decide +kernel
theorem dX1_may_36 : decode cX1_may 36 = .ok (.if_icmp .ne 7, 3) := by decide +kernel
theorem dX1_may_39 : decode cX1_may 39 = .ok (.iconst 1, 1) := by decide +kernel
theorem dX1_may_40 : decode cX1_may 40 = .ok (.goto 4, 3) := by decide +kernel
theorem dX1_may_43 : decode cX1_may 43 = .ok (.iconst 0, 1) := by decide +kernel
theorem dX1_may_44 : decode cX1_may 44 = .ok (.ireturn, 1) := by decide +kernel
theorem dX1_bytes_0 : decode cX1_bytes 0 = .ok (.iconst 0, 1) := by decide +kernel
theorem dX1_bytes_1 : decode cX1_bytes 1 = .ok (.istore_n 3, 1) := by decide +kernel
theorem dX1_bytes_2 : decode cX1_bytes 2 = .ok (.iconst 0, 1) := by decide +kernel
theorem dX1_bytes_3 : decode cX1_bytes 3 = .ok (.istore 4, 2) := by decide +kernel
theorem dX1_bytes_5 : decode cX1_bytes 5 = .ok (.iload 4, 2) := by decide +kernel
theorem dX1_bytes_7 : decode cX1_bytes 7 = .ok (.iload_n 2, 1) := by decide +kernel
theorem dX1_bytes_8 : decode cX1_bytes 8 = .ok (.if_icmp .ge 31, 3) := by decide +kernel
theorem dX1_bytes_11 : decode cX1_bytes 11 = .ok (.iload_n 3, 1) := by decide +kernel
theorem dX1_bytes_12 : decode cX1_bytes 12 = .ok (.aload_n 0, 1) := by decide +kernel
theorem dX1_bytes_13 : decode cX1_bytes 13 = .ok (.getfield 7, 3) := by decide +kernel
theorem dX1_bytes_16 : decode cX1_bytes 16 = .ok (.iload_n 1, 1) := by decide +kernel
theorem dX1_bytes_17 : decode cX1_bytes 17 = .ok (.iload 4, 2) := by decide +kernel
theorem dX1_bytes_19 : decode cX1_bytes 19 = .ok (.iadd, 1) := by decide +kernel
theorem dX1_bytes_20 : decode cX1_bytes 20 = .ok (.baload, 1) := by decide +kernel
theorem dX1_bytes_21 : decode cX1_bytes 21 = .ok (.sipush 255, 3) := by decide +kernel
theorem dX1_bytes_24 : decode cX1_bytes 24 = .ok (.iand, 1) := by decide +kernel
theorem dX1_bytes_25 : decode cX1_bytes 25 = .ok (.bipush 8, 2) := by decide +kernel
theorem dX1_bytes_27 : decode cX1_bytes 27 = .ok (.iload 4, 2) := by decide +kernel
theorem dX1_bytes_29 : decode cX1_bytes 29 = .ok (.imul, 1) := by decide +kernel
theorem dX1_bytes_30 : decode cX1_bytes 30 = .ok (.ishl, 1) := by decide +kernel
theorem dX1_bytes_31 : decode cX1_bytes 31 = .ok (.ior, 1) := by decide +kernel
theorem dX1_bytes_32 : decode cX1_bytes 32 = .ok (.istore_n 3, 1) := by decide +kernel
theorem dX1_bytes_33 : decode cX1_bytes 33 = .ok (.iinc 4 1, 3) := by decide +kernel
theorem dX1_bytes_36 : decode cX1_bytes 36 = .ok (.goto (-31), 3) := by decide +kernel
theorem dX1_bytes_39 : decode cX1_bytes 39 = .ok (.iload_n 3, 1) := by decide +kernel
theorem dX1_bytes_40 : decode cX1_bytes 40 = .ok (.ireturn, 1) := by decide +kernel
theorem dX1_set_0 : decode cX1_set 0 = .ok (.aload_n 0, 1) := by decide +kernel
theorem dX1_set_1 : decode cX1_set 1 = .ok (.iconst 0, 1) := by decide +kernel
theorem dX1_set_2 : decode cX1_set 2 = .ok (.putfield 24, 3) := by decide +kernel
theorem dX1_set_5 : decode cX1_set 5 = .ok (.iload_n 1, 1) := by decide +kernel
theorem dX1_set_6 : decode cX1_set 6 = .ok (.ifCond .lt 9, 3) := by decide +kernel
theorem dX1_set_9 : decode cX1_set 9 = .ok (.iload_n 1, 1) := by decide +kernel
theorem dX1_set_10 : decode cX1_set 10 = .ok (.bipush 31, 2) := by decide +kernel
theorem dX1_set_12 : decode cX1_set 12 = .ok (.if_icmp .le 5, 3) := by decide +kernel
theorem dX1_set_15 : decode cX1_set 15 = .ok (.iconst 0, 1) := by decide +kernel
theorem dX1_set_16 : decode cX1_set 16 = .ok (.ireturn, 1) := by decide +kernel
theorem dX1_set_17 : decode cX1_set 17 = .ok (.aload_n 0, 1) := by decide +kernel
theorem dX1_set_18 : decode cX1_set 18 = .ok (.getfield 17, 3) := by decide +kernel
theorem dX1_set_21 : decode cX1_set 21 = .ok (.iload_n 1, 1) := by decide +kernel
theorem dX1_set_22 : decode cX1_set 22 = .ok (.iload_n 1, 1) := by decide +kernel
theorem dX1_set_23 : decode cX1_set 23 = .ok (.ifCond .ne 7, 3) := by decide +kernel
theorem dX1_set_26 : decode cX1_set 26 = .ok (.iconst 0, 1) := by decide +kernel
theorem dX1_set_27 : decode cX1_set 27 = .ok (.goto 4, 3) := by decide +kernel
theorem dX1_set_30 : decode cX1_set 30 = .ok (.iload_n 2, 1) := by decide +kernel
theorem dX1_set_31 : decode cX1_set 31 = .ok (.iastore, 1) := by decide +kernel
theorem dX1_set_32 : decode cX1_set 32 = .ok (.iconst 1, 1) := by decide +kernel
theorem dX1_set_33 : decode cX1_set 33 = .ok (.ireturn, 1) := by decide +kernel
theorem dX1_register_0 : decode cX1_register 0 = .ok (.aload_n 0, 1) := by decide +kernel
theorem dX1_register_1 : decode cX1_register 1 = .ok (.iconst 0, 1) := by decide +kernel
theorem dX1_register_2 : decode cX1_register 2 = .ok (.putfield 24, 3) := by decide +kernel
theorem dX1_register_5 : decode cX1_register 5 = .ok (.iload_n 1, 1) := by decide +kernel
theorem dX1_register_6 : decode cX1_register 6 = .ok (.ifCond .lt 18, 3) := by decide +kernel
theorem dX1_register_9 : decode cX1_register 9 = .ok (.iload_n 1, 1) := by decide +kernel
theorem dX1_register_10 : decode cX1_register 10 = .ok (.bipush 32, 2) := by decide +kernel
theorem dX1_register_12 : decode cX1_register 12 = .ok (.if_icmp .ge 12, 3) := by decide +kernel
theorem dX1_register_15 : decode cX1_register 15 = .ok (.aload_n 0, 1) := by decide +kernel
theorem dX1_register_16 : decode cX1_register 16 = .ok (.getfield 17, 3) := by decide +kernel
theorem dX1_register_19 : decode cX1_register 19 = .ok (.iload_n 1, 1) := by decide +kernel
theorem dX1_register_20 : decode cX1_register 20 = .ok (.iaload, 1) := by decide +kernel
theorem dX1_register_21 : decode cX1_register 21 = .ok (.goto 4, 3) := by decide +kernel
theorem dX1_register_24 : decode cX1_register 24 = .ok (.iconst 0, 1) := by decide +kernel
theorem dX1_register_25 : decode cX1_register 25 = .ok (.ireturn, 1) := by decide +kernel
theorem dX1_jump_0 : decode cX1_jump 0 = .ok (.aload_n 0, 1) := by decide +kernel
theorem dX1_jump_1 : decode cX1_jump 1 = .ok (.iconst 0, 1) := by decide +kernel
theorem dX1_jump_2 : decode cX1_jump 2 = .ok (.putfield 24, 3) := by decide +kernel
theorem dX1_jump_5 : decode cX1_jump 5 = .ok (.aload_n 0, 1) := by decide +kernel
theorem dX1_jump_6 : decode cX1_jump 6 = .ok (.iload_n 1, 1) := by decide +kernel
theorem dX1_jump_7 : decode cX1_jump 7 = .ok (.putfield 27, 3) := by decide +kernel
theorem dX1_jump_10 : decode cX1_jump 10 = .ok (.return_, 1) := by decide +kernel
theorem dX1_pc_0 : decode cX1_pc 0 = .ok (.aload_n 0, 1) := by decide +kernel
theorem dX1_pc_1 : decode cX1_pc 1 = .ok (.iconst 0, 1) := by decide +kernel
theorem dX1_pc_2 : decode cX1_pc 2 = .ok (.putfield 24, 3) := by decide +kernel
theorem dX1_pc_5 : decode cX1_pc 5 = .ok (.aload_n 0, 1) := by decide +kernel
theorem dX1_pc_6 : decode cX1_pc 6 = .ok (.getfield 27, 3) := by decide +kernel
theorem dX1_pc_9 : decode cX1_pc 9 = .ok (.ireturn, 1) := by decide +kernel
theorem dX1_part_0 : decode cX1_part 0 = .ok (.iconst 0, 1) := by decide +kernel
theorem dX1_part_1 : decode cX1_part 1 = .ok (.istore_n 3, 1) := by decide +kernel
theorem dX1_part_2 : decode cX1_part 2 = .ok (.iconst 0, 1) := by decide +kernel
theorem dX1_part_3 : decode cX1_part 3 = .ok (.istore 4, 2) := by decide +kernel
theorem dX1_part_5 : decode cX1_part 5 = .ok (.iload 4, 2) := by decide +kernel
theorem dX1_part_7 : decode cX1_part 7 = .ok (.iload_n 2, 1) := by decide +kernel
theorem dX1_part_8 : decode cX1_part 8 = .ok (.if_icmp .ge 26, 3) := by decide +kernel
theorem dX1_part_11 : decode cX1_part 11 = .ok (.iload_n 3, 1) := by decide +kernel
theorem dX1_part_12 : decode cX1_part 12 = .ok (.aload_n 0, 1) := by decide +kernel
theorem dX1_part_13 : decode cX1_part 13 = .ok (.getfield 30, 3) := by decide +kernel
theorem dX1_part_16 : decode cX1_part 16 = .ok (.iload_n 1, 1) := by decide +kernel
theorem dX1_part_17 : decode cX1_part 17 = .ok (.iload 4, 2) := by decide +kernel
theorem dX1_part_19 : decode cX1_part 19 = .ok (.iadd, 1) := by decide +kernel
theorem dX1_part_20 : decode cX1_part 20 = .ok (.ishr, 1) := by decide +kernel
theorem dX1_part_21 : decode cX1_part 21 = .ok (.iconst 1, 1) := by decide +kernel
theorem dX1_part_22 : decode cX1_part 22 = .ok (.iand, 1) := by decide +kernel
theorem dX1_part_23 : decode cX1_part 23 = .ok (.iload 4, 2) := by decide +kernel
theorem dX1_part_25 : decode cX1_part 25 = .ok (.ishl, 1) := by decide +kernel
theorem dX1_part_26 : decode cX1_part 26 = .ok (.ior, 1) := by decide +kernel
theorem dX1_part_27 : decode cX1_part 27 = .ok (.istore_n 3, 1) := by decide +kernel
theorem dX1_part_28 : decode cX1_part 28 = .ok (.iinc 4 1, 3) := by decide +kernel
theorem dX1_part_31 : decode cX1_part 31 = .ok (.goto (-26), 3) := by decide +kernel
theorem dX1_part_34 : decode cX1_part 34 = .ok (.iload_n 3, 1) := by decide +kernel
theorem dX1_part_35 : decode cX1_part 35 = .ok (.ireturn, 1) := by decide +kernel
theorem dX1_signed_0 : decode cX1_signed 0 = .ok (.iload_n 0, 1) := by decide +kernel
theorem dX1_signed_1 : decode cX1_signed 1 = .ok (.iload_n 1, 1) := by decide +kernel
theorem dX1_signed_2 : decode cX1_signed 2 = .ok (.iconst 1, 1) := by decide +kernel
theorem dX1_signed_3 : decode cX1_signed 3 = .ok (.isub, 1) := by decide +kernel
theorem dX1_signed_4 : decode cX1_signed 4 = .ok (.ishr, 1) := by decide +kernel
theorem dX1_signed_5 : decode cX1_signed 5 = .ok (.iconst 1, 1) := by decide +kernel
theorem dX1_signed_6 : decode cX1_signed 6 = .ok (.iand, 1) := by decide +kernel
theorem dX1_signed_7 : decode cX1_signed 7 = .ok (.iconst 1, 1) := by decide +kernel
theorem dX1_signed_8 : decode cX1_signed 8 = .ok (.if_icmp .ne 11, 3) := by decide +kernel
theorem dX1_signed_11 : decode cX1_signed 11 = .ok (.iload_n 0, 1) := by decide +kernel
theorem dX1_signed_12 : decode cX1_signed 12 = .ok (.iconst 1, 1) := by decide +kernel
theorem dX1_signed_13 : decode cX1_signed 13 = .ok (.iload_n 1, 1) := by decide +kernel
theorem dX1_signed_14 : decode cX1_signed 14 = .ok (.ishl, 1) := by decide +kernel
theorem dX1_signed_15 : decode cX1_signed 15 = .ok (.isub, 1) := by decide +kernel
theorem dX1_signed_16 : decode cX1_signed 16 = .ok (.goto 4, 3) := by decide +kernel
theorem dX1_signed_19 : decode cX1_signed 19 = .ok (.iload_n 0, 1) := by decide +kernel
theorem dX1_signed_20 : decode cX1_signed 20 = .ok (.ireturn, 1) := by decide +kernel
theorem dX1_i_0 : decode cX1_i 0 = .ok (.aload_n 0, 1) := by decide +kernel
theorem dX1_i_1 : decode cX1_i 1 = .ok (.bipush 20, 2) := by decide +kernel
theorem dX1_i_3 : decode cX1_i 3 = .ok (.bipush 12, 2) := by decide +kernel
theorem dX1_i_5 : decode cX1_i 5 = .ok (.invokevirtual 33, 3) := by decide +kernel
theorem dX1_i_8 : decode cX1_i 8 = .ok (.bipush 12, 2) := by decide +kernel
theorem dX1_i_10 : decode cX1_i 10 = .ok (.invokestatic 37, 3) := by decide +kernel
theorem dX1_i_13 : decode cX1_i 13 = .ok (.ireturn, 1) := by decide +kernel
theorem dX1_s_0 : decode cX1_s 0 = .ok (.aload_n 0, 1) := by decide +kernel
theorem dX1_s_1 : decode cX1_s 1 = .ok (.bipush 25, 2) := by decide +kernel
theorem dX1_s_3 : decode cX1_s 3 = .ok (.bipush 7, 2) := by decide +kernel
theorem dX1_s_5 : decode cX1_s 5 = .ok (.invokevirtual 33, 3) := by decide +kernel
theorem dX1_s_8 : decode cX1_s 8 = .ok (.iconst 5, 1) := by decide +kernel
theorem dX1_s_9 : decode cX1_s 9 = .ok (.ishl, 1) := by decide +kernel
theorem dX1_s_10 : decode cX1_s 10 = .ok (.aload_n 0, 1) := by decide +kernel
theorem dX1_s_11 : decode cX1_s 11 = .ok (.bipush 7, 2) := by decide +kernel
theorem dX1_s_13 : decode cX1_s 13 = .ok (.iconst 5, 1) := by decide +kernel
theorem dX1_s_14 : decode cX1_s 14 = .ok (.invokevirtual 33, 3) := by decide +kernel
theorem dX1_s_17 : decode cX1_s 17 = .ok (.ior, 1) := by decide +kernel
theorem dX1_s_18 : decode cX1_s 18 = .ok (.bipush 12, 2) := by decide +kernel
theorem dX1_s_20 : decode cX1_s 20 = .ok (.invokestatic 37, 3) := by decide +kernel
theorem dX1_s_23 : decode cX1_s 23 = .ok (.ireturn, 1) := by decide +kernel
theorem dX1_b_0 : decode cX1_b 0 = .ok (.aload_n 0, 1) := by decide +kernel
theorem dX1_b_1 : decode cX1_b 1 = .ok (.bipush 31, 2) := by decide +kernel
theorem dX1_b_3 : decode cX1_b 3 = .ok (.iconst 1, 1) := by decide +kernel
theorem dX1_b_4 : decode cX1_b 4 = .ok (.invokevirtual 33, 3) := by decide +kernel
theorem dX1_b_7 : decode cX1_b 7 = .ok (.bipush 12, 2) := by decide +kernel
theorem dX1_b_9 : decode cX1_b 9 = .ok (.ishl, 1) := by decide +kernel
theorem dX1_b_10 : decode cX1_b 10 = .ok (.aload_n 0, 1) := by decide +kernel
theorem dX1_b_11 : decode cX1_b 11 = .ok (.bipush 7, 2) := by decide +kernel
theorem dX1_b_13 : decode cX1_b 13 = .ok (.iconst 1, 1) := by decide +kernel
theorem dX1_b_14 : decode cX1_b 14 = .ok (.invokevirtual 33, 3) := by decide +kernel
theorem dX1_b_17 : decode cX1_b 17 = .ok (.bipush 11, 2) := by decide +kernel
theorem dX1_b_19 : decode cX1_b 19 = .ok (.ishl, 1) := by decide +kernel
theorem dX1_b_20 : decode cX1_b 20 = .ok (.ior, 1) := by decide +kernel
theorem dX1_b_21 : decode cX1_b 21 = .ok (.aload_n 0, 1) := by decide +kernel
theorem dX1_b_22 : decode cX1_b 22 = .ok (.bipush 25, 2) := by decide +kernel
theorem dX1_b_24 : decode cX1_b 24 = .ok (.bipush 6, 2) := by decide +kernel
theorem dX1_b_26 : decode cX1_b 26 = .ok (.invokevirtual 33, 3) := by decide +kernel
theorem dX1_b_29 : decode cX1_b 29 = .ok (.iconst 5, 1) := by decide +kernel
theorem dX1_b_30 : decode cX1_b 30 = .ok (.ishl, 1) := by decide +kernel
theorem dX1_b_31 : decode cX1_b 31 = .ok (.ior, 1) := by decide +kernel
theorem dX1_b_32 : decode cX1_b 32 = .ok (.aload_n 0, 1) := by decide +kernel
theorem dX1_b_33 : decode cX1_b 33 = .ok (.bipush 8, 2) := by decide +kernel
theorem dX1_b_35 : decode cX1_b 35 = .ok (.iconst 4, 1) := by decide +kernel
theorem dX1_b_36 : decode cX1_b 36 = .ok (.invokevirtual 33, 3) := by decide +kernel
theorem dX1_b_39 : decode cX1_b 39 = .ok (.iconst 1, 1) := by decide +kernel
theorem dX1_b_40 : decode cX1_b 40 = .ok (.ishl, 1) := by decide +kernel
theorem dX1_b_41 : decode cX1_b 41 = .ok (.ior, 1) := by decide +kernel
theorem dX1_b_42 : decode cX1_b 42 = .ok (.bipush 13, 2) := by decide +kernel
theorem dX1_b_44 : decode cX1_b 44 = .ok (.invokestatic 37, 3) := by decide +kernel
theorem dX1_b_47 : decode cX1_b 47 = .ok (.ireturn, 1) := by decide +kernel
theorem dX1_u_0 : decode cX1_u 0 = .ok (.aload_n 0, 1) := by decide +kernel
theorem dX1_u_1 : decode cX1_u 1 = .ok (.bipush 12, 2) := by decide +kernel
theorem dX1_u_3 : decode cX1_u 3 = .ok (.bipush 20, 2) := by decide +kernel
theorem dX1_u_5 : decode cX1_u 5 = .ok (.invokevirtual 33, 3) := by decide +kernel
theorem dX1_u_8 : decode cX1_u 8 = .ok (.bipush 12, 2) := by decide +kernel
theorem dX1_u_10 : decode cX1_u 10 = .ok (.ishl, 1) := by decide +kernel
theorem dX1_u_11 : decode cX1_u 11 = .ok (.ireturn, 1) := by decide +kernel
theorem dX1_j_0 : decode cX1_j 0 = .ok (.aload_n 0, 1) := by decide +kernel
theorem dX1_j_1 : decode cX1_j 1 = .ok (.bipush 31, 2) := by decide +kernel
theorem dX1_j_3 : decode cX1_j 3 = .ok (.iconst 1, 1) := by decide +kernel
theorem dX1_j_4 : decode cX1_j 4 = .ok (.invokevirtual 33, 3) := by decide +kernel
theorem dX1_j_7 : decode cX1_j 7 = .ok (.bipush 20, 2) := by decide +kernel
theorem dX1_j_9 : decode cX1_j 9 = .ok (.ishl, 1) := by decide +kernel
theorem dX1_j_10 : decode cX1_j 10 = .ok (.aload_n 0, 1) := by decide +kernel
theorem dX1_j_11 : decode cX1_j 11 = .ok (.bipush 12, 2) := by decide +kernel
theorem dX1_j_13 : decode cX1_j 13 = .ok (.bipush 8, 2) := by decide +kernel
theorem dX1_j_15 : decode cX1_j 15 = .ok (.invokevirtual 33, 3) := by decide +kernel
theorem dX1_j_18 : decode cX1_j 18 = .ok (.bipush 12, 2) := by decide +kernel
theorem dX1_j_20 : decode cX1_j 20 = .ok (.ishl, 1) := by decide +kernel
theorem dX1_j_21 : decode cX1_j 21 = .ok (.ior, 1) := by decide +kernel
theorem dX1_j_22 : decode cX1_j 22 = .ok (.aload_n 0, 1) := by decide +kernel
theorem dX1_j_23 : decode cX1_j 23 = .ok (.bipush 20, 2) := by decide +kernel
theorem dX1_j_25 : decode cX1_j 25 = .ok (.iconst 1, 1) := by decide +kernel
theorem dX1_j_26 : decode cX1_j 26 = .ok (.invokevirtual 33, 3) := by decide +kernel
theorem dX1_j_29 : decode cX1_j 29 = .ok (.bipush 11, 2) := by decide +kernel
theorem dX1_j_31 : decode cX1_j 31 = .ok (.ishl, 1) := by decide +kernel
theorem dX1_j_32 : decode cX1_j 32 = .ok (.ior, 1) := by decide +kernel
theorem dX1_j_33 : decode cX1_j 33 = .ok (.aload_n 0, 1) := by decide +kernel
theorem dX1_j_34 : decode cX1_j 34 = .ok (.bipush 21, 2) := by decide +kernel
theorem dX1_j_36 : decode cX1_j 36 = .ok (.bipush 10, 2) := by decide +kernel
theorem dX1_j_38 : decode cX1_j 38 = .ok (.invokevirtual 33, 3) := by decide +kernel
theorem dX1_j_41 : decode cX1_j 41 = .ok (.iconst 1, 1) := by decide +kernel
theorem dX1_j_42 : decode cX1_j 42 = .ok (.ishl, 1) := by decide +kernel
theorem dX1_j_43 : decode cX1_j 43 = .ok (.ior, 1) := by decide +kernel
theorem dX1_j_44 : decode cX1_j 44 = .ok (.bipush 21, 2) := by decide +kernel
theorem dX1_j_46 : decode cX1_j 46 = .ok (.invokestatic 37, 3) := by decide +kernel
theorem dX1_j_49 : decode cX1_j 49 = .ok (.ireturn, 1) := by decide +kernel
theorem dX1_under_0 : decode cX1_under 0 = .ok (.iconst 0, 1) := by decide +kernel
theorem dX1_under_1 : decode cX1_under 1 = .ok (.istore_n 2, 1) := by decide +kernel
theorem dX1_under_2 : decode cX1_under 2 = .ok (.iconst 0, 1) := by decide +kernel
theorem dX1_under_3 : decode cX1_under 3 = .ok (.istore_n 3, 1) := by decide +kernel
theorem dX1_under_4 : decode cX1_under 4 = .ok (.iload_n 3, 1) := by decide +kernel
theorem dX1_under_5 : decode cX1_under 5 = .ok (.bipush 32, 2) := by decide +kernel
theorem dX1_under_7 : decode cX1_under 7 = .ok (.if_icmp .ge 47, 3) := by decide +kernel
theorem dX1_under_10 : decode cX1_under 10 = .ok (.iload_n 0, 1) := by decide +kernel
theorem dX1_under_11 : decode cX1_under 11 = .ok (.iload_n 3, 1) := by decide +kernel
theorem dX1_under_12 : decode cX1_under 12 = .ok (.ishr, 1) := by decide +kernel
theorem dX1_under_13 : decode cX1_under 13 = .ok (.iconst 1, 1) := by decide +kernel
theorem dX1_under_14 : decode cX1_under 14 = .ok (.iand, 1) := by decide +kernel
theorem dX1_under_15 : decode cX1_under 15 = .ok (.istore 4, 2) := by decide +kernel
theorem dX1_under_17 : decode cX1_under 17 = .ok (.iload_n 1, 1) := by decide +kernel
theorem dX1_under_18 : decode cX1_under 18 = .ok (.iload_n 3, 1) := by decide +kernel
theorem dX1_under_19 : decode cX1_under 19 = .ok (.ishr, 1) := by decide +kernel
theorem dX1_under_20 : decode cX1_under 20 = .ok (.iconst 1, 1) := by decide +kernel
theorem dX1_under_21 : decode cX1_under 21 = .ok (.iand, 1) := by decide +kernel
theorem dX1_under_22 : decode cX1_under 22 = .ok (.istore 5, 2) := by decide +kernel
theorem dX1_under_24 : decode cX1_under 24 = .ok (.iload 4, 2) := by decide +kernel
theorem dX1_under_26 : decode cX1_under 26 = .ok (.iload 5, 2) := by decide +kernel
theorem dX1_under_28 : decode cX1_under 28 = .ok (.if_icmp .ne 7, 3) := by decide +kernel
theorem dX1_under_31 : decode cX1_under 31 = .ok (.iload_n 2, 1) := by decide +kernel
theorem dX1_under_32 : decode cX1_under 32 = .ok (.goto 15, 3) := by decide +kernel
theorem dX1_under_35 : decode cX1_under 35 = .ok (.iload 4, 2) := by decide +kernel
theorem dX1_under_37 : decode cX1_under 37 = .ok (.iload 5, 2) := by decide +kernel
theorem dX1_under_39 : decode cX1_under 39 = .ok (.if_icmp .ge 7, 3) := by decide +kernel
theorem dX1_under_42 : decode cX1_under 42 = .ok (.iconst 1, 1) := by decide +kernel
theorem dX1_under_43 : decode cX1_under 43 = .ok (.goto 4, 3) := by decide +kernel
theorem dX1_under_46 : decode cX1_under 46 = .ok (.iconst 0, 1) := by decide +kernel
theorem dX1_under_47 : decode cX1_under 47 = .ok (.istore_n 2, 1) := by decide +kernel
theorem dX1_under_48 : decode cX1_under 48 = .ok (.iinc 3 1, 3) := by decide +kernel
theorem dX1_under_51 : decode cX1_under 51 = .ok (.goto (-47), 3) := by decide +kernel
theorem dX1_under_54 : decode cX1_under 54 = .ok (.iload_n 2, 1) := by decide +kernel
theorem dX1_under_55 : decode cX1_under 55 = .ok (.ireturn, 1) := by decide +kernel
theorem dX1_upper_0 : decode cX1_upper 0 = .ok (.iconst 0, 1) := by decide +kernel
theorem dX1_upper_1 : decode cX1_upper 1 = .ok (.istore_n 2, 1) := by decide +kernel
theorem dX1_upper_2 : decode cX1_upper 2 = .ok (.iconst 0, 1) := by decide +kernel
theorem dX1_upper_3 : decode cX1_upper 3 = .ok (.istore_n 3, 1) := by decide +kernel
theorem dX1_upper_4 : decode cX1_upper 4 = .ok (.bipush 31, 2) := by decide +kernel
theorem dX1_upper_6 : decode cX1_upper 6 = .ok (.istore 4, 2) := by decide +kernel
theorem dX1_upper_8 : decode cX1_upper 8 = .ok (.iload 4, 2) := by decide +kernel
theorem dX1_upper_10 : decode cX1_upper 10 = .ok (.ifCond .lt 57, 3) := by decide +kernel
theorem dX1_upper_13 : decode cX1_upper 13 = .ok (.iload_n 2, 1) := by decide +kernel
theorem dX1_upper_14 : decode cX1_upper 14 = .ok (.iconst 1, 1) := by decide +kernel
theorem dX1_upper_15 : decode cX1_upper 15 = .ok (.ishl, 1) := by decide +kernel
theorem dX1_upper_16 : decode cX1_upper 16 = .ok (.iload_n 3, 1) := by decide +kernel
theorem dX1_upper_17 : decode cX1_upper 17 = .ok (.bipush 31, 2) := by decide +kernel
theorem dX1_upper_19 : decode cX1_upper 19 = .ok (.iushr, 1) := by decide +kernel
theorem dX1_upper_20 : decode cX1_upper 20 = .ok (.ior, 1) := by decide +kernel
theorem dX1_upper_21 : decode cX1_upper 21 = .ok (.istore_n 2, 1) := by decide +kernel
theorem dX1_upper_22 : decode cX1_upper 22 = .ok (.iload_n 3, 1) := by decide +kernel
theorem dX1_upper_23 : decode cX1_upper 23 = .ok (.iconst 1, 1) := by decide +kernel
theorem dX1_upper_24 : decode cX1_upper 24 = .ok (.ishl, 1) := by decide +kernel
theorem dX1_upper_25 : decode cX1_upper 25 = .ok (.istore_n 3, 1) := by decide +kernel
theorem dX1_upper_26 : decode cX1_upper 26 = .ok (.iload_n 1, 1) := by decide +kernel
theorem dX1_upper_27 : decode cX1_upper 27 = .ok (.iload 4, 2) := by decide +kernel
theorem dX1_upper_29 : decode cX1_upper 29 = .ok (.ishr, 1) := by decide +kernel
theorem dX1_upper_30 : decode cX1_upper 30 = .ok (.iconst 1, 1) := by decide +kernel
theorem dX1_upper_31 : decode cX1_upper 31 = .ok (.iand, 1) := by decide +kernel
theorem dX1_upper_32 : decode cX1_upper 32 = .ok (.iconst 1, 1) := by decide +kernel
theorem dX1_upper_33 : decode cX1_upper 33 = .ok (.if_icmp .ne 28, 3) := by decide +kernel
theorem dX1_upper_36 : decode cX1_upper 36 = .ok (.iload_n 3, 1) := by decide +kernel
theorem dX1_upper_37 : decode cX1_upper 37 = .ok (.iload_n 0, 1) := by decide +kernel
theorem dX1_upper_38 : decode cX1_upper 38 = .ok (.iadd, 1) := by decide +kernel
theorem dX1_upper_39 : decode cX1_upper 39 = .ok (.istore 5, 2) := by decide +kernel
theorem dX1_upper_41 : decode cX1_upper 41 = .ok (.iload 5, 2) := by decide +kernel
theorem dX1_upper_43 : decode cX1_upper 43 = .ok (.iload_n 0, 1) := by decide +kernel
theorem dX1_upper_44 : decode cX1_upper 44 = .ok (.invokestatic 40, 3) := by decide +kernel
theorem dX1_upper_47 : decode cX1_upper 47 = .ok (.ifCond .eq 9, 3) := by decide +kernel
theorem dX1_upper_50 : decode cX1_upper 50 = .ok (.iload_n 2, 1) := by decide +kernel
theorem dX1_upper_51 : decode cX1_upper 51 = .ok (.iconst 1, 1) := by decide +kernel
theorem dX1_upper_52 : decode cX1_upper 52 = .ok (.iadd, 1) := by decide +kernel
theorem dX1_upper_53 : decode cX1_upper 53 = .ok (.goto 4, 3) := by decide +kernel
theorem dX1_upper_56 : decode cX1_upper 56 = .ok (.iload_n 2, 1) := by decide +kernel
theorem dX1_upper_57 : decode cX1_upper 57 = .ok (.istore_n 2, 1) := by decide +kernel
theorem dX1_upper_58 : decode cX1_upper 58 = .ok (.iload 5, 2) := by decide +kernel
theorem dX1_upper_60 : decode cX1_upper 60 = .ok (.istore_n 3, 1) := by decide +kernel
theorem dX1_upper_61 : decode cX1_upper 61 = .ok (.iinc 4 (-1), 3) := by decide +kernel
theorem dX1_upper_64 : decode cX1_upper 64 = .ok (.goto (-56), 3) := by decide +kernel
theorem dX1_upper_67 : decode cX1_upper 67 = .ok (.iload_n 2, 1) := by decide +kernel
theorem dX1_upper_68 : decode cX1_upper 68 = .ok (.ireturn, 1) := by decide +kernel
theorem dX1_divided_0 : decode cX1_divided 0 = .ok (.iconst 0, 1) := by decide +kernel
theorem dX1_divided_1 : decode cX1_divided 1 = .ok (.istore_n 3, 1) := by decide +kernel
theorem dX1_divided_2 : decode cX1_divided 2 = .ok (.iconst 0, 1) := by decide +kernel
theorem dX1_divided_3 : decode cX1_divided 3 = .ok (.istore 4, 2) := by decide +kernel
theorem dX1_divided_5 : decode cX1_divided 5 = .ok (.bipush 31, 2) := by decide +kernel
theorem dX1_divided_7 : decode cX1_divided 7 = .ok (.istore 5, 2) := by decide +kernel
theorem dX1_divided_9 : decode cX1_divided 9 = .ok (.iload 5, 2) := by decide +kernel
theorem dX1_divided_11 : decode cX1_divided 11 = .ok (.ifCond .lt 86, 3) := by decide +kernel
theorem dX1_divided_14 : decode cX1_divided 14 = .ok (.iload 4, 2) := by decide +kernel
theorem dX1_divided_16 : decode cX1_divided 16 = .ok (.ifCond .ge 7, 3) := by decide +kernel
theorem dX1_divided_19 : decode cX1_divided 19 = .ok (.iconst 1, 1) := by decide +kernel
theorem dX1_divided_20 : decode cX1_divided 20 = .ok (.goto 4, 3) := by decide +kernel
theorem dX1_divided_23 : decode cX1_divided 23 = .ok (.iconst 0, 1) := by decide +kernel
theorem dX1_divided_24 : decode cX1_divided 24 = .ok (.istore 6, 2) := by decide +kernel
theorem dX1_divided_26 : decode cX1_divided 26 = .ok (.iload 4, 2) := by decide +kernel
theorem dX1_divided_28 : decode cX1_divided 28 = .ok (.iconst 1, 1) := by decide +kernel
theorem dX1_divided_29 : decode cX1_divided 29 = .ok (.ishl, 1) := by decide +kernel
theorem dX1_divided_30 : decode cX1_divided 30 = .ok (.iload_n 0, 1) := by decide +kernel
theorem dX1_divided_31 : decode cX1_divided 31 = .ok (.iload 5, 2) := by decide +kernel
theorem dX1_divided_33 : decode cX1_divided 33 = .ok (.ishr, 1) := by decide +kernel
theorem dX1_divided_34 : decode cX1_divided 34 = .ok (.iconst 1, 1) := by decide +kernel
theorem dX1_divided_35 : decode cX1_divided 35 = .ok (.iand, 1) := by decide +kernel
theorem dX1_divided_36 : decode cX1_divided 36 = .ok (.ior, 1) := by decide +kernel
theorem dX1_divided_37 : decode cX1_divided 37 = .ok (.istore 4, 2) := by decide +kernel
theorem dX1_divided_39 : decode cX1_divided 39 = .ok (.iload 6, 2) := by decide +kernel
theorem dX1_divided_41 : decode cX1_divided 41 = .ok (.ifCond .ne 12, 3) := by decide +kernel
theorem dX1_divided_44 : decode cX1_divided 44 = .ok (.iload 4, 2) := by decide +kernel
theorem dX1_divided_46 : decode cX1_divided 46 = .ok (.iload_n 1, 1) := by decide +kernel
theorem dX1_divided_47 : decode cX1_divided 47 = .ok (.invokestatic 40, 3) := by decide +kernel
theorem dX1_divided_50 : decode cX1_divided 50 = .ok (.ifCond .ne 7, 3) := by decide +kernel
theorem dX1_divided_53 : decode cX1_divided 53 = .ok (.iconst 1, 1) := by decide +kernel
theorem dX1_divided_54 : decode cX1_divided 54 = .ok (.goto 4, 3) := by decide +kernel
theorem dX1_divided_57 : decode cX1_divided 57 = .ok (.iconst 0, 1) := by decide +kernel
theorem dX1_divided_58 : decode cX1_divided 58 = .ok (.istore 7, 2) := by decide +kernel
theorem dX1_divided_60 : decode cX1_divided 60 = .ok (.iload 7, 2) := by decide +kernel
theorem dX1_divided_62 : decode cX1_divided 62 = .ok (.ifCond .eq 10, 3) := by decide +kernel
theorem dX1_divided_65 : decode cX1_divided 65 = .ok (.iload 4, 2) := by decide +kernel
theorem dX1_divided_67 : decode cX1_divided 67 = .ok (.iload_n 1, 1) := by decide +kernel
theorem dX1_divided_68 : decode cX1_divided 68 = .ok (.isub, 1) := by decide +kernel
theorem dX1_divided_69 : decode cX1_divided 69 = .ok (.goto 5, 3) := by decide +kernel
theorem dX1_divided_72 : decode cX1_divided 72 = .ok (.iload 4, 2) := by decide +kernel
theorem dX1_divided_74 : decode cX1_divided 74 = .ok (.istore 4, 2) := by decide +kernel
theorem dX1_divided_76 : decode cX1_divided 76 = .ok (.iload_n 3, 1) := by decide +kernel
theorem dX1_divided_77 : decode cX1_divided 77 = .ok (.iconst 1, 1) := by decide +kernel
theorem dX1_divided_78 : decode cX1_divided 78 = .ok (.ishl, 1) := by decide +kernel
theorem dX1_divided_79 : decode cX1_divided 79 = .ok (.iload 7, 2) := by decide +kernel
theorem dX1_divided_81 : decode cX1_divided 81 = .ok (.ifCond .eq 7, 3) := by decide +kernel
theorem dX1_divided_84 : decode cX1_divided 84 = .ok (.iconst 1, 1) := by decide +kernel
theorem dX1_divided_85 : decode cX1_divided 85 = .ok (.goto 4, 3) := by decide +kernel
theorem dX1_divided_88 : decode cX1_divided 88 = .ok (.iconst 0, 1) := by decide +kernel
theorem dX1_divided_89 : decode cX1_divided 89 = .ok (.ior, 1) := by decide +kernel
theorem dX1_divided_90 : decode cX1_divided 90 = .ok (.istore_n 3, 1) := by decide +kernel
theorem dX1_divided_91 : decode cX1_divided 91 = .ok (.iinc 5 (-1), 3) := by decide +kernel
theorem dX1_divided_94 : decode cX1_divided 94 = .ok (.goto (-85), 3) := by decide +kernel
theorem dX1_divided_97 : decode cX1_divided 97 = .ok (.iload_n 2, 1) := by decide +kernel
theorem dX1_divided_98 : decode cX1_divided 98 = .ok (.ifCond .eq 8, 3) := by decide +kernel
theorem dX1_divided_101 : decode cX1_divided 101 = .ok (.iload 4, 2) := by decide +kernel
theorem dX1_divided_103 : decode cX1_divided 103 = .ok (.goto 4, 3) := by decide +kernel
theorem dX1_divided_106 : decode cX1_divided 106 = .ok (.iload_n 3, 1) := by decide +kernel
theorem dX1_divided_107 : decode cX1_divided 107 = .ok (.ireturn, 1) := by decide +kernel
theorem dX1_quotient_0 : decode cX1_quotient 0 = .ok (.iload_n 1, 1) := by decide +kernel
theorem dX1_quotient_1 : decode cX1_quotient 1 = .ok (.ifCond .ne 13, 3) := by decide +kernel
theorem dX1_quotient_4 : decode cX1_quotient 4 = .ok (.iload_n 2, 1) := by decide +kernel
theorem dX1_quotient_5 : decode cX1_quotient 5 = .ok (.ifCond .eq 7, 3) := by decide +kernel
theorem dX1_quotient_8 : decode cX1_quotient 8 = .ok (.iload_n 0, 1) := by decide +kernel
theorem dX1_quotient_9 : decode cX1_quotient 9 = .ok (.goto 4, 3) := by decide +kernel
theorem dX1_quotient_12 : decode cX1_quotient 12 = .ok (.iconst (-1), 1) := by decide +kernel
theorem dX1_quotient_13 : decode cX1_quotient 13 = .ok (.ireturn, 1) := by decide +kernel
theorem dX1_quotient_14 : decode cX1_quotient 14 = .ok (.iload_n 0, 1) := by decide +kernel
theorem dX1_quotient_15 : decode cX1_quotient 15 = .ok (.ifCond .ge 8, 3) := by decide +kernel
theorem dX1_quotient_18 : decode cX1_quotient 18 = .ok (.iload_n 0, 1) := by decide +kernel
theorem dX1_quotient_19 : decode cX1_quotient 19 = .ok (.ineg, 1) := by decide +kernel
theorem dX1_quotient_20 : decode cX1_quotient 20 = .ok (.goto 4, 3) := by decide +kernel
theorem dX1_quotient_23 : decode cX1_quotient 23 = .ok (.iload_n 0, 1) := by decide +kernel
theorem dX1_quotient_24 : decode cX1_quotient 24 = .ok (.iload_n 1, 1) := by decide +kernel
theorem dX1_quotient_25 : decode cX1_quotient 25 = .ok (.ifCond .ge 8, 3) := by decide +kernel
theorem dX1_quotient_28 : decode cX1_quotient 28 = .ok (.iload_n 1, 1) := by decide +kernel
theorem dX1_quotient_29 : decode cX1_quotient 29 = .ok (.ineg, 1) := by decide +kernel
theorem dX1_quotient_30 : decode cX1_quotient 30 = .ok (.goto 4, 3) := by decide +kernel
theorem dX1_quotient_33 : decode cX1_quotient 33 = .ok (.iload_n 1, 1) := by decide +kernel
theorem dX1_quotient_34 : decode cX1_quotient 34 = .ok (.iload_n 2, 1) := by decide +kernel
theorem dX1_quotient_35 : decode cX1_quotient 35 = .ok (.invokestatic 44, 3) := by decide +kernel
theorem dX1_quotient_38 : decode cX1_quotient 38 = .ok (.istore_n 3, 1) := by decide +kernel
theorem dX1_quotient_39 : decode cX1_quotient 39 = .ok (.iload_n 2, 1) := by decide +kernel
theorem dX1_quotient_40 : decode cX1_quotient 40 = .ok (.ifCond .eq 15, 3) := by decide +kernel
theorem dX1_quotient_43 : decode cX1_quotient 43 = .ok (.iload_n 0, 1) := by decide +kernel
theorem dX1_quotient_44 : decode cX1_quotient 44 = .ok (.ifCond .ge 7, 3) := by decide +kernel
theorem dX1_quotient_47 : decode cX1_quotient 47 = .ok (.iconst 1, 1) := by decide +kernel
theorem dX1_quotient_48 : decode cX1_quotient 48 = .ok (.goto 33, 3) := by decide +kernel
theorem dX1_quotient_51 : decode cX1_quotient 51 = .ok (.iconst 0, 1) := by decide +kernel
theorem dX1_quotient_52 : decode cX1_quotient 52 = .ok (.goto 29, 3) := by decide +kernel
theorem dX1_quotient_55 : decode cX1_quotient 55 = .ok (.iload_n 0, 1) := by decide +kernel
theorem dX1_quotient_56 : decode cX1_quotient 56 = .ok (.ifCond .ge 7, 3) := by decide +kernel
theorem dX1_quotient_59 : decode cX1_quotient 59 = .ok (.iconst 1, 1) := by decide +kernel
theorem dX1_quotient_60 : decode cX1_quotient 60 = .ok (.goto 4, 3) := by decide +kernel
theorem dX1_quotient_63 : decode cX1_quotient 63 = .ok (.iconst 0, 1) := by decide +kernel
theorem dX1_quotient_64 : decode cX1_quotient 64 = .ok (.iload_n 1, 1) := by decide +kernel
theorem dX1_quotient_65 : decode cX1_quotient 65 = .ok (.ifCond .ge 7, 3) := by decide +kernel
theorem dX1_quotient_68 : decode cX1_quotient 68 = .ok (.iconst 1, 1) := by decide +kernel
theorem dX1_quotient_69 : decode cX1_quotient 69 = .ok (.goto 4, 3) := by decide +kernel
theorem dX1_quotient_72 : decode cX1_quotient 72 = .ok (.iconst 0, 1) := by decide +kernel
theorem dX1_quotient_73 : decode cX1_quotient 73 = .ok (.if_icmp .eq 7, 3) := by decide +kernel
theorem dX1_quotient_76 : decode cX1_quotient 76 = .ok (.iconst 1, 1) := by decide +kernel
theorem dX1_quotient_77 : decode cX1_quotient 77 = .ok (.goto 4, 3) := by decide +kernel
theorem dX1_quotient_80 : decode cX1_quotient 80 = .ok (.iconst 0, 1) := by decide +kernel
theorem dX1_quotient_81 : decode cX1_quotient 81 = .ok (.istore 4, 2) := by decide +kernel
theorem dX1_quotient_83 : decode cX1_quotient 83 = .ok (.iload 4, 2) := by decide +kernel
theorem dX1_quotient_85 : decode cX1_quotient 85 = .ok (.ifCond .eq 8, 3) := by decide +kernel
theorem dX1_quotient_88 : decode cX1_quotient 88 = .ok (.iload_n 3, 1) := by decide +kernel
theorem dX1_quotient_89 : decode cX1_quotient 89 = .ok (.ineg, 1) := by decide +kernel
theorem dX1_quotient_90 : decode cX1_quotient 90 = .ok (.goto 4, 3) := by decide +kernel
theorem dX1_quotient_93 : decode cX1_quotient 93 = .ok (.iload_n 3, 1) := by decide +kernel
theorem dX1_quotient_94 : decode cX1_quotient 94 = .ok (.ireturn, 1) := by decide +kernel
theorem dX1_moved_0 : decode cX1_moved 0 = .ok (.iload_n 0, 1) := by decide +kernel
theorem dX1_moved_1 : decode cX1_moved 1 = .ok (.istore 4, 2) := by decide +kernel
theorem dX1_moved_3 : decode cX1_moved 3 = .ok (.iconst 0, 1) := by decide +kernel
theorem dX1_moved_4 : decode cX1_moved 4 = .ok (.istore 5, 2) := by decide +kernel
theorem dX1_moved_6 : decode cX1_moved 6 = .ok (.iload 5, 2) := by decide +kernel
theorem dX1_moved_8 : decode cX1_moved 8 = .ok (.iload_n 1, 1) := by decide +kernel
theorem dX1_moved_9 : decode cX1_moved 9 = .ok (.if_icmp .ge 38, 3) := by decide +kernel
theorem dX1_moved_12 : decode cX1_moved 12 = .ok (.iload_n 2, 1) := by decide +kernel
theorem dX1_moved_13 : decode cX1_moved 13 = .ok (.ifCond .eq 11, 3) := by decide +kernel
theorem dX1_moved_16 : decode cX1_moved 16 = .ok (.iload 4, 2) := by decide +kernel
theorem dX1_moved_18 : decode cX1_moved 18 = .ok (.iload 4, 2) := by decide +kernel
theorem dX1_moved_20 : decode cX1_moved 20 = .ok (.iadd, 1) := by decide +kernel
theorem dX1_moved_21 : decode cX1_moved 21 = .ok (.goto 18, 3) := by decide +kernel
theorem dX1_moved_24 : decode cX1_moved 24 = .ok (.iload_n 3, 1) := by decide +kernel
theorem dX1_moved_25 : decode cX1_moved 25 = .ok (.ifCond .eq 10, 3) := by decide +kernel
theorem dX1_moved_28 : decode cX1_moved 28 = .ok (.iload 4, 2) := by decide +kernel
theorem dX1_moved_30 : decode cX1_moved 30 = .ok (.iconst 1, 1) := by decide +kernel
theorem dX1_moved_31 : decode cX1_moved 31 = .ok (.ishr, 1) := by decide +kernel
theorem dX1_moved_32 : decode cX1_moved 32 = .ok (.goto 7, 3) := by decide +kernel
theorem dX1_moved_35 : decode cX1_moved 35 = .ok (.iload 4, 2) := by decide +kernel
theorem dX1_moved_37 : decode cX1_moved 37 = .ok (.iconst 1, 1) := by decide +kernel
theorem dX1_moved_38 : decode cX1_moved 38 = .ok (.iushr, 1) := by decide +kernel
theorem dX1_moved_39 : decode cX1_moved 39 = .ok (.istore 4, 2) := by decide +kernel
theorem dX1_moved_41 : decode cX1_moved 41 = .ok (.iinc 5 1, 3) := by decide +kernel
theorem dX1_moved_44 : decode cX1_moved 44 = .ok (.goto (-38), 3) := by decide +kernel
theorem dX1_moved_47 : decode cX1_moved 47 = .ok (.iload 4, 2) := by decide +kernel
theorem dX1_moved_49 : decode cX1_moved 49 = .ok (.ireturn, 1) := by decide +kernel
theorem dX1_multiplied_0 : decode cX1_multiplied 0 = .ok (.iload_n 1, 1) := by decide +kernel
theorem dX1_multiplied_1 : decode cX1_multiplied 1 = .ok (.iload_n 2, 1) := by decide +kernel
theorem dX1_multiplied_2 : decode cX1_multiplied 2 = .ok (.invokestatic 48, 3) := by decide +kernel
theorem dX1_multiplied_5 : decode cX1_multiplied 5 = .ok (.istore_n 3, 1) := by decide +kernel
theorem dX1_multiplied_6 : decode cX1_multiplied 6 = .ok (.iload_n 0, 1) := by decide +kernel
theorem dX1_multiplied_7 : decode cX1_multiplied 7 = .ok (.tableswitch 110 0 6 #[41, 45, 67, 79, 81, 88, 103], 41) := by decide +kernel
theorem dX1_multiplied_48 : decode cX1_multiplied 48 = .ok (.iload_n 1, 1) := by decide +kernel
theorem dX1_multiplied_49 : decode cX1_multiplied 49 = .ok (.iload_n 2, 1) := by decide +kernel
theorem dX1_multiplied_50 : decode cX1_multiplied 50 = .ok (.imul, 1) := by decide +kernel
theorem dX1_multiplied_51 : decode cX1_multiplied 51 = .ok (.ireturn, 1) := by decide +kernel
theorem dX1_multiplied_52 : decode cX1_multiplied 52 = .ok (.iload_n 3, 1) := by decide +kernel
theorem dX1_multiplied_53 : decode cX1_multiplied 53 = .ok (.iload_n 1, 1) := by decide +kernel
theorem dX1_multiplied_54 : decode cX1_multiplied 54 = .ok (.ifCond .ge 7, 3) := by decide +kernel
theorem dX1_multiplied_57 : decode cX1_multiplied 57 = .ok (.iload_n 2, 1) := by decide +kernel
theorem dX1_multiplied_58 : decode cX1_multiplied 58 = .ok (.goto 4, 3) := by decide +kernel
theorem dX1_multiplied_61 : decode cX1_multiplied 61 = .ok (.iconst 0, 1) := by decide +kernel
theorem dX1_multiplied_62 : decode cX1_multiplied 62 = .ok (.isub, 1) := by decide +kernel
theorem dX1_multiplied_63 : decode cX1_multiplied 63 = .ok (.iload_n 2, 1) := by decide +kernel
theorem dX1_multiplied_64 : decode cX1_multiplied 64 = .ok (.ifCond .ge 7, 3) := by decide +kernel
theorem dX1_multiplied_67 : decode cX1_multiplied 67 = .ok (.iload_n 1, 1) := by decide +kernel
theorem dX1_multiplied_68 : decode cX1_multiplied 68 = .ok (.goto 4, 3) := by decide +kernel
theorem dX1_multiplied_71 : decode cX1_multiplied 71 = .ok (.iconst 0, 1) := by decide +kernel
theorem dX1_multiplied_72 : decode cX1_multiplied 72 = .ok (.isub, 1) := by decide +kernel
theorem dX1_multiplied_73 : decode cX1_multiplied 73 = .ok (.ireturn, 1) := by decide +kernel
theorem dX1_multiplied_74 : decode cX1_multiplied 74 = .ok (.iload_n 3, 1) := by decide +kernel
theorem dX1_multiplied_75 : decode cX1_multiplied 75 = .ok (.iload_n 1, 1) := by decide +kernel
theorem dX1_multiplied_76 : decode cX1_multiplied 76 = .ok (.ifCond .ge 7, 3) := by decide +kernel
theorem dX1_multiplied_79 : decode cX1_multiplied 79 = .ok (.iload_n 2, 1) := by decide +kernel
theorem dX1_multiplied_80 : decode cX1_multiplied 80 = .ok (.goto 4, 3) := by decide +kernel
theorem dX1_multiplied_83 : decode cX1_multiplied 83 = .ok (.iconst 0, 1) := by decide +kernel
theorem dX1_multiplied_84 : decode cX1_multiplied 84 = .ok (.isub, 1) := by decide +kernel
theorem dX1_multiplied_85 : decode cX1_multiplied 85 = .ok (.ireturn, 1) := by decide +kernel
theorem dX1_multiplied_86 : decode cX1_multiplied 86 = .ok (.iload_n 3, 1) := by decide +kernel
theorem dX1_multiplied_87 : decode cX1_multiplied 87 = .ok (.ireturn, 1) := by decide +kernel
theorem dX1_multiplied_88 : decode cX1_multiplied 88 = .ok (.iload_n 1, 1) := by decide +kernel
theorem dX1_multiplied_89 : decode cX1_multiplied 89 = .ok (.iload_n 2, 1) := by decide +kernel
theorem dX1_multiplied_90 : decode cX1_multiplied 90 = .ok (.iconst 0, 1) := by decide +kernel
theorem dX1_multiplied_91 : decode cX1_multiplied 91 = .ok (.invokestatic 51, 3) := by decide +kernel
theorem dX1_multiplied_94 : decode cX1_multiplied 94 = .ok (.ireturn, 1) := by decide +kernel
theorem dX1_multiplied_95 : decode cX1_multiplied 95 = .ok (.iload_n 2, 1) := by decide +kernel
theorem dX1_multiplied_96 : decode cX1_multiplied 96 = .ok (.ifCond .ne 7, 3) := by decide +kernel
theorem dX1_multiplied_99 : decode cX1_multiplied 99 = .ok (.iconst (-1), 1) := by decide +kernel
theorem dX1_multiplied_100 : decode cX1_multiplied 100 = .ok (.goto 9, 3) := by decide +kernel
theorem dX1_multiplied_103 : decode cX1_multiplied 103 = .ok (.iload_n 1, 1) := by decide +kernel
theorem dX1_multiplied_104 : decode cX1_multiplied 104 = .ok (.iload_n 2, 1) := by decide +kernel
theorem dX1_multiplied_105 : decode cX1_multiplied 105 = .ok (.iconst 0, 1) := by decide +kernel
theorem dX1_multiplied_106 : decode cX1_multiplied 106 = .ok (.invokestatic 44, 3) := by decide +kernel
theorem dX1_multiplied_109 : decode cX1_multiplied 109 = .ok (.ireturn, 1) := by decide +kernel
theorem dX1_multiplied_110 : decode cX1_multiplied 110 = .ok (.iload_n 1, 1) := by decide +kernel
theorem dX1_multiplied_111 : decode cX1_multiplied 111 = .ok (.iload_n 2, 1) := by decide +kernel
theorem dX1_multiplied_112 : decode cX1_multiplied 112 = .ok (.iconst 1, 1) := by decide +kernel
theorem dX1_multiplied_113 : decode cX1_multiplied 113 = .ok (.invokestatic 51, 3) := by decide +kernel
theorem dX1_multiplied_116 : decode cX1_multiplied 116 = .ok (.ireturn, 1) := by decide +kernel
theorem dX1_multiplied_117 : decode cX1_multiplied 117 = .ok (.iload_n 2, 1) := by decide +kernel
theorem dX1_multiplied_118 : decode cX1_multiplied 118 = .ok (.ifCond .ne 7, 3) := by decide +kernel
theorem dX1_multiplied_121 : decode cX1_multiplied 121 = .ok (.iload_n 1, 1) := by decide +kernel
theorem dX1_multiplied_122 : decode cX1_multiplied 122 = .ok (.goto 9, 3) := by decide +kernel
theorem dX1_multiplied_125 : decode cX1_multiplied 125 = .ok (.iload_n 1, 1) := by decide +kernel
theorem dX1_multiplied_126 : decode cX1_multiplied 126 = .ok (.iload_n 2, 1) := by decide +kernel
theorem dX1_multiplied_127 : decode cX1_multiplied 127 = .ok (.iconst 1, 1) := by decide +kernel
theorem dX1_multiplied_128 : decode cX1_multiplied 128 = .ok (.invokestatic 44, 3) := by decide +kernel
theorem dX1_multiplied_131 : decode cX1_multiplied 131 = .ok (.ireturn, 1) := by decide +kernel
theorem dX1_fail_0 : decode cX1_fail 0 = .ok (.aload_n 0, 1) := by decide +kernel
theorem dX1_fail_1 : decode cX1_fail 1 = .ok (.iload_n 1, 1) := by decide +kernel
theorem dX1_fail_2 : decode cX1_fail 2 = .ok (.putfield 54, 3) := by decide +kernel
theorem dX1_fail_5 : decode cX1_fail 5 = .ok (.aload_n 0, 1) := by decide +kernel
theorem dX1_fail_6 : decode cX1_fail 6 = .ok (.iload_n 2, 1) := by decide +kernel
theorem dX1_fail_7 : decode cX1_fail 7 = .ok (.putfield 57, 3) := by decide +kernel
theorem dX1_fail_10 : decode cX1_fail 10 = .ok (.return_, 1) := by decide +kernel
theorem dX1_strange_0 : decode cX1_strange 0 = .ok (.aload_n 0, 1) := by decide +kernel
theorem dX1_strange_1 : decode cX1_strange 1 = .ok (.iconst 2, 1) := by decide +kernel
theorem dX1_strange_2 : decode cX1_strange 2 = .ok (.aload_n 0, 1) := by decide +kernel
theorem dX1_strange_3 : decode cX1_strange 3 = .ok (.getfield 30, 3) := by decide +kernel
theorem dX1_strange_6 : decode cX1_strange 6 = .ok (.invokevirtual 60, 3) := by decide +kernel
theorem dX1_strange_9 : decode cX1_strange 9 = .ok (.return_, 1) := by decide +kernel
theorem dX1_put_0 : decode cX1_put 0 = .ok (.aload_n 0, 1) := by decide +kernel
theorem dX1_put_1 : decode cX1_put 1 = .ok (.bipush 7, 2) := by decide +kernel
theorem dX1_put_3 : decode cX1_put 3 = .ok (.iconst 5, 1) := by decide +kernel
theorem dX1_put_4 : decode cX1_put 4 = .ok (.invokevirtual 33, 3) := by decide +kernel
theorem dX1_put_7 : decode cX1_put 7 = .ok (.istore_n 2, 1) := by decide +kernel
theorem dX1_put_8 : decode cX1_put 8 = .ok (.aload_n 0, 1) := by decide +kernel
theorem dX1_put_9 : decode cX1_put 9 = .ok (.getfield 17, 3) := by decide +kernel
theorem dX1_put_12 : decode cX1_put 12 = .ok (.iload_n 2, 1) := by decide +kernel
theorem dX1_put_13 : decode cX1_put 13 = .ok (.iload_n 2, 1) := by decide +kernel
theorem dX1_put_14 : decode cX1_put 14 = .ok (.ifCond .ne 7, 3) := by decide +kernel
theorem dX1_put_17 : decode cX1_put 17 = .ok (.iconst 0, 1) := by decide +kernel
theorem dX1_put_18 : decode cX1_put 18 = .ok (.goto 4, 3) := by decide +kernel
theorem dX1_put_21 : decode cX1_put 21 = .ok (.iload_n 1, 1) := by decide +kernel
theorem dX1_put_22 : decode cX1_put 22 = .ok (.iastore, 1) := by decide +kernel
theorem dX1_put_23 : decode cX1_put 23 = .ok (.return_, 1) := by decide +kernel
theorem dX1_goTo_0 : decode cX1_goTo 0 = .ok (.iload_n 1, 1) := by decide +kernel
theorem dX1_goTo_1 : decode cX1_goTo 1 = .ok (.iconst 3, 1) := by decide +kernel
theorem dX1_goTo_2 : decode cX1_goTo 2 = .ok (.iand, 1) := by decide +kernel
theorem dX1_goTo_3 : decode cX1_goTo 3 = .ok (.ifCond .eq 10, 3) := by decide +kernel
theorem dX1_goTo_6 : decode cX1_goTo 6 = .ok (.aload_n 0, 1) := by decide +kernel
theorem dX1_goTo_7 : decode cX1_goTo 7 = .ok (.iconst 0, 1) := by decide +kernel
theorem dX1_goTo_8 : decode cX1_goTo 8 = .ok (.iload_n 1, 1) := by decide +kernel
theorem dX1_goTo_9 : decode cX1_goTo 9 = .ok (.invokevirtual 60, 3) := by decide +kernel
theorem dX1_goTo_12 : decode cX1_goTo 12 = .ok (.return_, 1) := by decide +kernel
theorem dX1_goTo_13 : decode cX1_goTo 13 = .ok (.aload_n 0, 1) := by decide +kernel
theorem dX1_goTo_14 : decode cX1_goTo 14 = .ok (.iload_n 1, 1) := by decide +kernel
theorem dX1_goTo_15 : decode cX1_goTo 15 = .ok (.putfield 64, 3) := by decide +kernel
theorem dX1_goTo_18 : decode cX1_goTo 18 = .ok (.iload_n 2, 1) := by decide +kernel
theorem dX1_goTo_19 : decode cX1_goTo 19 = .ok (.ifCond .eq 13, 3) := by decide +kernel
theorem dX1_goTo_22 : decode cX1_goTo 22 = .ok (.aload_n 0, 1) := by decide +kernel
theorem dX1_goTo_23 : decode cX1_goTo 23 = .ok (.aload_n 0, 1) := by decide +kernel
theorem dX1_goTo_24 : decode cX1_goTo 24 = .ok (.getfield 27, 3) := by decide +kernel
theorem dX1_goTo_27 : decode cX1_goTo 27 = .ok (.iconst 4, 1) := by decide +kernel
theorem dX1_goTo_28 : decode cX1_goTo 28 = .ok (.iadd, 1) := by decide +kernel
theorem dX1_goTo_29 : decode cX1_goTo 29 = .ok (.invokevirtual 67, 3) := by decide +kernel
theorem dX1_goTo_32 : decode cX1_goTo 32 = .ok (.return_, 1) := by decide +kernel
theorem dX1_branch_0 : decode cX1_branch 0 = .ok (.iload_n 1, 1) := by decide +kernel
theorem dX1_branch_1 : decode cX1_branch 1 = .ok (.iconst 2, 1) := by decide +kernel
theorem dX1_branch_2 : decode cX1_branch 2 = .ok (.if_icmp .eq 8, 3) := by decide +kernel
theorem dX1_branch_5 : decode cX1_branch 5 = .ok (.iload_n 1, 1) := by decide +kernel
theorem dX1_branch_6 : decode cX1_branch 6 = .ok (.iconst 3, 1) := by decide +kernel
theorem dX1_branch_7 : decode cX1_branch 7 = .ok (.if_icmp .ne 8, 3) := by decide +kernel
theorem dX1_branch_10 : decode cX1_branch 10 = .ok (.aload_n 0, 1) := by decide +kernel
theorem dX1_branch_11 : decode cX1_branch 11 = .ok (.invokevirtual 71, 3) := by decide +kernel
theorem dX1_branch_14 : decode cX1_branch 14 = .ok (.return_, 1) := by decide +kernel
theorem dX1_branch_15 : decode cX1_branch 15 = .ok (.iload_n 1, 1) := by decide +kernel
theorem dX1_branch_16 : decode cX1_branch 16 = .ok (.iconst 2, 1) := by decide +kernel
theorem dX1_branch_17 : decode cX1_branch 17 = .ok (.if_icmp .ge 16, 3) := by decide +kernel
theorem dX1_branch_20 : decode cX1_branch 20 = .ok (.iload_n 2, 1) := by decide +kernel
theorem dX1_branch_21 : decode cX1_branch 21 = .ok (.iload_n 3, 1) := by decide +kernel
theorem dX1_branch_22 : decode cX1_branch 22 = .ok (.if_icmp .ne 7, 3) := by decide +kernel
theorem dX1_branch_25 : decode cX1_branch 25 = .ok (.iconst 1, 1) := by decide +kernel
theorem dX1_branch_26 : decode cX1_branch 26 = .ok (.goto 31, 3) := by decide +kernel
theorem dX1_branch_29 : decode cX1_branch 29 = .ok (.iconst 0, 1) := by decide +kernel
theorem dX1_branch_30 : decode cX1_branch 30 = .ok (.goto 27, 3) := by decide +kernel
theorem dX1_branch_33 : decode cX1_branch 33 = .ok (.iload_n 1, 1) := by decide +kernel
theorem dX1_branch_34 : decode cX1_branch 34 = .ok (.bipush 6, 2) := by decide +kernel
theorem dX1_branch_36 : decode cX1_branch 36 = .ok (.if_icmp .ge 16, 3) := by decide +kernel
theorem dX1_branch_39 : decode cX1_branch 39 = .ok (.iload_n 2, 1) := by decide +kernel
theorem dX1_branch_40 : decode cX1_branch 40 = .ok (.iload_n 3, 1) := by decide +kernel
theorem dX1_branch_41 : decode cX1_branch 41 = .ok (.if_icmp .ge 7, 3) := by decide +kernel
theorem dX1_branch_44 : decode cX1_branch 44 = .ok (.iconst 1, 1) := by decide +kernel
theorem dX1_branch_45 : decode cX1_branch 45 = .ok (.goto 12, 3) := by decide +kernel
theorem dX1_branch_48 : decode cX1_branch 48 = .ok (.iconst 0, 1) := by decide +kernel
theorem dX1_branch_49 : decode cX1_branch 49 = .ok (.goto 8, 3) := by decide +kernel
theorem dX1_branch_52 : decode cX1_branch 52 = .ok (.iload_n 2, 1) := by decide +kernel
theorem dX1_branch_53 : decode cX1_branch 53 = .ok (.iload_n 3, 1) := by decide +kernel
theorem dX1_branch_54 : decode cX1_branch 54 = .ok (.invokestatic 40, 3) := by decide +kernel
theorem dX1_branch_57 : decode cX1_branch 57 = .ok (.istore 4, 2) := by decide +kernel
theorem dX1_branch_59 : decode cX1_branch 59 = .ok (.iload 4, 2) := by decide +kernel
theorem dX1_branch_61 : decode cX1_branch 61 = .ok (.iload_n 1, 1) := by decide +kernel
theorem dX1_branch_62 : decode cX1_branch 62 = .ok (.iconst 2, 1) := by decide +kernel
theorem dX1_branch_63 : decode cX1_branch 63 = .ok (.irem, 1) := by decide +kernel
theorem dX1_branch_64 : decode cX1_branch 64 = .ok (.ifCond .ne 7, 3) := by decide +kernel
theorem dX1_branch_67 : decode cX1_branch 67 = .ok (.iconst 1, 1) := by decide +kernel
theorem dX1_branch_68 : decode cX1_branch 68 = .ok (.goto 4, 3) := by decide +kernel
theorem dX1_branch_71 : decode cX1_branch 71 = .ok (.iconst 0, 1) := by decide +kernel
theorem dX1_branch_72 : decode cX1_branch 72 = .ok (.if_icmp .ne 17, 3) := by decide +kernel
theorem dX1_branch_75 : decode cX1_branch 75 = .ok (.aload_n 0, 1) := by decide +kernel
theorem dX1_branch_76 : decode cX1_branch 76 = .ok (.aload_n 0, 1) := by decide +kernel
theorem dX1_branch_77 : decode cX1_branch 77 = .ok (.getfield 27, 3) := by decide +kernel
theorem dX1_branch_80 : decode cX1_branch 80 = .ok (.aload_n 0, 1) := by decide +kernel
theorem dX1_branch_81 : decode cX1_branch 81 = .ok (.invokevirtual 74, 3) := by decide +kernel
theorem dX1_branch_84 : decode cX1_branch 84 = .ok (.iadd, 1) := by decide +kernel
theorem dX1_branch_85 : decode cX1_branch 85 = .ok (.iconst 0, 1) := by decide +kernel
theorem dX1_branch_86 : decode cX1_branch 86 = .ok (.invokevirtual 78, 3) := by decide +kernel
theorem dX1_branch_89 : decode cX1_branch 89 = .ok (.return_, 1) := by decide +kernel
theorem dX1_load_0 : decode cX1_load 0 = .ok (.iload_n 1, 1) := by decide +kernel
theorem dX1_load_1 : decode cX1_load 1 = .ok (.iconst 3, 1) := by decide +kernel
theorem dX1_load_2 : decode cX1_load 2 = .ok (.if_icmp .eq 8, 3) := by decide +kernel
theorem dX1_load_5 : decode cX1_load 5 = .ok (.iload_n 1, 1) := by decide +kernel
theorem dX1_load_6 : decode cX1_load 6 = .ok (.iconst 5, 1) := by decide +kernel
theorem dX1_load_7 : decode cX1_load 7 = .ok (.if_icmp .le 8, 3) := by decide +kernel
theorem dX1_load_10 : decode cX1_load 10 = .ok (.aload_n 0, 1) := by decide +kernel
theorem dX1_load_11 : decode cX1_load 11 = .ok (.invokevirtual 71, 3) := by decide +kernel
theorem dX1_load_14 : decode cX1_load 14 = .ok (.return_, 1) := by decide +kernel
theorem dX1_load_15 : decode cX1_load 15 = .ok (.iload_n 1, 1) := by decide +kernel
theorem dX1_load_16 : decode cX1_load 16 = .ok (.iconst 4, 1) := by decide +kernel
theorem dX1_load_17 : decode cX1_load 17 = .ok (.irem, 1) := by decide +kernel
theorem dX1_load_18 : decode cX1_load 18 = .ok (.ifCond .ne 7, 3) := by decide +kernel
theorem dX1_load_21 : decode cX1_load 21 = .ok (.iconst 1, 1) := by decide +kernel
theorem dX1_load_22 : decode cX1_load 22 = .ok (.goto 15, 3) := by decide +kernel
theorem dX1_load_25 : decode cX1_load 25 = .ok (.iload_n 1, 1) := by decide +kernel
theorem dX1_load_26 : decode cX1_load 26 = .ok (.iconst 4, 1) := by decide +kernel
theorem dX1_load_27 : decode cX1_load 27 = .ok (.irem, 1) := by decide +kernel
theorem dX1_load_28 : decode cX1_load 28 = .ok (.iconst 1, 1) := by decide +kernel
theorem dX1_load_29 : decode cX1_load 29 = .ok (.if_icmp .ne 7, 3) := by decide +kernel
theorem dX1_load_32 : decode cX1_load 32 = .ok (.iconst 2, 1) := by decide +kernel
theorem dX1_load_33 : decode cX1_load 33 = .ok (.goto 4, 3) := by decide +kernel
theorem dX1_load_36 : decode cX1_load 36 = .ok (.iconst 4, 1) := by decide +kernel
theorem dX1_load_37 : decode cX1_load 37 = .ok (.istore_n 3, 1) := by decide +kernel
theorem dX1_load_38 : decode cX1_load 38 = .ok (.iload_n 2, 1) := by decide +kernel
theorem dX1_load_39 : decode cX1_load 39 = .ok (.iload_n 3, 1) := by decide +kernel
theorem dX1_load_40 : decode cX1_load 40 = .ok (.iconst 1, 1) := by decide +kernel
theorem dX1_load_41 : decode cX1_load 41 = .ok (.isub, 1) := by decide +kernel
theorem dX1_load_42 : decode cX1_load 42 = .ok (.iand, 1) := by decide +kernel
theorem dX1_load_43 : decode cX1_load 43 = .ok (.ifCond .eq 12, 3) := by decide +kernel
theorem dX1_load_46 : decode cX1_load 46 = .ok (.aload_n 0, 1) := by decide +kernel
theorem dX1_load_47 : decode cX1_load 47 = .ok (.iconst 4, 1) := by decide +kernel
theorem dX1_load_48 : decode cX1_load 48 = .ok (.iload_n 2, 1) := by decide +kernel
theorem dX1_load_49 : decode cX1_load 49 = .ok (.invokevirtual 60, 3) := by decide +kernel
theorem dX1_load_52 : decode cX1_load 52 = .ok (.goto 53, 3) := by decide +kernel
theorem dX1_load_55 : decode cX1_load 55 = .ok (.aload_n 0, 1) := by decide +kernel
theorem dX1_load_56 : decode cX1_load 56 = .ok (.iload_n 2, 1) := by decide +kernel
theorem dX1_load_57 : decode cX1_load 57 = .ok (.iconst 1, 1) := by decide +kernel
theorem dX1_load_58 : decode cX1_load 58 = .ok (.invokevirtual 82, 3) := by decide +kernel
theorem dX1_load_61 : decode cX1_load 61 = .ok (.ifCond .ne 13, 3) := by decide +kernel
theorem dX1_load_64 : decode cX1_load 64 = .ok (.aload_n 0, 1) := by decide +kernel
theorem dX1_load_65 : decode cX1_load 65 = .ok (.bipush 13, 2) := by decide +kernel
theorem dX1_load_67 : decode cX1_load 67 = .ok (.iload_n 2, 1) := by decide +kernel
theorem dX1_load_68 : decode cX1_load 68 = .ok (.invokevirtual 60, 3) := by decide +kernel
theorem dX1_load_71 : decode cX1_load 71 = .ok (.goto 34, 3) := by decide +kernel
theorem dX1_load_74 : decode cX1_load 74 = .ok (.aload_n 0, 1) := by decide +kernel
theorem dX1_load_75 : decode cX1_load 75 = .ok (.iload_n 2, 1) := by decide +kernel
theorem dX1_load_76 : decode cX1_load 76 = .ok (.iload_n 3, 1) := by decide +kernel
theorem dX1_load_77 : decode cX1_load 77 = .ok (.invokevirtual 85, 3) := by decide +kernel
theorem dX1_load_80 : decode cX1_load 80 = .ok (.istore 4, 2) := by decide +kernel
theorem dX1_load_82 : decode cX1_load 82 = .ok (.aload_n 0, 1) := by decide +kernel
theorem dX1_load_83 : decode cX1_load 83 = .ok (.iload_n 1, 1) := by decide +kernel
theorem dX1_load_84 : decode cX1_load 84 = .ok (.iconst 2, 1) := by decide +kernel
theorem dX1_load_85 : decode cX1_load 85 = .ok (.if_icmp .ge 15, 3) := by decide +kernel
theorem dX1_load_88 : decode cX1_load 88 = .ok (.iload 4, 2) := by decide +kernel
theorem dX1_load_90 : decode cX1_load 90 = .ok (.bipush 8, 2) := by decide +kernel
theorem dX1_load_92 : decode cX1_load 92 = .ok (.iload_n 3, 1) := by decide +kernel
theorem dX1_load_93 : decode cX1_load 93 = .ok (.imul, 1) := by decide +kernel
theorem dX1_load_94 : decode cX1_load 94 = .ok (.invokestatic 37, 3) := by decide +kernel
theorem dX1_load_97 : decode cX1_load 97 = .ok (.goto 5, 3) := by decide +kernel
theorem dX1_load_100 : decode cX1_load 100 = .ok (.iload 4, 2) := by decide +kernel
theorem dX1_load_102 : decode cX1_load 102 = .ok (.invokevirtual 67, 3) := by decide +kernel
theorem dX1_load_105 : decode cX1_load 105 = .ok (.return_, 1) := by decide +kernel
theorem dX1_store_0 : decode cX1_store 0 = .ok (.iload_n 1, 1) := by decide +kernel
theorem dX1_store_1 : decode cX1_store 1 = .ok (.iconst 2, 1) := by decide +kernel
theorem dX1_store_2 : decode cX1_store 2 = .ok (.if_icmp .le 8, 3) := by decide +kernel
theorem dX1_store_5 : decode cX1_store 5 = .ok (.aload_n 0, 1) := by decide +kernel
theorem dX1_store_6 : decode cX1_store 6 = .ok (.invokevirtual 71, 3) := by decide +kernel
theorem dX1_store_9 : decode cX1_store 9 = .ok (.return_, 1) := by decide +kernel
theorem dX1_store_10 : decode cX1_store 10 = .ok (.iload_n 1, 1) := by decide +kernel
theorem dX1_store_11 : decode cX1_store 11 = .ok (.ifCond .ne 7, 3) := by decide +kernel
theorem dX1_store_14 : decode cX1_store 14 = .ok (.iconst 1, 1) := by decide +kernel
theorem dX1_store_15 : decode cX1_store 15 = .ok (.goto 13, 3) := by decide +kernel
theorem dX1_store_18 : decode cX1_store 18 = .ok (.iload_n 1, 1) := by decide +kernel
theorem dX1_store_19 : decode cX1_store 19 = .ok (.iconst 1, 1) := by decide +kernel
theorem dX1_store_20 : decode cX1_store 20 = .ok (.if_icmp .ne 7, 3) := by decide +kernel
theorem dX1_store_23 : decode cX1_store 23 = .ok (.iconst 2, 1) := by decide +kernel
theorem dX1_store_24 : decode cX1_store 24 = .ok (.goto 4, 3) := by decide +kernel
theorem dX1_store_27 : decode cX1_store 27 = .ok (.iconst 4, 1) := by decide +kernel
theorem dX1_store_28 : decode cX1_store 28 = .ok (.istore 4, 2) := by decide +kernel
theorem dX1_store_30 : decode cX1_store 30 = .ok (.iload_n 2, 1) := by decide +kernel
theorem dX1_store_31 : decode cX1_store 31 = .ok (.iload 4, 2) := by decide +kernel
theorem dX1_store_33 : decode cX1_store 33 = .ok (.iconst 1, 1) := by decide +kernel
theorem dX1_store_34 : decode cX1_store 34 = .ok (.isub, 1) := by decide +kernel
theorem dX1_store_35 : decode cX1_store 35 = .ok (.iand, 1) := by decide +kernel
theorem dX1_store_36 : decode cX1_store 36 = .ok (.ifCond .eq 13, 3) := by decide +kernel
theorem dX1_store_39 : decode cX1_store 39 = .ok (.aload_n 0, 1) := by decide +kernel
theorem dX1_store_40 : decode cX1_store 40 = .ok (.bipush 6, 2) := by decide +kernel
theorem dX1_store_42 : decode cX1_store 42 = .ok (.iload_n 2, 1) := by decide +kernel
theorem dX1_store_43 : decode cX1_store 43 = .ok (.invokevirtual 60, 3) := by decide +kernel
theorem dX1_store_46 : decode cX1_store 46 = .ok (.goto 55, 3) := by decide +kernel
theorem dX1_store_49 : decode cX1_store 49 = .ok (.aload_n 0, 1) := by decide +kernel
theorem dX1_store_50 : decode cX1_store 50 = .ok (.iload_n 2, 1) := by decide +kernel
theorem dX1_store_51 : decode cX1_store 51 = .ok (.iconst 2, 1) := by decide +kernel
theorem dX1_store_52 : decode cX1_store 52 = .ok (.invokevirtual 82, 3) := by decide +kernel
theorem dX1_store_55 : decode cX1_store 55 = .ok (.ifCond .ne 13, 3) := by decide +kernel
theorem dX1_store_58 : decode cX1_store 58 = .ok (.aload_n 0, 1) := by decide +kernel
theorem dX1_store_59 : decode cX1_store 59 = .ok (.bipush 15, 2) := by decide +kernel
theorem dX1_store_61 : decode cX1_store 61 = .ok (.iload_n 2, 1) := by decide +kernel
theorem dX1_store_62 : decode cX1_store 62 = .ok (.invokevirtual 60, 3) := by decide +kernel
theorem dX1_store_65 : decode cX1_store 65 = .ok (.goto 36, 3) := by decide +kernel
theorem dX1_store_68 : decode cX1_store 68 = .ok (.iconst 0, 1) := by decide +kernel
theorem dX1_store_69 : decode cX1_store 69 = .ok (.istore 5, 2) := by decide +kernel
theorem dX1_store_71 : decode cX1_store 71 = .ok (.iload 5, 2) := by decide +kernel
theorem dX1_store_73 : decode cX1_store 73 = .ok (.iload 4, 2) := by decide +kernel
theorem dX1_store_75 : decode cX1_store 75 = .ok (.if_icmp .ge 26, 3) := by decide +kernel
theorem dX1_store_78 : decode cX1_store 78 = .ok (.aload_n 0, 1) := by decide +kernel
theorem dX1_store_79 : decode cX1_store 79 = .ok (.getfield 7, 3) := by decide +kernel
theorem dX1_store_82 : decode cX1_store 82 = .ok (.iload_n 2, 1) := by decide +kernel
theorem dX1_store_83 : decode cX1_store 83 = .ok (.iload 5, 2) := by decide +kernel
theorem dX1_store_85 : decode cX1_store 85 = .ok (.iadd, 1) := by decide +kernel
theorem dX1_store_86 : decode cX1_store 86 = .ok (.iload_n 3, 1) := by decide +kernel
theorem dX1_store_87 : decode cX1_store 87 = .ok (.bipush 8, 2) := by decide +kernel
theorem dX1_store_89 : decode cX1_store 89 = .ok (.iload 5, 2) := by decide +kernel
theorem dX1_store_91 : decode cX1_store 91 = .ok (.imul, 1) := by decide +kernel
theorem dX1_store_92 : decode cX1_store 92 = .ok (.ishr, 1) := by decide +kernel
theorem dX1_store_93 : decode cX1_store 93 = .ok (.i2b, 1) := by decide +kernel
theorem dX1_store_94 : decode cX1_store 94 = .ok (.bastore, 1) := by decide +kernel
theorem dX1_store_95 : decode cX1_store 95 = .ok (.iinc 5 1, 3) := by decide +kernel
theorem dX1_store_98 : decode cX1_store 98 = .ok (.goto (-27), 3) := by decide +kernel
theorem dX1_store_101 : decode cX1_store 101 = .ok (.return_, 1) := by decide +kernel
theorem dX1_worked_0 : decode cX1_worked 0 = .ok (.iload_n 0, 1) := by decide +kernel
theorem dX1_worked_1 : decode cX1_worked 1 = .ok (.tableswitch 124 0 6 #[43, 57, 68, 79, 93, 103, 114], 43) := by decide +kernel
theorem dX1_worked_44 : decode cX1_worked 44 = .ok (.iload_n 3, 1) := by decide +kernel
theorem dX1_worked_45 : decode cX1_worked 45 = .ok (.ifCond .eq 9, 3) := by decide +kernel
theorem dX1_worked_48 : decode cX1_worked 48 = .ok (.iload_n 1, 1) := by decide +kernel
theorem dX1_worked_49 : decode cX1_worked 49 = .ok (.iload_n 2, 1) := by decide +kernel
theorem dX1_worked_50 : decode cX1_worked 50 = .ok (.isub, 1) := by decide +kernel
theorem dX1_worked_51 : decode cX1_worked 51 = .ok (.goto 6, 3) := by decide +kernel
theorem dX1_worked_54 : decode cX1_worked 54 = .ok (.iload_n 1, 1) := by decide +kernel
theorem dX1_worked_55 : decode cX1_worked 55 = .ok (.iload_n 2, 1) := by decide +kernel
theorem dX1_worked_56 : decode cX1_worked 56 = .ok (.iadd, 1) := by decide +kernel
theorem dX1_worked_57 : decode cX1_worked 57 = .ok (.ireturn, 1) := by decide +kernel
theorem dX1_worked_58 : decode cX1_worked 58 = .ok (.iload_n 1, 1) := by decide +kernel
theorem dX1_worked_59 : decode cX1_worked 59 = .ok (.iload_n 2, 1) := by decide +kernel
theorem dX1_worked_60 : decode cX1_worked 60 = .ok (.bipush 31, 2) := by decide +kernel
theorem dX1_worked_62 : decode cX1_worked 62 = .ok (.iand, 1) := by decide +kernel
theorem dX1_worked_63 : decode cX1_worked 63 = .ok (.iconst 1, 1) := by decide +kernel
theorem dX1_worked_64 : decode cX1_worked 64 = .ok (.iconst 0, 1) := by decide +kernel
theorem dX1_worked_65 : decode cX1_worked 65 = .ok (.invokestatic 88, 3) := by decide +kernel
theorem dX1_worked_68 : decode cX1_worked 68 = .ok (.ireturn, 1) := by decide +kernel
theorem dX1_worked_69 : decode cX1_worked 69 = .ok (.iload_n 1, 1) := by decide +kernel
theorem dX1_worked_70 : decode cX1_worked 70 = .ok (.iload_n 2, 1) := by decide +kernel
theorem dX1_worked_71 : decode cX1_worked 71 = .ok (.if_icmp .ge 7, 3) := by decide +kernel
theorem dX1_worked_74 : decode cX1_worked 74 = .ok (.iconst 1, 1) := by decide +kernel
theorem dX1_worked_75 : decode cX1_worked 75 = .ok (.goto 4, 3) := by decide +kernel
theorem dX1_worked_78 : decode cX1_worked 78 = .ok (.iconst 0, 1) := by decide +kernel
theorem dX1_worked_79 : decode cX1_worked 79 = .ok (.ireturn, 1) := by decide +kernel
theorem dX1_worked_80 : decode cX1_worked 80 = .ok (.iload_n 1, 1) := by decide +kernel
theorem dX1_worked_81 : decode cX1_worked 81 = .ok (.iload_n 2, 1) := by decide +kernel
theorem dX1_worked_82 : decode cX1_worked 82 = .ok (.invokestatic 40, 3) := by decide +kernel
theorem dX1_worked_85 : decode cX1_worked 85 = .ok (.ifCond .eq 7, 3) := by decide +kernel
theorem dX1_worked_88 : decode cX1_worked 88 = .ok (.iconst 1, 1) := by decide +kernel
theorem dX1_worked_89 : decode cX1_worked 89 = .ok (.goto 4, 3) := by decide +kernel
theorem dX1_worked_92 : decode cX1_worked 92 = .ok (.iconst 0, 1) := by decide +kernel
theorem dX1_worked_93 : decode cX1_worked 93 = .ok (.ireturn, 1) := by decide +kernel
theorem dX1_worked_94 : decode cX1_worked 94 = .ok (.iload_n 1, 1) := by decide +kernel
theorem dX1_worked_95 : decode cX1_worked 95 = .ok (.iload_n 2, 1) := by decide +kernel
theorem dX1_worked_96 : decode cX1_worked 96 = .ok (.ior, 1) := by decide +kernel
theorem dX1_worked_97 : decode cX1_worked 97 = .ok (.iload_n 1, 1) := by decide +kernel
theorem dX1_worked_98 : decode cX1_worked 98 = .ok (.iload_n 2, 1) := by decide +kernel
theorem dX1_worked_99 : decode cX1_worked 99 = .ok (.iand, 1) := by decide +kernel
theorem dX1_worked_100 : decode cX1_worked 100 = .ok (.iconst (-1), 1) := by decide +kernel
theorem dX1_worked_101 : decode cX1_worked 101 = .ok (.ixor, 1) := by decide +kernel
theorem dX1_worked_102 : decode cX1_worked 102 = .ok (.iand, 1) := by decide +kernel
theorem dX1_worked_103 : decode cX1_worked 103 = .ok (.ireturn, 1) := by decide +kernel
theorem dX1_worked_104 : decode cX1_worked 104 = .ok (.iload_n 1, 1) := by decide +kernel
theorem dX1_worked_105 : decode cX1_worked 105 = .ok (.iload_n 2, 1) := by decide +kernel
theorem dX1_worked_106 : decode cX1_worked 106 = .ok (.bipush 31, 2) := by decide +kernel
theorem dX1_worked_108 : decode cX1_worked 108 = .ok (.iand, 1) := by decide +kernel
theorem dX1_worked_109 : decode cX1_worked 109 = .ok (.iconst 0, 1) := by decide +kernel
theorem dX1_worked_110 : decode cX1_worked 110 = .ok (.iload_n 3, 1) := by decide +kernel
theorem dX1_worked_111 : decode cX1_worked 111 = .ok (.invokestatic 88, 3) := by decide +kernel
theorem dX1_worked_114 : decode cX1_worked 114 = .ok (.ireturn, 1) := by decide +kernel
theorem dX1_worked_115 : decode cX1_worked 115 = .ok (.iload_n 1, 1) := by decide +kernel
theorem dX1_worked_116 : decode cX1_worked 116 = .ok (.iconst (-1), 1) := by decide +kernel
theorem dX1_worked_117 : decode cX1_worked 117 = .ok (.ixor, 1) := by decide +kernel
theorem dX1_worked_118 : decode cX1_worked 118 = .ok (.iload_n 2, 1) := by decide +kernel
theorem dX1_worked_119 : decode cX1_worked 119 = .ok (.iconst (-1), 1) := by decide +kernel
theorem dX1_worked_120 : decode cX1_worked 120 = .ok (.ixor, 1) := by decide +kernel
theorem dX1_worked_121 : decode cX1_worked 121 = .ok (.iand, 1) := by decide +kernel
theorem dX1_worked_122 : decode cX1_worked 122 = .ok (.iconst (-1), 1) := by decide +kernel
theorem dX1_worked_123 : decode cX1_worked 123 = .ok (.ixor, 1) := by decide +kernel
theorem dX1_worked_124 : decode cX1_worked 124 = .ok (.ireturn, 1) := by decide +kernel
theorem dX1_worked_125 : decode cX1_worked 125 = .ok (.iload_n 1, 1) := by decide +kernel
theorem dX1_worked_126 : decode cX1_worked 126 = .ok (.iload_n 2, 1) := by decide +kernel
theorem dX1_worked_127 : decode cX1_worked 127 = .ok (.iand, 1) := by decide +kernel
theorem dX1_worked_128 : decode cX1_worked 128 = .ok (.ireturn, 1) := by decide +kernel
theorem dX1_immediate_0 : decode cX1_immediate 0 = .ok (.iload_n 1, 1) := by decide +kernel
theorem dX1_immediate_1 : decode cX1_immediate 1 = .ok (.iconst 1, 1) := by decide +kernel
theorem dX1_immediate_2 : decode cX1_immediate 2 = .ok (.if_icmp .eq 8, 3) := by decide +kernel
theorem dX1_immediate_5 : decode cX1_immediate 5 = .ok (.iload_n 1, 1) := by decide +kernel
theorem dX1_immediate_6 : decode cX1_immediate 6 = .ok (.iconst 5, 1) := by decide +kernel
theorem dX1_immediate_7 : decode cX1_immediate 7 = .ok (.if_icmp .ne 7, 3) := by decide +kernel
theorem dX1_immediate_10 : decode cX1_immediate 10 = .ok (.iconst 1, 1) := by decide +kernel
theorem dX1_immediate_11 : decode cX1_immediate 11 = .ok (.goto 4, 3) := by decide +kernel
theorem dX1_immediate_14 : decode cX1_immediate 14 = .ok (.iconst 0, 1) := by decide +kernel
theorem dX1_immediate_15 : decode cX1_immediate 15 = .ok (.istore 4, 2) := by decide +kernel
theorem dX1_immediate_17 : decode cX1_immediate 17 = .ok (.iload_n 1, 1) := by decide +kernel
theorem dX1_immediate_18 : decode cX1_immediate 18 = .ok (.iconst 1, 1) := by decide +kernel
theorem dX1_immediate_19 : decode cX1_immediate 19 = .ok (.if_icmp .ne 7, 3) := by decide +kernel
theorem dX1_immediate_22 : decode cX1_immediate 22 = .ok (.iload_n 3, 1) := by decide +kernel
theorem dX1_immediate_23 : decode cX1_immediate 23 = .ok (.ifCond .ne 18, 3) := by decide +kernel
theorem dX1_immediate_26 : decode cX1_immediate 26 = .ok (.iload_n 1, 1) := by decide +kernel
theorem dX1_immediate_27 : decode cX1_immediate 27 = .ok (.iconst 5, 1) := by decide +kernel
theorem dX1_immediate_28 : decode cX1_immediate 28 = .ok (.if_icmp .ne 20, 3) := by decide +kernel
theorem dX1_immediate_31 : decode cX1_immediate 31 = .ok (.iload_n 3, 1) := by decide +kernel
theorem dX1_immediate_32 : decode cX1_immediate 32 = .ok (.ifCond .eq 16, 3) := by decide +kernel
theorem dX1_immediate_35 : decode cX1_immediate 35 = .ok (.iload_n 3, 1) := by decide +kernel
theorem dX1_immediate_36 : decode cX1_immediate 36 = .ok (.bipush 32, 2) := by decide +kernel
theorem dX1_immediate_38 : decode cX1_immediate 38 = .ok (.if_icmp .eq 10, 3) := by decide +kernel
theorem dX1_immediate_41 : decode cX1_immediate 41 = .ok (.aload_n 0, 1) := by decide +kernel
theorem dX1_immediate_42 : decode cX1_immediate 42 = .ok (.invokevirtual 71, 3) := by decide +kernel
theorem dX1_immediate_45 : decode cX1_immediate 45 = .ok (.goto 47, 3) := by decide +kernel
theorem dX1_immediate_48 : decode cX1_immediate 48 = .ok (.aload_n 0, 1) := by decide +kernel
theorem dX1_immediate_49 : decode cX1_immediate 49 = .ok (.iload_n 1, 1) := by decide +kernel
theorem dX1_immediate_50 : decode cX1_immediate 50 = .ok (.iload_n 2, 1) := by decide +kernel
theorem dX1_immediate_51 : decode cX1_immediate 51 = .ok (.iload 4, 2) := by decide +kernel
theorem dX1_immediate_53 : decode cX1_immediate 53 = .ok (.ifCond .eq 13, 3) := by decide +kernel
theorem dX1_immediate_56 : decode cX1_immediate 56 = .ok (.aload_n 0, 1) := by decide +kernel
theorem dX1_immediate_57 : decode cX1_immediate 57 = .ok (.bipush 20, 2) := by decide +kernel
theorem dX1_immediate_59 : decode cX1_immediate 59 = .ok (.iconst 5, 1) := by decide +kernel
theorem dX1_immediate_60 : decode cX1_immediate 60 = .ok (.invokevirtual 33, 3) := by decide +kernel
theorem dX1_immediate_63 : decode cX1_immediate 63 = .ok (.goto 7, 3) := by decide +kernel
theorem dX1_immediate_66 : decode cX1_immediate 66 = .ok (.aload_n 0, 1) := by decide +kernel
theorem dX1_immediate_67 : decode cX1_immediate 67 = .ok (.invokevirtual 92, 3) := by decide +kernel
theorem dX1_immediate_70 : decode cX1_immediate 70 = .ok (.iload_n 1, 1) := by decide +kernel
theorem dX1_immediate_71 : decode cX1_immediate 71 = .ok (.iconst 5, 1) := by decide +kernel
theorem dX1_immediate_72 : decode cX1_immediate 72 = .ok (.if_icmp .ne 13, 3) := by decide +kernel
theorem dX1_immediate_75 : decode cX1_immediate 75 = .ok (.iload_n 3, 1) := by decide +kernel
theorem dX1_immediate_76 : decode cX1_immediate 76 = .ok (.bipush 32, 2) := by decide +kernel
theorem dX1_immediate_78 : decode cX1_immediate 78 = .ok (.if_icmp .ne 7, 3) := by decide +kernel
theorem dX1_immediate_81 : decode cX1_immediate 81 = .ok (.iconst 1, 1) := by decide +kernel
theorem dX1_immediate_82 : decode cX1_immediate 82 = .ok (.goto 4, 3) := by decide +kernel
theorem dX1_immediate_85 : decode cX1_immediate 85 = .ok (.iconst 0, 1) := by decide +kernel
theorem dX1_immediate_86 : decode cX1_immediate 86 = .ok (.invokestatic 95, 3) := by decide +kernel
theorem dX1_immediate_89 : decode cX1_immediate 89 = .ok (.invokevirtual 67, 3) := by decide +kernel
theorem dX1_immediate_92 : decode cX1_immediate 92 = .ok (.return_, 1) := by decide +kernel
theorem dX1_both_0 : decode cX1_both 0 = .ok (.iload 4, 2) := by decide +kernel
theorem dX1_both_2 : decode cX1_both 2 = .ok (.iconst 1, 1) := by decide +kernel
theorem dX1_both_3 : decode cX1_both 3 = .ok (.if_icmp .ne 16, 3) := by decide +kernel
theorem dX1_both_6 : decode cX1_both 6 = .ok (.aload_n 0, 1) := by decide +kernel
theorem dX1_both_7 : decode cX1_both 7 = .ok (.iload_n 1, 1) := by decide +kernel
theorem dX1_both_8 : decode cX1_both 8 = .ok (.iload_n 2, 1) := by decide +kernel
theorem dX1_both_9 : decode cX1_both 9 = .ok (.iload_n 3, 1) := by decide +kernel
theorem dX1_both_10 : decode cX1_both 10 = .ok (.invokestatic 99, 3) := by decide +kernel
theorem dX1_both_13 : decode cX1_both 13 = .ok (.invokevirtual 67, 3) := by decide +kernel
theorem dX1_both_16 : decode cX1_both 16 = .ok (.goto 53, 3) := by decide +kernel
theorem dX1_both_19 : decode cX1_both 19 = .ok (.iload 4, 2) := by decide +kernel
theorem dX1_both_21 : decode cX1_both 21 = .ok (.ifCond .eq 19, 3) := by decide +kernel
theorem dX1_both_24 : decode cX1_both 24 = .ok (.iload 4, 2) := by decide +kernel
theorem dX1_both_26 : decode cX1_both 26 = .ok (.bipush 32, 2) := by decide +kernel
theorem dX1_both_28 : decode cX1_both 28 = .ok (.if_icmp .ne 37, 3) := by decide +kernel
theorem dX1_both_31 : decode cX1_both 31 = .ok (.iload_n 1, 1) := by decide +kernel
theorem dX1_both_32 : decode cX1_both 32 = .ok (.ifCond .eq 8, 3) := by decide +kernel
theorem dX1_both_35 : decode cX1_both 35 = .ok (.iload_n 1, 1) := by decide +kernel
theorem dX1_both_36 : decode cX1_both 36 = .ok (.iconst 5, 1) := by decide +kernel
theorem dX1_both_37 : decode cX1_both 37 = .ok (.if_icmp .ne 28, 3) := by decide +kernel
theorem dX1_both_40 : decode cX1_both 40 = .ok (.aload_n 0, 1) := by decide +kernel
theorem dX1_both_41 : decode cX1_both 41 = .ok (.iload_n 1, 1) := by decide +kernel
theorem dX1_both_42 : decode cX1_both 42 = .ok (.iload_n 2, 1) := by decide +kernel
theorem dX1_both_43 : decode cX1_both 43 = .ok (.iload_n 3, 1) := by decide +kernel
theorem dX1_both_44 : decode cX1_both 44 = .ok (.iload 4, 2) := by decide +kernel
theorem dX1_both_46 : decode cX1_both 46 = .ok (.bipush 32, 2) := by decide +kernel
theorem dX1_both_48 : decode cX1_both 48 = .ok (.if_icmp .ne 7, 3) := by decide +kernel
theorem dX1_both_51 : decode cX1_both 51 = .ok (.iconst 1, 1) := by decide +kernel
theorem dX1_both_52 : decode cX1_both 52 = .ok (.goto 4, 3) := by decide +kernel
theorem dX1_both_55 : decode cX1_both 55 = .ok (.iconst 0, 1) := by decide +kernel
theorem dX1_both_56 : decode cX1_both 56 = .ok (.invokestatic 95, 3) := by decide +kernel
theorem dX1_both_59 : decode cX1_both 59 = .ok (.invokevirtual 67, 3) := by decide +kernel
theorem dX1_both_62 : decode cX1_both 62 = .ok (.goto 7, 3) := by decide +kernel
theorem dX1_both_65 : decode cX1_both 65 = .ok (.aload_n 0, 1) := by decide +kernel
theorem dX1_both_66 : decode cX1_both 66 = .ok (.invokevirtual 71, 3) := by decide +kernel
theorem dX1_both_69 : decode cX1_both 69 = .ok (.return_, 1) := by decide +kernel
theorem dX1_perform_0 : decode cX1_perform 0 = .ok (.aload_n 0, 1) := by decide +kernel
theorem dX1_perform_1 : decode cX1_perform 1 = .ok (.bipush 12, 2) := by decide +kernel
theorem dX1_perform_3 : decode cX1_perform 3 = .ok (.iconst 3, 1) := by decide +kernel
theorem dX1_perform_4 : decode cX1_perform 4 = .ok (.invokevirtual 33, 3) := by decide +kernel
theorem dX1_perform_7 : decode cX1_perform 7 = .ok (.istore_n 1, 1) := by decide +kernel
theorem dX1_perform_8 : decode cX1_perform 8 = .ok (.aload_n 0, 1) := by decide +kernel
theorem dX1_perform_9 : decode cX1_perform 9 = .ok (.getfield 17, 3) := by decide +kernel
theorem dX1_perform_12 : decode cX1_perform 12 = .ok (.aload_n 0, 1) := by decide +kernel
theorem dX1_perform_13 : decode cX1_perform 13 = .ok (.bipush 15, 2) := by decide +kernel
theorem dX1_perform_15 : decode cX1_perform 15 = .ok (.iconst 5, 1) := by decide +kernel
theorem dX1_perform_16 : decode cX1_perform 16 = .ok (.invokevirtual 33, 3) := by decide +kernel
theorem dX1_perform_19 : decode cX1_perform 19 = .ok (.iaload, 1) := by decide +kernel
theorem dX1_perform_20 : decode cX1_perform 20 = .ok (.istore_n 2, 1) := by decide +kernel
theorem dX1_perform_21 : decode cX1_perform 21 = .ok (.aload_n 0, 1) := by decide +kernel
theorem dX1_perform_22 : decode cX1_perform 22 = .ok (.getfield 17, 3) := by decide +kernel
theorem dX1_perform_25 : decode cX1_perform 25 = .ok (.aload_n 0, 1) := by decide +kernel
theorem dX1_perform_26 : decode cX1_perform 26 = .ok (.bipush 20, 2) := by decide +kernel
theorem dX1_perform_28 : decode cX1_perform 28 = .ok (.iconst 5, 1) := by decide +kernel
theorem dX1_perform_29 : decode cX1_perform 29 = .ok (.invokevirtual 33, 3) := by decide +kernel
theorem dX1_perform_32 : decode cX1_perform 32 = .ok (.iaload, 1) := by decide +kernel
theorem dX1_perform_33 : decode cX1_perform 33 = .ok (.istore_n 3, 1) := by decide +kernel
theorem dX1_perform_34 : decode cX1_perform 34 = .ok (.aload_n 0, 1) := by decide +kernel
theorem dX1_perform_35 : decode cX1_perform 35 = .ok (.bipush 25, 2) := by decide +kernel
theorem dX1_perform_37 : decode cX1_perform 37 = .ok (.bipush 7, 2) := by decide +kernel
theorem dX1_perform_39 : decode cX1_perform 39 = .ok (.invokevirtual 33, 3) := by decide +kernel
theorem dX1_perform_42 : decode cX1_perform 42 = .ok (.istore 4, 2) := by decide +kernel
theorem dX1_perform_44 : decode cX1_perform 44 = .ok (.aload_n 0, 1) := by decide +kernel
theorem dX1_perform_45 : decode cX1_perform 45 = .ok (.iconst 0, 1) := by decide +kernel
theorem dX1_perform_46 : decode cX1_perform 46 = .ok (.bipush 7, 2) := by decide +kernel
theorem dX1_perform_48 : decode cX1_perform 48 = .ok (.invokevirtual 33, 3) := by decide +kernel
theorem dX1_perform_51 : decode cX1_perform 51 = .ok (.lookupswitch 234 #[(3, 171), (15, 223), (19, 200), (23, 100), (35, 185), (51, 211), (55, 89), (99, 161), (103, 133), (111, 116)], 89) := by decide +kernel
theorem dX1_perform_140 : decode cX1_perform 140 = .ok (.aload_n 0, 1) := by decide +kernel
theorem dX1_perform_141 : decode cX1_perform 141 = .ok (.aload_n 0, 1) := by decide +kernel
theorem dX1_perform_142 : decode cX1_perform 142 = .ok (.invokevirtual 103, 3) := by decide +kernel
theorem dX1_perform_145 : decode cX1_perform 145 = .ok (.invokevirtual 67, 3) := by decide +kernel
theorem dX1_perform_148 : decode cX1_perform 148 = .ok (.goto 182, 3) := by decide +kernel
theorem dX1_perform_151 : decode cX1_perform 151 = .ok (.aload_n 0, 1) := by decide +kernel
theorem dX1_perform_152 : decode cX1_perform 152 = .ok (.aload_n 0, 1) := by decide +kernel
theorem dX1_perform_153 : decode cX1_perform 153 = .ok (.getfield 27, 3) := by decide +kernel
theorem dX1_perform_156 : decode cX1_perform 156 = .ok (.aload_n 0, 1) := by decide +kernel
theorem dX1_perform_157 : decode cX1_perform 157 = .ok (.invokevirtual 103, 3) := by decide +kernel
theorem dX1_perform_160 : decode cX1_perform 160 = .ok (.iadd, 1) := by decide +kernel
theorem dX1_perform_161 : decode cX1_perform 161 = .ok (.invokevirtual 67, 3) := by decide +kernel
theorem dX1_perform_164 : decode cX1_perform 164 = .ok (.goto 166, 3) := by decide +kernel
theorem dX1_perform_167 : decode cX1_perform 167 = .ok (.aload_n 0, 1) := by decide +kernel
theorem dX1_perform_168 : decode cX1_perform 168 = .ok (.aload_n 0, 1) := by decide +kernel
theorem dX1_perform_169 : decode cX1_perform 169 = .ok (.getfield 27, 3) := by decide +kernel
theorem dX1_perform_172 : decode cX1_perform 172 = .ok (.aload_n 0, 1) := by decide +kernel
theorem dX1_perform_173 : decode cX1_perform 173 = .ok (.invokevirtual 106, 3) := by decide +kernel
theorem dX1_perform_176 : decode cX1_perform 176 = .ok (.iadd, 1) := by decide +kernel
theorem dX1_perform_177 : decode cX1_perform 177 = .ok (.iconst 1, 1) := by decide +kernel
theorem dX1_perform_178 : decode cX1_perform 178 = .ok (.invokevirtual 78, 3) := by decide +kernel
theorem dX1_perform_181 : decode cX1_perform 181 = .ok (.goto 149, 3) := by decide +kernel
theorem dX1_perform_184 : decode cX1_perform 184 = .ok (.iload_n 1, 1) := by decide +kernel
theorem dX1_perform_185 : decode cX1_perform 185 = .ok (.ifCond .ne 20, 3) := by decide +kernel
theorem dX1_perform_188 : decode cX1_perform 188 = .ok (.aload_n 0, 1) := by decide +kernel
theorem dX1_perform_189 : decode cX1_perform 189 = .ok (.iload_n 2, 1) := by decide +kernel
theorem dX1_perform_190 : decode cX1_perform 190 = .ok (.aload_n 0, 1) := by decide +kernel
theorem dX1_perform_191 : decode cX1_perform 191 = .ok (.invokevirtual 92, 3) := by decide +kernel
theorem dX1_perform_194 : decode cX1_perform 194 = .ok (.iadd, 1) := by decide +kernel
theorem dX1_perform_195 : decode cX1_perform 195 = .ok (.bipush (-2), 2) := by decide +kernel
theorem dX1_perform_197 : decode cX1_perform 197 = .ok (.iand, 1) := by decide +kernel
theorem dX1_perform_198 : decode cX1_perform 198 = .ok (.iconst 1, 1) := by decide +kernel
theorem dX1_perform_199 : decode cX1_perform 199 = .ok (.invokevirtual 78, 3) := by decide +kernel
theorem dX1_perform_202 : decode cX1_perform 202 = .ok (.goto 128, 3) := by decide +kernel
theorem dX1_perform_205 : decode cX1_perform 205 = .ok (.aload_n 0, 1) := by decide +kernel
theorem dX1_perform_206 : decode cX1_perform 206 = .ok (.invokevirtual 71, 3) := by decide +kernel
theorem dX1_perform_209 : decode cX1_perform 209 = .ok (.goto 121, 3) := by decide +kernel
theorem dX1_perform_212 : decode cX1_perform 212 = .ok (.aload_n 0, 1) := by decide +kernel
theorem dX1_perform_213 : decode cX1_perform 213 = .ok (.iload_n 1, 1) := by decide +kernel
theorem dX1_perform_214 : decode cX1_perform 214 = .ok (.iload_n 2, 1) := by decide +kernel
theorem dX1_perform_215 : decode cX1_perform 215 = .ok (.iload_n 3, 1) := by decide +kernel
theorem dX1_perform_216 : decode cX1_perform 216 = .ok (.invokevirtual 109, 3) := by decide +kernel
theorem dX1_perform_219 : decode cX1_perform 219 = .ok (.goto 111, 3) := by decide +kernel
theorem dX1_perform_222 : decode cX1_perform 222 = .ok (.aload_n 0, 1) := by decide +kernel
theorem dX1_perform_223 : decode cX1_perform 223 = .ok (.iload_n 1, 1) := by decide +kernel
theorem dX1_perform_224 : decode cX1_perform 224 = .ok (.iload_n 2, 1) := by decide +kernel
theorem dX1_perform_225 : decode cX1_perform 225 = .ok (.aload_n 0, 1) := by decide +kernel
theorem dX1_perform_226 : decode cX1_perform 226 = .ok (.invokevirtual 92, 3) := by decide +kernel
theorem dX1_perform_229 : decode cX1_perform 229 = .ok (.iadd, 1) := by decide +kernel
theorem dX1_perform_230 : decode cX1_perform 230 = .ok (.invokevirtual 113, 3) := by decide +kernel
theorem dX1_perform_233 : decode cX1_perform 233 = .ok (.goto 97, 3) := by decide +kernel
theorem dX1_perform_236 : decode cX1_perform 236 = .ok (.aload_n 0, 1) := by decide +kernel
theorem dX1_perform_237 : decode cX1_perform 237 = .ok (.iload_n 1, 1) := by decide +kernel
theorem dX1_perform_238 : decode cX1_perform 238 = .ok (.iload_n 2, 1) := by decide +kernel
theorem dX1_perform_239 : decode cX1_perform 239 = .ok (.aload_n 0, 1) := by decide +kernel
theorem dX1_perform_240 : decode cX1_perform 240 = .ok (.invokevirtual 116, 3) := by decide +kernel
theorem dX1_perform_243 : decode cX1_perform 243 = .ok (.iadd, 1) := by decide +kernel
theorem dX1_perform_244 : decode cX1_perform 244 = .ok (.iload_n 3, 1) := by decide +kernel
theorem dX1_perform_245 : decode cX1_perform 245 = .ok (.invokevirtual 119, 3) := by decide +kernel
theorem dX1_perform_248 : decode cX1_perform 248 = .ok (.goto 82, 3) := by decide +kernel
theorem dX1_perform_251 : decode cX1_perform 251 = .ok (.aload_n 0, 1) := by decide +kernel
theorem dX1_perform_252 : decode cX1_perform 252 = .ok (.iload_n 1, 1) := by decide +kernel
theorem dX1_perform_253 : decode cX1_perform 253 = .ok (.iload_n 2, 1) := by decide +kernel
theorem dX1_perform_254 : decode cX1_perform 254 = .ok (.iload 4, 2) := by decide +kernel
theorem dX1_perform_256 : decode cX1_perform 256 = .ok (.invokevirtual 122, 3) := by decide +kernel
theorem dX1_perform_259 : decode cX1_perform 259 = .ok (.goto 71, 3) := by decide +kernel
theorem dX1_perform_262 : decode cX1_perform 262 = .ok (.aload_n 0, 1) := by decide +kernel
theorem dX1_perform_263 : decode cX1_perform 263 = .ok (.iload_n 1, 1) := by decide +kernel
theorem dX1_perform_264 : decode cX1_perform 264 = .ok (.iload_n 2, 1) := by decide +kernel
theorem dX1_perform_265 : decode cX1_perform 265 = .ok (.iload_n 3, 1) := by decide +kernel
theorem dX1_perform_266 : decode cX1_perform 266 = .ok (.iload 4, 2) := by decide +kernel
theorem dX1_perform_268 : decode cX1_perform 268 = .ok (.invokevirtual 125, 3) := by decide +kernel
theorem dX1_perform_271 : decode cX1_perform 271 = .ok (.goto 59, 3) := by decide +kernel
theorem dX1_perform_274 : decode cX1_perform 274 = .ok (.iload_n 1, 1) := by decide +kernel
theorem dX1_perform_275 : decode cX1_perform 275 = .ok (.ifCond .eq 55, 3) := by decide +kernel
theorem dX1_perform_278 : decode cX1_perform 278 = .ok (.aload_n 0, 1) := by decide +kernel
theorem dX1_perform_279 : decode cX1_perform 279 = .ok (.invokevirtual 71, 3) := by decide +kernel
theorem dX1_perform_282 : decode cX1_perform 282 = .ok (.goto 48, 3) := by decide +kernel
theorem dX1_perform_285 : decode cX1_perform 285 = .ok (.aload_n 0, 1) := by decide +kernel
theorem dX1_perform_286 : decode cX1_perform 286 = .ok (.getfield 30, 3) := by decide +kernel
theorem dX1_perform_289 : decode cX1_perform 289 = .ok (.bipush 115, 2) := by decide +kernel
theorem dX1_perform_291 : decode cX1_perform 291 = .ok (.if_icmp .eq 12, 3) := by decide +kernel
theorem dX1_perform_294 : decode cX1_perform 294 = .ok (.aload_n 0, 1) := by decide +kernel
theorem dX1_perform_295 : decode cX1_perform 295 = .ok (.getfield 30, 3) := by decide +kernel
theorem dX1_perform_298 : decode cX1_perform 298 = .ok (.ldc 129, 2) := by decide +kernel
theorem dX1_perform_300 : decode cX1_perform 300 = .ok (.if_icmp .ne 26, 3) := by decide +kernel
theorem dX1_perform_303 : decode cX1_perform 303 = .ok (.aload_n 0, 1) := by decide +kernel
theorem dX1_perform_304 : decode cX1_perform 304 = .ok (.aload_n 0, 1) := by decide +kernel
theorem dX1_perform_305 : decode cX1_perform 305 = .ok (.getfield 30, 3) := by decide +kernel
theorem dX1_perform_308 : decode cX1_perform 308 = .ok (.bipush 115, 2) := by decide +kernel
theorem dX1_perform_310 : decode cX1_perform 310 = .ok (.if_icmp .ne 8, 3) := by decide +kernel
theorem dX1_perform_313 : decode cX1_perform 313 = .ok (.bipush 8, 2) := by decide +kernel
theorem dX1_perform_315 : decode cX1_perform 315 = .ok (.goto 4, 3) := by decide +kernel
theorem dX1_perform_318 : decode cX1_perform 318 = .ok (.iconst 3, 1) := by decide +kernel
theorem dX1_perform_319 : decode cX1_perform 319 = .ok (.iconst 0, 1) := by decide +kernel
theorem dX1_perform_320 : decode cX1_perform 320 = .ok (.invokevirtual 60, 3) := by decide +kernel
theorem dX1_perform_323 : decode cX1_perform 323 = .ok (.goto 7, 3) := by decide +kernel
theorem dX1_perform_326 : decode cX1_perform 326 = .ok (.aload_n 0, 1) := by decide +kernel
theorem dX1_perform_327 : decode cX1_perform 327 = .ok (.invokevirtual 71, 3) := by decide +kernel
theorem dX1_perform_330 : decode cX1_perform 330 = .ok (.return_, 1) := by decide +kernel
theorem dX1_step_0 : decode cX1_step 0 = .ok (.aload_n 0, 1) := by decide +kernel
theorem dX1_step_1 : decode cX1_step 1 = .ok (.iconst (-1), 1) := by decide +kernel
theorem dX1_step_2 : decode cX1_step 2 = .ok (.putfield 54, 3) := by decide +kernel
theorem dX1_step_5 : decode cX1_step 5 = .ok (.aload_n 0, 1) := by decide +kernel
theorem dX1_step_6 : decode cX1_step 6 = .ok (.aload_n 0, 1) := by decide +kernel
theorem dX1_step_7 : decode cX1_step 7 = .ok (.getfield 27, 3) := by decide +kernel
theorem dX1_step_10 : decode cX1_step 10 = .ok (.iconst 4, 1) := by decide +kernel
theorem dX1_step_11 : decode cX1_step 11 = .ok (.iadd, 1) := by decide +kernel
theorem dX1_step_12 : decode cX1_step 12 = .ok (.putfield 64, 3) := by decide +kernel
theorem dX1_step_15 : decode cX1_step 15 = .ok (.aload_n 0, 1) := by decide +kernel
theorem dX1_step_16 : decode cX1_step 16 = .ok (.getfield 27, 3) := by decide +kernel
theorem dX1_step_19 : decode cX1_step 19 = .ok (.iconst 3, 1) := by decide +kernel
theorem dX1_step_20 : decode cX1_step 20 = .ok (.iand, 1) := by decide +kernel
theorem dX1_step_21 : decode cX1_step 21 = .ok (.ifCond .eq 15, 3) := by decide +kernel
theorem dX1_step_24 : decode cX1_step 24 = .ok (.aload_n 0, 1) := by decide +kernel
theorem dX1_step_25 : decode cX1_step 25 = .ok (.iconst 0, 1) := by decide +kernel
theorem dX1_step_26 : decode cX1_step 26 = .ok (.aload_n 0, 1) := by decide +kernel
theorem dX1_step_27 : decode cX1_step 27 = .ok (.getfield 27, 3) := by decide +kernel
theorem dX1_step_30 : decode cX1_step 30 = .ok (.invokevirtual 60, 3) := by decide +kernel
theorem dX1_step_33 : decode cX1_step 33 = .ok (.goto 45, 3) := by decide +kernel
theorem dX1_step_36 : decode cX1_step 36 = .ok (.aload_n 0, 1) := by decide +kernel
theorem dX1_step_37 : decode cX1_step 37 = .ok (.aload_n 0, 1) := by decide +kernel
theorem dX1_step_38 : decode cX1_step 38 = .ok (.getfield 27, 3) := by decide +kernel
theorem dX1_step_41 : decode cX1_step 41 = .ok (.iconst 4, 1) := by decide +kernel
theorem dX1_step_42 : decode cX1_step 42 = .ok (.invokevirtual 82, 3) := by decide +kernel
theorem dX1_step_45 : decode cX1_step 45 = .ok (.ifCond .ne 16, 3) := by decide +kernel
theorem dX1_step_48 : decode cX1_step 48 = .ok (.aload_n 0, 1) := by decide +kernel
theorem dX1_step_49 : decode cX1_step 49 = .ok (.bipush 12, 2) := by decide +kernel
theorem dX1_step_51 : decode cX1_step 51 = .ok (.aload_n 0, 1) := by decide +kernel
theorem dX1_step_52 : decode cX1_step 52 = .ok (.getfield 27, 3) := by decide +kernel
theorem dX1_step_55 : decode cX1_step 55 = .ok (.invokevirtual 60, 3) := by decide +kernel
theorem dX1_step_58 : decode cX1_step 58 = .ok (.goto 20, 3) := by decide +kernel
theorem dX1_step_61 : decode cX1_step 61 = .ok (.aload_n 0, 1) := by decide +kernel
theorem dX1_step_62 : decode cX1_step 62 = .ok (.aload_n 0, 1) := by decide +kernel
theorem dX1_step_63 : decode cX1_step 63 = .ok (.aload_n 0, 1) := by decide +kernel
theorem dX1_step_64 : decode cX1_step 64 = .ok (.getfield 27, 3) := by decide +kernel
theorem dX1_step_67 : decode cX1_step 67 = .ok (.iconst 4, 1) := by decide +kernel
theorem dX1_step_68 : decode cX1_step 68 = .ok (.invokevirtual 85, 3) := by decide +kernel
theorem dX1_step_71 : decode cX1_step 71 = .ok (.putfield 30, 3) := by decide +kernel
theorem dX1_step_74 : decode cX1_step 74 = .ok (.aload_n 0, 1) := by decide +kernel
theorem dX1_step_75 : decode cX1_step 75 = .ok (.invokevirtual 130, 3) := by decide +kernel
theorem dX1_step_78 : decode cX1_step 78 = .ok (.aload_n 0, 1) := by decide +kernel
theorem dX1_step_79 : decode cX1_step 79 = .ok (.getfield 54, 3) := by decide +kernel
theorem dX1_step_82 : decode cX1_step 82 = .ok (.iconst (-1), 1) := by decide +kernel
theorem dX1_step_83 : decode cX1_step 83 = .ok (.if_icmp .eq 5, 3) := by decide +kernel
theorem dX1_step_86 : decode cX1_step 86 = .ok (.iconst 0, 1) := by decide +kernel
theorem dX1_step_87 : decode cX1_step 87 = .ok (.ireturn, 1) := by decide +kernel
theorem dX1_step_88 : decode cX1_step 88 = .ok (.aload_n 0, 1) := by decide +kernel
theorem dX1_step_89 : decode cX1_step 89 = .ok (.aload_n 0, 1) := by decide +kernel
theorem dX1_step_90 : decode cX1_step 90 = .ok (.getfield 64, 3) := by decide +kernel
theorem dX1_step_93 : decode cX1_step 93 = .ok (.putfield 27, 3) := by decide +kernel
theorem dX1_step_96 : decode cX1_step 96 = .ok (.aload_n 0, 1) := by decide +kernel
theorem dX1_step_97 : decode cX1_step 97 = .ok (.dup, 1) := by decide +kernel
theorem dX1_step_98 : decode cX1_step 98 = .ok (.getfield 133, 3) := by decide +kernel
theorem dX1_step_101 : decode cX1_step 101 = .ok (.iconst 1, 1) := by decide +kernel
theorem dX1_step_102 : decode cX1_step 102 = .ok (.iadd, 1) := by decide +kernel
theorem dX1_step_103 : decode cX1_step 103 = .ok (.putfield 133, 3) := by decide +kernel
theorem dX1_step_106 : decode cX1_step 106 = .ok (.iconst 1, 1) := by decide +kernel
theorem dX1_step_107 : decode cX1_step 107 = .ok (.ireturn, 1) := by decide +kernel
theorem dX1_run_0 : decode cX1_run 0 = .ok (.aload_n 0, 1) := by decide +kernel
theorem dX1_run_1 : decode cX1_run 1 = .ok (.iload_n 1, 1) := by decide +kernel
theorem dX1_run_2 : decode cX1_run 2 = .ok (.ifCond .lt 10, 3) := by decide +kernel
theorem dX1_run_5 : decode cX1_run 5 = .ok (.iload_n 1, 1) := by decide +kernel
theorem dX1_run_6 : decode cX1_run 6 = .ok (.sipush 2000, 3) := by decide +kernel
theorem dX1_run_9 : decode cX1_run 9 = .ok (.if_icmp .le 7, 3) := by decide +kernel
theorem dX1_run_12 : decode cX1_run 12 = .ok (.iconst 1, 1) := by decide +kernel
theorem dX1_run_13 : decode cX1_run 13 = .ok (.goto 4, 3) := by decide +kernel
theorem dX1_run_16 : decode cX1_run 16 = .ok (.iconst 0, 1) := by decide +kernel
theorem dX1_run_17 : decode cX1_run 17 = .ok (.putfield 24, 3) := by decide +kernel
theorem dX1_run_20 : decode cX1_run 20 = .ok (.aload_n 0, 1) := by decide +kernel
theorem dX1_run_21 : decode cX1_run 21 = .ok (.getfield 24, 3) := by decide +kernel
theorem dX1_run_24 : decode cX1_run 24 = .ok (.ifCond .le 5, 3) := by decide +kernel
theorem dX1_run_27 : decode cX1_run 27 = .ok (.iconst 0, 1) := by decide +kernel
theorem dX1_run_28 : decode cX1_run 28 = .ok (.ireturn, 1) := by decide +kernel
theorem dX1_run_29 : decode cX1_run 29 = .ok (.aload_n 0, 1) := by decide +kernel
theorem dX1_run_30 : decode cX1_run 30 = .ok (.iconst (-1), 1) := by decide +kernel
theorem dX1_run_31 : decode cX1_run 31 = .ok (.putfield 20, 3) := by decide +kernel
theorem dX1_run_34 : decode cX1_run 34 = .ok (.aload_n 0, 1) := by decide +kernel
theorem dX1_run_35 : decode cX1_run 35 = .ok (.iconst 0, 1) := by decide +kernel
theorem dX1_run_36 : decode cX1_run 36 = .ok (.putfield 136, 3) := by decide +kernel
theorem dX1_run_39 : decode cX1_run 39 = .ok (.iconst 0, 1) := by decide +kernel
theorem dX1_run_40 : decode cX1_run 40 = .ok (.istore_n 2, 1) := by decide +kernel
theorem dX1_run_41 : decode cX1_run 41 = .ok (.iconst 1, 1) := by decide +kernel
theorem dX1_run_42 : decode cX1_run 42 = .ok (.istore_n 3, 1) := by decide +kernel
theorem dX1_run_43 : decode cX1_run 43 = .ok (.iload_n 2, 1) := by decide +kernel
theorem dX1_run_44 : decode cX1_run 44 = .ok (.iload_n 1, 1) := by decide +kernel
theorem dX1_run_45 : decode cX1_run 45 = .ok (.if_icmp .ge 27, 3) := by decide +kernel
theorem dX1_run_48 : decode cX1_run 48 = .ok (.iload_n 3, 1) := by decide +kernel
theorem dX1_run_49 : decode cX1_run 49 = .ok (.ifCond .eq 23, 3) := by decide +kernel
theorem dX1_run_52 : decode cX1_run 52 = .ok (.aload_n 0, 1) := by decide +kernel
theorem dX1_run_53 : decode cX1_run 53 = .ok (.invokevirtual 139, 3) := by decide +kernel
theorem dX1_run_56 : decode cX1_run 56 = .ok (.istore_n 3, 1) := by decide +kernel
theorem dX1_run_57 : decode cX1_run 57 = .ok (.iload_n 3, 1) := by decide +kernel
theorem dX1_run_58 : decode cX1_run 58 = .ok (.ifCond .eq 9, 3) := by decide +kernel
theorem dX1_run_61 : decode cX1_run 61 = .ok (.iload_n 2, 1) := by decide +kernel
theorem dX1_run_62 : decode cX1_run 62 = .ok (.iconst 1, 1) := by decide +kernel
theorem dX1_run_63 : decode cX1_run 63 = .ok (.iadd, 1) := by decide +kernel
theorem dX1_run_64 : decode cX1_run 64 = .ok (.goto 4, 3) := by decide +kernel
theorem dX1_run_67 : decode cX1_run 67 = .ok (.iload_n 2, 1) := by decide +kernel
theorem dX1_run_68 : decode cX1_run 68 = .ok (.istore_n 2, 1) := by decide +kernel
theorem dX1_run_69 : decode cX1_run 69 = .ok (.goto (-26), 3) := by decide +kernel
theorem dX1_run_72 : decode cX1_run 72 = .ok (.iload_n 3, 1) := by decide +kernel
theorem dX1_run_73 : decode cX1_run 73 = .ok (.ifCond .ne 19, 3) := by decide +kernel
theorem dX1_run_76 : decode cX1_run 76 = .ok (.aload_n 0, 1) := by decide +kernel
theorem dX1_run_77 : decode cX1_run 77 = .ok (.aload_n 0, 1) := by decide +kernel
theorem dX1_run_78 : decode cX1_run 78 = .ok (.getfield 54, 3) := by decide +kernel
theorem dX1_run_81 : decode cX1_run 81 = .ok (.putfield 20, 3) := by decide +kernel
theorem dX1_run_84 : decode cX1_run 84 = .ok (.aload_n 0, 1) := by decide +kernel
theorem dX1_run_85 : decode cX1_run 85 = .ok (.aload_n 0, 1) := by decide +kernel
theorem dX1_run_86 : decode cX1_run 86 = .ok (.getfield 57, 3) := by decide +kernel
theorem dX1_run_89 : decode cX1_run 89 = .ok (.putfield 136, 3) := by decide +kernel
theorem dX1_run_92 : decode cX1_run 92 = .ok (.iload_n 2, 1) := by decide +kernel
theorem dX1_run_93 : decode cX1_run 93 = .ok (.ireturn, 1) := by decide +kernel
theorem dX1_trap_0 : decode cX1_trap 0 = .ok (.aload_n 0, 1) := by decide +kernel
theorem dX1_trap_1 : decode cX1_trap 1 = .ok (.iconst 0, 1) := by decide +kernel
theorem dX1_trap_2 : decode cX1_trap 2 = .ok (.putfield 24, 3) := by decide +kernel
theorem dX1_trap_5 : decode cX1_trap 5 = .ok (.aload_n 0, 1) := by decide +kernel
theorem dX1_trap_6 : decode cX1_trap 6 = .ok (.getfield 20, 3) := by decide +kernel
theorem dX1_trap_9 : decode cX1_trap 9 = .ok (.ireturn, 1) := by decide +kernel
theorem dX1_value_0 : decode cX1_value 0 = .ok (.aload_n 0, 1) := by decide +kernel
theorem dX1_value_1 : decode cX1_value 1 = .ok (.iconst 0, 1) := by decide +kernel
theorem dX1_value_2 : decode cX1_value 2 = .ok (.putfield 24, 3) := by decide +kernel
theorem dX1_value_5 : decode cX1_value 5 = .ok (.aload_n 0, 1) := by decide +kernel
theorem dX1_value_6 : decode cX1_value 6 = .ok (.getfield 136, 3) := by decide +kernel
theorem dX1_value_9 : decode cX1_value 9 = .ok (.ireturn, 1) := by decide +kernel
theorem dX1_done_0 : decode cX1_done 0 = .ok (.aload_n 0, 1) := by decide +kernel
theorem dX1_done_1 : decode cX1_done 1 = .ok (.iconst 0, 1) := by decide +kernel
theorem dX1_done_2 : decode cX1_done 2 = .ok (.putfield 24, 3) := by decide +kernel
theorem dX1_done_5 : decode cX1_done 5 = .ok (.aload_n 0, 1) := by decide +kernel
theorem dX1_done_6 : decode cX1_done 6 = .ok (.getfield 133, 3) := by decide +kernel
theorem dX1_done_9 : decode cX1_done 9 = .ok (.ireturn, 1) := by decide +kernel
