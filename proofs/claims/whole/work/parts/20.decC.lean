/-! Rows that decode each instruction of the class. -/
theorem zd_C_init_0 : decode zc_C_init 0 = .ok (.aload_n 0, 1) := by decide +kernel
theorem zd_C_init_1 : decode zc_C_init 1 = .ok (.invokespecial 1, 3) := by decide +kernel
theorem zd_C_init_4 : decode zc_C_init 4 = .ok (.aload_n 0, 1) := by decide +kernel
theorem zd_C_init_5 : decode zc_C_init 5 = .ok (.iconst 3, 1) := by decide +kernel
theorem zd_C_init_6 : decode zc_C_init 6 = .ok (.iconst 5, 1) := by decide +kernel
theorem zd_C_init_7 : decode zc_C_init 7 = .ok (.iload_n 1, 1) := by decide +kernel
theorem zd_C_init_8 : decode zc_C_init 8 = .ok (.invokestatic 9, 3) := by decide +kernel
theorem zd_C_init_11 : decode zc_C_init 11 = .ok (.invokestatic 15, 3) := by decide +kernel
theorem zd_C_init_14 : decode zc_C_init 14 = .ok (.putfield 18, 3) := by decide +kernel
theorem zd_C_init_17 : decode zc_C_init 17 = .ok (.aload_n 0, 1) := by decide +kernel
theorem zd_C_init_18 : decode zc_C_init 18 = .ok (.aload_n 0, 1) := by decide +kernel
theorem zd_C_init_19 : decode zc_C_init 19 = .ok (.getfield 18, 3) := by decide +kernel
theorem zd_C_init_22 : decode zc_C_init 22 = .ok (.anewarray 22, 3) := by decide +kernel
theorem zd_C_init_25 : decode zc_C_init 25 = .ok (.putfield 24, 3) := by decide +kernel
theorem zd_C_init_28 : decode zc_C_init 28 = .ok (.iconst 0, 1) := by decide +kernel
theorem zd_C_init_29 : decode zc_C_init 29 = .ok (.istore_n 2, 1) := by decide +kernel
theorem zd_C_init_30 : decode zc_C_init 30 = .ok (.iload_n 2, 1) := by decide +kernel
theorem zd_C_init_31 : decode zc_C_init 31 = .ok (.aload_n 0, 1) := by decide +kernel
theorem zd_C_init_32 : decode zc_C_init 32 = .ok (.getfield 18, 3) := by decide +kernel
theorem zd_C_init_35 : decode zc_C_init 35 = .ok (.if_icmp .ge 22, 3) := by decide +kernel
theorem zd_C_init_38 : decode zc_C_init 38 = .ok (.aload_n 0, 1) := by decide +kernel
theorem zd_C_init_39 : decode zc_C_init 39 = .ok (.getfield 24, 3) := by decide +kernel
theorem zd_C_init_42 : decode zc_C_init 42 = .ok (.iload_n 2, 1) := by decide +kernel
theorem zd_C_init_43 : decode zc_C_init 43 = .ok (.new 22, 3) := by decide +kernel
theorem zd_C_init_46 : decode zc_C_init 46 = .ok (.dup, 1) := by decide +kernel
theorem zd_C_init_47 : decode zc_C_init 47 = .ok (.invokespecial 28, 3) := by decide +kernel
theorem zd_C_init_50 : decode zc_C_init 50 = .ok (.aastore, 1) := by decide +kernel
theorem zd_C_init_51 : decode zc_C_init 51 = .ok (.iinc 2 1, 3) := by decide +kernel
theorem zd_C_init_54 : decode zc_C_init 54 = .ok (.goto (-24), 3) := by decide +kernel
theorem zd_C_init_57 : decode zc_C_init 57 = .ok (.aload_n 0, 1) := by decide +kernel
theorem zd_C_init_58 : decode zc_C_init 58 = .ok (.new 29, 3) := by decide +kernel
theorem zd_C_init_61 : decode zc_C_init 61 = .ok (.dup, 1) := by decide +kernel
theorem zd_C_init_62 : decode zc_C_init 62 = .ok (.aload_n 0, 1) := by decide +kernel
theorem zd_C_init_63 : decode zc_C_init 63 = .ok (.getfield 18, 3) := by decide +kernel
theorem zd_C_init_66 : decode zc_C_init 66 = .ok (.invokespecial 31, 3) := by decide +kernel
theorem zd_C_init_69 : decode zc_C_init 69 = .ok (.putfield 34, 3) := by decide +kernel
theorem zd_C_init_72 : decode zc_C_init 72 = .ok (.aload_n 0, 1) := by decide +kernel
theorem zd_C_init_73 : decode zc_C_init 73 = .ok (.new 38, 3) := by decide +kernel
theorem zd_C_init_76 : decode zc_C_init 76 = .ok (.dup, 1) := by decide +kernel
theorem zd_C_init_77 : decode zc_C_init 77 = .ok (.aload_n 0, 1) := by decide +kernel
theorem zd_C_init_78 : decode zc_C_init 78 = .ok (.getfield 18, 3) := by decide +kernel
theorem zd_C_init_81 : decode zc_C_init 81 = .ok (.invokespecial 40, 3) := by decide +kernel
theorem zd_C_init_84 : decode zc_C_init 84 = .ok (.putfield 41, 3) := by decide +kernel
theorem zd_C_init_87 : decode zc_C_init 87 = .ok (.return_, 1) := by decide +kernel
theorem zd_M_init_0 : decode zc_M_init 0 = .ok (.aload_n 0, 1) := by decide +kernel
theorem zd_M_init_1 : decode zc_M_init 1 = .ok (.invokespecial 3, 3) := by decide +kernel
theorem zd_M_init_4 : decode zc_M_init 4 = .ok (.aload_n 0, 1) := by decide +kernel
theorem zd_M_init_5 : decode zc_M_init 5 = .ok (.bipush 8, 2) := by decide +kernel
theorem zd_M_init_7 : decode zc_M_init 7 = .ok (.newarray .int, 2) := by decide +kernel
theorem zd_M_init_9 : decode zc_M_init 9 = .ok (.putfield 9, 3) := by decide +kernel
theorem zd_M_init_12 : decode zc_M_init 12 = .ok (.aload_n 0, 1) := by decide +kernel
theorem zd_M_init_13 : decode zc_M_init 13 = .ok (.bipush 8, 2) := by decide +kernel
theorem zd_M_init_15 : decode zc_M_init 15 = .ok (.newarray .int, 2) := by decide +kernel
theorem zd_M_init_17 : decode zc_M_init 17 = .ok (.putfield 15, 3) := by decide +kernel
theorem zd_M_init_20 : decode zc_M_init 20 = .ok (.return_, 1) := by decide +kernel
theorem zd_P_init_0 : decode zc_P_init 0 = .ok (.aload_n 0, 1) := by decide +kernel
theorem zd_P_init_1 : decode zc_P_init 1 = .ok (.invokespecial 3, 3) := by decide +kernel
theorem zd_P_init_4 : decode zc_P_init 4 = .ok (.aload_n 0, 1) := by decide +kernel
theorem zd_P_init_5 : decode zc_P_init 5 = .ok (.iload_n 1, 1) := by decide +kernel
theorem zd_P_init_6 : decode zc_P_init 6 = .ok (.invokestatic 9, 3) := by decide +kernel
theorem zd_P_init_9 : decode zc_P_init 9 = .ok (.newarray .int, 2) := by decide +kernel
theorem zd_P_init_11 : decode zc_P_init 11 = .ok (.putfield 15, 3) := by decide +kernel
theorem zd_P_init_14 : decode zc_P_init 14 = .ok (.return_, 1) := by decide +kernel
theorem zd_P_mostLetters_0 : decode zc_P_mostLetters 0 = .ok (.bipush 16, 2) := by decide +kernel
theorem zd_P_mostLetters_2 : decode zc_P_mostLetters 2 = .ok (.iload_n 0, 1) := by decide +kernel
theorem zd_P_mostLetters_3 : decode zc_P_mostLetters 3 = .ok (.imul, 1) := by decide +kernel
theorem zd_P_mostLetters_4 : decode zc_P_mostLetters 4 = .ok (.istore_n 1, 1) := by decide +kernel
theorem zd_P_mostLetters_5 : decode zc_P_mostLetters 5 = .ok (.sipush 240, 3) := by decide +kernel
theorem zd_P_mostLetters_8 : decode zc_P_mostLetters 8 = .ok (.istore_n 2, 1) := by decide +kernel
theorem zd_P_mostLetters_9 : decode zc_P_mostLetters 9 = .ok (.iload_n 1, 1) := by decide +kernel
theorem zd_P_mostLetters_10 : decode zc_P_mostLetters 10 = .ok (.iload_n 2, 1) := by decide +kernel
theorem zd_P_mostLetters_11 : decode zc_P_mostLetters 11 = .ok (.iadd, 1) := by decide +kernel
theorem zd_P_mostLetters_12 : decode zc_P_mostLetters 12 = .ok (.iload_n 0, 1) := by decide +kernel
theorem zd_P_mostLetters_13 : decode zc_P_mostLetters 13 = .ok (.iconst 1, 1) := by decide +kernel
theorem zd_P_mostLetters_14 : decode zc_P_mostLetters 14 = .ok (.isub, 1) := by decide +kernel
theorem zd_P_mostLetters_15 : decode zc_P_mostLetters 15 = .ok (.imul, 1) := by decide +kernel
theorem zd_P_mostLetters_16 : decode zc_P_mostLetters 16 = .ok (.ireturn, 1) := by decide +kernel
theorem zd_Q_init_0 : decode zc_Q_init 0 = .ok (.aload_n 0, 1) := by decide +kernel
theorem zd_Q_init_1 : decode zc_Q_init 1 = .ok (.invokespecial 3, 3) := by decide +kernel
theorem zd_Q_init_4 : decode zc_Q_init 4 = .ok (.aload_n 0, 1) := by decide +kernel
theorem zd_Q_init_5 : decode zc_Q_init 5 = .ok (.iload_n 1, 1) := by decide +kernel
theorem zd_Q_init_6 : decode zc_Q_init 6 = .ok (.putfield 9, 3) := by decide +kernel
theorem zd_Q_init_9 : decode zc_Q_init 9 = .ok (.bipush 80, 2) := by decide +kernel
theorem zd_Q_init_11 : decode zc_Q_init 11 = .ok (.istore_n 2, 1) := by decide +kernel
theorem zd_Q_init_12 : decode zc_Q_init 12 = .ok (.aload_n 0, 1) := by decide +kernel
theorem zd_Q_init_13 : decode zc_Q_init 13 = .ok (.iload_n 2, 1) := by decide +kernel
theorem zd_Q_init_14 : decode zc_Q_init 14 = .ok (.iload_n 1, 1) := by decide +kernel
theorem zd_Q_init_15 : decode zc_Q_init 15 = .ok (.imul, 1) := by decide +kernel
theorem zd_Q_init_16 : decode zc_Q_init 16 = .ok (.newarray .int, 2) := by decide +kernel
theorem zd_Q_init_18 : decode zc_Q_init 18 = .ok (.putfield 15, 3) := by decide +kernel
theorem zd_Q_init_21 : decode zc_Q_init 21 = .ok (.aload_n 0, 1) := by decide +kernel
theorem zd_Q_init_22 : decode zc_Q_init 22 = .ok (.iload_n 2, 1) := by decide +kernel
theorem zd_Q_init_23 : decode zc_Q_init 23 = .ok (.iload_n 1, 1) := by decide +kernel
theorem zd_Q_init_24 : decode zc_Q_init 24 = .ok (.imul, 1) := by decide +kernel
theorem zd_Q_init_25 : decode zc_Q_init 25 = .ok (.newarray .int, 2) := by decide +kernel
theorem zd_Q_init_27 : decode zc_Q_init 27 = .ok (.putfield 19, 3) := by decide +kernel
theorem zd_Q_init_30 : decode zc_Q_init 30 = .ok (.aload_n 0, 1) := by decide +kernel
theorem zd_Q_init_31 : decode zc_Q_init 31 = .ok (.iload_n 2, 1) := by decide +kernel
theorem zd_Q_init_32 : decode zc_Q_init 32 = .ok (.newarray .int, 2) := by decide +kernel
theorem zd_Q_init_34 : decode zc_Q_init 34 = .ok (.putfield 22, 3) := by decide +kernel
theorem zd_Q_init_37 : decode zc_Q_init 37 = .ok (.aload_n 0, 1) := by decide +kernel
theorem zd_Q_init_38 : decode zc_Q_init 38 = .ok (.iload_n 2, 1) := by decide +kernel
theorem zd_Q_init_39 : decode zc_Q_init 39 = .ok (.newarray .int, 2) := by decide +kernel
theorem zd_Q_init_41 : decode zc_Q_init 41 = .ok (.putfield 25, 3) := by decide +kernel
theorem zd_Q_init_44 : decode zc_Q_init 44 = .ok (.return_, 1) := by decide +kernel
theorem zd_C_broadcast_0 : decode zc_C_broadcast 0 = .ok (.aload_n 0, 1) := by decide +kernel
theorem zd_C_broadcast_1 : decode zc_C_broadcast 1 = .ok (.iload_n 1, 1) := by decide +kernel
theorem zd_C_broadcast_2 : decode zc_C_broadcast 2 = .ok (.invokevirtual 45, 3) := by decide +kernel
theorem zd_C_broadcast_5 : decode zc_C_broadcast 5 = .ok (.ifCond .ne 5, 3) := by decide +kernel
theorem zd_C_broadcast_8 : decode zc_C_broadcast 8 = .ok (.iconst (-1), 1) := by decide +kernel
theorem zd_C_broadcast_9 : decode zc_C_broadcast 9 = .ok (.ireturn, 1) := by decide +kernel
theorem zd_C_broadcast_10 : decode zc_C_broadcast 10 = .ok (.aload_n 0, 1) := by decide +kernel
theorem zd_C_broadcast_11 : decode zc_C_broadcast 11 = .ok (.getfield 24, 3) := by decide +kernel
theorem zd_C_broadcast_14 : decode zc_C_broadcast 14 = .ok (.iload_n 1, 1) := by decide +kernel
theorem zd_C_broadcast_15 : decode zc_C_broadcast 15 = .ok (.aaload, 1) := by decide +kernel
theorem zd_C_broadcast_16 : decode zc_C_broadcast 16 = .ok (.getfield 49, 3) := by decide +kernel
theorem zd_C_broadcast_19 : decode zc_C_broadcast 19 = .ok (.ifCond .eq 6, 3) := by decide +kernel
theorem zd_C_broadcast_22 : decode zc_C_broadcast 22 = .ok (.bipush (-2), 2) := by decide +kernel
theorem zd_C_broadcast_24 : decode zc_C_broadcast 24 = .ok (.ireturn, 1) := by decide +kernel
theorem zd_C_broadcast_25 : decode zc_C_broadcast 25 = .ok (.aload_n 0, 1) := by decide +kernel
theorem zd_C_broadcast_26 : decode zc_C_broadcast 26 = .ok (.getfield 53, 3) := by decide +kernel
theorem zd_C_broadcast_29 : decode zc_C_broadcast 29 = .ok (.bipush 8, 2) := by decide +kernel
theorem zd_C_broadcast_31 : decode zc_C_broadcast 31 = .ok (.if_icmp .ne 6, 3) := by decide +kernel
theorem zd_C_broadcast_34 : decode zc_C_broadcast 34 = .ok (.bipush (-3), 2) := by decide +kernel
theorem zd_C_broadcast_36 : decode zc_C_broadcast 36 = .ok (.ireturn, 1) := by decide +kernel
theorem zd_C_broadcast_37 : decode zc_C_broadcast 37 = .ok (.aload_n 0, 1) := by decide +kernel
theorem zd_C_broadcast_38 : decode zc_C_broadcast 38 = .ok (.getfield 53, 3) := by decide +kernel
theorem zd_C_broadcast_41 : decode zc_C_broadcast 41 = .ok (.istore_n 2, 1) := by decide +kernel
theorem zd_C_broadcast_42 : decode zc_C_broadcast 42 = .ok (.aload_n 0, 1) := by decide +kernel
theorem zd_C_broadcast_43 : decode zc_C_broadcast 43 = .ok (.dup, 1) := by decide +kernel
theorem zd_C_broadcast_44 : decode zc_C_broadcast 44 = .ok (.getfield 53, 3) := by decide +kernel
theorem zd_C_broadcast_47 : decode zc_C_broadcast 47 = .ok (.iconst 1, 1) := by decide +kernel
theorem zd_C_broadcast_48 : decode zc_C_broadcast 48 = .ok (.iadd, 1) := by decide +kernel
theorem zd_C_broadcast_49 : decode zc_C_broadcast 49 = .ok (.putfield 53, 3) := by decide +kernel
theorem zd_C_broadcast_52 : decode zc_C_broadcast 52 = .ok (.aload_n 0, 1) := by decide +kernel
theorem zd_C_broadcast_53 : decode zc_C_broadcast 53 = .ok (.iload_n 1, 1) := by decide +kernel
theorem zd_C_broadcast_54 : decode zc_C_broadcast 54 = .ok (.iload_n 2, 1) := by decide +kernel
theorem zd_C_broadcast_55 : decode zc_C_broadcast 55 = .ok (.invokevirtual 56, 3) := by decide +kernel
theorem zd_C_broadcast_58 : decode zc_C_broadcast 58 = .ok (.aload_n 0, 1) := by decide +kernel
theorem zd_C_broadcast_59 : decode zc_C_broadcast 59 = .ok (.iload_n 1, 1) := by decide +kernel
theorem zd_C_broadcast_60 : decode zc_C_broadcast 60 = .ok (.invokevirtual 60, 3) := by decide +kernel
theorem zd_C_broadcast_63 : decode zc_C_broadcast 63 = .ok (.iload_n 2, 1) := by decide +kernel
theorem zd_C_broadcast_64 : decode zc_C_broadcast 64 = .ok (.ireturn, 1) := by decide +kernel
theorem zd_C_isProcess_0 : decode zc_C_isProcess 0 = .ok (.iload_n 1, 1) := by decide +kernel
theorem zd_C_isProcess_1 : decode zc_C_isProcess 1 = .ok (.ifCond .lt 15, 3) := by decide +kernel
theorem zd_C_isProcess_4 : decode zc_C_isProcess 4 = .ok (.iload_n 1, 1) := by decide +kernel
theorem zd_C_isProcess_5 : decode zc_C_isProcess 5 = .ok (.aload_n 0, 1) := by decide +kernel
theorem zd_C_isProcess_6 : decode zc_C_isProcess 6 = .ok (.getfield 18, 3) := by decide +kernel
theorem zd_C_isProcess_9 : decode zc_C_isProcess 9 = .ok (.if_icmp .ge 7, 3) := by decide +kernel
theorem zd_C_isProcess_12 : decode zc_C_isProcess 12 = .ok (.iconst 1, 1) := by decide +kernel
theorem zd_C_isProcess_13 : decode zc_C_isProcess 13 = .ok (.goto 4, 3) := by decide +kernel
theorem zd_C_isProcess_16 : decode zc_C_isProcess 16 = .ok (.iconst 0, 1) := by decide +kernel
theorem zd_C_isProcess_17 : decode zc_C_isProcess 17 = .ok (.ireturn, 1) := by decide +kernel
theorem zd_C_learn_0 : decode zc_C_learn 0 = .ok (.aload_n 0, 1) := by decide +kernel
theorem zd_C_learn_1 : decode zc_C_learn 1 = .ok (.getfield 24, 3) := by decide +kernel
theorem zd_C_learn_4 : decode zc_C_learn 4 = .ok (.iload_n 1, 1) := by decide +kernel
theorem zd_C_learn_5 : decode zc_C_learn 5 = .ok (.aaload, 1) := by decide +kernel
theorem zd_C_learn_6 : decode zc_C_learn 6 = .ok (.iload_n 2, 1) := by decide +kernel
theorem zd_C_learn_7 : decode zc_C_learn 7 = .ok (.invokevirtual 160, 3) := by decide +kernel
theorem zd_C_learn_10 : decode zc_C_learn 10 = .ok (.ifCond .ne 26, 3) := by decide +kernel
theorem zd_C_learn_13 : decode zc_C_learn 13 = .ok (.aload_n 0, 1) := by decide +kernel
theorem zd_C_learn_14 : decode zc_C_learn 14 = .ok (.getfield 24, 3) := by decide +kernel
theorem zd_C_learn_17 : decode zc_C_learn 17 = .ok (.iload_n 1, 1) := by decide +kernel
theorem zd_C_learn_18 : decode zc_C_learn 18 = .ok (.aaload, 1) := by decide +kernel
theorem zd_C_learn_19 : decode zc_C_learn 19 = .ok (.iload_n 2, 1) := by decide +kernel
theorem zd_C_learn_20 : decode zc_C_learn 20 = .ok (.invokevirtual 163, 3) := by decide +kernel
theorem zd_C_learn_23 : decode zc_C_learn 23 = .ok (.aload_n 0, 1) := by decide +kernel
theorem zd_C_learn_24 : decode zc_C_learn 24 = .ok (.iload_n 1, 1) := by decide +kernel
theorem zd_C_learn_25 : decode zc_C_learn 25 = .ok (.iconst 1, 1) := by decide +kernel
theorem zd_C_learn_26 : decode zc_C_learn 26 = .ok (.iconst 0, 1) := by decide +kernel
theorem zd_C_learn_27 : decode zc_C_learn 27 = .ok (.iconst 0, 1) := by decide +kernel
theorem zd_C_learn_28 : decode zc_C_learn 28 = .ok (.iload_n 2, 1) := by decide +kernel
theorem zd_C_learn_29 : decode zc_C_learn 29 = .ok (.iconst 0, 1) := by decide +kernel
theorem zd_C_learn_30 : decode zc_C_learn 30 = .ok (.invokestatic 166, 3) := by decide +kernel
theorem zd_C_learn_33 : decode zc_C_learn 33 = .ok (.invokevirtual 170, 3) := by decide +kernel
theorem zd_C_learn_36 : decode zc_C_learn 36 = .ok (.return_, 1) := by decide +kernel
theorem zd_M_knows_0 : decode zc_M_knows 0 = .ok (.aload_n 0, 1) := by decide +kernel
theorem zd_M_knows_1 : decode zc_M_knows 1 = .ok (.getfield 18, 3) := by decide +kernel
theorem zd_M_knows_4 : decode zc_M_knows 4 = .ok (.iload_n 1, 1) := by decide +kernel
theorem zd_M_knows_5 : decode zc_M_knows 5 = .ok (.ishr, 1) := by decide +kernel
theorem zd_M_knows_6 : decode zc_M_knows 6 = .ok (.iconst 1, 1) := by decide +kernel
theorem zd_M_knows_7 : decode zc_M_knows 7 = .ok (.iand, 1) := by decide +kernel
theorem zd_M_knows_8 : decode zc_M_knows 8 = .ok (.ifCond .eq 7, 3) := by decide +kernel
theorem zd_M_knows_11 : decode zc_M_knows 11 = .ok (.iconst 1, 1) := by decide +kernel
theorem zd_M_knows_12 : decode zc_M_knows 12 = .ok (.goto 4, 3) := by decide +kernel
theorem zd_M_knows_15 : decode zc_M_knows 15 = .ok (.iconst 0, 1) := by decide +kernel
theorem zd_M_knows_16 : decode zc_M_knows 16 = .ok (.ireturn, 1) := by decide +kernel
theorem zd_M_addKnown_0 : decode zc_M_addKnown 0 = .ok (.aload_n 0, 1) := by decide +kernel
theorem zd_M_addKnown_1 : decode zc_M_addKnown 1 = .ok (.dup, 1) := by decide +kernel
theorem zd_M_addKnown_2 : decode zc_M_addKnown 2 = .ok (.getfield 18, 3) := by decide +kernel
theorem zd_M_addKnown_5 : decode zc_M_addKnown 5 = .ok (.iconst 1, 1) := by decide +kernel
theorem zd_M_addKnown_6 : decode zc_M_addKnown 6 = .ok (.iload_n 1, 1) := by decide +kernel
theorem zd_M_addKnown_7 : decode zc_M_addKnown 7 = .ok (.ishl, 1) := by decide +kernel
theorem zd_M_addKnown_8 : decode zc_M_addKnown 8 = .ok (.ior, 1) := by decide +kernel
theorem zd_M_addKnown_9 : decode zc_M_addKnown 9 = .ok (.putfield 18, 3) := by decide +kernel
theorem zd_M_addKnown_12 : decode zc_M_addKnown 12 = .ok (.return_, 1) := by decide +kernel
theorem zd_L_write_0 : decode zc_L_write 0 = .ok (.iload_n 0, 1) := by decide +kernel
theorem zd_L_write_1 : decode zc_L_write 1 = .ok (.iload_n 1, 1) := by decide +kernel
theorem zd_L_write_2 : decode zc_L_write 2 = .ok (.iconst 3, 1) := by decide +kernel
theorem zd_L_write_3 : decode zc_L_write 3 = .ok (.ishl, 1) := by decide +kernel
theorem zd_L_write_4 : decode zc_L_write 4 = .ok (.ior, 1) := by decide +kernel
theorem zd_L_write_5 : decode zc_L_write 5 = .ok (.iload_n 2, 1) := by decide +kernel
theorem zd_L_write_6 : decode zc_L_write 6 = .ok (.bipush 6, 2) := by decide +kernel
theorem zd_L_write_8 : decode zc_L_write 8 = .ok (.ishl, 1) := by decide +kernel
theorem zd_L_write_9 : decode zc_L_write 9 = .ok (.ior, 1) := by decide +kernel
theorem zd_L_write_10 : decode zc_L_write 10 = .ok (.iload_n 3, 1) := by decide +kernel
theorem zd_L_write_11 : decode zc_L_write 11 = .ok (.bipush 10, 2) := by decide +kernel
theorem zd_L_write_13 : decode zc_L_write 13 = .ok (.ishl, 1) := by decide +kernel
theorem zd_L_write_14 : decode zc_L_write 14 = .ok (.ior, 1) := by decide +kernel
theorem zd_L_write_15 : decode zc_L_write 15 = .ok (.iload 4, 2) := by decide +kernel
theorem zd_L_write_17 : decode zc_L_write 17 = .ok (.bipush 18, 2) := by decide +kernel
theorem zd_L_write_19 : decode zc_L_write 19 = .ok (.ishl, 1) := by decide +kernel
theorem zd_L_write_20 : decode zc_L_write 20 = .ok (.ior, 1) := by decide +kernel
theorem zd_L_write_21 : decode zc_L_write 21 = .ok (.ireturn, 1) := by decide +kernel
theorem zd_C_sendToAllOthers_0 : decode zc_C_sendToAllOthers 0 = .ok (.iconst 0, 1) := by decide +kernel
theorem zd_C_sendToAllOthers_1 : decode zc_C_sendToAllOthers 1 = .ok (.istore_n 3, 1) := by decide +kernel
theorem zd_C_sendToAllOthers_2 : decode zc_C_sendToAllOthers 2 = .ok (.iload_n 3, 1) := by decide +kernel
theorem zd_C_sendToAllOthers_3 : decode zc_C_sendToAllOthers 3 = .ok (.aload_n 0, 1) := by decide +kernel
theorem zd_C_sendToAllOthers_4 : decode zc_C_sendToAllOthers 4 = .ok (.getfield 18, 3) := by decide +kernel
theorem zd_C_sendToAllOthers_7 : decode zc_C_sendToAllOthers 7 = .ok (.if_icmp .ge 24, 3) := by decide +kernel
theorem zd_C_sendToAllOthers_10 : decode zc_C_sendToAllOthers 10 = .ok (.iload_n 3, 1) := by decide +kernel
theorem zd_C_sendToAllOthers_11 : decode zc_C_sendToAllOthers 11 = .ok (.iload_n 1, 1) := by decide +kernel
theorem zd_C_sendToAllOthers_12 : decode zc_C_sendToAllOthers 12 = .ok (.if_icmp .eq 13, 3) := by decide +kernel
theorem zd_C_sendToAllOthers_15 : decode zc_C_sendToAllOthers 15 = .ok (.aload_n 0, 1) := by decide +kernel
theorem zd_C_sendToAllOthers_16 : decode zc_C_sendToAllOthers 16 = .ok (.getfield 34, 3) := by decide +kernel
theorem zd_C_sendToAllOthers_19 : decode zc_C_sendToAllOthers 19 = .ok (.iload_n 1, 1) := by decide +kernel
theorem zd_C_sendToAllOthers_20 : decode zc_C_sendToAllOthers 20 = .ok (.iload_n 3, 1) := by decide +kernel
theorem zd_C_sendToAllOthers_21 : decode zc_C_sendToAllOthers 21 = .ok (.iload_n 2, 1) := by decide +kernel
theorem zd_C_sendToAllOthers_22 : decode zc_C_sendToAllOthers 22 = .ok (.invokevirtual 131, 3) := by decide +kernel
theorem zd_C_sendToAllOthers_25 : decode zc_C_sendToAllOthers 25 = .ok (.iinc 3 1, 3) := by decide +kernel
theorem zd_C_sendToAllOthers_28 : decode zc_C_sendToAllOthers 28 = .ok (.goto (-26), 3) := by decide +kernel
theorem zd_C_sendToAllOthers_31 : decode zc_C_sendToAllOthers 31 = .ok (.return_, 1) := by decide +kernel
theorem zd_P_send_0 : decode zc_P_send 0 = .ok (.aload_n 0, 1) := by decide +kernel
theorem zd_P_send_1 : decode zc_P_send 1 = .ok (.getfield 19, 3) := by decide +kernel
theorem zd_P_send_4 : decode zc_P_send 4 = .ok (.aload_n 0, 1) := by decide +kernel
theorem zd_P_send_5 : decode zc_P_send 5 = .ok (.getfield 15, 3) := by decide +kernel
theorem zd_P_send_8 : decode zc_P_send 8 = .ok (.arraylength, 1) := by decide +kernel
theorem zd_P_send_9 : decode zc_P_send 9 = .ok (.if_icmp .ge 32, 3) := by decide +kernel
theorem zd_P_send_12 : decode zc_P_send 12 = .ok (.aload_n 0, 1) := by decide +kernel
theorem zd_P_send_13 : decode zc_P_send 13 = .ok (.getfield 15, 3) := by decide +kernel
theorem zd_P_send_16 : decode zc_P_send 16 = .ok (.aload_n 0, 1) := by decide +kernel
theorem zd_P_send_17 : decode zc_P_send 17 = .ok (.getfield 19, 3) := by decide +kernel
theorem zd_P_send_20 : decode zc_P_send 20 = .ok (.iload_n 1, 1) := by decide +kernel
theorem zd_P_send_21 : decode zc_P_send 21 = .ok (.iconst 3, 1) := by decide +kernel
theorem zd_P_send_22 : decode zc_P_send 22 = .ok (.ishl, 1) := by decide +kernel
theorem zd_P_send_23 : decode zc_P_send 23 = .ok (.iload_n 2, 1) := by decide +kernel
theorem zd_P_send_24 : decode zc_P_send 24 = .ok (.ior, 1) := by decide +kernel
theorem zd_P_send_25 : decode zc_P_send 25 = .ok (.bipush 22, 2) := by decide +kernel
theorem zd_P_send_27 : decode zc_P_send 27 = .ok (.ishl, 1) := by decide +kernel
theorem zd_P_send_28 : decode zc_P_send 28 = .ok (.iload_n 3, 1) := by decide +kernel
theorem zd_P_send_29 : decode zc_P_send 29 = .ok (.ior, 1) := by decide +kernel
theorem zd_P_send_30 : decode zc_P_send 30 = .ok (.iastore, 1) := by decide +kernel
theorem zd_P_send_31 : decode zc_P_send 31 = .ok (.aload_n 0, 1) := by decide +kernel
theorem zd_P_send_32 : decode zc_P_send 32 = .ok (.dup, 1) := by decide +kernel
theorem zd_P_send_33 : decode zc_P_send 33 = .ok (.getfield 19, 3) := by decide +kernel
theorem zd_P_send_36 : decode zc_P_send 36 = .ok (.iconst 1, 1) := by decide +kernel
theorem zd_P_send_37 : decode zc_P_send 37 = .ok (.iadd, 1) := by decide +kernel
theorem zd_P_send_38 : decode zc_P_send 38 = .ok (.putfield 19, 3) := by decide +kernel
theorem zd_P_send_41 : decode zc_P_send 41 = .ok (.return_, 1) := by decide +kernel
theorem zd_C_goOn_0 : decode zc_C_goOn 0 = .ok (.iconst 0, 1) := by decide +kernel
theorem zd_C_goOn_1 : decode zc_C_goOn 1 = .ok (.istore_n 2, 1) := by decide +kernel
theorem zd_C_goOn_2 : decode zc_C_goOn 2 = .ok (.iload_n 2, 1) := by decide +kernel
theorem zd_C_goOn_3 : decode zc_C_goOn 3 = .ok (.sipush 1000, 3) := by decide +kernel
theorem zd_C_goOn_6 : decode zc_C_goOn 6 = .ok (.if_icmp .ge 17, 3) := by decide +kernel
theorem zd_C_goOn_9 : decode zc_C_goOn 9 = .ok (.aload_n 0, 1) := by decide +kernel
theorem zd_C_goOn_10 : decode zc_C_goOn 10 = .ok (.iload_n 1, 1) := by decide +kernel
theorem zd_C_goOn_11 : decode zc_C_goOn 11 = .ok (.invokevirtual 173, 3) := by decide +kernel
theorem zd_C_goOn_14 : decode zc_C_goOn 14 = .ok (.ifCond .eq 9, 3) := by decide +kernel
theorem zd_C_goOn_17 : decode zc_C_goOn 17 = .ok (.iinc 2 1, 3) := by decide +kernel
theorem zd_C_goOn_20 : decode zc_C_goOn 20 = .ok (.goto (-18), 3) := by decide +kernel
theorem zd_C_goOn_23 : decode zc_C_goOn 23 = .ok (.return_, 1) := by decide +kernel
theorem zd_C_takeStep_0 : decode zc_C_takeStep 0 = .ok (.aload_n 0, 1) := by decide +kernel
theorem zd_C_takeStep_1 : decode zc_C_takeStep 1 = .ok (.getfield 24, 3) := by decide +kernel
theorem zd_C_takeStep_4 : decode zc_C_takeStep 4 = .ok (.iload_n 1, 1) := by decide +kernel
theorem zd_C_takeStep_5 : decode zc_C_takeStep 5 = .ok (.aaload, 1) := by decide +kernel
theorem zd_C_takeStep_6 : decode zc_C_takeStep 6 = .ok (.astore_n 2, 1) := by decide +kernel
theorem zd_C_takeStep_7 : decode zc_C_takeStep 7 = .ok (.aload_n 2, 1) := by decide +kernel
theorem zd_C_takeStep_8 : decode zc_C_takeStep 8 = .ok (.invokevirtual 176, 3) := by decide +kernel
theorem zd_C_takeStep_11 : decode zc_C_takeStep 11 = .ok (.ifCond .eq 9, 3) := by decide +kernel
theorem zd_C_takeStep_14 : decode zc_C_takeStep 14 = .ok (.aload_n 2, 1) := by decide +kernel
theorem zd_C_takeStep_15 : decode zc_C_takeStep 15 = .ok (.invokevirtual 180, 3) := by decide +kernel
theorem zd_C_takeStep_18 : decode zc_C_takeStep 18 = .ok (.iconst 1, 1) := by decide +kernel
theorem zd_C_takeStep_19 : decode zc_C_takeStep 19 = .ok (.ireturn, 1) := by decide +kernel
theorem zd_C_takeStep_20 : decode zc_C_takeStep 20 = .ok (.aload_n 2, 1) := by decide +kernel
theorem zd_C_takeStep_21 : decode zc_C_takeStep 21 = .ok (.getfield 103, 3) := by decide +kernel
theorem zd_C_takeStep_24 : decode zc_C_takeStep 24 = .ok (.tableswitch 60 0 3 #[32, 39, 46, 53], 32) := by decide +kernel
theorem zd_C_takeStep_56 : decode zc_C_takeStep 56 = .ok (.aload_n 0, 1) := by decide +kernel
theorem zd_C_takeStep_57 : decode zc_C_takeStep 57 = .ok (.iload_n 1, 1) := by decide +kernel
theorem zd_C_takeStep_58 : decode zc_C_takeStep 58 = .ok (.aload_n 2, 1) := by decide +kernel
theorem zd_C_takeStep_59 : decode zc_C_takeStep 59 = .ok (.invokevirtual 183, 3) := by decide +kernel
theorem zd_C_takeStep_62 : decode zc_C_takeStep 62 = .ok (.ireturn, 1) := by decide +kernel
theorem zd_C_takeStep_63 : decode zc_C_takeStep 63 = .ok (.aload_n 0, 1) := by decide +kernel
theorem zd_C_takeStep_64 : decode zc_C_takeStep 64 = .ok (.iload_n 1, 1) := by decide +kernel
theorem zd_C_takeStep_65 : decode zc_C_takeStep 65 = .ok (.aload_n 2, 1) := by decide +kernel
theorem zd_C_takeStep_66 : decode zc_C_takeStep 66 = .ok (.invokevirtual 187, 3) := by decide +kernel
theorem zd_C_takeStep_69 : decode zc_C_takeStep 69 = .ok (.ireturn, 1) := by decide +kernel
theorem zd_C_takeStep_70 : decode zc_C_takeStep 70 = .ok (.aload_n 0, 1) := by decide +kernel
theorem zd_C_takeStep_71 : decode zc_C_takeStep 71 = .ok (.iload_n 1, 1) := by decide +kernel
theorem zd_C_takeStep_72 : decode zc_C_takeStep 72 = .ok (.aload_n 2, 1) := by decide +kernel
theorem zd_C_takeStep_73 : decode zc_C_takeStep 73 = .ok (.invokevirtual 190, 3) := by decide +kernel
theorem zd_C_takeStep_76 : decode zc_C_takeStep 76 = .ok (.ireturn, 1) := by decide +kernel
theorem zd_C_takeStep_77 : decode zc_C_takeStep 77 = .ok (.aload_n 0, 1) := by decide +kernel
theorem zd_C_takeStep_78 : decode zc_C_takeStep 78 = .ok (.iload_n 1, 1) := by decide +kernel
theorem zd_C_takeStep_79 : decode zc_C_takeStep 79 = .ok (.aload_n 2, 1) := by decide +kernel
theorem zd_C_takeStep_80 : decode zc_C_takeStep 80 = .ok (.invokevirtual 193, 3) := by decide +kernel
theorem zd_C_takeStep_83 : decode zc_C_takeStep 83 = .ok (.ireturn, 1) := by decide +kernel
theorem zd_C_takeStep_84 : decode zc_C_takeStep 84 = .ok (.iconst 0, 1) := by decide +kernel
theorem zd_C_takeStep_85 : decode zc_C_takeStep 85 = .ok (.ireturn, 1) := by decide +kernel
theorem zd_M_hasVerdictOfItsCouncil_0 : decode zc_M_hasVerdictOfItsCouncil 0 = .ok (.aload_n 0, 1) := by decide +kernel
theorem zd_M_hasVerdictOfItsCouncil_1 : decode zc_M_hasVerdictOfItsCouncil 1 = .ok (.getfield 28, 3) := by decide +kernel
theorem zd_M_hasVerdictOfItsCouncil_4 : decode zc_M_hasVerdictOfItsCouncil 4 = .ok (.bipush 8, 2) := by decide +kernel
theorem zd_M_hasVerdictOfItsCouncil_6 : decode zc_M_hasVerdictOfItsCouncil 6 = .ok (.if_icmp .ge 19, 3) := by decide +kernel
theorem zd_M_hasVerdictOfItsCouncil_9 : decode zc_M_hasVerdictOfItsCouncil 9 = .ok (.aload_n 0, 1) := by decide +kernel
theorem zd_M_hasVerdictOfItsCouncil_10 : decode zc_M_hasVerdictOfItsCouncil 10 = .ok (.getfield 15, 3) := by decide +kernel
theorem zd_M_hasVerdictOfItsCouncil_13 : decode zc_M_hasVerdictOfItsCouncil 13 = .ok (.aload_n 0, 1) := by decide +kernel
theorem zd_M_hasVerdictOfItsCouncil_14 : decode zc_M_hasVerdictOfItsCouncil 14 = .ok (.getfield 28, 3) := by decide +kernel
theorem zd_M_hasVerdictOfItsCouncil_17 : decode zc_M_hasVerdictOfItsCouncil 17 = .ok (.iaload, 1) := by decide +kernel
theorem zd_M_hasVerdictOfItsCouncil_18 : decode zc_M_hasVerdictOfItsCouncil 18 = .ok (.ifCond .eq 7, 3) := by decide +kernel
theorem zd_M_hasVerdictOfItsCouncil_21 : decode zc_M_hasVerdictOfItsCouncil 21 = .ok (.iconst 1, 1) := by decide +kernel
theorem zd_M_hasVerdictOfItsCouncil_22 : decode zc_M_hasVerdictOfItsCouncil 22 = .ok (.goto 4, 3) := by decide +kernel
theorem zd_M_hasVerdictOfItsCouncil_25 : decode zc_M_hasVerdictOfItsCouncil 25 = .ok (.iconst 0, 1) := by decide +kernel
theorem zd_M_hasVerdictOfItsCouncil_26 : decode zc_M_hasVerdictOfItsCouncil 26 = .ok (.ireturn, 1) := by decide +kernel
theorem zd_M_finishCouncil_0 : decode zc_M_finishCouncil 0 = .ok (.aload_n 0, 1) := by decide +kernel
theorem zd_M_finishCouncil_1 : decode zc_M_finishCouncil 1 = .ok (.aload_n 0, 1) := by decide +kernel
theorem zd_M_finishCouncil_2 : decode zc_M_finishCouncil 2 = .ok (.getfield 15, 3) := by decide +kernel
theorem zd_M_finishCouncil_5 : decode zc_M_finishCouncil 5 = .ok (.aload_n 0, 1) := by decide +kernel
theorem zd_M_finishCouncil_6 : decode zc_M_finishCouncil 6 = .ok (.getfield 28, 3) := by decide +kernel
theorem zd_M_finishCouncil_9 : decode zc_M_finishCouncil 9 = .ok (.iaload, 1) := by decide +kernel
theorem zd_M_finishCouncil_10 : decode zc_M_finishCouncil 10 = .ok (.invokevirtual 31, 3) := by decide +kernel
theorem zd_M_finishCouncil_13 : decode zc_M_finishCouncil 13 = .ok (.aload_n 0, 1) := by decide +kernel
theorem zd_M_finishCouncil_14 : decode zc_M_finishCouncil 14 = .ok (.dup, 1) := by decide +kernel
theorem zd_M_finishCouncil_15 : decode zc_M_finishCouncil 15 = .ok (.getfield 28, 3) := by decide +kernel
theorem zd_M_finishCouncil_18 : decode zc_M_finishCouncil 18 = .ok (.iconst 1, 1) := by decide +kernel
theorem zd_M_finishCouncil_19 : decode zc_M_finishCouncil 19 = .ok (.iadd, 1) := by decide +kernel
theorem zd_M_finishCouncil_20 : decode zc_M_finishCouncil 20 = .ok (.putfield 28, 3) := by decide +kernel
theorem zd_M_finishCouncil_23 : decode zc_M_finishCouncil 23 = .ok (.aload_n 0, 1) := by decide +kernel
theorem zd_M_finishCouncil_24 : decode zc_M_finishCouncil 24 = .ok (.iconst 0, 1) := by decide +kernel
theorem zd_M_finishCouncil_25 : decode zc_M_finishCouncil 25 = .ok (.putfield 35, 3) := by decide +kernel
theorem zd_M_finishCouncil_28 : decode zc_M_finishCouncil 28 = .ok (.aload_n 0, 1) := by decide +kernel
theorem zd_M_finishCouncil_29 : decode zc_M_finishCouncil 29 = .ok (.iconst 0, 1) := by decide +kernel
theorem zd_M_finishCouncil_30 : decode zc_M_finishCouncil 30 = .ok (.putfield 38, 3) := by decide +kernel
theorem zd_M_finishCouncil_33 : decode zc_M_finishCouncil 33 = .ok (.aload_n 0, 1) := by decide +kernel
theorem zd_M_finishCouncil_34 : decode zc_M_finishCouncil 34 = .ok (.iconst 0, 1) := by decide +kernel
theorem zd_M_finishCouncil_35 : decode zc_M_finishCouncil 35 = .ok (.putfield 41, 3) := by decide +kernel
theorem zd_M_finishCouncil_38 : decode zc_M_finishCouncil 38 = .ok (.aload_n 0, 1) := by decide +kernel
theorem zd_M_finishCouncil_39 : decode zc_M_finishCouncil 39 = .ok (.iconst 0, 1) := by decide +kernel
theorem zd_M_finishCouncil_40 : decode zc_M_finishCouncil 40 = .ok (.putfield 44, 3) := by decide +kernel
theorem zd_M_finishCouncil_43 : decode zc_M_finishCouncil 43 = .ok (.return_, 1) := by decide +kernel
theorem zd_M_deliverBatch_0 : decode zc_M_deliverBatch 0 = .ok (.iload_n 1, 1) := by decide +kernel
theorem zd_M_deliverBatch_1 : decode zc_M_deliverBatch 1 = .ok (.aload_n 0, 1) := by decide +kernel
theorem zd_M_deliverBatch_2 : decode zc_M_deliverBatch 2 = .ok (.getfield 22, 3) := by decide +kernel
theorem zd_M_deliverBatch_5 : decode zc_M_deliverBatch 5 = .ok (.iconst (-1), 1) := by decide +kernel
theorem zd_M_deliverBatch_6 : decode zc_M_deliverBatch 6 = .ok (.ixor, 1) := by decide +kernel
theorem zd_M_deliverBatch_7 : decode zc_M_deliverBatch 7 = .ok (.iand, 1) := by decide +kernel
theorem zd_M_deliverBatch_8 : decode zc_M_deliverBatch 8 = .ok (.istore_n 2, 1) := by decide +kernel
theorem zd_M_deliverBatch_9 : decode zc_M_deliverBatch 9 = .ok (.iconst 0, 1) := by decide +kernel
theorem zd_M_deliverBatch_10 : decode zc_M_deliverBatch 10 = .ok (.istore_n 3, 1) := by decide +kernel
theorem zd_M_deliverBatch_11 : decode zc_M_deliverBatch 11 = .ok (.iload_n 3, 1) := by decide +kernel
theorem zd_M_deliverBatch_12 : decode zc_M_deliverBatch 12 = .ok (.bipush 8, 2) := by decide +kernel
theorem zd_M_deliverBatch_14 : decode zc_M_deliverBatch 14 = .ok (.if_icmp .ge 37, 3) := by decide +kernel
theorem zd_M_deliverBatch_17 : decode zc_M_deliverBatch 17 = .ok (.iload_n 2, 1) := by decide +kernel
theorem zd_M_deliverBatch_18 : decode zc_M_deliverBatch 18 = .ok (.iload_n 3, 1) := by decide +kernel
theorem zd_M_deliverBatch_19 : decode zc_M_deliverBatch 19 = .ok (.ishr, 1) := by decide +kernel
theorem zd_M_deliverBatch_20 : decode zc_M_deliverBatch 20 = .ok (.iconst 1, 1) := by decide +kernel
theorem zd_M_deliverBatch_21 : decode zc_M_deliverBatch 21 = .ok (.iand, 1) := by decide +kernel
theorem zd_M_deliverBatch_22 : decode zc_M_deliverBatch 22 = .ok (.ifCond .eq 23, 3) := by decide +kernel
theorem zd_M_deliverBatch_25 : decode zc_M_deliverBatch 25 = .ok (.aload_n 0, 1) := by decide +kernel
theorem zd_M_deliverBatch_26 : decode zc_M_deliverBatch 26 = .ok (.getfield 9, 3) := by decide +kernel
theorem zd_M_deliverBatch_29 : decode zc_M_deliverBatch 29 = .ok (.aload_n 0, 1) := by decide +kernel
theorem zd_M_deliverBatch_30 : decode zc_M_deliverBatch 30 = .ok (.getfield 47, 3) := by decide +kernel
theorem zd_M_deliverBatch_33 : decode zc_M_deliverBatch 33 = .ok (.iload_n 3, 1) := by decide +kernel
theorem zd_M_deliverBatch_34 : decode zc_M_deliverBatch 34 = .ok (.iastore, 1) := by decide +kernel
theorem zd_M_deliverBatch_35 : decode zc_M_deliverBatch 35 = .ok (.aload_n 0, 1) := by decide +kernel
theorem zd_M_deliverBatch_36 : decode zc_M_deliverBatch 36 = .ok (.dup, 1) := by decide +kernel
theorem zd_M_deliverBatch_37 : decode zc_M_deliverBatch 37 = .ok (.getfield 47, 3) := by decide +kernel
theorem zd_M_deliverBatch_40 : decode zc_M_deliverBatch 40 = .ok (.iconst 1, 1) := by decide +kernel
theorem zd_M_deliverBatch_41 : decode zc_M_deliverBatch 41 = .ok (.iadd, 1) := by decide +kernel
theorem zd_M_deliverBatch_42 : decode zc_M_deliverBatch 42 = .ok (.putfield 47, 3) := by decide +kernel
theorem zd_M_deliverBatch_45 : decode zc_M_deliverBatch 45 = .ok (.iinc 3 1, 3) := by decide +kernel
theorem zd_M_deliverBatch_48 : decode zc_M_deliverBatch 48 = .ok (.goto (-37), 3) := by decide +kernel
theorem zd_M_deliverBatch_51 : decode zc_M_deliverBatch 51 = .ok (.aload_n 0, 1) := by decide +kernel
theorem zd_M_deliverBatch_52 : decode zc_M_deliverBatch 52 = .ok (.dup, 1) := by decide +kernel
theorem zd_M_deliverBatch_53 : decode zc_M_deliverBatch 53 = .ok (.getfield 22, 3) := by decide +kernel
theorem zd_M_deliverBatch_56 : decode zc_M_deliverBatch 56 = .ok (.iload_n 2, 1) := by decide +kernel
theorem zd_M_deliverBatch_57 : decode zc_M_deliverBatch 57 = .ok (.ior, 1) := by decide +kernel
theorem zd_M_deliverBatch_58 : decode zc_M_deliverBatch 58 = .ok (.putfield 22, 3) := by decide +kernel
theorem zd_M_deliverBatch_61 : decode zc_M_deliverBatch 61 = .ok (.return_, 1) := by decide +kernel
theorem zd_C_openCouncil_0 : decode zc_C_openCouncil 0 = .ok (.aload_n 2, 1) := by decide +kernel
theorem zd_C_openCouncil_1 : decode zc_C_openCouncil 1 = .ok (.invokevirtual 196, 3) := by decide +kernel
theorem zd_C_openCouncil_4 : decode zc_C_openCouncil 4 = .ok (.istore_n 3, 1) := by decide +kernel
theorem zd_C_openCouncil_5 : decode zc_C_openCouncil 5 = .ok (.iload_n 3, 1) := by decide +kernel
theorem zd_C_openCouncil_6 : decode zc_C_openCouncil 6 = .ok (.ifCond .eq 12, 3) := by decide +kernel
theorem zd_C_openCouncil_9 : decode zc_C_openCouncil 9 = .ok (.aload_n 2, 1) := by decide +kernel
theorem zd_C_openCouncil_10 : decode zc_C_openCouncil 10 = .ok (.getfield 106, 3) := by decide +kernel
theorem zd_C_openCouncil_13 : decode zc_C_openCouncil 13 = .ok (.bipush 8, 2) := by decide +kernel
theorem zd_C_openCouncil_15 : decode zc_C_openCouncil 15 = .ok (.if_icmp .lt 5, 3) := by decide +kernel
theorem zd_C_openCouncil_18 : decode zc_C_openCouncil 18 = .ok (.iconst 0, 1) := by decide +kernel
theorem zd_C_openCouncil_19 : decode zc_C_openCouncil 19 = .ok (.ireturn, 1) := by decide +kernel
theorem zd_C_openCouncil_20 : decode zc_C_openCouncil 20 = .ok (.aload_n 2, 1) := by decide +kernel
theorem zd_C_openCouncil_21 : decode zc_C_openCouncil 21 = .ok (.iload_n 3, 1) := by decide +kernel
theorem zd_C_openCouncil_22 : decode zc_C_openCouncil 22 = .ok (.putfield 112, 3) := by decide +kernel
theorem zd_C_openCouncil_25 : decode zc_C_openCouncil 25 = .ok (.aload_n 2, 1) := by decide +kernel
theorem zd_C_openCouncil_26 : decode zc_C_openCouncil 26 = .ok (.iconst 0, 1) := by decide +kernel
theorem zd_C_openCouncil_27 : decode zc_C_openCouncil 27 = .ok (.putfield 115, 3) := by decide +kernel
theorem zd_C_openCouncil_30 : decode zc_C_openCouncil 30 = .ok (.aload_n 0, 1) := by decide +kernel
theorem zd_C_openCouncil_31 : decode zc_C_openCouncil 31 = .ok (.iload_n 1, 1) := by decide +kernel
theorem zd_C_openCouncil_32 : decode zc_C_openCouncil 32 = .ok (.aload_n 2, 1) := by decide +kernel
theorem zd_C_openCouncil_33 : decode zc_C_openCouncil 33 = .ok (.iconst 1, 1) := by decide +kernel
theorem zd_C_openCouncil_34 : decode zc_C_openCouncil 34 = .ok (.invokevirtual 199, 3) := by decide +kernel
theorem zd_C_openCouncil_37 : decode zc_C_openCouncil 37 = .ok (.iconst 1, 1) := by decide +kernel
theorem zd_C_openCouncil_38 : decode zc_C_openCouncil 38 = .ok (.ireturn, 1) := by decide +kernel
theorem zd_M_undelivered_0 : decode zc_M_undelivered 0 = .ok (.aload_n 0, 1) := by decide +kernel
theorem zd_M_undelivered_1 : decode zc_M_undelivered 1 = .ok (.getfield 18, 3) := by decide +kernel
theorem zd_M_undelivered_4 : decode zc_M_undelivered 4 = .ok (.aload_n 0, 1) := by decide +kernel
theorem zd_M_undelivered_5 : decode zc_M_undelivered 5 = .ok (.getfield 22, 3) := by decide +kernel
theorem zd_M_undelivered_8 : decode zc_M_undelivered 8 = .ok (.iconst (-1), 1) := by decide +kernel
theorem zd_M_undelivered_9 : decode zc_M_undelivered 9 = .ok (.ixor, 1) := by decide +kernel
theorem zd_M_undelivered_10 : decode zc_M_undelivered 10 = .ok (.iand, 1) := by decide +kernel
theorem zd_M_undelivered_11 : decode zc_M_undelivered 11 = .ok (.ireturn, 1) := by decide +kernel
theorem zd_C_enter_0 : decode zc_C_enter 0 = .ok (.aload_n 2, 1) := by decide +kernel
theorem zd_C_enter_1 : decode zc_C_enter 1 = .ok (.iload_n 3, 1) := by decide +kernel
theorem zd_C_enter_2 : decode zc_C_enter 2 = .ok (.putfield 109, 3) := by decide +kernel
theorem zd_C_enter_5 : decode zc_C_enter 5 = .ok (.iload_n 3, 1) := by decide +kernel
theorem zd_C_enter_6 : decode zc_C_enter 6 = .ok (.bipush 10, 2) := by decide +kernel
theorem zd_C_enter_8 : decode zc_C_enter 8 = .ok (.if_icmp .le 9, 3) := by decide +kernel
theorem zd_C_enter_11 : decode zc_C_enter 11 = .ok (.aload_n 2, 1) := by decide +kernel
theorem zd_C_enter_12 : decode zc_C_enter 12 = .ok (.iconst 4, 1) := by decide +kernel
theorem zd_C_enter_13 : decode zc_C_enter 13 = .ok (.putfield 103, 3) := by decide +kernel
theorem zd_C_enter_16 : decode zc_C_enter 16 = .ok (.return_, 1) := by decide +kernel
theorem zd_C_enter_17 : decode zc_C_enter 17 = .ok (.aload_n 2, 1) := by decide +kernel
theorem zd_C_enter_18 : decode zc_C_enter 18 = .ok (.getfield 106, 3) := by decide +kernel
theorem zd_C_enter_21 : decode zc_C_enter 21 = .ok (.istore 4, 2) := by decide +kernel
theorem zd_C_enter_23 : decode zc_C_enter 23 = .ok (.aload_n 0, 1) := by decide +kernel
theorem zd_C_enter_24 : decode zc_C_enter 24 = .ok (.iload_n 3, 1) := by decide +kernel
theorem zd_C_enter_25 : decode zc_C_enter 25 = .ok (.invokevirtual 215, 3) := by decide +kernel
theorem zd_C_enter_28 : decode zc_C_enter 28 = .ok (.istore 5, 2) := by decide +kernel
theorem zd_C_enter_30 : decode zc_C_enter 30 = .ok (.iload_n 1, 1) := by decide +kernel
theorem zd_C_enter_31 : decode zc_C_enter 31 = .ok (.iload 5, 2) := by decide +kernel
theorem zd_C_enter_33 : decode zc_C_enter 33 = .ok (.if_icmp .ne 30, 3) := by decide +kernel
theorem zd_C_enter_36 : decode zc_C_enter 36 = .ok (.aload_n 0, 1) := by decide +kernel
theorem zd_C_enter_37 : decode zc_C_enter 37 = .ok (.getfield 41, 3) := by decide +kernel
theorem zd_C_enter_40 : decode zc_C_enter 40 = .ok (.iload 4, 2) := by decide +kernel
theorem zd_C_enter_42 : decode zc_C_enter 42 = .ok (.iload_n 3, 1) := by decide +kernel
theorem zd_C_enter_43 : decode zc_C_enter 43 = .ok (.iload_n 1, 1) := by decide +kernel
theorem zd_C_enter_44 : decode zc_C_enter 44 = .ok (.aload_n 2, 1) := by decide +kernel
theorem zd_C_enter_45 : decode zc_C_enter 45 = .ok (.getfield 112, 3) := by decide +kernel
theorem zd_C_enter_48 : decode zc_C_enter 48 = .ok (.aload_n 2, 1) := by decide +kernel
theorem zd_C_enter_49 : decode zc_C_enter 49 = .ok (.getfield 115, 3) := by decide +kernel
theorem zd_C_enter_52 : decode zc_C_enter 52 = .ok (.invokevirtual 146, 3) := by decide +kernel
theorem zd_C_enter_55 : decode zc_C_enter 55 = .ok (.aload_n 2, 1) := by decide +kernel
theorem zd_C_enter_56 : decode zc_C_enter 56 = .ok (.iconst 1, 1) := by decide +kernel
theorem zd_C_enter_57 : decode zc_C_enter 57 = .ok (.putfield 103, 3) := by decide +kernel
theorem zd_C_enter_60 : decode zc_C_enter 60 = .ok (.goto 37, 3) := by decide +kernel
theorem zd_C_enter_63 : decode zc_C_enter 63 = .ok (.iconst 2, 1) := by decide +kernel
theorem zd_C_enter_64 : decode zc_C_enter 64 = .ok (.iload 4, 2) := by decide +kernel
theorem zd_C_enter_66 : decode zc_C_enter 66 = .ok (.iload_n 3, 1) := by decide +kernel
theorem zd_C_enter_67 : decode zc_C_enter 67 = .ok (.aload_n 2, 1) := by decide +kernel
theorem zd_C_enter_68 : decode zc_C_enter 68 = .ok (.getfield 112, 3) := by decide +kernel
theorem zd_C_enter_71 : decode zc_C_enter 71 = .ok (.aload_n 2, 1) := by decide +kernel
theorem zd_C_enter_72 : decode zc_C_enter 72 = .ok (.getfield 115, 3) := by decide +kernel
theorem zd_C_enter_75 : decode zc_C_enter 75 = .ok (.invokestatic 166, 3) := by decide +kernel
theorem zd_C_enter_78 : decode zc_C_enter 78 = .ok (.istore 6, 2) := by decide +kernel
theorem zd_C_enter_80 : decode zc_C_enter 80 = .ok (.aload_n 0, 1) := by decide +kernel
theorem zd_C_enter_81 : decode zc_C_enter 81 = .ok (.getfield 34, 3) := by decide +kernel
theorem zd_C_enter_84 : decode zc_C_enter 84 = .ok (.iload_n 1, 1) := by decide +kernel
theorem zd_C_enter_85 : decode zc_C_enter 85 = .ok (.iload 5, 2) := by decide +kernel
theorem zd_C_enter_87 : decode zc_C_enter 87 = .ok (.iload 6, 2) := by decide +kernel
theorem zd_C_enter_89 : decode zc_C_enter 89 = .ok (.invokevirtual 131, 3) := by decide +kernel
theorem zd_C_enter_92 : decode zc_C_enter 92 = .ok (.aload_n 2, 1) := by decide +kernel
theorem zd_C_enter_93 : decode zc_C_enter 93 = .ok (.iconst 2, 1) := by decide +kernel
theorem zd_C_enter_94 : decode zc_C_enter 94 = .ok (.putfield 103, 3) := by decide +kernel
theorem zd_C_enter_97 : decode zc_C_enter 97 = .ok (.return_, 1) := by decide +kernel
theorem zd_C_leaderOf_0 : decode zc_C_leaderOf 0 = .ok (.iload_n 1, 1) := by decide +kernel
theorem zd_C_leaderOf_1 : decode zc_C_leaderOf 1 = .ok (.iconst 1, 1) := by decide +kernel
theorem zd_C_leaderOf_2 : decode zc_C_leaderOf 2 = .ok (.isub, 1) := by decide +kernel
theorem zd_C_leaderOf_3 : decode zc_C_leaderOf 3 = .ok (.aload_n 0, 1) := by decide +kernel
theorem zd_C_leaderOf_4 : decode zc_C_leaderOf 4 = .ok (.getfield 18, 3) := by decide +kernel
theorem zd_C_leaderOf_7 : decode zc_C_leaderOf 7 = .ok (.irem, 1) := by decide +kernel
theorem zd_C_leaderOf_8 : decode zc_C_leaderOf 8 = .ok (.ireturn, 1) := by decide +kernel
theorem zd_Q_keepEstimate_0 : decode zc_Q_keepEstimate 0 = .ok (.aload_n 0, 1) := by decide +kernel
theorem zd_Q_keepEstimate_1 : decode zc_Q_keepEstimate 1 = .ok (.getfield 15, 3) := by decide +kernel
theorem zd_Q_keepEstimate_4 : decode zc_Q_keepEstimate 4 = .ok (.aload_n 0, 1) := by decide +kernel
theorem zd_Q_keepEstimate_5 : decode zc_Q_keepEstimate 5 = .ok (.iload_n 1, 1) := by decide +kernel
theorem zd_Q_keepEstimate_6 : decode zc_Q_keepEstimate 6 = .ok (.iload_n 2, 1) := by decide +kernel
theorem zd_Q_keepEstimate_7 : decode zc_Q_keepEstimate 7 = .ok (.iload_n 3, 1) := by decide +kernel
theorem zd_Q_keepEstimate_8 : decode zc_Q_keepEstimate 8 = .ok (.invokevirtual 28, 3) := by decide +kernel
theorem zd_Q_keepEstimate_11 : decode zc_Q_keepEstimate 11 = .ok (.iload 5, 2) := by decide +kernel
theorem zd_Q_keepEstimate_13 : decode zc_Q_keepEstimate 13 = .ok (.bipush 8, 2) := by decide +kernel
theorem zd_Q_keepEstimate_15 : decode zc_Q_keepEstimate 15 = .ok (.ishl, 1) := by decide +kernel
theorem zd_Q_keepEstimate_16 : decode zc_Q_keepEstimate 16 = .ok (.iload 4, 2) := by decide +kernel
theorem zd_Q_keepEstimate_18 : decode zc_Q_keepEstimate 18 = .ok (.ior, 1) := by decide +kernel
theorem zd_Q_keepEstimate_19 : decode zc_Q_keepEstimate 19 = .ok (.iastore, 1) := by decide +kernel
theorem zd_Q_keepEstimate_20 : decode zc_Q_keepEstimate 20 = .ok (.return_, 1) := by decide +kernel
theorem zd_Q_cell_0 : decode zc_Q_cell 0 = .ok (.iload_n 1, 1) := by decide +kernel
theorem zd_Q_cell_1 : decode zc_Q_cell 1 = .ok (.bipush 10, 2) := by decide +kernel
theorem zd_Q_cell_3 : decode zc_Q_cell 3 = .ok (.imul, 1) := by decide +kernel
theorem zd_Q_cell_4 : decode zc_Q_cell 4 = .ok (.iload_n 2, 1) := by decide +kernel
theorem zd_Q_cell_5 : decode zc_Q_cell 5 = .ok (.iadd, 1) := by decide +kernel
theorem zd_Q_cell_6 : decode zc_Q_cell 6 = .ok (.iconst 1, 1) := by decide +kernel
theorem zd_Q_cell_7 : decode zc_Q_cell 7 = .ok (.isub, 1) := by decide +kernel
theorem zd_Q_cell_8 : decode zc_Q_cell 8 = .ok (.aload_n 0, 1) := by decide +kernel
theorem zd_Q_cell_9 : decode zc_Q_cell 9 = .ok (.getfield 9, 3) := by decide +kernel
theorem zd_Q_cell_12 : decode zc_Q_cell 12 = .ok (.imul, 1) := by decide +kernel
theorem zd_Q_cell_13 : decode zc_Q_cell 13 = .ok (.iload_n 3, 1) := by decide +kernel
theorem zd_Q_cell_14 : decode zc_Q_cell 14 = .ok (.iadd, 1) := by decide +kernel
theorem zd_Q_cell_15 : decode zc_Q_cell 15 = .ok (.ireturn, 1) := by decide +kernel
theorem zd_C_makeOffer_0 : decode zc_C_makeOffer 0 = .ok (.aload_n 2, 1) := by decide +kernel
theorem zd_C_makeOffer_1 : decode zc_C_makeOffer 1 = .ok (.getfield 106, 3) := by decide +kernel
theorem zd_C_makeOffer_4 : decode zc_C_makeOffer 4 = .ok (.istore_n 3, 1) := by decide +kernel
theorem zd_C_makeOffer_5 : decode zc_C_makeOffer 5 = .ok (.aload_n 2, 1) := by decide +kernel
theorem zd_C_makeOffer_6 : decode zc_C_makeOffer 6 = .ok (.getfield 109, 3) := by decide +kernel
theorem zd_C_makeOffer_9 : decode zc_C_makeOffer 9 = .ok (.istore 4, 2) := by decide +kernel
theorem zd_C_makeOffer_11 : decode zc_C_makeOffer 11 = .ok (.aload_n 0, 1) := by decide +kernel
theorem zd_C_makeOffer_12 : decode zc_C_makeOffer 12 = .ok (.getfield 41, 3) := by decide +kernel
theorem zd_C_makeOffer_15 : decode zc_C_makeOffer 15 = .ok (.iload_n 3, 1) := by decide +kernel
theorem zd_C_makeOffer_16 : decode zc_C_makeOffer 16 = .ok (.iload 4, 2) := by decide +kernel
theorem zd_C_makeOffer_18 : decode zc_C_makeOffer 18 = .ok (.invokevirtual 203, 3) := by decide +kernel
theorem zd_C_makeOffer_21 : decode zc_C_makeOffer 21 = .ok (.aload_n 0, 1) := by decide +kernel
theorem zd_C_makeOffer_22 : decode zc_C_makeOffer 22 = .ok (.invokevirtual 206, 3) := by decide +kernel
theorem zd_C_makeOffer_25 : decode zc_C_makeOffer 25 = .ok (.if_icmp .ge 5, 3) := by decide +kernel
theorem zd_C_makeOffer_28 : decode zc_C_makeOffer 28 = .ok (.iconst 0, 1) := by decide +kernel
theorem zd_C_makeOffer_29 : decode zc_C_makeOffer 29 = .ok (.ireturn, 1) := by decide +kernel
theorem zd_C_makeOffer_30 : decode zc_C_makeOffer 30 = .ok (.aload_n 2, 1) := by decide +kernel
theorem zd_C_makeOffer_31 : decode zc_C_makeOffer 31 = .ok (.aload_n 0, 1) := by decide +kernel
theorem zd_C_makeOffer_32 : decode zc_C_makeOffer 32 = .ok (.getfield 41, 3) := by decide +kernel
theorem zd_C_makeOffer_35 : decode zc_C_makeOffer 35 = .ok (.iload_n 3, 1) := by decide +kernel
theorem zd_C_makeOffer_36 : decode zc_C_makeOffer 36 = .ok (.iload 4, 2) := by decide +kernel
theorem zd_C_makeOffer_38 : decode zc_C_makeOffer 38 = .ok (.invokevirtual 209, 3) := by decide +kernel
theorem zd_C_makeOffer_41 : decode zc_C_makeOffer 41 = .ok (.invokevirtual 212, 3) := by decide +kernel
theorem zd_C_makeOffer_44 : decode zc_C_makeOffer 44 = .ok (.aload_n 0, 1) := by decide +kernel
theorem zd_C_makeOffer_45 : decode zc_C_makeOffer 45 = .ok (.iload_n 1, 1) := by decide +kernel
theorem zd_C_makeOffer_46 : decode zc_C_makeOffer 46 = .ok (.iconst 3, 1) := by decide +kernel
theorem zd_C_makeOffer_47 : decode zc_C_makeOffer 47 = .ok (.iload_n 3, 1) := by decide +kernel
theorem zd_C_makeOffer_48 : decode zc_C_makeOffer 48 = .ok (.iload 4, 2) := by decide +kernel
theorem zd_C_makeOffer_50 : decode zc_C_makeOffer 50 = .ok (.aload_n 2, 1) := by decide +kernel
theorem zd_C_makeOffer_51 : decode zc_C_makeOffer 51 = .ok (.getfield 112, 3) := by decide +kernel
theorem zd_C_makeOffer_54 : decode zc_C_makeOffer 54 = .ok (.iconst 0, 1) := by decide +kernel
theorem zd_C_makeOffer_55 : decode zc_C_makeOffer 55 = .ok (.invokestatic 166, 3) := by decide +kernel
theorem zd_C_makeOffer_58 : decode zc_C_makeOffer 58 = .ok (.invokevirtual 170, 3) := by decide +kernel
theorem zd_C_makeOffer_61 : decode zc_C_makeOffer 61 = .ok (.aload_n 0, 1) := by decide +kernel
theorem zd_C_makeOffer_62 : decode zc_C_makeOffer 62 = .ok (.getfield 41, 3) := by decide +kernel
theorem zd_C_makeOffer_65 : decode zc_C_makeOffer 65 = .ok (.iload_n 3, 1) := by decide +kernel
theorem zd_C_makeOffer_66 : decode zc_C_makeOffer 66 = .ok (.iload 4, 2) := by decide +kernel
theorem zd_C_makeOffer_68 : decode zc_C_makeOffer 68 = .ok (.iload_n 1, 1) := by decide +kernel
theorem zd_C_makeOffer_69 : decode zc_C_makeOffer 69 = .ok (.iconst 1, 1) := by decide +kernel
theorem zd_C_makeOffer_70 : decode zc_C_makeOffer 70 = .ok (.invokevirtual 154, 3) := by decide +kernel
theorem zd_C_makeOffer_73 : decode zc_C_makeOffer 73 = .ok (.aload_n 2, 1) := by decide +kernel
theorem zd_C_makeOffer_74 : decode zc_C_makeOffer 74 = .ok (.iconst 3, 1) := by decide +kernel
theorem zd_C_makeOffer_75 : decode zc_C_makeOffer 75 = .ok (.putfield 103, 3) := by decide +kernel
theorem zd_C_makeOffer_78 : decode zc_C_makeOffer 78 = .ok (.iconst 1, 1) := by decide +kernel
theorem zd_C_makeOffer_79 : decode zc_C_makeOffer 79 = .ok (.ireturn, 1) := by decide +kernel
theorem zd_Q_estimatesOf_0 : decode zc_Q_estimatesOf 0 = .ok (.iconst 0, 1) := by decide +kernel
theorem zd_Q_estimatesOf_1 : decode zc_Q_estimatesOf 1 = .ok (.istore_n 3, 1) := by decide +kernel
theorem zd_Q_estimatesOf_2 : decode zc_Q_estimatesOf 2 = .ok (.iconst 0, 1) := by decide +kernel
theorem zd_Q_estimatesOf_3 : decode zc_Q_estimatesOf 3 = .ok (.istore 4, 2) := by decide +kernel
theorem zd_Q_estimatesOf_5 : decode zc_Q_estimatesOf 5 = .ok (.iload 4, 2) := by decide +kernel
theorem zd_Q_estimatesOf_7 : decode zc_Q_estimatesOf 7 = .ok (.aload_n 0, 1) := by decide +kernel
theorem zd_Q_estimatesOf_8 : decode zc_Q_estimatesOf 8 = .ok (.getfield 9, 3) := by decide +kernel
theorem zd_Q_estimatesOf_11 : decode zc_Q_estimatesOf 11 = .ok (.if_icmp .ge 28, 3) := by decide +kernel
theorem zd_Q_estimatesOf_14 : decode zc_Q_estimatesOf 14 = .ok (.aload_n 0, 1) := by decide +kernel
theorem zd_Q_estimatesOf_15 : decode zc_Q_estimatesOf 15 = .ok (.getfield 15, 3) := by decide +kernel
theorem zd_Q_estimatesOf_18 : decode zc_Q_estimatesOf 18 = .ok (.aload_n 0, 1) := by decide +kernel
theorem zd_Q_estimatesOf_19 : decode zc_Q_estimatesOf 19 = .ok (.iload_n 1, 1) := by decide +kernel
theorem zd_Q_estimatesOf_20 : decode zc_Q_estimatesOf 20 = .ok (.iload_n 2, 1) := by decide +kernel
theorem zd_Q_estimatesOf_21 : decode zc_Q_estimatesOf 21 = .ok (.iload 4, 2) := by decide +kernel
theorem zd_Q_estimatesOf_23 : decode zc_Q_estimatesOf 23 = .ok (.invokevirtual 28, 3) := by decide +kernel
theorem zd_Q_estimatesOf_26 : decode zc_Q_estimatesOf 26 = .ok (.iaload, 1) := by decide +kernel
theorem zd_Q_estimatesOf_27 : decode zc_Q_estimatesOf 27 = .ok (.ifCond .eq 6, 3) := by decide +kernel
theorem zd_Q_estimatesOf_30 : decode zc_Q_estimatesOf 30 = .ok (.iinc 3 1, 3) := by decide +kernel
theorem zd_Q_estimatesOf_33 : decode zc_Q_estimatesOf 33 = .ok (.iinc 4 1, 3) := by decide +kernel
theorem zd_Q_estimatesOf_36 : decode zc_Q_estimatesOf 36 = .ok (.goto (-31), 3) := by decide +kernel
theorem zd_Q_estimatesOf_39 : decode zc_Q_estimatesOf 39 = .ok (.iload_n 3, 1) := by decide +kernel
theorem zd_Q_estimatesOf_40 : decode zc_Q_estimatesOf 40 = .ok (.ireturn, 1) := by decide +kernel
theorem zd_C_majority_0 : decode zc_C_majority 0 = .ok (.aload_n 0, 1) := by decide +kernel
theorem zd_C_majority_1 : decode zc_C_majority 1 = .ok (.getfield 18, 3) := by decide +kernel
theorem zd_C_majority_4 : decode zc_C_majority 4 = .ok (.iconst 2, 1) := by decide +kernel
theorem zd_C_majority_5 : decode zc_C_majority 5 = .ok (.idiv, 1) := by decide +kernel
theorem zd_C_majority_6 : decode zc_C_majority 6 = .ok (.iconst 1, 1) := by decide +kernel
theorem zd_C_majority_7 : decode zc_C_majority 7 = .ok (.iadd, 1) := by decide +kernel
theorem zd_C_majority_8 : decode zc_C_majority 8 = .ok (.ireturn, 1) := by decide +kernel
theorem zd_Q_bestBatch_0 : decode zc_Q_bestBatch 0 = .ok (.iconst 0, 1) := by decide +kernel
theorem zd_Q_bestBatch_1 : decode zc_Q_bestBatch 1 = .ok (.istore_n 3, 1) := by decide +kernel
theorem zd_Q_bestBatch_2 : decode zc_Q_bestBatch 2 = .ok (.iconst 0, 1) := by decide +kernel
theorem zd_Q_bestBatch_3 : decode zc_Q_bestBatch 3 = .ok (.istore 4, 2) := by decide +kernel
theorem zd_Q_bestBatch_5 : decode zc_Q_bestBatch 5 = .ok (.iload 4, 2) := by decide +kernel
theorem zd_Q_bestBatch_7 : decode zc_Q_bestBatch 7 = .ok (.aload_n 0, 1) := by decide +kernel
theorem zd_Q_bestBatch_8 : decode zc_Q_bestBatch 8 = .ok (.getfield 9, 3) := by decide +kernel
theorem zd_Q_bestBatch_11 : decode zc_Q_bestBatch 11 = .ok (.if_icmp .ge 48, 3) := by decide +kernel
theorem zd_Q_bestBatch_14 : decode zc_Q_bestBatch 14 = .ok (.aload_n 0, 1) := by decide +kernel
theorem zd_Q_bestBatch_15 : decode zc_Q_bestBatch 15 = .ok (.getfield 15, 3) := by decide +kernel
theorem zd_Q_bestBatch_18 : decode zc_Q_bestBatch 18 = .ok (.aload_n 0, 1) := by decide +kernel
theorem zd_Q_bestBatch_19 : decode zc_Q_bestBatch 19 = .ok (.iload_n 1, 1) := by decide +kernel
theorem zd_Q_bestBatch_20 : decode zc_Q_bestBatch 20 = .ok (.iload_n 2, 1) := by decide +kernel
theorem zd_Q_bestBatch_21 : decode zc_Q_bestBatch 21 = .ok (.iload 4, 2) := by decide +kernel
theorem zd_Q_bestBatch_23 : decode zc_Q_bestBatch 23 = .ok (.invokevirtual 28, 3) := by decide +kernel
theorem zd_Q_bestBatch_26 : decode zc_Q_bestBatch 26 = .ok (.iaload, 1) := by decide +kernel
theorem zd_Q_bestBatch_27 : decode zc_Q_bestBatch 27 = .ok (.istore 5, 2) := by decide +kernel
theorem zd_Q_bestBatch_29 : decode zc_Q_bestBatch 29 = .ok (.iload 5, 2) := by decide +kernel
theorem zd_Q_bestBatch_31 : decode zc_Q_bestBatch 31 = .ok (.ifCond .eq 22, 3) := by decide +kernel
theorem zd_Q_bestBatch_34 : decode zc_Q_bestBatch 34 = .ok (.iload_n 3, 1) := by decide +kernel
theorem zd_Q_bestBatch_35 : decode zc_Q_bestBatch 35 = .ok (.ifCond .eq 15, 3) := by decide +kernel
theorem zd_Q_bestBatch_38 : decode zc_Q_bestBatch 38 = .ok (.iload 5, 2) := by decide +kernel
theorem zd_Q_bestBatch_40 : decode zc_Q_bestBatch 40 = .ok (.bipush 8, 2) := by decide +kernel
theorem zd_Q_bestBatch_42 : decode zc_Q_bestBatch 42 = .ok (.ishr, 1) := by decide +kernel
theorem zd_Q_bestBatch_43 : decode zc_Q_bestBatch 43 = .ok (.iload_n 3, 1) := by decide +kernel
theorem zd_Q_bestBatch_44 : decode zc_Q_bestBatch 44 = .ok (.bipush 8, 2) := by decide +kernel
theorem zd_Q_bestBatch_46 : decode zc_Q_bestBatch 46 = .ok (.ishr, 1) := by decide +kernel
theorem zd_Q_bestBatch_47 : decode zc_Q_bestBatch 47 = .ok (.if_icmp .le 6, 3) := by decide +kernel
theorem zd_Q_bestBatch_50 : decode zc_Q_bestBatch 50 = .ok (.iload 5, 2) := by decide +kernel
theorem zd_Q_bestBatch_52 : decode zc_Q_bestBatch 52 = .ok (.istore_n 3, 1) := by decide +kernel
theorem zd_Q_bestBatch_53 : decode zc_Q_bestBatch 53 = .ok (.iinc 4 1, 3) := by decide +kernel
theorem zd_Q_bestBatch_56 : decode zc_Q_bestBatch 56 = .ok (.goto (-51), 3) := by decide +kernel
theorem zd_Q_bestBatch_59 : decode zc_Q_bestBatch 59 = .ok (.iload_n 3, 1) := by decide +kernel
theorem zd_Q_bestBatch_60 : decode zc_Q_bestBatch 60 = .ok (.sipush 255, 3) := by decide +kernel
theorem zd_Q_bestBatch_63 : decode zc_Q_bestBatch 63 = .ok (.iand, 1) := by decide +kernel
theorem zd_Q_bestBatch_64 : decode zc_Q_bestBatch 64 = .ok (.ireturn, 1) := by decide +kernel
theorem zd_M_adopt_0 : decode zc_M_adopt 0 = .ok (.aload_n 0, 1) := by decide +kernel
theorem zd_M_adopt_1 : decode zc_M_adopt 1 = .ok (.iload_n 1, 1) := by decide +kernel
theorem zd_M_adopt_2 : decode zc_M_adopt 2 = .ok (.putfield 41, 3) := by decide +kernel
theorem zd_M_adopt_5 : decode zc_M_adopt 5 = .ok (.aload_n 0, 1) := by decide +kernel
theorem zd_M_adopt_6 : decode zc_M_adopt 6 = .ok (.aload_n 0, 1) := by decide +kernel
theorem zd_M_adopt_7 : decode zc_M_adopt 7 = .ok (.getfield 38, 3) := by decide +kernel
theorem zd_M_adopt_10 : decode zc_M_adopt 10 = .ok (.putfield 44, 3) := by decide +kernel
theorem zd_M_adopt_13 : decode zc_M_adopt 13 = .ok (.return_, 1) := by decide +kernel
theorem zd_Q_keepVote_0 : decode zc_Q_keepVote 0 = .ok (.iload 4, 2) := by decide +kernel
theorem zd_Q_keepVote_2 : decode zc_Q_keepVote 2 = .ok (.iconst 1, 1) := by decide +kernel
theorem zd_Q_keepVote_3 : decode zc_Q_keepVote 3 = .ok (.if_icmp .ne 22, 3) := by decide +kernel
theorem zd_Q_keepVote_6 : decode zc_Q_keepVote 6 = .ok (.aload_n 0, 1) := by decide +kernel
theorem zd_Q_keepVote_7 : decode zc_Q_keepVote 7 = .ok (.getfield 22, 3) := by decide +kernel
theorem zd_Q_keepVote_10 : decode zc_Q_keepVote 10 = .ok (.iload_n 1, 1) := by decide +kernel
theorem zd_Q_keepVote_11 : decode zc_Q_keepVote 11 = .ok (.iload_n 2, 1) := by decide +kernel
theorem zd_Q_keepVote_12 : decode zc_Q_keepVote 12 = .ok (.invokestatic 32, 3) := by decide +kernel
theorem zd_Q_keepVote_15 : decode zc_Q_keepVote 15 = .ok (.dup2, 1) := by decide +kernel
theorem zd_Q_keepVote_16 : decode zc_Q_keepVote 16 = .ok (.iaload, 1) := by decide +kernel
theorem zd_Q_keepVote_17 : decode zc_Q_keepVote 17 = .ok (.iconst 1, 1) := by decide +kernel
theorem zd_Q_keepVote_18 : decode zc_Q_keepVote 18 = .ok (.iload_n 3, 1) := by decide +kernel
theorem zd_Q_keepVote_19 : decode zc_Q_keepVote 19 = .ok (.ishl, 1) := by decide +kernel
theorem zd_Q_keepVote_20 : decode zc_Q_keepVote 20 = .ok (.ior, 1) := by decide +kernel
theorem zd_Q_keepVote_21 : decode zc_Q_keepVote 21 = .ok (.iastore, 1) := by decide +kernel
theorem zd_Q_keepVote_22 : decode zc_Q_keepVote 22 = .ok (.goto 19, 3) := by decide +kernel
theorem zd_Q_keepVote_25 : decode zc_Q_keepVote 25 = .ok (.aload_n 0, 1) := by decide +kernel
theorem zd_Q_keepVote_26 : decode zc_Q_keepVote 26 = .ok (.getfield 25, 3) := by decide +kernel
theorem zd_Q_keepVote_29 : decode zc_Q_keepVote 29 = .ok (.iload_n 1, 1) := by decide +kernel
theorem zd_Q_keepVote_30 : decode zc_Q_keepVote 30 = .ok (.iload_n 2, 1) := by decide +kernel
theorem zd_Q_keepVote_31 : decode zc_Q_keepVote 31 = .ok (.invokestatic 32, 3) := by decide +kernel
theorem zd_Q_keepVote_34 : decode zc_Q_keepVote 34 = .ok (.dup2, 1) := by decide +kernel
theorem zd_Q_keepVote_35 : decode zc_Q_keepVote 35 = .ok (.iaload, 1) := by decide +kernel
theorem zd_Q_keepVote_36 : decode zc_Q_keepVote 36 = .ok (.iconst 1, 1) := by decide +kernel
theorem zd_Q_keepVote_37 : decode zc_Q_keepVote 37 = .ok (.iload_n 3, 1) := by decide +kernel
theorem zd_Q_keepVote_38 : decode zc_Q_keepVote 38 = .ok (.ishl, 1) := by decide +kernel
theorem zd_Q_keepVote_39 : decode zc_Q_keepVote 39 = .ok (.ior, 1) := by decide +kernel
theorem zd_Q_keepVote_40 : decode zc_Q_keepVote 40 = .ok (.iastore, 1) := by decide +kernel
theorem zd_Q_keepVote_41 : decode zc_Q_keepVote 41 = .ok (.return_, 1) := by decide +kernel
theorem zd_Q_row_0 : decode zc_Q_row 0 = .ok (.iload_n 0, 1) := by decide +kernel
theorem zd_Q_row_1 : decode zc_Q_row 1 = .ok (.bipush 10, 2) := by decide +kernel
theorem zd_Q_row_3 : decode zc_Q_row 3 = .ok (.imul, 1) := by decide +kernel
theorem zd_Q_row_4 : decode zc_Q_row 4 = .ok (.iload_n 1, 1) := by decide +kernel
theorem zd_Q_row_5 : decode zc_Q_row 5 = .ok (.iadd, 1) := by decide +kernel
theorem zd_Q_row_6 : decode zc_Q_row 6 = .ok (.iconst 1, 1) := by decide +kernel
theorem zd_Q_row_7 : decode zc_Q_row 7 = .ok (.isub, 1) := by decide +kernel
theorem zd_Q_row_8 : decode zc_Q_row 8 = .ok (.ireturn, 1) := by decide +kernel
theorem zd_C_answerLeader_0 : decode zc_C_answerLeader 0 = .ok (.aload_n 2, 1) := by decide +kernel
theorem zd_C_answerLeader_1 : decode zc_C_answerLeader 1 = .ok (.getfield 106, 3) := by decide +kernel
theorem zd_C_answerLeader_4 : decode zc_C_answerLeader 4 = .ok (.istore_n 3, 1) := by decide +kernel
theorem zd_C_answerLeader_5 : decode zc_C_answerLeader 5 = .ok (.aload_n 2, 1) := by decide +kernel
theorem zd_C_answerLeader_6 : decode zc_C_answerLeader 6 = .ok (.getfield 109, 3) := by decide +kernel
theorem zd_C_answerLeader_9 : decode zc_C_answerLeader 9 = .ok (.istore 4, 2) := by decide +kernel
theorem zd_C_answerLeader_11 : decode zc_C_answerLeader 11 = .ok (.aload_n 0, 1) := by decide +kernel
theorem zd_C_answerLeader_12 : decode zc_C_answerLeader 12 = .ok (.iload 4, 2) := by decide +kernel
theorem zd_C_answerLeader_14 : decode zc_C_answerLeader 14 = .ok (.invokevirtual 215, 3) := by decide +kernel
theorem zd_C_answerLeader_17 : decode zc_C_answerLeader 17 = .ok (.istore 5, 2) := by decide +kernel
theorem zd_C_answerLeader_19 : decode zc_C_answerLeader 19 = .ok (.aload_n 0, 1) := by decide +kernel
theorem zd_C_answerLeader_20 : decode zc_C_answerLeader 20 = .ok (.getfield 41, 3) := by decide +kernel
theorem zd_C_answerLeader_23 : decode zc_C_answerLeader 23 = .ok (.iload_n 3, 1) := by decide +kernel
theorem zd_C_answerLeader_24 : decode zc_C_answerLeader 24 = .ok (.iload 4, 2) := by decide +kernel
theorem zd_C_answerLeader_26 : decode zc_C_answerLeader 26 = .ok (.iload_n 1, 1) := by decide +kernel
theorem zd_C_answerLeader_27 : decode zc_C_answerLeader 27 = .ok (.invokevirtual 218, 3) := by decide +kernel
theorem zd_C_answerLeader_30 : decode zc_C_answerLeader 30 = .ok (.istore 6, 2) := by decide +kernel
theorem zd_C_answerLeader_32 : decode zc_C_answerLeader 32 = .ok (.iload 6, 2) := by decide +kernel
theorem zd_C_answerLeader_34 : decode zc_C_answerLeader 34 = .ok (.ifCond .ne 14, 3) := by decide +kernel
theorem zd_C_answerLeader_37 : decode zc_C_answerLeader 37 = .ok (.aload_n 2, 1) := by decide +kernel
theorem zd_C_answerLeader_38 : decode zc_C_answerLeader 38 = .ok (.iload 5, 2) := by decide +kernel
theorem zd_C_answerLeader_40 : decode zc_C_answerLeader 40 = .ok (.invokevirtual 100, 3) := by decide +kernel
theorem zd_C_answerLeader_43 : decode zc_C_answerLeader 43 = .ok (.ifCond .ne 5, 3) := by decide +kernel
theorem zd_C_answerLeader_46 : decode zc_C_answerLeader 46 = .ok (.iconst 0, 1) := by decide +kernel
theorem zd_C_answerLeader_47 : decode zc_C_answerLeader 47 = .ok (.ireturn, 1) := by decide +kernel
theorem zd_C_answerLeader_48 : decode zc_C_answerLeader 48 = .ok (.iconst 0, 1) := by decide +kernel
theorem zd_C_answerLeader_49 : decode zc_C_answerLeader 49 = .ok (.istore 7, 2) := by decide +kernel
theorem zd_C_answerLeader_51 : decode zc_C_answerLeader 51 = .ok (.iload 6, 2) := by decide +kernel
theorem zd_C_answerLeader_53 : decode zc_C_answerLeader 53 = .ok (.ifCond .eq 12, 3) := by decide +kernel
theorem zd_C_answerLeader_56 : decode zc_C_answerLeader 56 = .ok (.aload_n 2, 1) := by decide +kernel
theorem zd_C_answerLeader_57 : decode zc_C_answerLeader 57 = .ok (.iload 6, 2) := by decide +kernel
theorem zd_C_answerLeader_59 : decode zc_C_answerLeader 59 = .ok (.invokevirtual 212, 3) := by decide +kernel
theorem zd_C_answerLeader_62 : decode zc_C_answerLeader 62 = .ok (.iconst 1, 1) := by decide +kernel
theorem zd_C_answerLeader_63 : decode zc_C_answerLeader 63 = .ok (.istore 7, 2) := by decide +kernel
theorem zd_C_answerLeader_65 : decode zc_C_answerLeader 65 = .ok (.aload_n 0, 1) := by decide +kernel
theorem zd_C_answerLeader_66 : decode zc_C_answerLeader 66 = .ok (.getfield 34, 3) := by decide +kernel
theorem zd_C_answerLeader_69 : decode zc_C_answerLeader 69 = .ok (.iload_n 1, 1) := by decide +kernel
theorem zd_C_answerLeader_70 : decode zc_C_answerLeader 70 = .ok (.iload 5, 2) := by decide +kernel
theorem zd_C_answerLeader_72 : decode zc_C_answerLeader 72 = .ok (.iconst 4, 1) := by decide +kernel
theorem zd_C_answerLeader_73 : decode zc_C_answerLeader 73 = .ok (.iload_n 3, 1) := by decide +kernel
theorem zd_C_answerLeader_74 : decode zc_C_answerLeader 74 = .ok (.iload 4, 2) := by decide +kernel
theorem zd_C_answerLeader_76 : decode zc_C_answerLeader 76 = .ok (.iload 7, 2) := by decide +kernel
theorem zd_C_answerLeader_78 : decode zc_C_answerLeader 78 = .ok (.iconst 0, 1) := by decide +kernel
theorem zd_C_answerLeader_79 : decode zc_C_answerLeader 79 = .ok (.invokestatic 166, 3) := by decide +kernel
theorem zd_C_answerLeader_82 : decode zc_C_answerLeader 82 = .ok (.invokevirtual 131, 3) := by decide +kernel
theorem zd_C_answerLeader_85 : decode zc_C_answerLeader 85 = .ok (.aload_n 0, 1) := by decide +kernel
theorem zd_C_answerLeader_86 : decode zc_C_answerLeader 86 = .ok (.iload_n 1, 1) := by decide +kernel
theorem zd_C_answerLeader_87 : decode zc_C_answerLeader 87 = .ok (.aload_n 2, 1) := by decide +kernel
theorem zd_C_answerLeader_88 : decode zc_C_answerLeader 88 = .ok (.iload 4, 2) := by decide +kernel
theorem zd_C_answerLeader_90 : decode zc_C_answerLeader 90 = .ok (.iconst 1, 1) := by decide +kernel
theorem zd_C_answerLeader_91 : decode zc_C_answerLeader 91 = .ok (.iadd, 1) := by decide +kernel
theorem zd_C_answerLeader_92 : decode zc_C_answerLeader 92 = .ok (.invokevirtual 199, 3) := by decide +kernel
theorem zd_C_answerLeader_95 : decode zc_C_answerLeader 95 = .ok (.iconst 1, 1) := by decide +kernel
theorem zd_C_answerLeader_96 : decode zc_C_answerLeader 96 = .ok (.ireturn, 1) := by decide +kernel
theorem zd_Q_offerTo_0 : decode zc_Q_offerTo 0 = .ok (.aload_n 0, 1) := by decide +kernel
theorem zd_Q_offerTo_1 : decode zc_Q_offerTo 1 = .ok (.getfield 19, 3) := by decide +kernel
theorem zd_Q_offerTo_4 : decode zc_Q_offerTo 4 = .ok (.aload_n 0, 1) := by decide +kernel
theorem zd_Q_offerTo_5 : decode zc_Q_offerTo 5 = .ok (.iload_n 1, 1) := by decide +kernel
theorem zd_Q_offerTo_6 : decode zc_Q_offerTo 6 = .ok (.iload_n 2, 1) := by decide +kernel
theorem zd_Q_offerTo_7 : decode zc_Q_offerTo 7 = .ok (.iload_n 3, 1) := by decide +kernel
theorem zd_Q_offerTo_8 : decode zc_Q_offerTo 8 = .ok (.invokevirtual 28, 3) := by decide +kernel
theorem zd_Q_offerTo_11 : decode zc_Q_offerTo 11 = .ok (.iaload, 1) := by decide +kernel
theorem zd_Q_offerTo_12 : decode zc_Q_offerTo 12 = .ok (.ireturn, 1) := by decide +kernel
theorem zd_M_hasSuspicion_0 : decode zc_M_hasSuspicion 0 = .ok (.aload_n 0, 1) := by decide +kernel
theorem zd_M_hasSuspicion_1 : decode zc_M_hasSuspicion 1 = .ok (.getfield 25, 3) := by decide +kernel
theorem zd_M_hasSuspicion_4 : decode zc_M_hasSuspicion 4 = .ok (.iload_n 1, 1) := by decide +kernel
theorem zd_M_hasSuspicion_5 : decode zc_M_hasSuspicion 5 = .ok (.ishr, 1) := by decide +kernel
theorem zd_M_hasSuspicion_6 : decode zc_M_hasSuspicion 6 = .ok (.iconst 1, 1) := by decide +kernel
theorem zd_M_hasSuspicion_7 : decode zc_M_hasSuspicion 7 = .ok (.iand, 1) := by decide +kernel
theorem zd_M_hasSuspicion_8 : decode zc_M_hasSuspicion 8 = .ok (.ifCond .eq 7, 3) := by decide +kernel
theorem zd_M_hasSuspicion_11 : decode zc_M_hasSuspicion 11 = .ok (.iconst 1, 1) := by decide +kernel
theorem zd_M_hasSuspicion_12 : decode zc_M_hasSuspicion 12 = .ok (.goto 4, 3) := by decide +kernel
theorem zd_M_hasSuspicion_15 : decode zc_M_hasSuspicion 15 = .ok (.iconst 0, 1) := by decide +kernel
theorem zd_M_hasSuspicion_16 : decode zc_M_hasSuspicion 16 = .ok (.ireturn, 1) := by decide +kernel
theorem zd_C_countVotes_0 : decode zc_C_countVotes 0 = .ok (.aload_n 2, 1) := by decide +kernel
theorem zd_C_countVotes_1 : decode zc_C_countVotes 1 = .ok (.getfield 106, 3) := by decide +kernel
theorem zd_C_countVotes_4 : decode zc_C_countVotes 4 = .ok (.istore_n 3, 1) := by decide +kernel
theorem zd_C_countVotes_5 : decode zc_C_countVotes 5 = .ok (.aload_n 2, 1) := by decide +kernel
theorem zd_C_countVotes_6 : decode zc_C_countVotes 6 = .ok (.getfield 109, 3) := by decide +kernel
theorem zd_C_countVotes_9 : decode zc_C_countVotes 9 = .ok (.istore 4, 2) := by decide +kernel
theorem zd_C_countVotes_11 : decode zc_C_countVotes 11 = .ok (.aload_n 0, 1) := by decide +kernel
theorem zd_C_countVotes_12 : decode zc_C_countVotes 12 = .ok (.getfield 41, 3) := by decide +kernel
theorem zd_C_countVotes_15 : decode zc_C_countVotes 15 = .ok (.iload_n 3, 1) := by decide +kernel
theorem zd_C_countVotes_16 : decode zc_C_countVotes 16 = .ok (.iload 4, 2) := by decide +kernel
theorem zd_C_countVotes_18 : decode zc_C_countVotes 18 = .ok (.invokevirtual 221, 3) := by decide +kernel
theorem zd_C_countVotes_21 : decode zc_C_countVotes 21 = .ok (.aload_n 0, 1) := by decide +kernel
theorem zd_C_countVotes_22 : decode zc_C_countVotes 22 = .ok (.invokevirtual 206, 3) := by decide +kernel
theorem zd_C_countVotes_25 : decode zc_C_countVotes 25 = .ok (.if_icmp .ge 5, 3) := by decide +kernel
theorem zd_C_countVotes_28 : decode zc_C_countVotes 28 = .ok (.iconst 0, 1) := by decide +kernel
theorem zd_C_countVotes_29 : decode zc_C_countVotes 29 = .ok (.ireturn, 1) := by decide +kernel
theorem zd_C_countVotes_30 : decode zc_C_countVotes 30 = .ok (.aload_n 0, 1) := by decide +kernel
theorem zd_C_countVotes_31 : decode zc_C_countVotes 31 = .ok (.getfield 41, 3) := by decide +kernel
theorem zd_C_countVotes_34 : decode zc_C_countVotes 34 = .ok (.iload_n 3, 1) := by decide +kernel
theorem zd_C_countVotes_35 : decode zc_C_countVotes 35 = .ok (.iload 4, 2) := by decide +kernel
theorem zd_C_countVotes_37 : decode zc_C_countVotes 37 = .ok (.invokevirtual 224, 3) := by decide +kernel
theorem zd_C_countVotes_40 : decode zc_C_countVotes 40 = .ok (.ifCond .eq 16, 3) := by decide +kernel
theorem zd_C_countVotes_43 : decode zc_C_countVotes 43 = .ok (.aload_n 0, 1) := by decide +kernel
theorem zd_C_countVotes_44 : decode zc_C_countVotes 44 = .ok (.iload_n 1, 1) := by decide +kernel
theorem zd_C_countVotes_45 : decode zc_C_countVotes 45 = .ok (.iload_n 3, 1) := by decide +kernel
theorem zd_C_countVotes_46 : decode zc_C_countVotes 46 = .ok (.aload_n 2, 1) := by decide +kernel
theorem zd_C_countVotes_47 : decode zc_C_countVotes 47 = .ok (.getfield 112, 3) := by decide +kernel
theorem zd_C_countVotes_50 : decode zc_C_countVotes 50 = .ok (.invokevirtual 157, 3) := by decide +kernel
theorem zd_C_countVotes_53 : decode zc_C_countVotes 53 = .ok (.goto 13, 3) := by decide +kernel
theorem zd_C_countVotes_56 : decode zc_C_countVotes 56 = .ok (.aload_n 0, 1) := by decide +kernel
theorem zd_C_countVotes_57 : decode zc_C_countVotes 57 = .ok (.iload_n 1, 1) := by decide +kernel
theorem zd_C_countVotes_58 : decode zc_C_countVotes 58 = .ok (.aload_n 2, 1) := by decide +kernel
theorem zd_C_countVotes_59 : decode zc_C_countVotes 59 = .ok (.iload 4, 2) := by decide +kernel
theorem zd_C_countVotes_61 : decode zc_C_countVotes 61 = .ok (.iconst 1, 1) := by decide +kernel
theorem zd_C_countVotes_62 : decode zc_C_countVotes 62 = .ok (.iadd, 1) := by decide +kernel
theorem zd_C_countVotes_63 : decode zc_C_countVotes 63 = .ok (.invokevirtual 199, 3) := by decide +kernel
theorem zd_C_countVotes_66 : decode zc_C_countVotes 66 = .ok (.iconst 1, 1) := by decide +kernel
theorem zd_C_countVotes_67 : decode zc_C_countVotes 67 = .ok (.ireturn, 1) := by decide +kernel
theorem zd_Q_votesOf_0 : decode zc_Q_votesOf 0 = .ok (.iload_n 1, 1) := by decide +kernel
theorem zd_Q_votesOf_1 : decode zc_Q_votesOf 1 = .ok (.iload_n 2, 1) := by decide +kernel
theorem zd_Q_votesOf_2 : decode zc_Q_votesOf 2 = .ok (.invokestatic 32, 3) := by decide +kernel
theorem zd_Q_votesOf_5 : decode zc_Q_votesOf 5 = .ok (.istore_n 3, 1) := by decide +kernel
theorem zd_Q_votesOf_6 : decode zc_Q_votesOf 6 = .ok (.aload_n 0, 1) := by decide +kernel
theorem zd_Q_votesOf_7 : decode zc_Q_votesOf 7 = .ok (.getfield 22, 3) := by decide +kernel
theorem zd_Q_votesOf_10 : decode zc_Q_votesOf 10 = .ok (.iload_n 3, 1) := by decide +kernel
theorem zd_Q_votesOf_11 : decode zc_Q_votesOf 11 = .ok (.iaload, 1) := by decide +kernel
theorem zd_Q_votesOf_12 : decode zc_Q_votesOf 12 = .ok (.aload_n 0, 1) := by decide +kernel
theorem zd_Q_votesOf_13 : decode zc_Q_votesOf 13 = .ok (.getfield 25, 3) := by decide +kernel
theorem zd_Q_votesOf_16 : decode zc_Q_votesOf 16 = .ok (.iload_n 3, 1) := by decide +kernel
theorem zd_Q_votesOf_17 : decode zc_Q_votesOf 17 = .ok (.iaload, 1) := by decide +kernel
theorem zd_Q_votesOf_18 : decode zc_Q_votesOf 18 = .ok (.ior, 1) := by decide +kernel
theorem zd_Q_votesOf_19 : decode zc_Q_votesOf 19 = .ok (.invokestatic 36, 3) := by decide +kernel
theorem zd_Q_votesOf_22 : decode zc_Q_votesOf 22 = .ok (.ireturn, 1) := by decide +kernel
theorem zd_Q_allYes_0 : decode zc_Q_allYes 0 = .ok (.aload_n 0, 1) := by decide +kernel
theorem zd_Q_allYes_1 : decode zc_Q_allYes 1 = .ok (.getfield 25, 3) := by decide +kernel
theorem zd_Q_allYes_4 : decode zc_Q_allYes 4 = .ok (.iload_n 1, 1) := by decide +kernel
theorem zd_Q_allYes_5 : decode zc_Q_allYes 5 = .ok (.iload_n 2, 1) := by decide +kernel
theorem zd_Q_allYes_6 : decode zc_Q_allYes 6 = .ok (.invokestatic 32, 3) := by decide +kernel
theorem zd_Q_allYes_9 : decode zc_Q_allYes 9 = .ok (.iaload, 1) := by decide +kernel
theorem zd_Q_allYes_10 : decode zc_Q_allYes 10 = .ok (.ifCond .ne 7, 3) := by decide +kernel
theorem zd_Q_allYes_13 : decode zc_Q_allYes 13 = .ok (.iconst 1, 1) := by decide +kernel
theorem zd_Q_allYes_14 : decode zc_Q_allYes 14 = .ok (.goto 4, 3) := by decide +kernel
theorem zd_Q_allYes_17 : decode zc_Q_allYes 17 = .ok (.iconst 0, 1) := by decide +kernel
theorem zd_Q_allYes_18 : decode zc_Q_allYes 18 = .ok (.ireturn, 1) := by decide +kernel
theorem zd_C_accept_0 : decode zc_C_accept 0 = .ok (.aload_n 0, 1) := by decide +kernel
theorem zd_C_accept_1 : decode zc_C_accept 1 = .ok (.getfield 24, 3) := by decide +kernel
theorem zd_C_accept_4 : decode zc_C_accept 4 = .ok (.iload_n 1, 1) := by decide +kernel
theorem zd_C_accept_5 : decode zc_C_accept 5 = .ok (.aaload, 1) := by decide +kernel
theorem zd_C_accept_6 : decode zc_C_accept 6 = .ok (.getfield 128, 3) := by decide +kernel
theorem zd_C_accept_9 : decode zc_C_accept 9 = .ok (.iload_n 2, 1) := by decide +kernel
theorem zd_C_accept_10 : decode zc_C_accept 10 = .ok (.iaload, 1) := by decide +kernel
theorem zd_C_accept_11 : decode zc_C_accept 11 = .ok (.ifCond .ne 28, 3) := by decide +kernel
theorem zd_C_accept_14 : decode zc_C_accept 14 = .ok (.aload_n 0, 1) := by decide +kernel
theorem zd_C_accept_15 : decode zc_C_accept 15 = .ok (.getfield 24, 3) := by decide +kernel
theorem zd_C_accept_18 : decode zc_C_accept 18 = .ok (.iload_n 1, 1) := by decide +kernel
theorem zd_C_accept_19 : decode zc_C_accept 19 = .ok (.aaload, 1) := by decide +kernel
theorem zd_C_accept_20 : decode zc_C_accept 20 = .ok (.getfield 128, 3) := by decide +kernel
theorem zd_C_accept_23 : decode zc_C_accept 23 = .ok (.iload_n 2, 1) := by decide +kernel
theorem zd_C_accept_24 : decode zc_C_accept 24 = .ok (.iload_n 3, 1) := by decide +kernel
theorem zd_C_accept_25 : decode zc_C_accept 25 = .ok (.iastore, 1) := by decide +kernel
theorem zd_C_accept_26 : decode zc_C_accept 26 = .ok (.aload_n 0, 1) := by decide +kernel
theorem zd_C_accept_27 : decode zc_C_accept 27 = .ok (.iload_n 1, 1) := by decide +kernel
theorem zd_C_accept_28 : decode zc_C_accept 28 = .ok (.iconst 5, 1) := by decide +kernel
theorem zd_C_accept_29 : decode zc_C_accept 29 = .ok (.iload_n 2, 1) := by decide +kernel
theorem zd_C_accept_30 : decode zc_C_accept 30 = .ok (.iconst 0, 1) := by decide +kernel
theorem zd_C_accept_31 : decode zc_C_accept 31 = .ok (.iload_n 3, 1) := by decide +kernel
theorem zd_C_accept_32 : decode zc_C_accept 32 = .ok (.iconst 0, 1) := by decide +kernel
theorem zd_C_accept_33 : decode zc_C_accept 33 = .ok (.invokestatic 166, 3) := by decide +kernel
theorem zd_C_accept_36 : decode zc_C_accept 36 = .ok (.invokevirtual 170, 3) := by decide +kernel
theorem zd_C_accept_39 : decode zc_C_accept 39 = .ok (.return_, 1) := by decide +kernel
theorem zd_C_deliver_0 : decode zc_C_deliver 0 = .ok (.aload_n 0, 1) := by decide +kernel
theorem zd_C_deliver_1 : decode zc_C_deliver 1 = .ok (.iload_n 1, 1) := by decide +kernel
theorem zd_C_deliver_2 : decode zc_C_deliver 2 = .ok (.invokevirtual 45, 3) := by decide +kernel
theorem zd_C_deliver_5 : decode zc_C_deliver 5 = .ok (.ifCond .eq 16, 3) := by decide +kernel
theorem zd_C_deliver_8 : decode zc_C_deliver 8 = .ok (.aload_n 0, 1) := by decide +kernel
theorem zd_C_deliver_9 : decode zc_C_deliver 9 = .ok (.iload_n 2, 1) := by decide +kernel
theorem zd_C_deliver_10 : decode zc_C_deliver 10 = .ok (.invokevirtual 45, 3) := by decide +kernel
theorem zd_C_deliver_13 : decode zc_C_deliver 13 = .ok (.ifCond .eq 8, 3) := by decide +kernel
theorem zd_C_deliver_16 : decode zc_C_deliver 16 = .ok (.iload_n 1, 1) := by decide +kernel
theorem zd_C_deliver_17 : decode zc_C_deliver 17 = .ok (.iload_n 2, 1) := by decide +kernel
theorem zd_C_deliver_18 : decode zc_C_deliver 18 = .ok (.if_icmp .ne 5, 3) := by decide +kernel
theorem zd_C_deliver_21 : decode zc_C_deliver 21 = .ok (.iconst (-1), 1) := by decide +kernel
theorem zd_C_deliver_22 : decode zc_C_deliver 22 = .ok (.ireturn, 1) := by decide +kernel
theorem zd_C_deliver_23 : decode zc_C_deliver 23 = .ok (.aload_n 0, 1) := by decide +kernel
theorem zd_C_deliver_24 : decode zc_C_deliver 24 = .ok (.getfield 24, 3) := by decide +kernel
theorem zd_C_deliver_27 : decode zc_C_deliver 27 = .ok (.iload_n 2, 1) := by decide +kernel
theorem zd_C_deliver_28 : decode zc_C_deliver 28 = .ok (.aaload, 1) := by decide +kernel
theorem zd_C_deliver_29 : decode zc_C_deliver 29 = .ok (.getfield 49, 3) := by decide +kernel
theorem zd_C_deliver_32 : decode zc_C_deliver 32 = .ok (.ifCond .eq 6, 3) := by decide +kernel
theorem zd_C_deliver_35 : decode zc_C_deliver 35 = .ok (.bipush (-2), 2) := by decide +kernel
theorem zd_C_deliver_37 : decode zc_C_deliver 37 = .ok (.ireturn, 1) := by decide +kernel
theorem zd_C_deliver_38 : decode zc_C_deliver 38 = .ok (.aload_n 0, 1) := by decide +kernel
theorem zd_C_deliver_39 : decode zc_C_deliver 39 = .ok (.getfield 34, 3) := by decide +kernel
theorem zd_C_deliver_42 : decode zc_C_deliver 42 = .ok (.iload_n 1, 1) := by decide +kernel
theorem zd_C_deliver_43 : decode zc_C_deliver 43 = .ok (.iload_n 2, 1) := by decide +kernel
theorem zd_C_deliver_44 : decode zc_C_deliver 44 = .ok (.iload_n 3, 1) := by decide +kernel
theorem zd_C_deliver_45 : decode zc_C_deliver 45 = .ok (.invokevirtual 63, 3) := by decide +kernel
theorem zd_C_deliver_48 : decode zc_C_deliver 48 = .ok (.istore 4, 2) := by decide +kernel
theorem zd_C_deliver_50 : decode zc_C_deliver 50 = .ok (.iload 4, 2) := by decide +kernel
theorem zd_C_deliver_52 : decode zc_C_deliver 52 = .ok (.ifCond .ge 6, 3) := by decide +kernel
theorem zd_C_deliver_55 : decode zc_C_deliver 55 = .ok (.bipush (-3), 2) := by decide +kernel
theorem zd_C_deliver_57 : decode zc_C_deliver 57 = .ok (.ireturn, 1) := by decide +kernel
theorem zd_C_deliver_58 : decode zc_C_deliver 58 = .ok (.aload_n 0, 1) := by decide +kernel
theorem zd_C_deliver_59 : decode zc_C_deliver 59 = .ok (.getfield 34, 3) := by decide +kernel
theorem zd_C_deliver_62 : decode zc_C_deliver 62 = .ok (.iload 4, 2) := by decide +kernel
theorem zd_C_deliver_64 : decode zc_C_deliver 64 = .ok (.invokevirtual 67, 3) := by decide +kernel
theorem zd_C_deliver_67 : decode zc_C_deliver 67 = .ok (.istore 5, 2) := by decide +kernel
theorem zd_C_deliver_69 : decode zc_C_deliver 69 = .ok (.aload_n 0, 1) := by decide +kernel
theorem zd_C_deliver_70 : decode zc_C_deliver 70 = .ok (.getfield 34, 3) := by decide +kernel
theorem zd_C_deliver_73 : decode zc_C_deliver 73 = .ok (.iload 4, 2) := by decide +kernel
theorem zd_C_deliver_75 : decode zc_C_deliver 75 = .ok (.invokevirtual 71, 3) := by decide +kernel
theorem zd_C_deliver_78 : decode zc_C_deliver 78 = .ok (.aload_n 0, 1) := by decide +kernel
theorem zd_C_deliver_79 : decode zc_C_deliver 79 = .ok (.iload_n 1, 1) := by decide +kernel
theorem zd_C_deliver_80 : decode zc_C_deliver 80 = .ok (.iload_n 2, 1) := by decide +kernel
theorem zd_C_deliver_81 : decode zc_C_deliver 81 = .ok (.iload 5, 2) := by decide +kernel
theorem zd_C_deliver_83 : decode zc_C_deliver 83 = .ok (.invokevirtual 74, 3) := by decide +kernel
theorem zd_C_deliver_86 : decode zc_C_deliver 86 = .ok (.aload_n 0, 1) := by decide +kernel
theorem zd_C_deliver_87 : decode zc_C_deliver 87 = .ok (.iload_n 2, 1) := by decide +kernel
theorem zd_C_deliver_88 : decode zc_C_deliver 88 = .ok (.invokevirtual 60, 3) := by decide +kernel
theorem zd_C_deliver_91 : decode zc_C_deliver 91 = .ok (.iload 5, 2) := by decide +kernel
theorem zd_C_deliver_93 : decode zc_C_deliver 93 = .ok (.invokestatic 78, 3) := by decide +kernel
theorem zd_C_deliver_96 : decode zc_C_deliver 96 = .ok (.ireturn, 1) := by decide +kernel
theorem zd_P_placeOf_0 : decode zc_P_placeOf 0 = .ok (.iconst 0, 1) := by decide +kernel
theorem zd_P_placeOf_1 : decode zc_P_placeOf 1 = .ok (.istore 4, 2) := by decide +kernel
theorem zd_P_placeOf_3 : decode zc_P_placeOf 3 = .ok (.iconst 0, 1) := by decide +kernel
theorem zd_P_placeOf_4 : decode zc_P_placeOf 4 = .ok (.istore 5, 2) := by decide +kernel
theorem zd_P_placeOf_6 : decode zc_P_placeOf 6 = .ok (.iload 5, 2) := by decide +kernel
theorem zd_P_placeOf_8 : decode zc_P_placeOf 8 = .ok (.aload_n 0, 1) := by decide +kernel
theorem zd_P_placeOf_9 : decode zc_P_placeOf 9 = .ok (.getfield 19, 3) := by decide +kernel
theorem zd_P_placeOf_12 : decode zc_P_placeOf 12 = .ok (.if_icmp .ge 32, 3) := by decide +kernel
theorem zd_P_placeOf_15 : decode zc_P_placeOf 15 = .ok (.aload_n 0, 1) := by decide +kernel
theorem zd_P_placeOf_16 : decode zc_P_placeOf 16 = .ok (.iload 5, 2) := by decide +kernel
theorem zd_P_placeOf_18 : decode zc_P_placeOf 18 = .ok (.iload_n 1, 1) := by decide +kernel
theorem zd_P_placeOf_19 : decode zc_P_placeOf 19 = .ok (.iload_n 2, 1) := by decide +kernel
theorem zd_P_placeOf_20 : decode zc_P_placeOf 20 = .ok (.invokevirtual 25, 3) := by decide +kernel
theorem zd_P_placeOf_23 : decode zc_P_placeOf 23 = .ok (.ifCond .eq 15, 3) := by decide +kernel
theorem zd_P_placeOf_26 : decode zc_P_placeOf 26 = .ok (.iload 4, 2) := by decide +kernel
theorem zd_P_placeOf_28 : decode zc_P_placeOf 28 = .ok (.iload_n 3, 1) := by decide +kernel
theorem zd_P_placeOf_29 : decode zc_P_placeOf 29 = .ok (.if_icmp .ne 6, 3) := by decide +kernel
theorem zd_P_placeOf_32 : decode zc_P_placeOf 32 = .ok (.iload 5, 2) := by decide +kernel
theorem zd_P_placeOf_34 : decode zc_P_placeOf 34 = .ok (.ireturn, 1) := by decide +kernel
theorem zd_P_placeOf_35 : decode zc_P_placeOf 35 = .ok (.iinc 4 1, 3) := by decide +kernel
theorem zd_P_placeOf_38 : decode zc_P_placeOf 38 = .ok (.iinc 5 1, 3) := by decide +kernel
theorem zd_P_placeOf_41 : decode zc_P_placeOf 41 = .ok (.goto (-35), 3) := by decide +kernel
theorem zd_P_placeOf_44 : decode zc_P_placeOf 44 = .ok (.iconst (-1), 1) := by decide +kernel
theorem zd_P_placeOf_45 : decode zc_P_placeOf 45 = .ok (.ireturn, 1) := by decide +kernel
theorem zd_P_goes_0 : decode zc_P_goes 0 = .ok (.aload_n 0, 1) := by decide +kernel
theorem zd_P_goes_1 : decode zc_P_goes 1 = .ok (.getfield 15, 3) := by decide +kernel
theorem zd_P_goes_4 : decode zc_P_goes 4 = .ok (.iload_n 1, 1) := by decide +kernel
theorem zd_P_goes_5 : decode zc_P_goes 5 = .ok (.iaload, 1) := by decide +kernel
theorem zd_P_goes_6 : decode zc_P_goes 6 = .ok (.bipush 22, 2) := by decide +kernel
theorem zd_P_goes_8 : decode zc_P_goes 8 = .ok (.ishr, 1) := by decide +kernel
theorem zd_P_goes_9 : decode zc_P_goes 9 = .ok (.iload_n 2, 1) := by decide +kernel
theorem zd_P_goes_10 : decode zc_P_goes 10 = .ok (.iconst 3, 1) := by decide +kernel
theorem zd_P_goes_11 : decode zc_P_goes 11 = .ok (.ishl, 1) := by decide +kernel
theorem zd_P_goes_12 : decode zc_P_goes 12 = .ok (.iload_n 3, 1) := by decide +kernel
theorem zd_P_goes_13 : decode zc_P_goes 13 = .ok (.ior, 1) := by decide +kernel
theorem zd_P_goes_14 : decode zc_P_goes 14 = .ok (.if_icmp .ne 7, 3) := by decide +kernel
theorem zd_P_goes_17 : decode zc_P_goes 17 = .ok (.iconst 1, 1) := by decide +kernel
theorem zd_P_goes_18 : decode zc_P_goes 18 = .ok (.goto 4, 3) := by decide +kernel
theorem zd_P_goes_21 : decode zc_P_goes 21 = .ok (.iconst 0, 1) := by decide +kernel
theorem zd_P_goes_22 : decode zc_P_goes 22 = .ok (.ireturn, 1) := by decide +kernel
theorem zd_P_textAt_0 : decode zc_P_textAt 0 = .ok (.aload_n 0, 1) := by decide +kernel
theorem zd_P_textAt_1 : decode zc_P_textAt 1 = .ok (.getfield 15, 3) := by decide +kernel
theorem zd_P_textAt_4 : decode zc_P_textAt 4 = .ok (.iload_n 1, 1) := by decide +kernel
theorem zd_P_textAt_5 : decode zc_P_textAt 5 = .ok (.iaload, 1) := by decide +kernel
theorem zd_P_textAt_6 : decode zc_P_textAt 6 = .ok (.ldc 29, 2) := by decide +kernel
theorem zd_P_textAt_8 : decode zc_P_textAt 8 = .ok (.iand, 1) := by decide +kernel
theorem zd_P_textAt_9 : decode zc_P_textAt 9 = .ok (.ireturn, 1) := by decide +kernel
theorem zd_P_takeAway_0 : decode zc_P_takeAway 0 = .ok (.aload_n 0, 1) := by decide +kernel
theorem zd_P_takeAway_1 : decode zc_P_takeAway 1 = .ok (.dup, 1) := by decide +kernel
theorem zd_P_takeAway_2 : decode zc_P_takeAway 2 = .ok (.getfield 19, 3) := by decide +kernel
theorem zd_P_takeAway_5 : decode zc_P_takeAway 5 = .ok (.iconst 1, 1) := by decide +kernel
theorem zd_P_takeAway_6 : decode zc_P_takeAway 6 = .ok (.isub, 1) := by decide +kernel
theorem zd_P_takeAway_7 : decode zc_P_takeAway 7 = .ok (.putfield 19, 3) := by decide +kernel
theorem zd_P_takeAway_10 : decode zc_P_takeAway 10 = .ok (.aload_n 0, 1) := by decide +kernel
theorem zd_P_takeAway_11 : decode zc_P_takeAway 11 = .ok (.getfield 15, 3) := by decide +kernel
theorem zd_P_takeAway_14 : decode zc_P_takeAway 14 = .ok (.iload_n 1, 1) := by decide +kernel
theorem zd_P_takeAway_15 : decode zc_P_takeAway 15 = .ok (.iconst 1, 1) := by decide +kernel
theorem zd_P_takeAway_16 : decode zc_P_takeAway 16 = .ok (.iadd, 1) := by decide +kernel
theorem zd_P_takeAway_17 : decode zc_P_takeAway 17 = .ok (.aload_n 0, 1) := by decide +kernel
theorem zd_P_takeAway_18 : decode zc_P_takeAway 18 = .ok (.getfield 15, 3) := by decide +kernel
theorem zd_P_takeAway_21 : decode zc_P_takeAway 21 = .ok (.iload_n 1, 1) := by decide +kernel
theorem zd_P_takeAway_22 : decode zc_P_takeAway 22 = .ok (.aload_n 0, 1) := by decide +kernel
theorem zd_P_takeAway_23 : decode zc_P_takeAway 23 = .ok (.getfield 19, 3) := by decide +kernel
theorem zd_P_takeAway_26 : decode zc_P_takeAway 26 = .ok (.iload_n 1, 1) := by decide +kernel
theorem zd_P_takeAway_27 : decode zc_P_takeAway 27 = .ok (.isub, 1) := by decide +kernel
theorem zd_P_takeAway_28 : decode zc_P_takeAway 28 = .ok (.invokestatic 30, 3) := by decide +kernel
theorem zd_P_takeAway_31 : decode zc_P_takeAway 31 = .ok (.return_, 1) := by decide +kernel
theorem zd_C_receive_0 : decode zc_C_receive 0 = .ok (.iload_n 3, 1) := by decide +kernel
theorem zd_C_receive_1 : decode zc_C_receive 1 = .ok (.invokestatic 134, 3) := by decide +kernel
theorem zd_C_receive_4 : decode zc_C_receive 4 = .ok (.istore 4, 2) := by decide +kernel
theorem zd_C_receive_6 : decode zc_C_receive 6 = .ok (.iload_n 3, 1) := by decide +kernel
theorem zd_C_receive_7 : decode zc_C_receive 7 = .ok (.invokestatic 137, 3) := by decide +kernel
theorem zd_C_receive_10 : decode zc_C_receive 10 = .ok (.istore 5, 2) := by decide +kernel
theorem zd_C_receive_12 : decode zc_C_receive 12 = .ok (.iload_n 3, 1) := by decide +kernel
theorem zd_C_receive_13 : decode zc_C_receive 13 = .ok (.invokestatic 140, 3) := by decide +kernel
theorem zd_C_receive_16 : decode zc_C_receive 16 = .ok (.istore 6, 2) := by decide +kernel
theorem zd_C_receive_18 : decode zc_C_receive 18 = .ok (.iload_n 3, 1) := by decide +kernel
theorem zd_C_receive_19 : decode zc_C_receive 19 = .ok (.invokestatic 78, 3) := by decide +kernel
theorem zd_C_receive_22 : decode zc_C_receive 22 = .ok (.tableswitch 95 1 4 #[30, 40, 61, 78], 30) := by decide +kernel
theorem zd_C_receive_52 : decode zc_C_receive 52 = .ok (.aload_n 0, 1) := by decide +kernel
theorem zd_C_receive_53 : decode zc_C_receive 53 = .ok (.iload_n 2, 1) := by decide +kernel
theorem zd_C_receive_54 : decode zc_C_receive 54 = .ok (.iload 6, 2) := by decide +kernel
theorem zd_C_receive_56 : decode zc_C_receive 56 = .ok (.invokevirtual 56, 3) := by decide +kernel
theorem zd_C_receive_59 : decode zc_C_receive 59 = .ok (.goto 67, 3) := by decide +kernel
theorem zd_C_receive_62 : decode zc_C_receive 62 = .ok (.aload_n 0, 1) := by decide +kernel
theorem zd_C_receive_63 : decode zc_C_receive 63 = .ok (.getfield 41, 3) := by decide +kernel
theorem zd_C_receive_66 : decode zc_C_receive 66 = .ok (.iload 4, 2) := by decide +kernel
theorem zd_C_receive_68 : decode zc_C_receive 68 = .ok (.iload 5, 2) := by decide +kernel
theorem zd_C_receive_70 : decode zc_C_receive 70 = .ok (.iload_n 1, 1) := by decide +kernel
theorem zd_C_receive_71 : decode zc_C_receive 71 = .ok (.iload 6, 2) := by decide +kernel
theorem zd_C_receive_73 : decode zc_C_receive 73 = .ok (.iload_n 3, 1) := by decide +kernel
theorem zd_C_receive_74 : decode zc_C_receive 74 = .ok (.invokestatic 143, 3) := by decide +kernel
theorem zd_C_receive_77 : decode zc_C_receive 77 = .ok (.invokevirtual 146, 3) := by decide +kernel
theorem zd_C_receive_80 : decode zc_C_receive 80 = .ok (.goto 46, 3) := by decide +kernel
theorem zd_C_receive_83 : decode zc_C_receive 83 = .ok (.aload_n 0, 1) := by decide +kernel
theorem zd_C_receive_84 : decode zc_C_receive 84 = .ok (.getfield 41, 3) := by decide +kernel
theorem zd_C_receive_87 : decode zc_C_receive 87 = .ok (.iload 4, 2) := by decide +kernel
theorem zd_C_receive_89 : decode zc_C_receive 89 = .ok (.iload 5, 2) := by decide +kernel
theorem zd_C_receive_91 : decode zc_C_receive 91 = .ok (.iload_n 2, 1) := by decide +kernel
theorem zd_C_receive_92 : decode zc_C_receive 92 = .ok (.iload 6, 2) := by decide +kernel
theorem zd_C_receive_94 : decode zc_C_receive 94 = .ok (.invokevirtual 150, 3) := by decide +kernel
theorem zd_C_receive_97 : decode zc_C_receive 97 = .ok (.goto 29, 3) := by decide +kernel
theorem zd_C_receive_100 : decode zc_C_receive 100 = .ok (.aload_n 0, 1) := by decide +kernel
theorem zd_C_receive_101 : decode zc_C_receive 101 = .ok (.getfield 41, 3) := by decide +kernel
theorem zd_C_receive_104 : decode zc_C_receive 104 = .ok (.iload 4, 2) := by decide +kernel
theorem zd_C_receive_106 : decode zc_C_receive 106 = .ok (.iload 5, 2) := by decide +kernel
theorem zd_C_receive_108 : decode zc_C_receive 108 = .ok (.iload_n 1, 1) := by decide +kernel
theorem zd_C_receive_109 : decode zc_C_receive 109 = .ok (.iload 6, 2) := by decide +kernel
theorem zd_C_receive_111 : decode zc_C_receive 111 = .ok (.invokevirtual 154, 3) := by decide +kernel
theorem zd_C_receive_114 : decode zc_C_receive 114 = .ok (.goto 12, 3) := by decide +kernel
theorem zd_C_receive_117 : decode zc_C_receive 117 = .ok (.aload_n 0, 1) := by decide +kernel
theorem zd_C_receive_118 : decode zc_C_receive 118 = .ok (.iload_n 2, 1) := by decide +kernel
theorem zd_C_receive_119 : decode zc_C_receive 119 = .ok (.iload 4, 2) := by decide +kernel
theorem zd_C_receive_121 : decode zc_C_receive 121 = .ok (.iload 6, 2) := by decide +kernel
theorem zd_C_receive_123 : decode zc_C_receive 123 = .ok (.invokevirtual 157, 3) := by decide +kernel
theorem zd_C_receive_126 : decode zc_C_receive 126 = .ok (.return_, 1) := by decide +kernel
theorem zd_L_councilOf_0 : decode zc_L_councilOf 0 = .ok (.iload_n 0, 1) := by decide +kernel
theorem zd_L_councilOf_1 : decode zc_L_councilOf 1 = .ok (.iconst 3, 1) := by decide +kernel
theorem zd_L_councilOf_2 : decode zc_L_councilOf 2 = .ok (.ishr, 1) := by decide +kernel
theorem zd_L_councilOf_3 : decode zc_L_councilOf 3 = .ok (.bipush 7, 2) := by decide +kernel
theorem zd_L_councilOf_5 : decode zc_L_councilOf 5 = .ok (.iand, 1) := by decide +kernel
theorem zd_L_councilOf_6 : decode zc_L_councilOf 6 = .ok (.ireturn, 1) := by decide +kernel
theorem zd_L_roundOf_0 : decode zc_L_roundOf 0 = .ok (.iload_n 0, 1) := by decide +kernel
theorem zd_L_roundOf_1 : decode zc_L_roundOf 1 = .ok (.bipush 6, 2) := by decide +kernel
theorem zd_L_roundOf_3 : decode zc_L_roundOf 3 = .ok (.ishr, 1) := by decide +kernel
theorem zd_L_roundOf_4 : decode zc_L_roundOf 4 = .ok (.bipush 15, 2) := by decide +kernel
theorem zd_L_roundOf_6 : decode zc_L_roundOf 6 = .ok (.iand, 1) := by decide +kernel
theorem zd_L_roundOf_7 : decode zc_L_roundOf 7 = .ok (.ireturn, 1) := by decide +kernel
theorem zd_L_wordOf_0 : decode zc_L_wordOf 0 = .ok (.iload_n 0, 1) := by decide +kernel
theorem zd_L_wordOf_1 : decode zc_L_wordOf 1 = .ok (.bipush 10, 2) := by decide +kernel
theorem zd_L_wordOf_3 : decode zc_L_wordOf 3 = .ok (.ishr, 1) := by decide +kernel
theorem zd_L_wordOf_4 : decode zc_L_wordOf 4 = .ok (.sipush 255, 3) := by decide +kernel
theorem zd_L_wordOf_7 : decode zc_L_wordOf 7 = .ok (.iand, 1) := by decide +kernel
theorem zd_L_wordOf_8 : decode zc_L_wordOf 8 = .ok (.ireturn, 1) := by decide +kernel
theorem zd_L_kindOf_0 : decode zc_L_kindOf 0 = .ok (.iload_n 0, 1) := by decide +kernel
theorem zd_L_kindOf_1 : decode zc_L_kindOf 1 = .ok (.bipush 7, 2) := by decide +kernel
theorem zd_L_kindOf_3 : decode zc_L_kindOf 3 = .ok (.iand, 1) := by decide +kernel
theorem zd_L_kindOf_4 : decode zc_L_kindOf 4 = .ok (.ireturn, 1) := by decide +kernel
theorem zd_L_stampOf_0 : decode zc_L_stampOf 0 = .ok (.iload_n 0, 1) := by decide +kernel
theorem zd_L_stampOf_1 : decode zc_L_stampOf 1 = .ok (.bipush 18, 2) := by decide +kernel
theorem zd_L_stampOf_3 : decode zc_L_stampOf 3 = .ok (.ishr, 1) := by decide +kernel
theorem zd_L_stampOf_4 : decode zc_L_stampOf 4 = .ok (.bipush 15, 2) := by decide +kernel
theorem zd_L_stampOf_6 : decode zc_L_stampOf 6 = .ok (.iand, 1) := by decide +kernel
theorem zd_L_stampOf_7 : decode zc_L_stampOf 7 = .ok (.ireturn, 1) := by decide +kernel
theorem zd_Q_keepOffer_0 : decode zc_Q_keepOffer 0 = .ok (.aload_n 0, 1) := by decide +kernel
theorem zd_Q_keepOffer_1 : decode zc_Q_keepOffer 1 = .ok (.getfield 19, 3) := by decide +kernel
theorem zd_Q_keepOffer_4 : decode zc_Q_keepOffer 4 = .ok (.aload_n 0, 1) := by decide +kernel
theorem zd_Q_keepOffer_5 : decode zc_Q_keepOffer 5 = .ok (.iload_n 1, 1) := by decide +kernel
theorem zd_Q_keepOffer_6 : decode zc_Q_keepOffer 6 = .ok (.iload_n 2, 1) := by decide +kernel
theorem zd_Q_keepOffer_7 : decode zc_Q_keepOffer 7 = .ok (.iload_n 3, 1) := by decide +kernel
theorem zd_Q_keepOffer_8 : decode zc_Q_keepOffer 8 = .ok (.invokevirtual 28, 3) := by decide +kernel
theorem zd_Q_keepOffer_11 : decode zc_Q_keepOffer 11 = .ok (.iload 4, 2) := by decide +kernel
theorem zd_Q_keepOffer_13 : decode zc_Q_keepOffer 13 = .ok (.iastore, 1) := by decide +kernel
theorem zd_Q_keepOffer_14 : decode zc_Q_keepOffer 14 = .ok (.return_, 1) := by decide +kernel
theorem zd_C_suspect_0 : decode zc_C_suspect 0 = .ok (.aload_n 0, 1) := by decide +kernel
theorem zd_C_suspect_1 : decode zc_C_suspect 1 = .ok (.iload_n 1, 1) := by decide +kernel
theorem zd_C_suspect_2 : decode zc_C_suspect 2 = .ok (.invokevirtual 45, 3) := by decide +kernel
theorem zd_C_suspect_5 : decode zc_C_suspect 5 = .ok (.ifCond .eq 28, 3) := by decide +kernel
theorem zd_C_suspect_8 : decode zc_C_suspect 8 = .ok (.aload_n 0, 1) := by decide +kernel
theorem zd_C_suspect_9 : decode zc_C_suspect 9 = .ok (.iload_n 2, 1) := by decide +kernel
theorem zd_C_suspect_10 : decode zc_C_suspect 10 = .ok (.invokevirtual 45, 3) := by decide +kernel
theorem zd_C_suspect_13 : decode zc_C_suspect 13 = .ok (.ifCond .eq 20, 3) := by decide +kernel
theorem zd_C_suspect_16 : decode zc_C_suspect 16 = .ok (.iload_n 1, 1) := by decide +kernel
theorem zd_C_suspect_17 : decode zc_C_suspect 17 = .ok (.iload_n 2, 1) := by decide +kernel
theorem zd_C_suspect_18 : decode zc_C_suspect 18 = .ok (.if_icmp .eq 15, 3) := by decide +kernel
theorem zd_C_suspect_21 : decode zc_C_suspect 21 = .ok (.aload_n 0, 1) := by decide +kernel
theorem zd_C_suspect_22 : decode zc_C_suspect 22 = .ok (.getfield 24, 3) := by decide +kernel
theorem zd_C_suspect_25 : decode zc_C_suspect 25 = .ok (.iload_n 1, 1) := by decide +kernel
theorem zd_C_suspect_26 : decode zc_C_suspect 26 = .ok (.aaload, 1) := by decide +kernel
theorem zd_C_suspect_27 : decode zc_C_suspect 27 = .ok (.getfield 49, 3) := by decide +kernel
theorem zd_C_suspect_30 : decode zc_C_suspect 30 = .ok (.ifCond .eq 5, 3) := by decide +kernel
theorem zd_C_suspect_33 : decode zc_C_suspect 33 = .ok (.iconst 0, 1) := by decide +kernel
theorem zd_C_suspect_34 : decode zc_C_suspect 34 = .ok (.ireturn, 1) := by decide +kernel
theorem zd_C_suspect_35 : decode zc_C_suspect 35 = .ok (.aload_n 0, 1) := by decide +kernel
theorem zd_C_suspect_36 : decode zc_C_suspect 36 = .ok (.getfield 24, 3) := by decide +kernel
theorem zd_C_suspect_39 : decode zc_C_suspect 39 = .ok (.iload_n 1, 1) := by decide +kernel
theorem zd_C_suspect_40 : decode zc_C_suspect 40 = .ok (.aaload, 1) := by decide +kernel
theorem zd_C_suspect_41 : decode zc_C_suspect 41 = .ok (.iload_n 2, 1) := by decide +kernel
theorem zd_C_suspect_42 : decode zc_C_suspect 42 = .ok (.iload_n 3, 1) := by decide +kernel
theorem zd_C_suspect_43 : decode zc_C_suspect 43 = .ok (.invokevirtual 83, 3) := by decide +kernel
theorem zd_C_suspect_46 : decode zc_C_suspect 46 = .ok (.aload_n 0, 1) := by decide +kernel
theorem zd_C_suspect_47 : decode zc_C_suspect 47 = .ok (.iload_n 1, 1) := by decide +kernel
theorem zd_C_suspect_48 : decode zc_C_suspect 48 = .ok (.invokevirtual 60, 3) := by decide +kernel
theorem zd_C_suspect_51 : decode zc_C_suspect 51 = .ok (.iconst 1, 1) := by decide +kernel
theorem zd_C_suspect_52 : decode zc_C_suspect 52 = .ok (.ireturn, 1) := by decide +kernel
theorem zd_M_setSuspicion_0 : decode zc_M_setSuspicion 0 = .ok (.iload_n 2, 1) := by decide +kernel
theorem zd_M_setSuspicion_1 : decode zc_M_setSuspicion 1 = .ok (.ifCond .eq 18, 3) := by decide +kernel
theorem zd_M_setSuspicion_4 : decode zc_M_setSuspicion 4 = .ok (.aload_n 0, 1) := by decide +kernel
theorem zd_M_setSuspicion_5 : decode zc_M_setSuspicion 5 = .ok (.dup, 1) := by decide +kernel
theorem zd_M_setSuspicion_6 : decode zc_M_setSuspicion 6 = .ok (.getfield 25, 3) := by decide +kernel
theorem zd_M_setSuspicion_9 : decode zc_M_setSuspicion 9 = .ok (.iconst 1, 1) := by decide +kernel
theorem zd_M_setSuspicion_10 : decode zc_M_setSuspicion 10 = .ok (.iload_n 1, 1) := by decide +kernel
theorem zd_M_setSuspicion_11 : decode zc_M_setSuspicion 11 = .ok (.ishl, 1) := by decide +kernel
theorem zd_M_setSuspicion_12 : decode zc_M_setSuspicion 12 = .ok (.ior, 1) := by decide +kernel
theorem zd_M_setSuspicion_13 : decode zc_M_setSuspicion 13 = .ok (.putfield 25, 3) := by decide +kernel
theorem zd_M_setSuspicion_16 : decode zc_M_setSuspicion 16 = .ok (.goto 17, 3) := by decide +kernel
theorem zd_M_setSuspicion_19 : decode zc_M_setSuspicion 19 = .ok (.aload_n 0, 1) := by decide +kernel
theorem zd_M_setSuspicion_20 : decode zc_M_setSuspicion 20 = .ok (.dup, 1) := by decide +kernel
theorem zd_M_setSuspicion_21 : decode zc_M_setSuspicion 21 = .ok (.getfield 25, 3) := by decide +kernel
theorem zd_M_setSuspicion_24 : decode zc_M_setSuspicion 24 = .ok (.iconst 1, 1) := by decide +kernel
theorem zd_M_setSuspicion_25 : decode zc_M_setSuspicion 25 = .ok (.iload_n 1, 1) := by decide +kernel
theorem zd_M_setSuspicion_26 : decode zc_M_setSuspicion 26 = .ok (.ishl, 1) := by decide +kernel
theorem zd_M_setSuspicion_27 : decode zc_M_setSuspicion 27 = .ok (.iconst (-1), 1) := by decide +kernel
theorem zd_M_setSuspicion_28 : decode zc_M_setSuspicion 28 = .ok (.ixor, 1) := by decide +kernel
theorem zd_M_setSuspicion_29 : decode zc_M_setSuspicion 29 = .ok (.iand, 1) := by decide +kernel
theorem zd_M_setSuspicion_30 : decode zc_M_setSuspicion 30 = .ok (.putfield 25, 3) := by decide +kernel
theorem zd_M_setSuspicion_33 : decode zc_M_setSuspicion 33 = .ok (.return_, 1) := by decide +kernel
theorem zd_C_crash_0 : decode zc_C_crash 0 = .ok (.aload_n 0, 1) := by decide +kernel
theorem zd_C_crash_1 : decode zc_C_crash 1 = .ok (.iload_n 1, 1) := by decide +kernel
theorem zd_C_crash_2 : decode zc_C_crash 2 = .ok (.invokevirtual 45, 3) := by decide +kernel
theorem zd_C_crash_5 : decode zc_C_crash 5 = .ok (.ifCond .eq 26, 3) := by decide +kernel
theorem zd_C_crash_8 : decode zc_C_crash 8 = .ok (.aload_n 0, 1) := by decide +kernel
theorem zd_C_crash_9 : decode zc_C_crash 9 = .ok (.getfield 24, 3) := by decide +kernel
theorem zd_C_crash_12 : decode zc_C_crash 12 = .ok (.iload_n 1, 1) := by decide +kernel
theorem zd_C_crash_13 : decode zc_C_crash 13 = .ok (.aaload, 1) := by decide +kernel
theorem zd_C_crash_14 : decode zc_C_crash 14 = .ok (.getfield 49, 3) := by decide +kernel
theorem zd_C_crash_17 : decode zc_C_crash 17 = .ok (.ifCond .ne 14, 3) := by decide +kernel
theorem zd_C_crash_20 : decode zc_C_crash 20 = .ok (.aload_n 0, 1) := by decide +kernel
theorem zd_C_crash_21 : decode zc_C_crash 21 = .ok (.getfield 87, 3) := by decide +kernel
theorem zd_C_crash_24 : decode zc_C_crash 24 = .ok (.aload_n 0, 1) := by decide +kernel
theorem zd_C_crash_25 : decode zc_C_crash 25 = .ok (.invokevirtual 90, 3) := by decide +kernel
theorem zd_C_crash_28 : decode zc_C_crash 28 = .ok (.if_icmp .ne 5, 3) := by decide +kernel
theorem zd_C_crash_31 : decode zc_C_crash 31 = .ok (.iconst 0, 1) := by decide +kernel
theorem zd_C_crash_32 : decode zc_C_crash 32 = .ok (.ireturn, 1) := by decide +kernel
theorem zd_C_crash_33 : decode zc_C_crash 33 = .ok (.iload_n 2, 1) := by decide +kernel
theorem zd_C_crash_34 : decode zc_C_crash 34 = .ok (.ifCond .lt 9, 3) := by decide +kernel
theorem zd_C_crash_37 : decode zc_C_crash 37 = .ok (.iload_n 2, 1) := by decide +kernel
theorem zd_C_crash_38 : decode zc_C_crash 38 = .ok (.bipush 20, 2) := by decide +kernel
theorem zd_C_crash_40 : decode zc_C_crash 40 = .ok (.if_icmp .le 5, 3) := by decide +kernel
theorem zd_C_crash_43 : decode zc_C_crash 43 = .ok (.iconst 0, 1) := by decide +kernel
theorem zd_C_crash_44 : decode zc_C_crash 44 = .ok (.ireturn, 1) := by decide +kernel
theorem zd_C_crash_45 : decode zc_C_crash 45 = .ok (.aload_n 0, 1) := by decide +kernel
theorem zd_C_crash_46 : decode zc_C_crash 46 = .ok (.getfield 24, 3) := by decide +kernel
theorem zd_C_crash_49 : decode zc_C_crash 49 = .ok (.iload_n 1, 1) := by decide +kernel
theorem zd_C_crash_50 : decode zc_C_crash 50 = .ok (.aaload, 1) := by decide +kernel
theorem zd_C_crash_51 : decode zc_C_crash 51 = .ok (.iconst 1, 1) := by decide +kernel
theorem zd_C_crash_52 : decode zc_C_crash 52 = .ok (.putfield 49, 3) := by decide +kernel
theorem zd_C_crash_55 : decode zc_C_crash 55 = .ok (.aload_n 0, 1) := by decide +kernel
theorem zd_C_crash_56 : decode zc_C_crash 56 = .ok (.dup, 1) := by decide +kernel
theorem zd_C_crash_57 : decode zc_C_crash 57 = .ok (.getfield 87, 3) := by decide +kernel
theorem zd_C_crash_60 : decode zc_C_crash 60 = .ok (.iconst 1, 1) := by decide +kernel
theorem zd_C_crash_61 : decode zc_C_crash 61 = .ok (.iadd, 1) := by decide +kernel
theorem zd_C_crash_62 : decode zc_C_crash 62 = .ok (.putfield 87, 3) := by decide +kernel
theorem zd_C_crash_65 : decode zc_C_crash 65 = .ok (.aload_n 0, 1) := by decide +kernel
theorem zd_C_crash_66 : decode zc_C_crash 66 = .ok (.getfield 34, 3) := by decide +kernel
theorem zd_C_crash_69 : decode zc_C_crash 69 = .ok (.iload_n 1, 1) := by decide +kernel
theorem zd_C_crash_70 : decode zc_C_crash 70 = .ok (.iload_n 2, 1) := by decide +kernel
theorem zd_C_crash_71 : decode zc_C_crash 71 = .ok (.invokevirtual 94, 3) := by decide +kernel
theorem zd_C_crash_74 : decode zc_C_crash 74 = .ok (.iconst 1, 1) := by decide +kernel
theorem zd_C_crash_75 : decode zc_C_crash 75 = .ok (.ireturn, 1) := by decide +kernel
theorem zd_C_mostCrashes_0 : decode zc_C_mostCrashes 0 = .ok (.aload_n 0, 1) := by decide +kernel
theorem zd_C_mostCrashes_1 : decode zc_C_mostCrashes 1 = .ok (.getfield 18, 3) := by decide +kernel
theorem zd_C_mostCrashes_4 : decode zc_C_mostCrashes 4 = .ok (.iconst 1, 1) := by decide +kernel
theorem zd_C_mostCrashes_5 : decode zc_C_mostCrashes 5 = .ok (.isub, 1) := by decide +kernel
theorem zd_C_mostCrashes_6 : decode zc_C_mostCrashes 6 = .ok (.iconst 2, 1) := by decide +kernel
theorem zd_C_mostCrashes_7 : decode zc_C_mostCrashes 7 = .ok (.idiv, 1) := by decide +kernel
theorem zd_C_mostCrashes_8 : decode zc_C_mostCrashes 8 = .ok (.ireturn, 1) := by decide +kernel
theorem zd_P_loseLatest_0 : decode zc_P_loseLatest 0 = .ok (.iload_n 2, 1) := by decide +kernel
theorem zd_P_loseLatest_1 : decode zc_P_loseLatest 1 = .ok (.istore_n 3, 1) := by decide +kernel
theorem zd_P_loseLatest_2 : decode zc_P_loseLatest 2 = .ok (.aload_n 0, 1) := by decide +kernel
theorem zd_P_loseLatest_3 : decode zc_P_loseLatest 3 = .ok (.getfield 19, 3) := by decide +kernel
theorem zd_P_loseLatest_6 : decode zc_P_loseLatest 6 = .ok (.iconst 1, 1) := by decide +kernel
theorem zd_P_loseLatest_7 : decode zc_P_loseLatest 7 = .ok (.isub, 1) := by decide +kernel
theorem zd_P_loseLatest_8 : decode zc_P_loseLatest 8 = .ok (.istore 4, 2) := by decide +kernel
theorem zd_P_loseLatest_10 : decode zc_P_loseLatest 10 = .ok (.iload 4, 2) := by decide +kernel
theorem zd_P_loseLatest_12 : decode zc_P_loseLatest 12 = .ok (.ifCond .lt 32, 3) := by decide +kernel
theorem zd_P_loseLatest_15 : decode zc_P_loseLatest 15 = .ok (.iload_n 3, 1) := by decide +kernel
theorem zd_P_loseLatest_16 : decode zc_P_loseLatest 16 = .ok (.ifCond .le 28, 3) := by decide +kernel
theorem zd_P_loseLatest_19 : decode zc_P_loseLatest 19 = .ok (.aload_n 0, 1) := by decide +kernel
theorem zd_P_loseLatest_20 : decode zc_P_loseLatest 20 = .ok (.iload 4, 2) := by decide +kernel
theorem zd_P_loseLatest_22 : decode zc_P_loseLatest 22 = .ok (.iload_n 1, 1) := by decide +kernel
theorem zd_P_loseLatest_23 : decode zc_P_loseLatest 23 = .ok (.invokevirtual 36, 3) := by decide +kernel
theorem zd_P_loseLatest_26 : decode zc_P_loseLatest 26 = .ok (.ifCond .eq 12, 3) := by decide +kernel
theorem zd_P_loseLatest_29 : decode zc_P_loseLatest 29 = .ok (.aload_n 0, 1) := by decide +kernel
theorem zd_P_loseLatest_30 : decode zc_P_loseLatest 30 = .ok (.iload 4, 2) := by decide +kernel
theorem zd_P_loseLatest_32 : decode zc_P_loseLatest 32 = .ok (.invokevirtual 40, 3) := by decide +kernel
theorem zd_P_loseLatest_35 : decode zc_P_loseLatest 35 = .ok (.iinc 3 (-1), 3) := by decide +kernel
theorem zd_P_loseLatest_38 : decode zc_P_loseLatest 38 = .ok (.iinc 4 (-1), 3) := by decide +kernel
theorem zd_P_loseLatest_41 : decode zc_P_loseLatest 41 = .ok (.goto (-31), 3) := by decide +kernel
theorem zd_P_loseLatest_44 : decode zc_P_loseLatest 44 = .ok (.return_, 1) := by decide +kernel
theorem zd_P_comesFrom_0 : decode zc_P_comesFrom 0 = .ok (.aload_n 0, 1) := by decide +kernel
theorem zd_P_comesFrom_1 : decode zc_P_comesFrom 1 = .ok (.getfield 15, 3) := by decide +kernel
theorem zd_P_comesFrom_4 : decode zc_P_comesFrom 4 = .ok (.iload_n 1, 1) := by decide +kernel
theorem zd_P_comesFrom_5 : decode zc_P_comesFrom 5 = .ok (.iaload, 1) := by decide +kernel
theorem zd_P_comesFrom_6 : decode zc_P_comesFrom 6 = .ok (.bipush 22, 2) := by decide +kernel
theorem zd_P_comesFrom_8 : decode zc_P_comesFrom 8 = .ok (.ishr, 1) := by decide +kernel
theorem zd_P_comesFrom_9 : decode zc_P_comesFrom 9 = .ok (.iconst 3, 1) := by decide +kernel
theorem zd_P_comesFrom_10 : decode zc_P_comesFrom 10 = .ok (.ishr, 1) := by decide +kernel
theorem zd_P_comesFrom_11 : decode zc_P_comesFrom 11 = .ok (.iload_n 2, 1) := by decide +kernel
theorem zd_P_comesFrom_12 : decode zc_P_comesFrom 12 = .ok (.if_icmp .ne 7, 3) := by decide +kernel
theorem zd_P_comesFrom_15 : decode zc_P_comesFrom 15 = .ok (.iconst 1, 1) := by decide +kernel
theorem zd_P_comesFrom_16 : decode zc_P_comesFrom 16 = .ok (.goto 4, 3) := by decide +kernel
theorem zd_P_comesFrom_19 : decode zc_P_comesFrom 19 = .ok (.iconst 0, 1) := by decide +kernel
theorem zd_P_comesFrom_20 : decode zc_P_comesFrom 20 = .ok (.ireturn, 1) := by decide +kernel
theorem zd_C_letters_0 : decode zc_C_letters 0 = .ok (.aload_n 0, 1) := by decide +kernel
theorem zd_C_letters_1 : decode zc_C_letters 1 = .ok (.iload_n 1, 1) := by decide +kernel
theorem zd_C_letters_2 : decode zc_C_letters 2 = .ok (.invokevirtual 45, 3) := by decide +kernel
theorem zd_C_letters_5 : decode zc_C_letters 5 = .ok (.ifCond .eq 11, 3) := by decide +kernel
theorem zd_C_letters_8 : decode zc_C_letters 8 = .ok (.aload_n 0, 1) := by decide +kernel
theorem zd_C_letters_9 : decode zc_C_letters 9 = .ok (.iload_n 2, 1) := by decide +kernel
theorem zd_C_letters_10 : decode zc_C_letters 10 = .ok (.invokevirtual 45, 3) := by decide +kernel
theorem zd_C_letters_13 : decode zc_C_letters 13 = .ok (.ifCond .ne 5, 3) := by decide +kernel
theorem zd_C_letters_16 : decode zc_C_letters 16 = .ok (.iconst (-1), 1) := by decide +kernel
theorem zd_C_letters_17 : decode zc_C_letters 17 = .ok (.ireturn, 1) := by decide +kernel
theorem zd_C_letters_18 : decode zc_C_letters 18 = .ok (.aload_n 0, 1) := by decide +kernel
theorem zd_C_letters_19 : decode zc_C_letters 19 = .ok (.getfield 34, 3) := by decide +kernel
theorem zd_C_letters_22 : decode zc_C_letters 22 = .ok (.iload_n 1, 1) := by decide +kernel
theorem zd_C_letters_23 : decode zc_C_letters 23 = .ok (.iload_n 2, 1) := by decide +kernel
theorem zd_C_letters_24 : decode zc_C_letters 24 = .ok (.invokevirtual 97, 3) := by decide +kernel
theorem zd_C_letters_27 : decode zc_C_letters 27 = .ok (.ireturn, 1) := by decide +kernel
theorem zd_P_howMany_0 : decode zc_P_howMany 0 = .ok (.iconst 0, 1) := by decide +kernel
theorem zd_P_howMany_1 : decode zc_P_howMany 1 = .ok (.istore_n 3, 1) := by decide +kernel
theorem zd_P_howMany_2 : decode zc_P_howMany 2 = .ok (.iconst 0, 1) := by decide +kernel
theorem zd_P_howMany_3 : decode zc_P_howMany 3 = .ok (.istore 4, 2) := by decide +kernel
theorem zd_P_howMany_5 : decode zc_P_howMany 5 = .ok (.iload 4, 2) := by decide +kernel
theorem zd_P_howMany_7 : decode zc_P_howMany 7 = .ok (.aload_n 0, 1) := by decide +kernel
theorem zd_P_howMany_8 : decode zc_P_howMany 8 = .ok (.getfield 19, 3) := by decide +kernel
theorem zd_P_howMany_11 : decode zc_P_howMany 11 = .ok (.if_icmp .ge 23, 3) := by decide +kernel
theorem zd_P_howMany_14 : decode zc_P_howMany 14 = .ok (.aload_n 0, 1) := by decide +kernel
theorem zd_P_howMany_15 : decode zc_P_howMany 15 = .ok (.iload 4, 2) := by decide +kernel
theorem zd_P_howMany_17 : decode zc_P_howMany 17 = .ok (.iload_n 1, 1) := by decide +kernel
theorem zd_P_howMany_18 : decode zc_P_howMany 18 = .ok (.iload_n 2, 1) := by decide +kernel
theorem zd_P_howMany_19 : decode zc_P_howMany 19 = .ok (.invokevirtual 25, 3) := by decide +kernel
theorem zd_P_howMany_22 : decode zc_P_howMany 22 = .ok (.ifCond .eq 6, 3) := by decide +kernel
theorem zd_P_howMany_25 : decode zc_P_howMany 25 = .ok (.iinc 3 1, 3) := by decide +kernel
theorem zd_P_howMany_28 : decode zc_P_howMany 28 = .ok (.iinc 4 1, 3) := by decide +kernel
theorem zd_P_howMany_31 : decode zc_P_howMany 31 = .ok (.goto (-26), 3) := by decide +kernel
theorem zd_P_howMany_34 : decode zc_P_howMany 34 = .ok (.iload_n 3, 1) := by decide +kernel
theorem zd_P_howMany_35 : decode zc_P_howMany 35 = .ok (.ireturn, 1) := by decide +kernel
theorem zd_C_letter_0 : decode zc_C_letter 0 = .ok (.aload_n 0, 1) := by decide +kernel
theorem zd_C_letter_1 : decode zc_C_letter 1 = .ok (.iload_n 1, 1) := by decide +kernel
theorem zd_C_letter_2 : decode zc_C_letter 2 = .ok (.invokevirtual 45, 3) := by decide +kernel
theorem zd_C_letter_5 : decode zc_C_letter 5 = .ok (.ifCond .eq 11, 3) := by decide +kernel
theorem zd_C_letter_8 : decode zc_C_letter 8 = .ok (.aload_n 0, 1) := by decide +kernel
theorem zd_C_letter_9 : decode zc_C_letter 9 = .ok (.iload_n 2, 1) := by decide +kernel
theorem zd_C_letter_10 : decode zc_C_letter 10 = .ok (.invokevirtual 45, 3) := by decide +kernel
theorem zd_C_letter_13 : decode zc_C_letter 13 = .ok (.ifCond .ne 5, 3) := by decide +kernel
theorem zd_C_letter_16 : decode zc_C_letter 16 = .ok (.iconst 0, 1) := by decide +kernel
theorem zd_C_letter_17 : decode zc_C_letter 17 = .ok (.ireturn, 1) := by decide +kernel
theorem zd_C_letter_18 : decode zc_C_letter 18 = .ok (.aload_n 0, 1) := by decide +kernel
theorem zd_C_letter_19 : decode zc_C_letter 19 = .ok (.getfield 34, 3) := by decide +kernel
theorem zd_C_letter_22 : decode zc_C_letter 22 = .ok (.iload_n 1, 1) := by decide +kernel
theorem zd_C_letter_23 : decode zc_C_letter 23 = .ok (.iload_n 2, 1) := by decide +kernel
theorem zd_C_letter_24 : decode zc_C_letter 24 = .ok (.iload_n 3, 1) := by decide +kernel
theorem zd_C_letter_25 : decode zc_C_letter 25 = .ok (.invokevirtual 63, 3) := by decide +kernel
theorem zd_C_letter_28 : decode zc_C_letter 28 = .ok (.istore 4, 2) := by decide +kernel
theorem zd_C_letter_30 : decode zc_C_letter 30 = .ok (.iload 4, 2) := by decide +kernel
theorem zd_C_letter_32 : decode zc_C_letter 32 = .ok (.ifCond .ge 7, 3) := by decide +kernel
theorem zd_C_letter_35 : decode zc_C_letter 35 = .ok (.iconst 0, 1) := by decide +kernel
theorem zd_C_letter_36 : decode zc_C_letter 36 = .ok (.goto 12, 3) := by decide +kernel
theorem zd_C_letter_39 : decode zc_C_letter 39 = .ok (.aload_n 0, 1) := by decide +kernel
theorem zd_C_letter_40 : decode zc_C_letter 40 = .ok (.getfield 34, 3) := by decide +kernel
theorem zd_C_letter_43 : decode zc_C_letter 43 = .ok (.iload 4, 2) := by decide +kernel
theorem zd_C_letter_45 : decode zc_C_letter 45 = .ok (.invokevirtual 67, 3) := by decide +kernel
theorem zd_C_letter_48 : decode zc_C_letter 48 = .ok (.ireturn, 1) := by decide +kernel
theorem zd_C_suspects_0 : decode zc_C_suspects 0 = .ok (.aload_n 0, 1) := by decide +kernel
theorem zd_C_suspects_1 : decode zc_C_suspects 1 = .ok (.iload_n 1, 1) := by decide +kernel
theorem zd_C_suspects_2 : decode zc_C_suspects 2 = .ok (.invokevirtual 45, 3) := by decide +kernel
theorem zd_C_suspects_5 : decode zc_C_suspects 5 = .ok (.ifCond .eq 28, 3) := by decide +kernel
theorem zd_C_suspects_8 : decode zc_C_suspects 8 = .ok (.aload_n 0, 1) := by decide +kernel
theorem zd_C_suspects_9 : decode zc_C_suspects 9 = .ok (.iload_n 2, 1) := by decide +kernel
theorem zd_C_suspects_10 : decode zc_C_suspects 10 = .ok (.invokevirtual 45, 3) := by decide +kernel
theorem zd_C_suspects_13 : decode zc_C_suspects 13 = .ok (.ifCond .eq 20, 3) := by decide +kernel
theorem zd_C_suspects_16 : decode zc_C_suspects 16 = .ok (.aload_n 0, 1) := by decide +kernel
theorem zd_C_suspects_17 : decode zc_C_suspects 17 = .ok (.getfield 24, 3) := by decide +kernel
theorem zd_C_suspects_20 : decode zc_C_suspects 20 = .ok (.iload_n 1, 1) := by decide +kernel
theorem zd_C_suspects_21 : decode zc_C_suspects 21 = .ok (.aaload, 1) := by decide +kernel
theorem zd_C_suspects_22 : decode zc_C_suspects 22 = .ok (.iload_n 2, 1) := by decide +kernel
theorem zd_C_suspects_23 : decode zc_C_suspects 23 = .ok (.invokevirtual 100, 3) := by decide +kernel
theorem zd_C_suspects_26 : decode zc_C_suspects 26 = .ok (.ifCond .eq 7, 3) := by decide +kernel
theorem zd_C_suspects_29 : decode zc_C_suspects 29 = .ok (.iconst 1, 1) := by decide +kernel
theorem zd_C_suspects_30 : decode zc_C_suspects 30 = .ok (.goto 4, 3) := by decide +kernel
theorem zd_C_suspects_33 : decode zc_C_suspects 33 = .ok (.iconst 0, 1) := by decide +kernel
theorem zd_C_suspects_34 : decode zc_C_suspects 34 = .ok (.ireturn, 1) := by decide +kernel
theorem zd_C_state_0 : decode zc_C_state 0 = .ok (.aload_n 0, 1) := by decide +kernel
theorem zd_C_state_1 : decode zc_C_state 1 = .ok (.iload_n 1, 1) := by decide +kernel
theorem zd_C_state_2 : decode zc_C_state 2 = .ok (.invokevirtual 45, 3) := by decide +kernel
theorem zd_C_state_5 : decode zc_C_state 5 = .ok (.ifCond .ne 5, 3) := by decide +kernel
theorem zd_C_state_8 : decode zc_C_state 8 = .ok (.iconst (-1), 1) := by decide +kernel
theorem zd_C_state_9 : decode zc_C_state 9 = .ok (.ireturn, 1) := by decide +kernel
theorem zd_C_state_10 : decode zc_C_state 10 = .ok (.aload_n 0, 1) := by decide +kernel
theorem zd_C_state_11 : decode zc_C_state 11 = .ok (.getfield 24, 3) := by decide +kernel
theorem zd_C_state_14 : decode zc_C_state 14 = .ok (.iload_n 1, 1) := by decide +kernel
theorem zd_C_state_15 : decode zc_C_state 15 = .ok (.aaload, 1) := by decide +kernel
theorem zd_C_state_16 : decode zc_C_state 16 = .ok (.getfield 49, 3) := by decide +kernel
theorem zd_C_state_19 : decode zc_C_state 19 = .ok (.ifCond .eq 7, 3) := by decide +kernel
theorem zd_C_state_22 : decode zc_C_state 22 = .ok (.iconst 5, 1) := by decide +kernel
theorem zd_C_state_23 : decode zc_C_state 23 = .ok (.goto 12, 3) := by decide +kernel
theorem zd_C_state_26 : decode zc_C_state 26 = .ok (.aload_n 0, 1) := by decide +kernel
theorem zd_C_state_27 : decode zc_C_state 27 = .ok (.getfield 24, 3) := by decide +kernel
theorem zd_C_state_30 : decode zc_C_state 30 = .ok (.iload_n 1, 1) := by decide +kernel
theorem zd_C_state_31 : decode zc_C_state 31 = .ok (.aaload, 1) := by decide +kernel
theorem zd_C_state_32 : decode zc_C_state 32 = .ok (.getfield 103, 3) := by decide +kernel
theorem zd_C_state_35 : decode zc_C_state 35 = .ok (.ireturn, 1) := by decide +kernel
theorem zd_C_finished_0 : decode zc_C_finished 0 = .ok (.aload_n 0, 1) := by decide +kernel
theorem zd_C_finished_1 : decode zc_C_finished 1 = .ok (.iload_n 1, 1) := by decide +kernel
theorem zd_C_finished_2 : decode zc_C_finished 2 = .ok (.invokevirtual 45, 3) := by decide +kernel
theorem zd_C_finished_5 : decode zc_C_finished 5 = .ok (.ifCond .eq 15, 3) := by decide +kernel
theorem zd_C_finished_8 : decode zc_C_finished 8 = .ok (.aload_n 0, 1) := by decide +kernel
theorem zd_C_finished_9 : decode zc_C_finished 9 = .ok (.getfield 24, 3) := by decide +kernel
theorem zd_C_finished_12 : decode zc_C_finished 12 = .ok (.iload_n 1, 1) := by decide +kernel
theorem zd_C_finished_13 : decode zc_C_finished 13 = .ok (.aaload, 1) := by decide +kernel
theorem zd_C_finished_14 : decode zc_C_finished 14 = .ok (.getfield 106, 3) := by decide +kernel
theorem zd_C_finished_17 : decode zc_C_finished 17 = .ok (.goto 4, 3) := by decide +kernel
theorem zd_C_finished_20 : decode zc_C_finished 20 = .ok (.iconst (-1), 1) := by decide +kernel
theorem zd_C_finished_21 : decode zc_C_finished 21 = .ok (.ireturn, 1) := by decide +kernel
theorem zd_C_round_0 : decode zc_C_round 0 = .ok (.aload_n 0, 1) := by decide +kernel
theorem zd_C_round_1 : decode zc_C_round 1 = .ok (.iload_n 1, 1) := by decide +kernel
theorem zd_C_round_2 : decode zc_C_round 2 = .ok (.invokevirtual 45, 3) := by decide +kernel
theorem zd_C_round_5 : decode zc_C_round 5 = .ok (.ifCond .eq 15, 3) := by decide +kernel
theorem zd_C_round_8 : decode zc_C_round 8 = .ok (.aload_n 0, 1) := by decide +kernel
theorem zd_C_round_9 : decode zc_C_round 9 = .ok (.getfield 24, 3) := by decide +kernel
theorem zd_C_round_12 : decode zc_C_round 12 = .ok (.iload_n 1, 1) := by decide +kernel
theorem zd_C_round_13 : decode zc_C_round 13 = .ok (.aaload, 1) := by decide +kernel
theorem zd_C_round_14 : decode zc_C_round 14 = .ok (.getfield 109, 3) := by decide +kernel
theorem zd_C_round_17 : decode zc_C_round 17 = .ok (.goto 4, 3) := by decide +kernel
theorem zd_C_round_20 : decode zc_C_round 20 = .ok (.iconst (-1), 1) := by decide +kernel
theorem zd_C_round_21 : decode zc_C_round 21 = .ok (.ireturn, 1) := by decide +kernel
theorem zd_C_estimate_0 : decode zc_C_estimate 0 = .ok (.aload_n 0, 1) := by decide +kernel
theorem zd_C_estimate_1 : decode zc_C_estimate 1 = .ok (.iload_n 1, 1) := by decide +kernel
theorem zd_C_estimate_2 : decode zc_C_estimate 2 = .ok (.invokevirtual 45, 3) := by decide +kernel
theorem zd_C_estimate_5 : decode zc_C_estimate 5 = .ok (.ifCond .eq 15, 3) := by decide +kernel
theorem zd_C_estimate_8 : decode zc_C_estimate 8 = .ok (.aload_n 0, 1) := by decide +kernel
theorem zd_C_estimate_9 : decode zc_C_estimate 9 = .ok (.getfield 24, 3) := by decide +kernel
theorem zd_C_estimate_12 : decode zc_C_estimate 12 = .ok (.iload_n 1, 1) := by decide +kernel
theorem zd_C_estimate_13 : decode zc_C_estimate 13 = .ok (.aaload, 1) := by decide +kernel
theorem zd_C_estimate_14 : decode zc_C_estimate 14 = .ok (.getfield 112, 3) := by decide +kernel
theorem zd_C_estimate_17 : decode zc_C_estimate 17 = .ok (.goto 4, 3) := by decide +kernel
theorem zd_C_estimate_20 : decode zc_C_estimate 20 = .ok (.iconst (-1), 1) := by decide +kernel
theorem zd_C_estimate_21 : decode zc_C_estimate 21 = .ok (.ireturn, 1) := by decide +kernel
theorem zd_C_stamp_0 : decode zc_C_stamp 0 = .ok (.aload_n 0, 1) := by decide +kernel
theorem zd_C_stamp_1 : decode zc_C_stamp 1 = .ok (.iload_n 1, 1) := by decide +kernel
theorem zd_C_stamp_2 : decode zc_C_stamp 2 = .ok (.invokevirtual 45, 3) := by decide +kernel
theorem zd_C_stamp_5 : decode zc_C_stamp 5 = .ok (.ifCond .eq 15, 3) := by decide +kernel
theorem zd_C_stamp_8 : decode zc_C_stamp 8 = .ok (.aload_n 0, 1) := by decide +kernel
theorem zd_C_stamp_9 : decode zc_C_stamp 9 = .ok (.getfield 24, 3) := by decide +kernel
theorem zd_C_stamp_12 : decode zc_C_stamp 12 = .ok (.iload_n 1, 1) := by decide +kernel
theorem zd_C_stamp_13 : decode zc_C_stamp 13 = .ok (.aaload, 1) := by decide +kernel
theorem zd_C_stamp_14 : decode zc_C_stamp 14 = .ok (.getfield 115, 3) := by decide +kernel
theorem zd_C_stamp_17 : decode zc_C_stamp 17 = .ok (.goto 4, 3) := by decide +kernel
theorem zd_C_stamp_20 : decode zc_C_stamp 20 = .ok (.iconst (-1), 1) := by decide +kernel
theorem zd_C_stamp_21 : decode zc_C_stamp 21 = .ok (.ireturn, 1) := by decide +kernel
theorem zd_C_known_0 : decode zc_C_known 0 = .ok (.aload_n 0, 1) := by decide +kernel
theorem zd_C_known_1 : decode zc_C_known 1 = .ok (.iload_n 1, 1) := by decide +kernel
theorem zd_C_known_2 : decode zc_C_known 2 = .ok (.invokevirtual 45, 3) := by decide +kernel
theorem zd_C_known_5 : decode zc_C_known 5 = .ok (.ifCond .eq 15, 3) := by decide +kernel
theorem zd_C_known_8 : decode zc_C_known 8 = .ok (.aload_n 0, 1) := by decide +kernel
theorem zd_C_known_9 : decode zc_C_known 9 = .ok (.getfield 24, 3) := by decide +kernel
theorem zd_C_known_12 : decode zc_C_known 12 = .ok (.iload_n 1, 1) := by decide +kernel
theorem zd_C_known_13 : decode zc_C_known 13 = .ok (.aaload, 1) := by decide +kernel
theorem zd_C_known_14 : decode zc_C_known 14 = .ok (.getfield 118, 3) := by decide +kernel
theorem zd_C_known_17 : decode zc_C_known 17 = .ok (.goto 4, 3) := by decide +kernel
theorem zd_C_known_20 : decode zc_C_known 20 = .ok (.iconst (-1), 1) := by decide +kernel
theorem zd_C_known_21 : decode zc_C_known 21 = .ok (.ireturn, 1) := by decide +kernel
theorem zd_C_delivered_0 : decode zc_C_delivered 0 = .ok (.aload_n 0, 1) := by decide +kernel
theorem zd_C_delivered_1 : decode zc_C_delivered 1 = .ok (.iload_n 1, 1) := by decide +kernel
theorem zd_C_delivered_2 : decode zc_C_delivered 2 = .ok (.invokevirtual 45, 3) := by decide +kernel
theorem zd_C_delivered_5 : decode zc_C_delivered 5 = .ok (.ifCond .eq 15, 3) := by decide +kernel
theorem zd_C_delivered_8 : decode zc_C_delivered 8 = .ok (.aload_n 0, 1) := by decide +kernel
theorem zd_C_delivered_9 : decode zc_C_delivered 9 = .ok (.getfield 24, 3) := by decide +kernel
theorem zd_C_delivered_12 : decode zc_C_delivered 12 = .ok (.iload_n 1, 1) := by decide +kernel
theorem zd_C_delivered_13 : decode zc_C_delivered 13 = .ok (.aaload, 1) := by decide +kernel
theorem zd_C_delivered_14 : decode zc_C_delivered 14 = .ok (.getfield 121, 3) := by decide +kernel
theorem zd_C_delivered_17 : decode zc_C_delivered 17 = .ok (.goto 4, 3) := by decide +kernel
theorem zd_C_delivered_20 : decode zc_C_delivered 20 = .ok (.iconst (-1), 1) := by decide +kernel
theorem zd_C_delivered_21 : decode zc_C_delivered 21 = .ok (.ireturn, 1) := by decide +kernel
theorem zd_C_deliveredAt_0 : decode zc_C_deliveredAt 0 = .ok (.aload_n 0, 1) := by decide +kernel
theorem zd_C_deliveredAt_1 : decode zc_C_deliveredAt 1 = .ok (.iload_n 1, 1) := by decide +kernel
theorem zd_C_deliveredAt_2 : decode zc_C_deliveredAt 2 = .ok (.invokevirtual 45, 3) := by decide +kernel
theorem zd_C_deliveredAt_5 : decode zc_C_deliveredAt 5 = .ok (.ifCond .eq 20, 3) := by decide +kernel
theorem zd_C_deliveredAt_8 : decode zc_C_deliveredAt 8 = .ok (.iload_n 2, 1) := by decide +kernel
theorem zd_C_deliveredAt_9 : decode zc_C_deliveredAt 9 = .ok (.ifCond .lt 16, 3) := by decide +kernel
theorem zd_C_deliveredAt_12 : decode zc_C_deliveredAt 12 = .ok (.iload_n 2, 1) := by decide +kernel
theorem zd_C_deliveredAt_13 : decode zc_C_deliveredAt 13 = .ok (.aload_n 0, 1) := by decide +kernel
theorem zd_C_deliveredAt_14 : decode zc_C_deliveredAt 14 = .ok (.getfield 24, 3) := by decide +kernel
theorem zd_C_deliveredAt_17 : decode zc_C_deliveredAt 17 = .ok (.iload_n 1, 1) := by decide +kernel
theorem zd_C_deliveredAt_18 : decode zc_C_deliveredAt 18 = .ok (.aaload, 1) := by decide +kernel
theorem zd_C_deliveredAt_19 : decode zc_C_deliveredAt 19 = .ok (.getfield 121, 3) := by decide +kernel
theorem zd_C_deliveredAt_22 : decode zc_C_deliveredAt 22 = .ok (.if_icmp .lt 5, 3) := by decide +kernel
theorem zd_C_deliveredAt_25 : decode zc_C_deliveredAt 25 = .ok (.iconst (-1), 1) := by decide +kernel
theorem zd_C_deliveredAt_26 : decode zc_C_deliveredAt 26 = .ok (.ireturn, 1) := by decide +kernel
theorem zd_C_deliveredAt_27 : decode zc_C_deliveredAt 27 = .ok (.aload_n 0, 1) := by decide +kernel
theorem zd_C_deliveredAt_28 : decode zc_C_deliveredAt 28 = .ok (.getfield 24, 3) := by decide +kernel
theorem zd_C_deliveredAt_31 : decode zc_C_deliveredAt 31 = .ok (.iload_n 1, 1) := by decide +kernel
theorem zd_C_deliveredAt_32 : decode zc_C_deliveredAt 32 = .ok (.aaload, 1) := by decide +kernel
theorem zd_C_deliveredAt_33 : decode zc_C_deliveredAt 33 = .ok (.getfield 124, 3) := by decide +kernel
theorem zd_C_deliveredAt_36 : decode zc_C_deliveredAt 36 = .ok (.iload_n 2, 1) := by decide +kernel
theorem zd_C_deliveredAt_37 : decode zc_C_deliveredAt 37 = .ok (.iaload, 1) := by decide +kernel
theorem zd_C_deliveredAt_38 : decode zc_C_deliveredAt 38 = .ok (.ireturn, 1) := by decide +kernel
theorem zd_C_verdict_0 : decode zc_C_verdict 0 = .ok (.aload_n 0, 1) := by decide +kernel
theorem zd_C_verdict_1 : decode zc_C_verdict 1 = .ok (.iload_n 1, 1) := by decide +kernel
theorem zd_C_verdict_2 : decode zc_C_verdict 2 = .ok (.invokevirtual 45, 3) := by decide +kernel
theorem zd_C_verdict_5 : decode zc_C_verdict 5 = .ok (.ifCond .eq 13, 3) := by decide +kernel
theorem zd_C_verdict_8 : decode zc_C_verdict 8 = .ok (.iload_n 2, 1) := by decide +kernel
theorem zd_C_verdict_9 : decode zc_C_verdict 9 = .ok (.ifCond .lt 9, 3) := by decide +kernel
theorem zd_C_verdict_12 : decode zc_C_verdict 12 = .ok (.iload_n 2, 1) := by decide +kernel
theorem zd_C_verdict_13 : decode zc_C_verdict 13 = .ok (.bipush 8, 2) := by decide +kernel
theorem zd_C_verdict_15 : decode zc_C_verdict 15 = .ok (.if_icmp .lt 5, 3) := by decide +kernel
theorem zd_C_verdict_18 : decode zc_C_verdict 18 = .ok (.iconst (-1), 1) := by decide +kernel
theorem zd_C_verdict_19 : decode zc_C_verdict 19 = .ok (.ireturn, 1) := by decide +kernel
theorem zd_C_verdict_20 : decode zc_C_verdict 20 = .ok (.aload_n 0, 1) := by decide +kernel
theorem zd_C_verdict_21 : decode zc_C_verdict 21 = .ok (.getfield 24, 3) := by decide +kernel
theorem zd_C_verdict_24 : decode zc_C_verdict 24 = .ok (.iload_n 1, 1) := by decide +kernel
theorem zd_C_verdict_25 : decode zc_C_verdict 25 = .ok (.aaload, 1) := by decide +kernel
theorem zd_C_verdict_26 : decode zc_C_verdict 26 = .ok (.getfield 128, 3) := by decide +kernel
theorem zd_C_verdict_29 : decode zc_C_verdict 29 = .ok (.iload_n 2, 1) := by decide +kernel
theorem zd_C_verdict_30 : decode zc_C_verdict 30 = .ok (.iaload, 1) := by decide +kernel
theorem zd_C_verdict_31 : decode zc_C_verdict 31 = .ok (.ireturn, 1) := by decide +kernel
theorem zd_C_messages_0 : decode zc_C_messages 0 = .ok (.aload_n 0, 1) := by decide +kernel
theorem zd_C_messages_1 : decode zc_C_messages 1 = .ok (.getfield 53, 3) := by decide +kernel
theorem zd_C_messages_4 : decode zc_C_messages 4 = .ok (.ireturn, 1) := by decide +kernel
