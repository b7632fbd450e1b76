/-! Rows that decode each instruction of the reference. -/
theorem zd_R_init_0 : decode zc_R_init 0 = .ok (.aload_n 0, 1) := by decide +kernel
theorem zd_R_init_1 : decode zc_R_init 1 = .ok (.invokespecial 1, 3) := by decide +kernel
theorem zd_R_init_4 : decode zc_R_init 4 = .ok (.aload_n 0, 1) := by decide +kernel
theorem zd_R_init_5 : decode zc_R_init 5 = .ok (.iconst 5, 1) := by decide +kernel
theorem zd_R_init_6 : decode zc_R_init 6 = .ok (.newarray .int, 2) := by decide +kernel
theorem zd_R_init_8 : decode zc_R_init 8 = .ok (.putfield 7, 3) := by decide +kernel
theorem zd_R_init_11 : decode zc_R_init 11 = .ok (.aload_n 0, 1) := by decide +kernel
theorem zd_R_init_12 : decode zc_R_init 12 = .ok (.iconst 5, 1) := by decide +kernel
theorem zd_R_init_13 : decode zc_R_init 13 = .ok (.newarray .int, 2) := by decide +kernel
theorem zd_R_init_15 : decode zc_R_init 15 = .ok (.putfield 13, 3) := by decide +kernel
theorem zd_R_init_18 : decode zc_R_init 18 = .ok (.aload_n 0, 1) := by decide +kernel
theorem zd_R_init_19 : decode zc_R_init 19 = .ok (.iconst 5, 1) := by decide +kernel
theorem zd_R_init_20 : decode zc_R_init 20 = .ok (.newarray .int, 2) := by decide +kernel
theorem zd_R_init_22 : decode zc_R_init 22 = .ok (.putfield 16, 3) := by decide +kernel
theorem zd_R_init_25 : decode zc_R_init 25 = .ok (.aload_n 0, 1) := by decide +kernel
theorem zd_R_init_26 : decode zc_R_init 26 = .ok (.bipush 40, 2) := by decide +kernel
theorem zd_R_init_28 : decode zc_R_init 28 = .ok (.newarray .int, 2) := by decide +kernel
theorem zd_R_init_30 : decode zc_R_init 30 = .ok (.putfield 19, 3) := by decide +kernel
theorem zd_R_init_33 : decode zc_R_init 33 = .ok (.aload_n 0, 1) := by decide +kernel
theorem zd_R_init_34 : decode zc_R_init 34 = .ok (.iconst 5, 1) := by decide +kernel
theorem zd_R_init_35 : decode zc_R_init 35 = .ok (.newarray .int, 2) := by decide +kernel
theorem zd_R_init_37 : decode zc_R_init 37 = .ok (.putfield 22, 3) := by decide +kernel
theorem zd_R_init_40 : decode zc_R_init 40 = .ok (.aload_n 0, 1) := by decide +kernel
theorem zd_R_init_41 : decode zc_R_init 41 = .ok (.iconst 5, 1) := by decide +kernel
theorem zd_R_init_42 : decode zc_R_init 42 = .ok (.newarray .int, 2) := by decide +kernel
theorem zd_R_init_44 : decode zc_R_init 44 = .ok (.putfield 25, 3) := by decide +kernel
theorem zd_R_init_47 : decode zc_R_init 47 = .ok (.aload_n 0, 1) := by decide +kernel
theorem zd_R_init_48 : decode zc_R_init 48 = .ok (.bipush 40, 2) := by decide +kernel
theorem zd_R_init_50 : decode zc_R_init 50 = .ok (.newarray .int, 2) := by decide +kernel
theorem zd_R_init_52 : decode zc_R_init 52 = .ok (.putfield 28, 3) := by decide +kernel
theorem zd_R_init_55 : decode zc_R_init 55 = .ok (.aload_n 0, 1) := by decide +kernel
theorem zd_R_init_56 : decode zc_R_init 56 = .ok (.iconst 5, 1) := by decide +kernel
theorem zd_R_init_57 : decode zc_R_init 57 = .ok (.newarray .int, 2) := by decide +kernel
theorem zd_R_init_59 : decode zc_R_init 59 = .ok (.putfield 31, 3) := by decide +kernel
theorem zd_R_init_62 : decode zc_R_init 62 = .ok (.aload_n 0, 1) := by decide +kernel
theorem zd_R_init_63 : decode zc_R_init 63 = .ok (.iconst 5, 1) := by decide +kernel
theorem zd_R_init_64 : decode zc_R_init 64 = .ok (.newarray .int, 2) := by decide +kernel
theorem zd_R_init_66 : decode zc_R_init 66 = .ok (.putfield 34, 3) := by decide +kernel
theorem zd_R_init_69 : decode zc_R_init 69 = .ok (.aload_n 0, 1) := by decide +kernel
theorem zd_R_init_70 : decode zc_R_init 70 = .ok (.iconst 5, 1) := by decide +kernel
theorem zd_R_init_71 : decode zc_R_init 71 = .ok (.newarray .int, 2) := by decide +kernel
theorem zd_R_init_73 : decode zc_R_init 73 = .ok (.putfield 37, 3) := by decide +kernel
theorem zd_R_init_76 : decode zc_R_init 76 = .ok (.aload_n 0, 1) := by decide +kernel
theorem zd_R_init_77 : decode zc_R_init 77 = .ok (.iconst 5, 1) := by decide +kernel
theorem zd_R_init_78 : decode zc_R_init 78 = .ok (.newarray .int, 2) := by decide +kernel
theorem zd_R_init_80 : decode zc_R_init 80 = .ok (.putfield 40, 3) := by decide +kernel
theorem zd_R_init_83 : decode zc_R_init 83 = .ok (.aload_n 0, 1) := by decide +kernel
theorem zd_R_init_84 : decode zc_R_init 84 = .ok (.iconst 5, 1) := by decide +kernel
theorem zd_R_init_85 : decode zc_R_init 85 = .ok (.newarray .boolean, 2) := by decide +kernel
theorem zd_R_init_87 : decode zc_R_init 87 = .ok (.putfield 43, 3) := by decide +kernel
theorem zd_R_init_90 : decode zc_R_init 90 = .ok (.aload_n 0, 1) := by decide +kernel
theorem zd_R_init_91 : decode zc_R_init 91 = .ok (.sipush 1500, 3) := by decide +kernel
theorem zd_R_init_94 : decode zc_R_init 94 = .ok (.newarray .byte, 2) := by decide +kernel
theorem zd_R_init_96 : decode zc_R_init 96 = .ok (.putfield 47, 3) := by decide +kernel
theorem zd_R_init_99 : decode zc_R_init 99 = .ok (.aload_n 0, 1) := by decide +kernel
theorem zd_R_init_100 : decode zc_R_init 100 = .ok (.sipush 1500, 3) := by decide +kernel
theorem zd_R_init_103 : decode zc_R_init 103 = .ok (.newarray .byte, 2) := by decide +kernel
theorem zd_R_init_105 : decode zc_R_init 105 = .ok (.putfield 51, 3) := by decide +kernel
theorem zd_R_init_108 : decode zc_R_init 108 = .ok (.aload_n 0, 1) := by decide +kernel
theorem zd_R_init_109 : decode zc_R_init 109 = .ok (.sipush 1500, 3) := by decide +kernel
theorem zd_R_init_112 : decode zc_R_init 112 = .ok (.newarray .byte, 2) := by decide +kernel
theorem zd_R_init_114 : decode zc_R_init 114 = .ok (.putfield 54, 3) := by decide +kernel
theorem zd_R_init_117 : decode zc_R_init 117 = .ok (.aload_n 0, 1) := by decide +kernel
theorem zd_R_init_118 : decode zc_R_init 118 = .ok (.sipush 1500, 3) := by decide +kernel
theorem zd_R_init_121 : decode zc_R_init 121 = .ok (.newarray .byte, 2) := by decide +kernel
theorem zd_R_init_123 : decode zc_R_init 123 = .ok (.putfield 57, 3) := by decide +kernel
theorem zd_R_init_126 : decode zc_R_init 126 = .ok (.aload_n 0, 1) := by decide +kernel
theorem zd_R_init_127 : decode zc_R_init 127 = .ok (.sipush 1500, 3) := by decide +kernel
theorem zd_R_init_130 : decode zc_R_init 130 = .ok (.newarray .byte, 2) := by decide +kernel
theorem zd_R_init_132 : decode zc_R_init 132 = .ok (.putfield 60, 3) := by decide +kernel
theorem zd_R_init_135 : decode zc_R_init 135 = .ok (.aload_n 0, 1) := by decide +kernel
theorem zd_R_init_136 : decode zc_R_init 136 = .ok (.sipush 1500, 3) := by decide +kernel
theorem zd_R_init_139 : decode zc_R_init 139 = .ok (.newarray .short, 2) := by decide +kernel
theorem zd_R_init_141 : decode zc_R_init 141 = .ok (.putfield 63, 3) := by decide +kernel
theorem zd_R_init_144 : decode zc_R_init 144 = .ok (.aload_n 0, 1) := by decide +kernel
theorem zd_R_init_145 : decode zc_R_init 145 = .ok (.sipush 1500, 3) := by decide +kernel
theorem zd_R_init_148 : decode zc_R_init 148 = .ok (.newarray .byte, 2) := by decide +kernel
theorem zd_R_init_150 : decode zc_R_init 150 = .ok (.putfield 67, 3) := by decide +kernel
theorem zd_R_init_153 : decode zc_R_init 153 = .ok (.aload_n 0, 1) := by decide +kernel
theorem zd_R_init_154 : decode zc_R_init 154 = .ok (.sipush 1500, 3) := by decide +kernel
theorem zd_R_init_157 : decode zc_R_init 157 = .ok (.newarray .byte, 2) := by decide +kernel
theorem zd_R_init_159 : decode zc_R_init 159 = .ok (.putfield 70, 3) := by decide +kernel
theorem zd_R_init_162 : decode zc_R_init 162 = .ok (.aload_n 0, 1) := by decide +kernel
theorem zd_R_init_163 : decode zc_R_init 163 = .ok (.iload_n 1, 1) := by decide +kernel
theorem zd_R_init_164 : decode zc_R_init 164 = .ok (.iconst 3, 1) := by decide +kernel
theorem zd_R_init_165 : decode zc_R_init 165 = .ok (.if_icmp .ge 7, 3) := by decide +kernel
theorem zd_R_init_168 : decode zc_R_init 168 = .ok (.iconst 3, 1) := by decide +kernel
theorem zd_R_init_169 : decode zc_R_init 169 = .ok (.goto 13, 3) := by decide +kernel
theorem zd_R_init_172 : decode zc_R_init 172 = .ok (.iload_n 1, 1) := by decide +kernel
theorem zd_R_init_173 : decode zc_R_init 173 = .ok (.iconst 5, 1) := by decide +kernel
theorem zd_R_init_174 : decode zc_R_init 174 = .ok (.if_icmp .le 7, 3) := by decide +kernel
theorem zd_R_init_177 : decode zc_R_init 177 = .ok (.iconst 5, 1) := by decide +kernel
theorem zd_R_init_178 : decode zc_R_init 178 = .ok (.goto 4, 3) := by decide +kernel
theorem zd_R_init_181 : decode zc_R_init 181 = .ok (.iload_n 1, 1) := by decide +kernel
theorem zd_R_init_182 : decode zc_R_init 182 = .ok (.putfield 73, 3) := by decide +kernel
theorem zd_R_init_185 : decode zc_R_init 185 = .ok (.return_, 1) := by decide +kernel
theorem zd_R_majority_0 : decode zc_R_majority 0 = .ok (.aload_n 0, 1) := by decide +kernel
theorem zd_R_majority_1 : decode zc_R_majority 1 = .ok (.getfield 73, 3) := by decide +kernel
theorem zd_R_majority_4 : decode zc_R_majority 4 = .ok (.iconst 2, 1) := by decide +kernel
theorem zd_R_majority_5 : decode zc_R_majority 5 = .ok (.idiv, 1) := by decide +kernel
theorem zd_R_majority_6 : decode zc_R_majority 6 = .ok (.iconst 1, 1) := by decide +kernel
theorem zd_R_majority_7 : decode zc_R_majority 7 = .ok (.iadd, 1) := by decide +kernel
theorem zd_R_majority_8 : decode zc_R_majority 8 = .ok (.ireturn, 1) := by decide +kernel
theorem zd_R_letters_0 : decode zc_R_letters 0 = .ok (.aload_n 0, 1) := by decide +kernel
theorem zd_R_letters_1 : decode zc_R_letters 1 = .ok (.iload_n 1, 1) := by decide +kernel
theorem zd_R_letters_2 : decode zc_R_letters 2 = .ok (.invokevirtual 84, 3) := by decide +kernel
theorem zd_R_letters_5 : decode zc_R_letters 5 = .ok (.ifCond .ne 11, 3) := by decide +kernel
theorem zd_R_letters_8 : decode zc_R_letters 8 = .ok (.aload_n 0, 1) := by decide +kernel
theorem zd_R_letters_9 : decode zc_R_letters 9 = .ok (.iload_n 2, 1) := by decide +kernel
theorem zd_R_letters_10 : decode zc_R_letters 10 = .ok (.invokevirtual 84, 3) := by decide +kernel
theorem zd_R_letters_13 : decode zc_R_letters 13 = .ok (.ifCond .eq 5, 3) := by decide +kernel
theorem zd_R_letters_16 : decode zc_R_letters 16 = .ok (.iconst (-1), 1) := by decide +kernel
theorem zd_R_letters_17 : decode zc_R_letters 17 = .ok (.ireturn, 1) := by decide +kernel
theorem zd_R_letters_18 : decode zc_R_letters 18 = .ok (.iconst 0, 1) := by decide +kernel
theorem zd_R_letters_19 : decode zc_R_letters 19 = .ok (.istore_n 3, 1) := by decide +kernel
theorem zd_R_letters_20 : decode zc_R_letters 20 = .ok (.iconst 0, 1) := by decide +kernel
theorem zd_R_letters_21 : decode zc_R_letters 21 = .ok (.istore 4, 2) := by decide +kernel
theorem zd_R_letters_23 : decode zc_R_letters 23 = .ok (.iload 4, 2) := by decide +kernel
theorem zd_R_letters_25 : decode zc_R_letters 25 = .ok (.aload_n 0, 1) := by decide +kernel
theorem zd_R_letters_26 : decode zc_R_letters 26 = .ok (.getfield 77, 3) := by decide +kernel
theorem zd_R_letters_29 : decode zc_R_letters 29 = .ok (.if_icmp .ge 49, 3) := by decide +kernel
theorem zd_R_letters_32 : decode zc_R_letters 32 = .ok (.iload_n 3, 1) := by decide +kernel
theorem zd_R_letters_33 : decode zc_R_letters 33 = .ok (.aload_n 0, 1) := by decide +kernel
theorem zd_R_letters_34 : decode zc_R_letters 34 = .ok (.getfield 70, 3) := by decide +kernel
theorem zd_R_letters_37 : decode zc_R_letters 37 = .ok (.iload 4, 2) := by decide +kernel
theorem zd_R_letters_39 : decode zc_R_letters 39 = .ok (.baload, 1) := by decide +kernel
theorem zd_R_letters_40 : decode zc_R_letters 40 = .ok (.ifCond .ne 29, 3) := by decide +kernel
theorem zd_R_letters_43 : decode zc_R_letters 43 = .ok (.aload_n 0, 1) := by decide +kernel
theorem zd_R_letters_44 : decode zc_R_letters 44 = .ok (.getfield 51, 3) := by decide +kernel
theorem zd_R_letters_47 : decode zc_R_letters 47 = .ok (.iload 4, 2) := by decide +kernel
theorem zd_R_letters_49 : decode zc_R_letters 49 = .ok (.baload, 1) := by decide +kernel
theorem zd_R_letters_50 : decode zc_R_letters 50 = .ok (.iload_n 1, 1) := by decide +kernel
theorem zd_R_letters_51 : decode zc_R_letters 51 = .ok (.if_icmp .ne 18, 3) := by decide +kernel
theorem zd_R_letters_54 : decode zc_R_letters 54 = .ok (.aload_n 0, 1) := by decide +kernel
theorem zd_R_letters_55 : decode zc_R_letters 55 = .ok (.getfield 54, 3) := by decide +kernel
theorem zd_R_letters_58 : decode zc_R_letters 58 = .ok (.iload 4, 2) := by decide +kernel
theorem zd_R_letters_60 : decode zc_R_letters 60 = .ok (.baload, 1) := by decide +kernel
theorem zd_R_letters_61 : decode zc_R_letters 61 = .ok (.iload_n 2, 1) := by decide +kernel
theorem zd_R_letters_62 : decode zc_R_letters 62 = .ok (.if_icmp .ne 7, 3) := by decide +kernel
theorem zd_R_letters_65 : decode zc_R_letters 65 = .ok (.iconst 1, 1) := by decide +kernel
theorem zd_R_letters_66 : decode zc_R_letters 66 = .ok (.goto 4, 3) := by decide +kernel
theorem zd_R_letters_69 : decode zc_R_letters 69 = .ok (.iconst 0, 1) := by decide +kernel
theorem zd_R_letters_70 : decode zc_R_letters 70 = .ok (.iadd, 1) := by decide +kernel
theorem zd_R_letters_71 : decode zc_R_letters 71 = .ok (.istore_n 3, 1) := by decide +kernel
theorem zd_R_letters_72 : decode zc_R_letters 72 = .ok (.iinc 4 1, 3) := by decide +kernel
theorem zd_R_letters_75 : decode zc_R_letters 75 = .ok (.goto (-52), 3) := by decide +kernel
theorem zd_R_letters_78 : decode zc_R_letters 78 = .ok (.iload_n 3, 1) := by decide +kernel
theorem zd_R_letters_79 : decode zc_R_letters 79 = .ok (.ireturn, 1) := by decide +kernel
theorem zd_R_none_0 : decode zc_R_none 0 = .ok (.iload_n 1, 1) := by decide +kernel
theorem zd_R_none_1 : decode zc_R_none 1 = .ok (.ifCond .lt 11, 3) := by decide +kernel
theorem zd_R_none_4 : decode zc_R_none 4 = .ok (.iload_n 1, 1) := by decide +kernel
theorem zd_R_none_5 : decode zc_R_none 5 = .ok (.aload_n 0, 1) := by decide +kernel
theorem zd_R_none_6 : decode zc_R_none 6 = .ok (.getfield 73, 3) := by decide +kernel
theorem zd_R_none_9 : decode zc_R_none 9 = .ok (.if_icmp .lt 7, 3) := by decide +kernel
theorem zd_R_none_12 : decode zc_R_none 12 = .ok (.iconst 1, 1) := by decide +kernel
theorem zd_R_none_13 : decode zc_R_none 13 = .ok (.goto 4, 3) := by decide +kernel
theorem zd_R_none_16 : decode zc_R_none 16 = .ok (.iconst 0, 1) := by decide +kernel
theorem zd_R_none_17 : decode zc_R_none 17 = .ok (.ireturn, 1) := by decide +kernel
theorem zd_R_letter_0 : decode zc_R_letter 0 = .ok (.aload_n 0, 1) := by decide +kernel
theorem zd_R_letter_1 : decode zc_R_letter 1 = .ok (.iload_n 1, 1) := by decide +kernel
theorem zd_R_letter_2 : decode zc_R_letter 2 = .ok (.invokevirtual 84, 3) := by decide +kernel
theorem zd_R_letter_5 : decode zc_R_letter 5 = .ok (.ifCond .ne 11, 3) := by decide +kernel
theorem zd_R_letter_8 : decode zc_R_letter 8 = .ok (.aload_n 0, 1) := by decide +kernel
theorem zd_R_letter_9 : decode zc_R_letter 9 = .ok (.iload_n 2, 1) := by decide +kernel
theorem zd_R_letter_10 : decode zc_R_letter 10 = .ok (.invokevirtual 84, 3) := by decide +kernel
theorem zd_R_letter_13 : decode zc_R_letter 13 = .ok (.ifCond .eq 7, 3) := by decide +kernel
theorem zd_R_letter_16 : decode zc_R_letter 16 = .ok (.iconst (-1), 1) := by decide +kernel
theorem zd_R_letter_17 : decode zc_R_letter 17 = .ok (.goto 10, 3) := by decide +kernel
theorem zd_R_letter_20 : decode zc_R_letter 20 = .ok (.aload_n 0, 1) := by decide +kernel
theorem zd_R_letter_21 : decode zc_R_letter 21 = .ok (.iload_n 1, 1) := by decide +kernel
theorem zd_R_letter_22 : decode zc_R_letter 22 = .ok (.iload_n 2, 1) := by decide +kernel
theorem zd_R_letter_23 : decode zc_R_letter 23 = .ok (.iload_n 3, 1) := by decide +kernel
theorem zd_R_letter_24 : decode zc_R_letter 24 = .ok (.invokevirtual 88, 3) := by decide +kernel
theorem zd_R_letter_27 : decode zc_R_letter 27 = .ok (.istore 4, 2) := by decide +kernel
theorem zd_R_letter_29 : decode zc_R_letter 29 = .ok (.iload 4, 2) := by decide +kernel
theorem zd_R_letter_31 : decode zc_R_letter 31 = .ok (.ifCond .ge 5, 3) := by decide +kernel
theorem zd_R_letter_34 : decode zc_R_letter 34 = .ok (.iconst 0, 1) := by decide +kernel
theorem zd_R_letter_35 : decode zc_R_letter 35 = .ok (.ireturn, 1) := by decide +kernel
theorem zd_R_letter_36 : decode zc_R_letter 36 = .ok (.aload_n 0, 1) := by decide +kernel
theorem zd_R_letter_37 : decode zc_R_letter 37 = .ok (.getfield 47, 3) := by decide +kernel
theorem zd_R_letter_40 : decode zc_R_letter 40 = .ok (.iload 4, 2) := by decide +kernel
theorem zd_R_letter_42 : decode zc_R_letter 42 = .ok (.baload, 1) := by decide +kernel
theorem zd_R_letter_43 : decode zc_R_letter 43 = .ok (.bipush 8, 2) := by decide +kernel
theorem zd_R_letter_45 : decode zc_R_letter 45 = .ok (.aload_n 0, 1) := by decide +kernel
theorem zd_R_letter_46 : decode zc_R_letter 46 = .ok (.getfield 57, 3) := by decide +kernel
theorem zd_R_letter_49 : decode zc_R_letter 49 = .ok (.iload 4, 2) := by decide +kernel
theorem zd_R_letter_51 : decode zc_R_letter 51 = .ok (.baload, 1) := by decide +kernel
theorem zd_R_letter_52 : decode zc_R_letter 52 = .ok (.imul, 1) := by decide +kernel
theorem zd_R_letter_53 : decode zc_R_letter 53 = .ok (.iadd, 1) := by decide +kernel
theorem zd_R_letter_54 : decode zc_R_letter 54 = .ok (.bipush 64, 2) := by decide +kernel
theorem zd_R_letter_56 : decode zc_R_letter 56 = .ok (.aload_n 0, 1) := by decide +kernel
theorem zd_R_letter_57 : decode zc_R_letter 57 = .ok (.getfield 60, 3) := by decide +kernel
theorem zd_R_letter_60 : decode zc_R_letter 60 = .ok (.iload 4, 2) := by decide +kernel
theorem zd_R_letter_62 : decode zc_R_letter 62 = .ok (.baload, 1) := by decide +kernel
theorem zd_R_letter_63 : decode zc_R_letter 63 = .ok (.imul, 1) := by decide +kernel
theorem zd_R_letter_64 : decode zc_R_letter 64 = .ok (.iadd, 1) := by decide +kernel
theorem zd_R_letter_65 : decode zc_R_letter 65 = .ok (.sipush 1024, 3) := by decide +kernel
theorem zd_R_letter_68 : decode zc_R_letter 68 = .ok (.aload_n 0, 1) := by decide +kernel
theorem zd_R_letter_69 : decode zc_R_letter 69 = .ok (.getfield 63, 3) := by decide +kernel
theorem zd_R_letter_72 : decode zc_R_letter 72 = .ok (.iload 4, 2) := by decide +kernel
theorem zd_R_letter_74 : decode zc_R_letter 74 = .ok (.saload, 1) := by decide +kernel
theorem zd_R_letter_75 : decode zc_R_letter 75 = .ok (.imul, 1) := by decide +kernel
theorem zd_R_letter_76 : decode zc_R_letter 76 = .ok (.iadd, 1) := by decide +kernel
theorem zd_R_letter_77 : decode zc_R_letter 77 = .ok (.ldc 92, 2) := by decide +kernel
theorem zd_R_letter_79 : decode zc_R_letter 79 = .ok (.aload_n 0, 1) := by decide +kernel
theorem zd_R_letter_80 : decode zc_R_letter 80 = .ok (.getfield 67, 3) := by decide +kernel
theorem zd_R_letter_83 : decode zc_R_letter 83 = .ok (.iload 4, 2) := by decide +kernel
theorem zd_R_letter_85 : decode zc_R_letter 85 = .ok (.baload, 1) := by decide +kernel
theorem zd_R_letter_86 : decode zc_R_letter 86 = .ok (.imul, 1) := by decide +kernel
theorem zd_R_letter_87 : decode zc_R_letter 87 = .ok (.iadd, 1) := by decide +kernel
theorem zd_R_letter_88 : decode zc_R_letter 88 = .ok (.ireturn, 1) := by decide +kernel
theorem zd_R_seek_0 : decode zc_R_seek 0 = .ok (.iconst 0, 1) := by decide +kernel
theorem zd_R_seek_1 : decode zc_R_seek 1 = .ok (.istore 4, 2) := by decide +kernel
theorem zd_R_seek_3 : decode zc_R_seek 3 = .ok (.iconst 0, 1) := by decide +kernel
theorem zd_R_seek_4 : decode zc_R_seek 4 = .ok (.istore 5, 2) := by decide +kernel
theorem zd_R_seek_6 : decode zc_R_seek 6 = .ok (.iload 5, 2) := by decide +kernel
theorem zd_R_seek_8 : decode zc_R_seek 8 = .ok (.aload_n 0, 1) := by decide +kernel
theorem zd_R_seek_9 : decode zc_R_seek 9 = .ok (.getfield 77, 3) := by decide +kernel
theorem zd_R_seek_12 : decode zc_R_seek 12 = .ok (.if_icmp .ge 53, 3) := by decide +kernel
theorem zd_R_seek_15 : decode zc_R_seek 15 = .ok (.aload_n 0, 1) := by decide +kernel
theorem zd_R_seek_16 : decode zc_R_seek 16 = .ok (.getfield 70, 3) := by decide +kernel
theorem zd_R_seek_19 : decode zc_R_seek 19 = .ok (.iload 5, 2) := by decide +kernel
theorem zd_R_seek_21 : decode zc_R_seek 21 = .ok (.baload, 1) := by decide +kernel
theorem zd_R_seek_22 : decode zc_R_seek 22 = .ok (.ifCond .ne 37, 3) := by decide +kernel
theorem zd_R_seek_25 : decode zc_R_seek 25 = .ok (.aload_n 0, 1) := by decide +kernel
theorem zd_R_seek_26 : decode zc_R_seek 26 = .ok (.getfield 51, 3) := by decide +kernel
theorem zd_R_seek_29 : decode zc_R_seek 29 = .ok (.iload 5, 2) := by decide +kernel
theorem zd_R_seek_31 : decode zc_R_seek 31 = .ok (.baload, 1) := by decide +kernel
theorem zd_R_seek_32 : decode zc_R_seek 32 = .ok (.iload_n 1, 1) := by decide +kernel
theorem zd_R_seek_33 : decode zc_R_seek 33 = .ok (.if_icmp .ne 26, 3) := by decide +kernel
theorem zd_R_seek_36 : decode zc_R_seek 36 = .ok (.aload_n 0, 1) := by decide +kernel
theorem zd_R_seek_37 : decode zc_R_seek 37 = .ok (.getfield 54, 3) := by decide +kernel
theorem zd_R_seek_40 : decode zc_R_seek 40 = .ok (.iload 5, 2) := by decide +kernel
theorem zd_R_seek_42 : decode zc_R_seek 42 = .ok (.baload, 1) := by decide +kernel
theorem zd_R_seek_43 : decode zc_R_seek 43 = .ok (.iload_n 2, 1) := by decide +kernel
theorem zd_R_seek_44 : decode zc_R_seek 44 = .ok (.if_icmp .ne 15, 3) := by decide +kernel
theorem zd_R_seek_47 : decode zc_R_seek 47 = .ok (.iload 4, 2) := by decide +kernel
theorem zd_R_seek_49 : decode zc_R_seek 49 = .ok (.iload_n 3, 1) := by decide +kernel
theorem zd_R_seek_50 : decode zc_R_seek 50 = .ok (.if_icmp .ne 6, 3) := by decide +kernel
theorem zd_R_seek_53 : decode zc_R_seek 53 = .ok (.iload 5, 2) := by decide +kernel
theorem zd_R_seek_55 : decode zc_R_seek 55 = .ok (.ireturn, 1) := by decide +kernel
theorem zd_R_seek_56 : decode zc_R_seek 56 = .ok (.iinc 4 1, 3) := by decide +kernel
theorem zd_R_seek_59 : decode zc_R_seek 59 = .ok (.iinc 5 1, 3) := by decide +kernel
theorem zd_R_seek_62 : decode zc_R_seek 62 = .ok (.goto (-56), 3) := by decide +kernel
theorem zd_R_seek_65 : decode zc_R_seek 65 = .ok (.iconst (-1), 1) := by decide +kernel
theorem zd_R_seek_66 : decode zc_R_seek 66 = .ok (.ireturn, 1) := by decide +kernel
theorem zd_R_broadcast_0 : decode zc_R_broadcast 0 = .ok (.aload_n 0, 1) := by decide +kernel
theorem zd_R_broadcast_1 : decode zc_R_broadcast 1 = .ok (.iload_n 1, 1) := by decide +kernel
theorem zd_R_broadcast_2 : decode zc_R_broadcast 2 = .ok (.invokevirtual 84, 3) := by decide +kernel
theorem zd_R_broadcast_5 : decode zc_R_broadcast 5 = .ok (.ifCond .eq 5, 3) := by decide +kernel
theorem zd_R_broadcast_8 : decode zc_R_broadcast 8 = .ok (.iconst (-1), 1) := by decide +kernel
theorem zd_R_broadcast_9 : decode zc_R_broadcast 9 = .ok (.ireturn, 1) := by decide +kernel
theorem zd_R_broadcast_10 : decode zc_R_broadcast 10 = .ok (.aload_n 0, 1) := by decide +kernel
theorem zd_R_broadcast_11 : decode zc_R_broadcast 11 = .ok (.getfield 43, 3) := by decide +kernel
theorem zd_R_broadcast_14 : decode zc_R_broadcast 14 = .ok (.iload_n 1, 1) := by decide +kernel
theorem zd_R_broadcast_15 : decode zc_R_broadcast 15 = .ok (.baload, 1) := by decide +kernel
theorem zd_R_broadcast_16 : decode zc_R_broadcast 16 = .ok (.ifCond .eq 6, 3) := by decide +kernel
theorem zd_R_broadcast_19 : decode zc_R_broadcast 19 = .ok (.bipush (-2), 2) := by decide +kernel
theorem zd_R_broadcast_21 : decode zc_R_broadcast 21 = .ok (.ireturn, 1) := by decide +kernel
theorem zd_R_broadcast_22 : decode zc_R_broadcast 22 = .ok (.aload_n 0, 1) := by decide +kernel
theorem zd_R_broadcast_23 : decode zc_R_broadcast 23 = .ok (.getfield 143, 3) := by decide +kernel
theorem zd_R_broadcast_26 : decode zc_R_broadcast 26 = .ok (.bipush 8, 2) := by decide +kernel
theorem zd_R_broadcast_28 : decode zc_R_broadcast 28 = .ok (.if_icmp .ne 6, 3) := by decide +kernel
theorem zd_R_broadcast_31 : decode zc_R_broadcast 31 = .ok (.bipush (-3), 2) := by decide +kernel
theorem zd_R_broadcast_33 : decode zc_R_broadcast 33 = .ok (.ireturn, 1) := by decide +kernel
theorem zd_R_broadcast_34 : decode zc_R_broadcast 34 = .ok (.aload_n 0, 1) := by decide +kernel
theorem zd_R_broadcast_35 : decode zc_R_broadcast 35 = .ok (.getfield 143, 3) := by decide +kernel
theorem zd_R_broadcast_38 : decode zc_R_broadcast 38 = .ok (.istore_n 2, 1) := by decide +kernel
theorem zd_R_broadcast_39 : decode zc_R_broadcast 39 = .ok (.aload_n 0, 1) := by decide +kernel
theorem zd_R_broadcast_40 : decode zc_R_broadcast 40 = .ok (.dup, 1) := by decide +kernel
theorem zd_R_broadcast_41 : decode zc_R_broadcast 41 = .ok (.getfield 143, 3) := by decide +kernel
theorem zd_R_broadcast_44 : decode zc_R_broadcast 44 = .ok (.iconst 1, 1) := by decide +kernel
theorem zd_R_broadcast_45 : decode zc_R_broadcast 45 = .ok (.iadd, 1) := by decide +kernel
theorem zd_R_broadcast_46 : decode zc_R_broadcast 46 = .ok (.putfield 143, 3) := by decide +kernel
theorem zd_R_broadcast_49 : decode zc_R_broadcast 49 = .ok (.aload_n 0, 1) := by decide +kernel
theorem zd_R_broadcast_50 : decode zc_R_broadcast 50 = .ok (.getfield 7, 3) := by decide +kernel
theorem zd_R_broadcast_53 : decode zc_R_broadcast 53 = .ok (.iload_n 1, 1) := by decide +kernel
theorem zd_R_broadcast_54 : decode zc_R_broadcast 54 = .ok (.dup2, 1) := by decide +kernel
theorem zd_R_broadcast_55 : decode zc_R_broadcast 55 = .ok (.iaload, 1) := by decide +kernel
theorem zd_R_broadcast_56 : decode zc_R_broadcast 56 = .ok (.iconst 1, 1) := by decide +kernel
theorem zd_R_broadcast_57 : decode zc_R_broadcast 57 = .ok (.iload_n 2, 1) := by decide +kernel
theorem zd_R_broadcast_58 : decode zc_R_broadcast 58 = .ok (.ishl, 1) := by decide +kernel
theorem zd_R_broadcast_59 : decode zc_R_broadcast 59 = .ok (.ior, 1) := by decide +kernel
theorem zd_R_broadcast_60 : decode zc_R_broadcast 60 = .ok (.iastore, 1) := by decide +kernel
theorem zd_R_broadcast_61 : decode zc_R_broadcast 61 = .ok (.aload_n 0, 1) := by decide +kernel
theorem zd_R_broadcast_62 : decode zc_R_broadcast 62 = .ok (.iconst 1, 1) := by decide +kernel
theorem zd_R_broadcast_63 : decode zc_R_broadcast 63 = .ok (.iload_n 1, 1) := by decide +kernel
theorem zd_R_broadcast_64 : decode zc_R_broadcast 64 = .ok (.iconst 0, 1) := by decide +kernel
theorem zd_R_broadcast_65 : decode zc_R_broadcast 65 = .ok (.iconst 0, 1) := by decide +kernel
theorem zd_R_broadcast_66 : decode zc_R_broadcast 66 = .ok (.iload_n 2, 1) := by decide +kernel
theorem zd_R_broadcast_67 : decode zc_R_broadcast 67 = .ok (.invokevirtual 101, 3) := by decide +kernel
theorem zd_R_broadcast_70 : decode zc_R_broadcast 70 = .ok (.aload_n 0, 1) := by decide +kernel
theorem zd_R_broadcast_71 : decode zc_R_broadcast 71 = .ok (.iload_n 1, 1) := by decide +kernel
theorem zd_R_broadcast_72 : decode zc_R_broadcast 72 = .ok (.invokevirtual 146, 3) := by decide +kernel
theorem zd_R_broadcast_75 : decode zc_R_broadcast 75 = .ok (.iload_n 2, 1) := by decide +kernel
theorem zd_R_broadcast_76 : decode zc_R_broadcast 76 = .ok (.ireturn, 1) := by decide +kernel
theorem zd_R_toAll_0 : decode zc_R_toAll 0 = .ok (.iconst 0, 1) := by decide +kernel
theorem zd_R_toAll_1 : decode zc_R_toAll 1 = .ok (.istore 6, 2) := by decide +kernel
theorem zd_R_toAll_3 : decode zc_R_toAll 3 = .ok (.iload 6, 2) := by decide +kernel
theorem zd_R_toAll_5 : decode zc_R_toAll 5 = .ok (.aload_n 0, 1) := by decide +kernel
theorem zd_R_toAll_6 : decode zc_R_toAll 6 = .ok (.getfield 73, 3) := by decide +kernel
theorem zd_R_toAll_9 : decode zc_R_toAll 9 = .ok (.if_icmp .ge 28, 3) := by decide +kernel
theorem zd_R_toAll_12 : decode zc_R_toAll 12 = .ok (.iload 6, 2) := by decide +kernel
theorem zd_R_toAll_14 : decode zc_R_toAll 14 = .ok (.iload_n 2, 1) := by decide +kernel
theorem zd_R_toAll_15 : decode zc_R_toAll 15 = .ok (.if_icmp .eq 16, 3) := by decide +kernel
theorem zd_R_toAll_18 : decode zc_R_toAll 18 = .ok (.aload_n 0, 1) := by decide +kernel
theorem zd_R_toAll_19 : decode zc_R_toAll 19 = .ok (.iload_n 1, 1) := by decide +kernel
theorem zd_R_toAll_20 : decode zc_R_toAll 20 = .ok (.iload_n 2, 1) := by decide +kernel
theorem zd_R_toAll_21 : decode zc_R_toAll 21 = .ok (.iload 6, 2) := by decide +kernel
theorem zd_R_toAll_23 : decode zc_R_toAll 23 = .ok (.iload_n 3, 1) := by decide +kernel
theorem zd_R_toAll_24 : decode zc_R_toAll 24 = .ok (.iload 4, 2) := by decide +kernel
theorem zd_R_toAll_26 : decode zc_R_toAll 26 = .ok (.iload 5, 2) := by decide +kernel
theorem zd_R_toAll_28 : decode zc_R_toAll 28 = .ok (.invokevirtual 80, 3) := by decide +kernel
theorem zd_R_toAll_31 : decode zc_R_toAll 31 = .ok (.iinc 6 1, 3) := by decide +kernel
theorem zd_R_toAll_34 : decode zc_R_toAll 34 = .ok (.goto (-31), 3) := by decide +kernel
theorem zd_R_toAll_37 : decode zc_R_toAll 37 = .ok (.return_, 1) := by decide +kernel
theorem zd_R_put_0 : decode zc_R_put 0 = .ok (.aload_n 0, 1) := by decide +kernel
theorem zd_R_put_1 : decode zc_R_put 1 = .ok (.getfield 47, 3) := by decide +kernel
theorem zd_R_put_4 : decode zc_R_put 4 = .ok (.aload_n 0, 1) := by decide +kernel
theorem zd_R_put_5 : decode zc_R_put 5 = .ok (.getfield 77, 3) := by decide +kernel
theorem zd_R_put_8 : decode zc_R_put 8 = .ok (.iload_n 1, 1) := by decide +kernel
theorem zd_R_put_9 : decode zc_R_put 9 = .ok (.i2b, 1) := by decide +kernel
theorem zd_R_put_10 : decode zc_R_put 10 = .ok (.bastore, 1) := by decide +kernel
theorem zd_R_put_11 : decode zc_R_put 11 = .ok (.aload_n 0, 1) := by decide +kernel
theorem zd_R_put_12 : decode zc_R_put 12 = .ok (.getfield 51, 3) := by decide +kernel
theorem zd_R_put_15 : decode zc_R_put 15 = .ok (.aload_n 0, 1) := by decide +kernel
theorem zd_R_put_16 : decode zc_R_put 16 = .ok (.getfield 77, 3) := by decide +kernel
theorem zd_R_put_19 : decode zc_R_put 19 = .ok (.iload_n 2, 1) := by decide +kernel
theorem zd_R_put_20 : decode zc_R_put 20 = .ok (.i2b, 1) := by decide +kernel
theorem zd_R_put_21 : decode zc_R_put 21 = .ok (.bastore, 1) := by decide +kernel
theorem zd_R_put_22 : decode zc_R_put 22 = .ok (.aload_n 0, 1) := by decide +kernel
theorem zd_R_put_23 : decode zc_R_put 23 = .ok (.getfield 54, 3) := by decide +kernel
theorem zd_R_put_26 : decode zc_R_put 26 = .ok (.aload_n 0, 1) := by decide +kernel
theorem zd_R_put_27 : decode zc_R_put 27 = .ok (.getfield 77, 3) := by decide +kernel
theorem zd_R_put_30 : decode zc_R_put 30 = .ok (.iload_n 3, 1) := by decide +kernel
theorem zd_R_put_31 : decode zc_R_put 31 = .ok (.i2b, 1) := by decide +kernel
theorem zd_R_put_32 : decode zc_R_put 32 = .ok (.bastore, 1) := by decide +kernel
theorem zd_R_put_33 : decode zc_R_put 33 = .ok (.aload_n 0, 1) := by decide +kernel
theorem zd_R_put_34 : decode zc_R_put 34 = .ok (.getfield 57, 3) := by decide +kernel
theorem zd_R_put_37 : decode zc_R_put 37 = .ok (.aload_n 0, 1) := by decide +kernel
theorem zd_R_put_38 : decode zc_R_put 38 = .ok (.getfield 77, 3) := by decide +kernel
theorem zd_R_put_41 : decode zc_R_put 41 = .ok (.iload 4, 2) := by decide +kernel
theorem zd_R_put_43 : decode zc_R_put 43 = .ok (.i2b, 1) := by decide +kernel
theorem zd_R_put_44 : decode zc_R_put 44 = .ok (.bastore, 1) := by decide +kernel
theorem zd_R_put_45 : decode zc_R_put 45 = .ok (.aload_n 0, 1) := by decide +kernel
theorem zd_R_put_46 : decode zc_R_put 46 = .ok (.getfield 60, 3) := by decide +kernel
theorem zd_R_put_49 : decode zc_R_put 49 = .ok (.aload_n 0, 1) := by decide +kernel
theorem zd_R_put_50 : decode zc_R_put 50 = .ok (.getfield 77, 3) := by decide +kernel
theorem zd_R_put_53 : decode zc_R_put 53 = .ok (.iload 5, 2) := by decide +kernel
theorem zd_R_put_55 : decode zc_R_put 55 = .ok (.i2b, 1) := by decide +kernel
theorem zd_R_put_56 : decode zc_R_put 56 = .ok (.bastore, 1) := by decide +kernel
theorem zd_R_put_57 : decode zc_R_put 57 = .ok (.aload_n 0, 1) := by decide +kernel
theorem zd_R_put_58 : decode zc_R_put 58 = .ok (.getfield 63, 3) := by decide +kernel
theorem zd_R_put_61 : decode zc_R_put 61 = .ok (.aload_n 0, 1) := by decide +kernel
theorem zd_R_put_62 : decode zc_R_put 62 = .ok (.getfield 77, 3) := by decide +kernel
theorem zd_R_put_65 : decode zc_R_put 65 = .ok (.iload 6, 2) := by decide +kernel
theorem zd_R_put_67 : decode zc_R_put 67 = .ok (.i2s, 1) := by decide +kernel
theorem zd_R_put_68 : decode zc_R_put 68 = .ok (.sastore, 1) := by decide +kernel
theorem zd_R_put_69 : decode zc_R_put 69 = .ok (.aload_n 0, 1) := by decide +kernel
theorem zd_R_put_70 : decode zc_R_put 70 = .ok (.getfield 67, 3) := by decide +kernel
theorem zd_R_put_73 : decode zc_R_put 73 = .ok (.aload_n 0, 1) := by decide +kernel
theorem zd_R_put_74 : decode zc_R_put 74 = .ok (.getfield 77, 3) := by decide +kernel
theorem zd_R_put_77 : decode zc_R_put 77 = .ok (.iload_n 1, 1) := by decide +kernel
theorem zd_R_put_78 : decode zc_R_put 78 = .ok (.iconst 2, 1) := by decide +kernel
theorem zd_R_put_79 : decode zc_R_put 79 = .ok (.if_icmp .ne 12, 3) := by decide +kernel
theorem zd_R_put_82 : decode zc_R_put 82 = .ok (.aload_n 0, 1) := by decide +kernel
theorem zd_R_put_83 : decode zc_R_put 83 = .ok (.getfield 40, 3) := by decide +kernel
theorem zd_R_put_86 : decode zc_R_put 86 = .ok (.iload_n 2, 1) := by decide +kernel
theorem zd_R_put_87 : decode zc_R_put 87 = .ok (.iaload, 1) := by decide +kernel
theorem zd_R_put_88 : decode zc_R_put 88 = .ok (.goto 4, 3) := by decide +kernel
theorem zd_R_put_91 : decode zc_R_put 91 = .ok (.iconst 0, 1) := by decide +kernel
theorem zd_R_put_92 : decode zc_R_put 92 = .ok (.i2b, 1) := by decide +kernel
theorem zd_R_put_93 : decode zc_R_put 93 = .ok (.bastore, 1) := by decide +kernel
theorem zd_R_put_94 : decode zc_R_put 94 = .ok (.aload_n 0, 1) := by decide +kernel
theorem zd_R_put_95 : decode zc_R_put 95 = .ok (.getfield 70, 3) := by decide +kernel
theorem zd_R_put_98 : decode zc_R_put 98 = .ok (.aload_n 0, 1) := by decide +kernel
theorem zd_R_put_99 : decode zc_R_put 99 = .ok (.getfield 77, 3) := by decide +kernel
theorem zd_R_put_102 : decode zc_R_put 102 = .ok (.iload_n 2, 1) := by decide +kernel
theorem zd_R_put_103 : decode zc_R_put 103 = .ok (.iload_n 3, 1) := by decide +kernel
theorem zd_R_put_104 : decode zc_R_put 104 = .ok (.if_icmp .ne 7, 3) := by decide +kernel
theorem zd_R_put_107 : decode zc_R_put 107 = .ok (.iconst 1, 1) := by decide +kernel
theorem zd_R_put_108 : decode zc_R_put 108 = .ok (.goto 4, 3) := by decide +kernel
theorem zd_R_put_111 : decode zc_R_put 111 = .ok (.iconst 0, 1) := by decide +kernel
theorem zd_R_put_112 : decode zc_R_put 112 = .ok (.i2b, 1) := by decide +kernel
theorem zd_R_put_113 : decode zc_R_put 113 = .ok (.bastore, 1) := by decide +kernel
theorem zd_R_put_114 : decode zc_R_put 114 = .ok (.aload_n 0, 1) := by decide +kernel
theorem zd_R_put_115 : decode zc_R_put 115 = .ok (.dup, 1) := by decide +kernel
theorem zd_R_put_116 : decode zc_R_put 116 = .ok (.getfield 77, 3) := by decide +kernel
theorem zd_R_put_119 : decode zc_R_put 119 = .ok (.iconst 1, 1) := by decide +kernel
theorem zd_R_put_120 : decode zc_R_put 120 = .ok (.iadd, 1) := by decide +kernel
theorem zd_R_put_121 : decode zc_R_put 121 = .ok (.putfield 77, 3) := by decide +kernel
theorem zd_R_put_124 : decode zc_R_put 124 = .ok (.return_, 1) := by decide +kernel
theorem zd_R_goOn_0 : decode zc_R_goOn 0 = .ok (.iconst 1, 1) := by decide +kernel
theorem zd_R_goOn_1 : decode zc_R_goOn 1 = .ok (.istore_n 2, 1) := by decide +kernel
theorem zd_R_goOn_2 : decode zc_R_goOn 2 = .ok (.iconst 0, 1) := by decide +kernel
theorem zd_R_goOn_3 : decode zc_R_goOn 3 = .ok (.istore_n 3, 1) := by decide +kernel
theorem zd_R_goOn_4 : decode zc_R_goOn 4 = .ok (.iload_n 3, 1) := by decide +kernel
theorem zd_R_goOn_5 : decode zc_R_goOn 5 = .ok (.sipush 1000, 3) := by decide +kernel
theorem zd_R_goOn_8 : decode zc_R_goOn 8 = .ok (.if_icmp .ge 19, 3) := by decide +kernel
theorem zd_R_goOn_11 : decode zc_R_goOn 11 = .ok (.iload_n 2, 1) := by decide +kernel
theorem zd_R_goOn_12 : decode zc_R_goOn 12 = .ok (.ifCond .eq 15, 3) := by decide +kernel
theorem zd_R_goOn_15 : decode zc_R_goOn 15 = .ok (.aload_n 0, 1) := by decide +kernel
theorem zd_R_goOn_16 : decode zc_R_goOn 16 = .ok (.iload_n 1, 1) := by decide +kernel
theorem zd_R_goOn_17 : decode zc_R_goOn 17 = .ok (.invokevirtual 140, 3) := by decide +kernel
theorem zd_R_goOn_20 : decode zc_R_goOn 20 = .ok (.istore_n 2, 1) := by decide +kernel
theorem zd_R_goOn_21 : decode zc_R_goOn 21 = .ok (.iinc 3 1, 3) := by decide +kernel
theorem zd_R_goOn_24 : decode zc_R_goOn 24 = .ok (.goto (-20), 3) := by decide +kernel
theorem zd_R_goOn_27 : decode zc_R_goOn 27 = .ok (.return_, 1) := by decide +kernel
theorem zd_R_step_0 : decode zc_R_step 0 = .ok (.aload_n 0, 1) := by decide +kernel
theorem zd_R_step_1 : decode zc_R_step 1 = .ok (.getfield 22, 3) := by decide +kernel
theorem zd_R_step_4 : decode zc_R_step 4 = .ok (.iload_n 1, 1) := by decide +kernel
theorem zd_R_step_5 : decode zc_R_step 5 = .ok (.iaload, 1) := by decide +kernel
theorem zd_R_step_6 : decode zc_R_step 6 = .ok (.bipush 8, 2) := by decide +kernel
theorem zd_R_step_8 : decode zc_R_step 8 = .ok (.if_icmp .ge 29, 3) := by decide +kernel
theorem zd_R_step_11 : decode zc_R_step 11 = .ok (.aload_n 0, 1) := by decide +kernel
theorem zd_R_step_12 : decode zc_R_step 12 = .ok (.getfield 28, 3) := by decide +kernel
theorem zd_R_step_15 : decode zc_R_step 15 = .ok (.bipush 8, 2) := by decide +kernel
theorem zd_R_step_17 : decode zc_R_step 17 = .ok (.iload_n 1, 1) := by decide +kernel
theorem zd_R_step_18 : decode zc_R_step 18 = .ok (.imul, 1) := by decide +kernel
theorem zd_R_step_19 : decode zc_R_step 19 = .ok (.aload_n 0, 1) := by decide +kernel
theorem zd_R_step_20 : decode zc_R_step 20 = .ok (.getfield 22, 3) := by decide +kernel
theorem zd_R_step_23 : decode zc_R_step 23 = .ok (.iload_n 1, 1) := by decide +kernel
theorem zd_R_step_24 : decode zc_R_step 24 = .ok (.iaload, 1) := by decide +kernel
theorem zd_R_step_25 : decode zc_R_step 25 = .ok (.iadd, 1) := by decide +kernel
theorem zd_R_step_26 : decode zc_R_step 26 = .ok (.iaload, 1) := by decide +kernel
theorem zd_R_step_27 : decode zc_R_step 27 = .ok (.ifCond .eq 10, 3) := by decide +kernel
theorem zd_R_step_30 : decode zc_R_step 30 = .ok (.aload_n 0, 1) := by decide +kernel
theorem zd_R_step_31 : decode zc_R_step 31 = .ok (.iload_n 1, 1) := by decide +kernel
theorem zd_R_step_32 : decode zc_R_step 32 = .ok (.invokevirtual 109, 3) := by decide +kernel
theorem zd_R_step_35 : decode zc_R_step 35 = .ok (.iconst 1, 1) := by decide +kernel
theorem zd_R_step_36 : decode zc_R_step 36 = .ok (.ireturn, 1) := by decide +kernel
theorem zd_R_step_37 : decode zc_R_step 37 = .ok (.aload_n 0, 1) := by decide +kernel
theorem zd_R_step_38 : decode zc_R_step 38 = .ok (.getfield 7, 3) := by decide +kernel
theorem zd_R_step_41 : decode zc_R_step 41 = .ok (.iload_n 1, 1) := by decide +kernel
theorem zd_R_step_42 : decode zc_R_step 42 = .ok (.iaload, 1) := by decide +kernel
theorem zd_R_step_43 : decode zc_R_step 43 = .ok (.aload_n 0, 1) := by decide +kernel
theorem zd_R_step_44 : decode zc_R_step 44 = .ok (.getfield 13, 3) := by decide +kernel
theorem zd_R_step_47 : decode zc_R_step 47 = .ok (.iload_n 1, 1) := by decide +kernel
theorem zd_R_step_48 : decode zc_R_step 48 = .ok (.iaload, 1) := by decide +kernel
theorem zd_R_step_49 : decode zc_R_step 49 = .ok (.iconst (-1), 1) := by decide +kernel
theorem zd_R_step_50 : decode zc_R_step 50 = .ok (.ixor, 1) := by decide +kernel
theorem zd_R_step_51 : decode zc_R_step 51 = .ok (.iand, 1) := by decide +kernel
theorem zd_R_step_52 : decode zc_R_step 52 = .ok (.istore_n 2, 1) := by decide +kernel
theorem zd_R_step_53 : decode zc_R_step 53 = .ok (.aload_n 0, 1) := by decide +kernel
theorem zd_R_step_54 : decode zc_R_step 54 = .ok (.getfield 31, 3) := by decide +kernel
theorem zd_R_step_57 : decode zc_R_step 57 = .ok (.iload_n 1, 1) := by decide +kernel
theorem zd_R_step_58 : decode zc_R_step 58 = .ok (.iaload, 1) := by decide +kernel
theorem zd_R_step_59 : decode zc_R_step 59 = .ok (.ifCond .ne 29, 3) := by decide +kernel
theorem zd_R_step_62 : decode zc_R_step 62 = .ok (.iload_n 2, 1) := by decide +kernel
theorem zd_R_step_63 : decode zc_R_step 63 = .ok (.ifCond .eq 25, 3) := by decide +kernel
theorem zd_R_step_66 : decode zc_R_step 66 = .ok (.aload_n 0, 1) := by decide +kernel
theorem zd_R_step_67 : decode zc_R_step 67 = .ok (.getfield 37, 3) := by decide +kernel
theorem zd_R_step_70 : decode zc_R_step 70 = .ok (.iload_n 1, 1) := by decide +kernel
theorem zd_R_step_71 : decode zc_R_step 71 = .ok (.iload_n 2, 1) := by decide +kernel
theorem zd_R_step_72 : decode zc_R_step 72 = .ok (.iastore, 1) := by decide +kernel
theorem zd_R_step_73 : decode zc_R_step 73 = .ok (.aload_n 0, 1) := by decide +kernel
theorem zd_R_step_74 : decode zc_R_step 74 = .ok (.getfield 40, 3) := by decide +kernel
theorem zd_R_step_77 : decode zc_R_step 77 = .ok (.iload_n 1, 1) := by decide +kernel
theorem zd_R_step_78 : decode zc_R_step 78 = .ok (.iconst 0, 1) := by decide +kernel
theorem zd_R_step_79 : decode zc_R_step 79 = .ok (.iastore, 1) := by decide +kernel
theorem zd_R_step_80 : decode zc_R_step 80 = .ok (.aload_n 0, 1) := by decide +kernel
theorem zd_R_step_81 : decode zc_R_step 81 = .ok (.iload_n 1, 1) := by decide +kernel
theorem zd_R_step_82 : decode zc_R_step 82 = .ok (.iconst 1, 1) := by decide +kernel
theorem zd_R_step_83 : decode zc_R_step 83 = .ok (.invokevirtual 105, 3) := by decide +kernel
theorem zd_R_step_86 : decode zc_R_step 86 = .ok (.iconst 1, 1) := by decide +kernel
theorem zd_R_step_87 : decode zc_R_step 87 = .ok (.ireturn, 1) := by decide +kernel
theorem zd_R_step_88 : decode zc_R_step 88 = .ok (.aload_n 0, 1) := by decide +kernel
theorem zd_R_step_89 : decode zc_R_step 89 = .ok (.getfield 31, 3) := by decide +kernel
theorem zd_R_step_92 : decode zc_R_step 92 = .ok (.iload_n 1, 1) := by decide +kernel
theorem zd_R_step_93 : decode zc_R_step 93 = .ok (.iaload, 1) := by decide +kernel
theorem zd_R_step_94 : decode zc_R_step 94 = .ok (.iconst 1, 1) := by decide +kernel
theorem zd_R_step_95 : decode zc_R_step 95 = .ok (.if_icmp .ne 97, 3) := by decide +kernel
theorem zd_R_step_98 : decode zc_R_step 98 = .ok (.aload_n 0, 1) := by decide +kernel
theorem zd_R_step_99 : decode zc_R_step 99 = .ok (.iconst 2, 1) := by decide +kernel
theorem zd_R_step_100 : decode zc_R_step 100 = .ok (.iload_n 1, 1) := by decide +kernel
theorem zd_R_step_101 : decode zc_R_step 101 = .ok (.invokevirtual 113, 3) := by decide +kernel
theorem zd_R_step_104 : decode zc_R_step 104 = .ok (.aload_n 0, 1) := by decide +kernel
theorem zd_R_step_105 : decode zc_R_step 105 = .ok (.invokevirtual 117, 3) := by decide +kernel
theorem zd_R_step_108 : decode zc_R_step 108 = .ok (.if_icmp .lt 84, 3) := by decide +kernel
theorem zd_R_step_111 : decode zc_R_step 111 = .ok (.aload_n 0, 1) := by decide +kernel
theorem zd_R_step_112 : decode zc_R_step 112 = .ok (.getfield 37, 3) := by decide +kernel
theorem zd_R_step_115 : decode zc_R_step 115 = .ok (.iload_n 1, 1) := by decide +kernel
theorem zd_R_step_116 : decode zc_R_step 116 = .ok (.aload_n 0, 1) := by decide +kernel
theorem zd_R_step_117 : decode zc_R_step 117 = .ok (.getfield 63, 3) := by decide +kernel
theorem zd_R_step_120 : decode zc_R_step 120 = .ok (.aload_n 0, 1) := by decide +kernel
theorem zd_R_step_121 : decode zc_R_step 121 = .ok (.iload_n 1, 1) := by decide +kernel
theorem zd_R_step_122 : decode zc_R_step 122 = .ok (.invokevirtual 121, 3) := by decide +kernel
theorem zd_R_step_125 : decode zc_R_step 125 = .ok (.saload, 1) := by decide +kernel
theorem zd_R_step_126 : decode zc_R_step 126 = .ok (.iastore, 1) := by decide +kernel
theorem zd_R_step_127 : decode zc_R_step 127 = .ok (.aload_n 0, 1) := by decide +kernel
theorem zd_R_step_128 : decode zc_R_step 128 = .ok (.getfield 40, 3) := by decide +kernel
theorem zd_R_step_131 : decode zc_R_step 131 = .ok (.iload_n 1, 1) := by decide +kernel
theorem zd_R_step_132 : decode zc_R_step 132 = .ok (.aload_n 0, 1) := by decide +kernel
theorem zd_R_step_133 : decode zc_R_step 133 = .ok (.getfield 34, 3) := by decide +kernel
theorem zd_R_step_136 : decode zc_R_step 136 = .ok (.iload_n 1, 1) := by decide +kernel
theorem zd_R_step_137 : decode zc_R_step 137 = .ok (.iaload, 1) := by decide +kernel
theorem zd_R_step_138 : decode zc_R_step 138 = .ok (.iastore, 1) := by decide +kernel
theorem zd_R_step_139 : decode zc_R_step 139 = .ok (.aload_n 0, 1) := by decide +kernel
theorem zd_R_step_140 : decode zc_R_step 140 = .ok (.iconst 3, 1) := by decide +kernel
theorem zd_R_step_141 : decode zc_R_step 141 = .ok (.iload_n 1, 1) := by decide +kernel
theorem zd_R_step_142 : decode zc_R_step 142 = .ok (.aload_n 0, 1) := by decide +kernel
theorem zd_R_step_143 : decode zc_R_step 143 = .ok (.getfield 22, 3) := by decide +kernel
theorem zd_R_step_146 : decode zc_R_step 146 = .ok (.iload_n 1, 1) := by decide +kernel
theorem zd_R_step_147 : decode zc_R_step 147 = .ok (.iaload, 1) := by decide +kernel
theorem zd_R_step_148 : decode zc_R_step 148 = .ok (.aload_n 0, 1) := by decide +kernel
theorem zd_R_step_149 : decode zc_R_step 149 = .ok (.getfield 34, 3) := by decide +kernel
theorem zd_R_step_152 : decode zc_R_step 152 = .ok (.iload_n 1, 1) := by decide +kernel
theorem zd_R_step_153 : decode zc_R_step 153 = .ok (.iaload, 1) := by decide +kernel
theorem zd_R_step_154 : decode zc_R_step 154 = .ok (.aload_n 0, 1) := by decide +kernel
theorem zd_R_step_155 : decode zc_R_step 155 = .ok (.getfield 37, 3) := by decide +kernel
theorem zd_R_step_158 : decode zc_R_step 158 = .ok (.iload_n 1, 1) := by decide +kernel
theorem zd_R_step_159 : decode zc_R_step 159 = .ok (.iaload, 1) := by decide +kernel
theorem zd_R_step_160 : decode zc_R_step 160 = .ok (.invokevirtual 101, 3) := by decide +kernel
theorem zd_R_step_163 : decode zc_R_step 163 = .ok (.aload_n 0, 1) := by decide +kernel
theorem zd_R_step_164 : decode zc_R_step 164 = .ok (.iconst 4, 1) := by decide +kernel
theorem zd_R_step_165 : decode zc_R_step 165 = .ok (.iload_n 1, 1) := by decide +kernel
theorem zd_R_step_166 : decode zc_R_step 166 = .ok (.iload_n 1, 1) := by decide +kernel
theorem zd_R_step_167 : decode zc_R_step 167 = .ok (.aload_n 0, 1) := by decide +kernel
theorem zd_R_step_168 : decode zc_R_step 168 = .ok (.getfield 22, 3) := by decide +kernel
theorem zd_R_step_171 : decode zc_R_step 171 = .ok (.iload_n 1, 1) := by decide +kernel
theorem zd_R_step_172 : decode zc_R_step 172 = .ok (.iaload, 1) := by decide +kernel
theorem zd_R_step_173 : decode zc_R_step 173 = .ok (.aload_n 0, 1) := by decide +kernel
theorem zd_R_step_174 : decode zc_R_step 174 = .ok (.getfield 34, 3) := by decide +kernel
theorem zd_R_step_177 : decode zc_R_step 177 = .ok (.iload_n 1, 1) := by decide +kernel
theorem zd_R_step_178 : decode zc_R_step 178 = .ok (.iaload, 1) := by decide +kernel
theorem zd_R_step_179 : decode zc_R_step 179 = .ok (.iconst 1, 1) := by decide +kernel
theorem zd_R_step_180 : decode zc_R_step 180 = .ok (.invokevirtual 80, 3) := by decide +kernel
theorem zd_R_step_183 : decode zc_R_step 183 = .ok (.aload_n 0, 1) := by decide +kernel
theorem zd_R_step_184 : decode zc_R_step 184 = .ok (.getfield 31, 3) := by decide +kernel
theorem zd_R_step_187 : decode zc_R_step 187 = .ok (.iload_n 1, 1) := by decide +kernel
theorem zd_R_step_188 : decode zc_R_step 188 = .ok (.iconst 3, 1) := by decide +kernel
theorem zd_R_step_189 : decode zc_R_step 189 = .ok (.iastore, 1) := by decide +kernel
theorem zd_R_step_190 : decode zc_R_step 190 = .ok (.iconst 1, 1) := by decide +kernel
theorem zd_R_step_191 : decode zc_R_step 191 = .ok (.ireturn, 1) := by decide +kernel
theorem zd_R_step_192 : decode zc_R_step 192 = .ok (.aload_n 0, 1) := by decide +kernel
theorem zd_R_step_193 : decode zc_R_step 193 = .ok (.getfield 31, 3) := by decide +kernel
theorem zd_R_step_196 : decode zc_R_step 196 = .ok (.iload_n 1, 1) := by decide +kernel
theorem zd_R_step_197 : decode zc_R_step 197 = .ok (.iaload, 1) := by decide +kernel
theorem zd_R_step_198 : decode zc_R_step 198 = .ok (.iconst 2, 1) := by decide +kernel
theorem zd_R_step_199 : decode zc_R_step 199 = .ok (.if_icmp .ne 9, 3) := by decide +kernel
theorem zd_R_step_202 : decode zc_R_step 202 = .ok (.aload_n 0, 1) := by decide +kernel
theorem zd_R_step_203 : decode zc_R_step 203 = .ok (.iload_n 1, 1) := by decide +kernel
theorem zd_R_step_204 : decode zc_R_step 204 = .ok (.invokevirtual 124, 3) := by decide +kernel
theorem zd_R_step_207 : decode zc_R_step 207 = .ok (.ireturn, 1) := by decide +kernel
theorem zd_R_step_208 : decode zc_R_step 208 = .ok (.aload_n 0, 1) := by decide +kernel
theorem zd_R_step_209 : decode zc_R_step 209 = .ok (.getfield 31, 3) := by decide +kernel
theorem zd_R_step_212 : decode zc_R_step 212 = .ok (.iload_n 1, 1) := by decide +kernel
theorem zd_R_step_213 : decode zc_R_step 213 = .ok (.iaload, 1) := by decide +kernel
theorem zd_R_step_214 : decode zc_R_step 214 = .ok (.iconst 3, 1) := by decide +kernel
theorem zd_R_step_215 : decode zc_R_step 215 = .ok (.if_icmp .ne 59, 3) := by decide +kernel
theorem zd_R_step_218 : decode zc_R_step 218 = .ok (.aload_n 0, 1) := by decide +kernel
theorem zd_R_step_219 : decode zc_R_step 219 = .ok (.iconst 4, 1) := by decide +kernel
theorem zd_R_step_220 : decode zc_R_step 220 = .ok (.iload_n 1, 1) := by decide +kernel
theorem zd_R_step_221 : decode zc_R_step 221 = .ok (.invokevirtual 113, 3) := by decide +kernel
theorem zd_R_step_224 : decode zc_R_step 224 = .ok (.aload_n 0, 1) := by decide +kernel
theorem zd_R_step_225 : decode zc_R_step 225 = .ok (.invokevirtual 117, 3) := by decide +kernel
theorem zd_R_step_228 : decode zc_R_step 228 = .ok (.if_icmp .lt 46, 3) := by decide +kernel
theorem zd_R_step_231 : decode zc_R_step 231 = .ok (.aload_n 0, 1) := by decide +kernel
theorem zd_R_step_232 : decode zc_R_step 232 = .ok (.iload_n 1, 1) := by decide +kernel
theorem zd_R_step_233 : decode zc_R_step 233 = .ok (.invokevirtual 127, 3) := by decide +kernel
theorem zd_R_step_236 : decode zc_R_step 236 = .ok (.ifCond .eq 23, 3) := by decide +kernel
theorem zd_R_step_239 : decode zc_R_step 239 = .ok (.aload_n 0, 1) := by decide +kernel
theorem zd_R_step_240 : decode zc_R_step 240 = .ok (.iload_n 1, 1) := by decide +kernel
theorem zd_R_step_241 : decode zc_R_step 241 = .ok (.aload_n 0, 1) := by decide +kernel
theorem zd_R_step_242 : decode zc_R_step 242 = .ok (.getfield 22, 3) := by decide +kernel
theorem zd_R_step_245 : decode zc_R_step 245 = .ok (.iload_n 1, 1) := by decide +kernel
theorem zd_R_step_246 : decode zc_R_step 246 = .ok (.iaload, 1) := by decide +kernel
theorem zd_R_step_247 : decode zc_R_step 247 = .ok (.aload_n 0, 1) := by decide +kernel
theorem zd_R_step_248 : decode zc_R_step 248 = .ok (.getfield 37, 3) := by decide +kernel
theorem zd_R_step_251 : decode zc_R_step 251 = .ok (.iload_n 1, 1) := by decide +kernel
theorem zd_R_step_252 : decode zc_R_step 252 = .ok (.iaload, 1) := by decide +kernel
theorem zd_R_step_253 : decode zc_R_step 253 = .ok (.invokevirtual 130, 3) := by decide +kernel
theorem zd_R_step_256 : decode zc_R_step 256 = .ok (.goto 16, 3) := by decide +kernel
theorem zd_R_step_259 : decode zc_R_step 259 = .ok (.aload_n 0, 1) := by decide +kernel
theorem zd_R_step_260 : decode zc_R_step 260 = .ok (.iload_n 1, 1) := by decide +kernel
theorem zd_R_step_261 : decode zc_R_step 261 = .ok (.aload_n 0, 1) := by decide +kernel
theorem zd_R_step_262 : decode zc_R_step 262 = .ok (.getfield 34, 3) := by decide +kernel
theorem zd_R_step_265 : decode zc_R_step 265 = .ok (.iload_n 1, 1) := by decide +kernel
theorem zd_R_step_266 : decode zc_R_step 266 = .ok (.iaload, 1) := by decide +kernel
theorem zd_R_step_267 : decode zc_R_step 267 = .ok (.iconst 1, 1) := by decide +kernel
theorem zd_R_step_268 : decode zc_R_step 268 = .ok (.iadd, 1) := by decide +kernel
theorem zd_R_step_269 : decode zc_R_step 269 = .ok (.invokevirtual 105, 3) := by decide +kernel
theorem zd_R_step_272 : decode zc_R_step 272 = .ok (.iconst 1, 1) := by decide +kernel
theorem zd_R_step_273 : decode zc_R_step 273 = .ok (.ireturn, 1) := by decide +kernel
theorem zd_R_step_274 : decode zc_R_step 274 = .ok (.iconst 0, 1) := by decide +kernel
theorem zd_R_step_275 : decode zc_R_step 275 = .ok (.ireturn, 1) := by decide +kernel
theorem zd_R_finish_0 : decode zc_R_finish 0 = .ok (.aload_n 0, 1) := by decide +kernel
theorem zd_R_finish_1 : decode zc_R_finish 1 = .ok (.getfield 28, 3) := by decide +kernel
theorem zd_R_finish_4 : decode zc_R_finish 4 = .ok (.bipush 8, 2) := by decide +kernel
theorem zd_R_finish_6 : decode zc_R_finish 6 = .ok (.iload_n 1, 1) := by decide +kernel
theorem zd_R_finish_7 : decode zc_R_finish 7 = .ok (.imul, 1) := by decide +kernel
theorem zd_R_finish_8 : decode zc_R_finish 8 = .ok (.aload_n 0, 1) := by decide +kernel
theorem zd_R_finish_9 : decode zc_R_finish 9 = .ok (.getfield 22, 3) := by decide +kernel
theorem zd_R_finish_12 : decode zc_R_finish 12 = .ok (.iload_n 1, 1) := by decide +kernel
theorem zd_R_finish_13 : decode zc_R_finish 13 = .ok (.iaload, 1) := by decide +kernel
theorem zd_R_finish_14 : decode zc_R_finish 14 = .ok (.iadd, 1) := by decide +kernel
theorem zd_R_finish_15 : decode zc_R_finish 15 = .ok (.iaload, 1) := by decide +kernel
theorem zd_R_finish_16 : decode zc_R_finish 16 = .ok (.istore_n 2, 1) := by decide +kernel
theorem zd_R_finish_17 : decode zc_R_finish 17 = .ok (.iconst 0, 1) := by decide +kernel
theorem zd_R_finish_18 : decode zc_R_finish 18 = .ok (.istore_n 3, 1) := by decide +kernel
theorem zd_R_finish_19 : decode zc_R_finish 19 = .ok (.iload_n 3, 1) := by decide +kernel
theorem zd_R_finish_20 : decode zc_R_finish 20 = .ok (.bipush 8, 2) := by decide +kernel
theorem zd_R_finish_22 : decode zc_R_finish 22 = .ok (.if_icmp .ge 70, 3) := by decide +kernel
theorem zd_R_finish_25 : decode zc_R_finish 25 = .ok (.iload_n 2, 1) := by decide +kernel
theorem zd_R_finish_26 : decode zc_R_finish 26 = .ok (.iload_n 3, 1) := by decide +kernel
theorem zd_R_finish_27 : decode zc_R_finish 27 = .ok (.ishr, 1) := by decide +kernel
theorem zd_R_finish_28 : decode zc_R_finish 28 = .ok (.iconst 1, 1) := by decide +kernel
theorem zd_R_finish_29 : decode zc_R_finish 29 = .ok (.iand, 1) := by decide +kernel
theorem zd_R_finish_30 : decode zc_R_finish 30 = .ok (.iconst 1, 1) := by decide +kernel
theorem zd_R_finish_31 : decode zc_R_finish 31 = .ok (.if_icmp .ne 55, 3) := by decide +kernel
theorem zd_R_finish_34 : decode zc_R_finish 34 = .ok (.aload_n 0, 1) := by decide +kernel
theorem zd_R_finish_35 : decode zc_R_finish 35 = .ok (.getfield 13, 3) := by decide +kernel
theorem zd_R_finish_38 : decode zc_R_finish 38 = .ok (.iload_n 1, 1) := by decide +kernel
theorem zd_R_finish_39 : decode zc_R_finish 39 = .ok (.iaload, 1) := by decide +kernel
theorem zd_R_finish_40 : decode zc_R_finish 40 = .ok (.iload_n 3, 1) := by decide +kernel
theorem zd_R_finish_41 : decode zc_R_finish 41 = .ok (.ishr, 1) := by decide +kernel
theorem zd_R_finish_42 : decode zc_R_finish 42 = .ok (.iconst 1, 1) := by decide +kernel
theorem zd_R_finish_43 : decode zc_R_finish 43 = .ok (.iand, 1) := by decide +kernel
theorem zd_R_finish_44 : decode zc_R_finish 44 = .ok (.ifCond .ne 42, 3) := by decide +kernel
theorem zd_R_finish_47 : decode zc_R_finish 47 = .ok (.aload_n 0, 1) := by decide +kernel
theorem zd_R_finish_48 : decode zc_R_finish 48 = .ok (.getfield 13, 3) := by decide +kernel
theorem zd_R_finish_51 : decode zc_R_finish 51 = .ok (.iload_n 1, 1) := by decide +kernel
theorem zd_R_finish_52 : decode zc_R_finish 52 = .ok (.dup2, 1) := by decide +kernel
theorem zd_R_finish_53 : decode zc_R_finish 53 = .ok (.iaload, 1) := by decide +kernel
theorem zd_R_finish_54 : decode zc_R_finish 54 = .ok (.iconst 1, 1) := by decide +kernel
theorem zd_R_finish_55 : decode zc_R_finish 55 = .ok (.iload_n 3, 1) := by decide +kernel
theorem zd_R_finish_56 : decode zc_R_finish 56 = .ok (.ishl, 1) := by decide +kernel
theorem zd_R_finish_57 : decode zc_R_finish 57 = .ok (.ior, 1) := by decide +kernel
theorem zd_R_finish_58 : decode zc_R_finish 58 = .ok (.iastore, 1) := by decide +kernel
theorem zd_R_finish_59 : decode zc_R_finish 59 = .ok (.aload_n 0, 1) := by decide +kernel
theorem zd_R_finish_60 : decode zc_R_finish 60 = .ok (.getfield 19, 3) := by decide +kernel
theorem zd_R_finish_63 : decode zc_R_finish 63 = .ok (.bipush 8, 2) := by decide +kernel
theorem zd_R_finish_65 : decode zc_R_finish 65 = .ok (.iload_n 1, 1) := by decide +kernel
theorem zd_R_finish_66 : decode zc_R_finish 66 = .ok (.imul, 1) := by decide +kernel
theorem zd_R_finish_67 : decode zc_R_finish 67 = .ok (.aload_n 0, 1) := by decide +kernel
theorem zd_R_finish_68 : decode zc_R_finish 68 = .ok (.getfield 16, 3) := by decide +kernel
theorem zd_R_finish_71 : decode zc_R_finish 71 = .ok (.iload_n 1, 1) := by decide +kernel
theorem zd_R_finish_72 : decode zc_R_finish 72 = .ok (.iaload, 1) := by decide +kernel
theorem zd_R_finish_73 : decode zc_R_finish 73 = .ok (.iadd, 1) := by decide +kernel
theorem zd_R_finish_74 : decode zc_R_finish 74 = .ok (.iload_n 3, 1) := by decide +kernel
theorem zd_R_finish_75 : decode zc_R_finish 75 = .ok (.iastore, 1) := by decide +kernel
theorem zd_R_finish_76 : decode zc_R_finish 76 = .ok (.aload_n 0, 1) := by decide +kernel
theorem zd_R_finish_77 : decode zc_R_finish 77 = .ok (.getfield 16, 3) := by decide +kernel
theorem zd_R_finish_80 : decode zc_R_finish 80 = .ok (.iload_n 1, 1) := by decide +kernel
theorem zd_R_finish_81 : decode zc_R_finish 81 = .ok (.dup2, 1) := by decide +kernel
theorem zd_R_finish_82 : decode zc_R_finish 82 = .ok (.iaload, 1) := by decide +kernel
theorem zd_R_finish_83 : decode zc_R_finish 83 = .ok (.iconst 1, 1) := by decide +kernel
theorem zd_R_finish_84 : decode zc_R_finish 84 = .ok (.iadd, 1) := by decide +kernel
theorem zd_R_finish_85 : decode zc_R_finish 85 = .ok (.iastore, 1) := by decide +kernel
theorem zd_R_finish_86 : decode zc_R_finish 86 = .ok (.iinc 3 1, 3) := by decide +kernel
theorem zd_R_finish_89 : decode zc_R_finish 89 = .ok (.goto (-70), 3) := by decide +kernel
theorem zd_R_finish_92 : decode zc_R_finish 92 = .ok (.aload_n 0, 1) := by decide +kernel
theorem zd_R_finish_93 : decode zc_R_finish 93 = .ok (.getfield 22, 3) := by decide +kernel
theorem zd_R_finish_96 : decode zc_R_finish 96 = .ok (.iload_n 1, 1) := by decide +kernel
theorem zd_R_finish_97 : decode zc_R_finish 97 = .ok (.dup2, 1) := by decide +kernel
theorem zd_R_finish_98 : decode zc_R_finish 98 = .ok (.iaload, 1) := by decide +kernel
theorem zd_R_finish_99 : decode zc_R_finish 99 = .ok (.iconst 1, 1) := by decide +kernel
theorem zd_R_finish_100 : decode zc_R_finish 100 = .ok (.iadd, 1) := by decide +kernel
theorem zd_R_finish_101 : decode zc_R_finish 101 = .ok (.iastore, 1) := by decide +kernel
theorem zd_R_finish_102 : decode zc_R_finish 102 = .ok (.aload_n 0, 1) := by decide +kernel
theorem zd_R_finish_103 : decode zc_R_finish 103 = .ok (.getfield 31, 3) := by decide +kernel
theorem zd_R_finish_106 : decode zc_R_finish 106 = .ok (.iload_n 1, 1) := by decide +kernel
theorem zd_R_finish_107 : decode zc_R_finish 107 = .ok (.iconst 0, 1) := by decide +kernel
theorem zd_R_finish_108 : decode zc_R_finish 108 = .ok (.iastore, 1) := by decide +kernel
theorem zd_R_finish_109 : decode zc_R_finish 109 = .ok (.aload_n 0, 1) := by decide +kernel
theorem zd_R_finish_110 : decode zc_R_finish 110 = .ok (.getfield 34, 3) := by decide +kernel
theorem zd_R_finish_113 : decode zc_R_finish 113 = .ok (.iload_n 1, 1) := by decide +kernel
theorem zd_R_finish_114 : decode zc_R_finish 114 = .ok (.iconst 0, 1) := by decide +kernel
theorem zd_R_finish_115 : decode zc_R_finish 115 = .ok (.iastore, 1) := by decide +kernel
theorem zd_R_finish_116 : decode zc_R_finish 116 = .ok (.aload_n 0, 1) := by decide +kernel
theorem zd_R_finish_117 : decode zc_R_finish 117 = .ok (.getfield 37, 3) := by decide +kernel
theorem zd_R_finish_120 : decode zc_R_finish 120 = .ok (.iload_n 1, 1) := by decide +kernel
theorem zd_R_finish_121 : decode zc_R_finish 121 = .ok (.iconst 0, 1) := by decide +kernel
theorem zd_R_finish_122 : decode zc_R_finish 122 = .ok (.iastore, 1) := by decide +kernel
theorem zd_R_finish_123 : decode zc_R_finish 123 = .ok (.aload_n 0, 1) := by decide +kernel
theorem zd_R_finish_124 : decode zc_R_finish 124 = .ok (.getfield 40, 3) := by decide +kernel
theorem zd_R_finish_127 : decode zc_R_finish 127 = .ok (.iload_n 1, 1) := by decide +kernel
theorem zd_R_finish_128 : decode zc_R_finish 128 = .ok (.iconst 0, 1) := by decide +kernel
theorem zd_R_finish_129 : decode zc_R_finish 129 = .ok (.iastore, 1) := by decide +kernel
theorem zd_R_finish_130 : decode zc_R_finish 130 = .ok (.return_, 1) := by decide +kernel
theorem zd_R_enter_0 : decode zc_R_enter 0 = .ok (.aload_n 0, 1) := by decide +kernel
theorem zd_R_enter_1 : decode zc_R_enter 1 = .ok (.getfield 34, 3) := by decide +kernel
theorem zd_R_enter_4 : decode zc_R_enter 4 = .ok (.iload_n 1, 1) := by decide +kernel
theorem zd_R_enter_5 : decode zc_R_enter 5 = .ok (.iload_n 2, 1) := by decide +kernel
theorem zd_R_enter_6 : decode zc_R_enter 6 = .ok (.iastore, 1) := by decide +kernel
theorem zd_R_enter_7 : decode zc_R_enter 7 = .ok (.iload_n 2, 1) := by decide +kernel
theorem zd_R_enter_8 : decode zc_R_enter 8 = .ok (.bipush 11, 2) := by decide +kernel
theorem zd_R_enter_10 : decode zc_R_enter 10 = .ok (.if_icmp .ne 11, 3) := by decide +kernel
theorem zd_R_enter_13 : decode zc_R_enter 13 = .ok (.aload_n 0, 1) := by decide +kernel
theorem zd_R_enter_14 : decode zc_R_enter 14 = .ok (.getfield 31, 3) := by decide +kernel
theorem zd_R_enter_17 : decode zc_R_enter 17 = .ok (.iload_n 1, 1) := by decide +kernel
theorem zd_R_enter_18 : decode zc_R_enter 18 = .ok (.iconst 4, 1) := by decide +kernel
theorem zd_R_enter_19 : decode zc_R_enter 19 = .ok (.iastore, 1) := by decide +kernel
theorem zd_R_enter_20 : decode zc_R_enter 20 = .ok (.return_, 1) := by decide +kernel
theorem zd_R_enter_21 : decode zc_R_enter 21 = .ok (.aload_n 0, 1) := by decide +kernel
theorem zd_R_enter_22 : decode zc_R_enter 22 = .ok (.iload_n 2, 1) := by decide +kernel
theorem zd_R_enter_23 : decode zc_R_enter 23 = .ok (.invokevirtual 97, 3) := by decide +kernel
theorem zd_R_enter_26 : decode zc_R_enter 26 = .ok (.istore_n 3, 1) := by decide +kernel
theorem zd_R_enter_27 : decode zc_R_enter 27 = .ok (.aload_n 0, 1) := by decide +kernel
theorem zd_R_enter_28 : decode zc_R_enter 28 = .ok (.getfield 31, 3) := by decide +kernel
theorem zd_R_enter_31 : decode zc_R_enter 31 = .ok (.iload_n 1, 1) := by decide +kernel
theorem zd_R_enter_32 : decode zc_R_enter 32 = .ok (.iload_n 3, 1) := by decide +kernel
theorem zd_R_enter_33 : decode zc_R_enter 33 = .ok (.iload_n 1, 1) := by decide +kernel
theorem zd_R_enter_34 : decode zc_R_enter 34 = .ok (.if_icmp .ne 7, 3) := by decide +kernel
theorem zd_R_enter_37 : decode zc_R_enter 37 = .ok (.iconst 1, 1) := by decide +kernel
theorem zd_R_enter_38 : decode zc_R_enter 38 = .ok (.goto 4, 3) := by decide +kernel
theorem zd_R_enter_41 : decode zc_R_enter 41 = .ok (.iconst 2, 1) := by decide +kernel
theorem zd_R_enter_42 : decode zc_R_enter 42 = .ok (.iastore, 1) := by decide +kernel
theorem zd_R_enter_43 : decode zc_R_enter 43 = .ok (.aload_n 0, 1) := by decide +kernel
theorem zd_R_enter_44 : decode zc_R_enter 44 = .ok (.iconst 2, 1) := by decide +kernel
theorem zd_R_enter_45 : decode zc_R_enter 45 = .ok (.iload_n 1, 1) := by decide +kernel
theorem zd_R_enter_46 : decode zc_R_enter 46 = .ok (.iload_n 3, 1) := by decide +kernel
theorem zd_R_enter_47 : decode zc_R_enter 47 = .ok (.aload_n 0, 1) := by decide +kernel
theorem zd_R_enter_48 : decode zc_R_enter 48 = .ok (.getfield 22, 3) := by decide +kernel
theorem zd_R_enter_51 : decode zc_R_enter 51 = .ok (.iload_n 1, 1) := by decide +kernel
theorem zd_R_enter_52 : decode zc_R_enter 52 = .ok (.iaload, 1) := by decide +kernel
theorem zd_R_enter_53 : decode zc_R_enter 53 = .ok (.iload_n 2, 1) := by decide +kernel
theorem zd_R_enter_54 : decode zc_R_enter 54 = .ok (.aload_n 0, 1) := by decide +kernel
theorem zd_R_enter_55 : decode zc_R_enter 55 = .ok (.getfield 37, 3) := by decide +kernel
theorem zd_R_enter_58 : decode zc_R_enter 58 = .ok (.iload_n 1, 1) := by decide +kernel
theorem zd_R_enter_59 : decode zc_R_enter 59 = .ok (.iaload, 1) := by decide +kernel
theorem zd_R_enter_60 : decode zc_R_enter 60 = .ok (.invokevirtual 80, 3) := by decide +kernel
theorem zd_R_enter_63 : decode zc_R_enter 63 = .ok (.return_, 1) := by decide +kernel
theorem zd_R_leader_0 : decode zc_R_leader 0 = .ok (.iload_n 1, 1) := by decide +kernel
theorem zd_R_leader_1 : decode zc_R_leader 1 = .ok (.iconst 1, 1) := by decide +kernel
theorem zd_R_leader_2 : decode zc_R_leader 2 = .ok (.isub, 1) := by decide +kernel
theorem zd_R_leader_3 : decode zc_R_leader 3 = .ok (.aload_n 0, 1) := by decide +kernel
theorem zd_R_leader_4 : decode zc_R_leader 4 = .ok (.getfield 73, 3) := by decide +kernel
theorem zd_R_leader_7 : decode zc_R_leader 7 = .ok (.irem, 1) := by decide +kernel
theorem zd_R_leader_8 : decode zc_R_leader 8 = .ok (.ireturn, 1) := by decide +kernel
theorem zd_R_holds_0 : decode zc_R_holds 0 = .ok (.iconst 0, 1) := by decide +kernel
theorem zd_R_holds_1 : decode zc_R_holds 1 = .ok (.istore_n 3, 1) := by decide +kernel
theorem zd_R_holds_2 : decode zc_R_holds 2 = .ok (.iconst 0, 1) := by decide +kernel
theorem zd_R_holds_3 : decode zc_R_holds 3 = .ok (.istore 4, 2) := by decide +kernel
theorem zd_R_holds_5 : decode zc_R_holds 5 = .ok (.iload 4, 2) := by decide +kernel
theorem zd_R_holds_7 : decode zc_R_holds 7 = .ok (.aload_n 0, 1) := by decide +kernel
theorem zd_R_holds_8 : decode zc_R_holds 8 = .ok (.getfield 77, 3) := by decide +kernel
theorem zd_R_holds_11 : decode zc_R_holds 11 = .ok (.if_icmp .ge 28, 3) := by decide +kernel
theorem zd_R_holds_14 : decode zc_R_holds 14 = .ok (.iload_n 3, 1) := by decide +kernel
theorem zd_R_holds_15 : decode zc_R_holds 15 = .ok (.aload_n 0, 1) := by decide +kernel
theorem zd_R_holds_16 : decode zc_R_holds 16 = .ok (.iload 4, 2) := by decide +kernel
theorem zd_R_holds_18 : decode zc_R_holds 18 = .ok (.iload_n 1, 1) := by decide +kernel
theorem zd_R_holds_19 : decode zc_R_holds 19 = .ok (.iload_n 2, 1) := by decide +kernel
theorem zd_R_holds_20 : decode zc_R_holds 20 = .ok (.invokevirtual 93, 3) := by decide +kernel
theorem zd_R_holds_23 : decode zc_R_holds 23 = .ok (.ifCond .eq 7, 3) := by decide +kernel
theorem zd_R_holds_26 : decode zc_R_holds 26 = .ok (.iconst 1, 1) := by decide +kernel
theorem zd_R_holds_27 : decode zc_R_holds 27 = .ok (.goto 4, 3) := by decide +kernel
theorem zd_R_holds_30 : decode zc_R_holds 30 = .ok (.iconst 0, 1) := by decide +kernel
theorem zd_R_holds_31 : decode zc_R_holds 31 = .ok (.iadd, 1) := by decide +kernel
theorem zd_R_holds_32 : decode zc_R_holds 32 = .ok (.istore_n 3, 1) := by decide +kernel
theorem zd_R_holds_33 : decode zc_R_holds 33 = .ok (.iinc 4 1, 3) := by decide +kernel
theorem zd_R_holds_36 : decode zc_R_holds 36 = .ok (.goto (-31), 3) := by decide +kernel
theorem zd_R_holds_39 : decode zc_R_holds 39 = .ok (.iload_n 3, 1) := by decide +kernel
theorem zd_R_holds_40 : decode zc_R_holds 40 = .ok (.ireturn, 1) := by decide +kernel
theorem zd_R_here_0 : decode zc_R_here 0 = .ok (.aload_n 0, 1) := by decide +kernel
theorem zd_R_here_1 : decode zc_R_here 1 = .ok (.getfield 70, 3) := by decide +kernel
theorem zd_R_here_4 : decode zc_R_here 4 = .ok (.iload_n 1, 1) := by decide +kernel
theorem zd_R_here_5 : decode zc_R_here 5 = .ok (.baload, 1) := by decide +kernel
theorem zd_R_here_6 : decode zc_R_here 6 = .ok (.iconst 1, 1) := by decide +kernel
theorem zd_R_here_7 : decode zc_R_here 7 = .ok (.if_icmp .ne 57, 3) := by decide +kernel
theorem zd_R_here_10 : decode zc_R_here 10 = .ok (.aload_n 0, 1) := by decide +kernel
theorem zd_R_here_11 : decode zc_R_here 11 = .ok (.getfield 54, 3) := by decide +kernel
theorem zd_R_here_14 : decode zc_R_here 14 = .ok (.iload_n 1, 1) := by decide +kernel
theorem zd_R_here_15 : decode zc_R_here 15 = .ok (.baload, 1) := by decide +kernel
theorem zd_R_here_16 : decode zc_R_here 16 = .ok (.iload_n 3, 1) := by decide +kernel
theorem zd_R_here_17 : decode zc_R_here 17 = .ok (.if_icmp .ne 47, 3) := by decide +kernel
theorem zd_R_here_20 : decode zc_R_here 20 = .ok (.aload_n 0, 1) := by decide +kernel
theorem zd_R_here_21 : decode zc_R_here 21 = .ok (.getfield 47, 3) := by decide +kernel
theorem zd_R_here_24 : decode zc_R_here 24 = .ok (.iload_n 1, 1) := by decide +kernel
theorem zd_R_here_25 : decode zc_R_here 25 = .ok (.baload, 1) := by decide +kernel
theorem zd_R_here_26 : decode zc_R_here 26 = .ok (.iload_n 2, 1) := by decide +kernel
theorem zd_R_here_27 : decode zc_R_here 27 = .ok (.if_icmp .ne 37, 3) := by decide +kernel
theorem zd_R_here_30 : decode zc_R_here 30 = .ok (.aload_n 0, 1) := by decide +kernel
theorem zd_R_here_31 : decode zc_R_here 31 = .ok (.getfield 57, 3) := by decide +kernel
theorem zd_R_here_34 : decode zc_R_here 34 = .ok (.iload_n 1, 1) := by decide +kernel
theorem zd_R_here_35 : decode zc_R_here 35 = .ok (.baload, 1) := by decide +kernel
theorem zd_R_here_36 : decode zc_R_here 36 = .ok (.aload_n 0, 1) := by decide +kernel
theorem zd_R_here_37 : decode zc_R_here 37 = .ok (.getfield 22, 3) := by decide +kernel
theorem zd_R_here_40 : decode zc_R_here 40 = .ok (.iload_n 3, 1) := by decide +kernel
theorem zd_R_here_41 : decode zc_R_here 41 = .ok (.iaload, 1) := by decide +kernel
theorem zd_R_here_42 : decode zc_R_here 42 = .ok (.if_icmp .ne 22, 3) := by decide +kernel
theorem zd_R_here_45 : decode zc_R_here 45 = .ok (.aload_n 0, 1) := by decide +kernel
theorem zd_R_here_46 : decode zc_R_here 46 = .ok (.getfield 60, 3) := by decide +kernel
theorem zd_R_here_49 : decode zc_R_here 49 = .ok (.iload_n 1, 1) := by decide +kernel
theorem zd_R_here_50 : decode zc_R_here 50 = .ok (.baload, 1) := by decide +kernel
theorem zd_R_here_51 : decode zc_R_here 51 = .ok (.aload_n 0, 1) := by decide +kernel
theorem zd_R_here_52 : decode zc_R_here 52 = .ok (.getfield 34, 3) := by decide +kernel
theorem zd_R_here_55 : decode zc_R_here 55 = .ok (.iload_n 3, 1) := by decide +kernel
theorem zd_R_here_56 : decode zc_R_here 56 = .ok (.iaload, 1) := by decide +kernel
theorem zd_R_here_57 : decode zc_R_here 57 = .ok (.if_icmp .ne 7, 3) := by decide +kernel
theorem zd_R_here_60 : decode zc_R_here 60 = .ok (.iconst 1, 1) := by decide +kernel
theorem zd_R_here_61 : decode zc_R_here 61 = .ok (.goto 4, 3) := by decide +kernel
theorem zd_R_here_64 : decode zc_R_here 64 = .ok (.iconst 0, 1) := by decide +kernel
theorem zd_R_here_65 : decode zc_R_here 65 = .ok (.ireturn, 1) := by decide +kernel
theorem zd_R_best_0 : decode zc_R_best 0 = .ok (.iconst (-1), 1) := by decide +kernel
theorem zd_R_best_1 : decode zc_R_best 1 = .ok (.istore_n 2, 1) := by decide +kernel
theorem zd_R_best_2 : decode zc_R_best 2 = .ok (.iconst 0, 1) := by decide +kernel
theorem zd_R_best_3 : decode zc_R_best 3 = .ok (.istore_n 3, 1) := by decide +kernel
theorem zd_R_best_4 : decode zc_R_best 4 = .ok (.iload_n 3, 1) := by decide +kernel
theorem zd_R_best_5 : decode zc_R_best 5 = .ok (.aload_n 0, 1) := by decide +kernel
theorem zd_R_best_6 : decode zc_R_best 6 = .ok (.getfield 77, 3) := by decide +kernel
theorem zd_R_best_9 : decode zc_R_best 9 = .ok (.if_icmp .ge 70, 3) := by decide +kernel
theorem zd_R_best_12 : decode zc_R_best 12 = .ok (.aload_n 0, 1) := by decide +kernel
theorem zd_R_best_13 : decode zc_R_best 13 = .ok (.iload_n 3, 1) := by decide +kernel
theorem zd_R_best_14 : decode zc_R_best 14 = .ok (.iconst 2, 1) := by decide +kernel
theorem zd_R_best_15 : decode zc_R_best 15 = .ok (.iload_n 1, 1) := by decide +kernel
theorem zd_R_best_16 : decode zc_R_best 16 = .ok (.invokevirtual 93, 3) := by decide +kernel
theorem zd_R_best_19 : decode zc_R_best 19 = .ok (.ifCond .eq 54, 3) := by decide +kernel
theorem zd_R_best_22 : decode zc_R_best 22 = .ok (.iload_n 2, 1) := by decide +kernel
theorem zd_R_best_23 : decode zc_R_best 23 = .ok (.ifCond .lt 48, 3) := by decide +kernel
theorem zd_R_best_26 : decode zc_R_best 26 = .ok (.aload_n 0, 1) := by decide +kernel
theorem zd_R_best_27 : decode zc_R_best 27 = .ok (.getfield 67, 3) := by decide +kernel
theorem zd_R_best_30 : decode zc_R_best 30 = .ok (.iload_n 3, 1) := by decide +kernel
theorem zd_R_best_31 : decode zc_R_best 31 = .ok (.baload, 1) := by decide +kernel
theorem zd_R_best_32 : decode zc_R_best 32 = .ok (.aload_n 0, 1) := by decide +kernel
theorem zd_R_best_33 : decode zc_R_best 33 = .ok (.getfield 67, 3) := by decide +kernel
theorem zd_R_best_36 : decode zc_R_best 36 = .ok (.iload_n 2, 1) := by decide +kernel
theorem zd_R_best_37 : decode zc_R_best 37 = .ok (.baload, 1) := by decide +kernel
theorem zd_R_best_38 : decode zc_R_best 38 = .ok (.if_icmp .gt 33, 3) := by decide +kernel
theorem zd_R_best_41 : decode zc_R_best 41 = .ok (.aload_n 0, 1) := by decide +kernel
theorem zd_R_best_42 : decode zc_R_best 42 = .ok (.getfield 67, 3) := by decide +kernel
theorem zd_R_best_45 : decode zc_R_best 45 = .ok (.iload_n 3, 1) := by decide +kernel
theorem zd_R_best_46 : decode zc_R_best 46 = .ok (.baload, 1) := by decide +kernel
theorem zd_R_best_47 : decode zc_R_best 47 = .ok (.aload_n 0, 1) := by decide +kernel
theorem zd_R_best_48 : decode zc_R_best 48 = .ok (.getfield 67, 3) := by decide +kernel
theorem zd_R_best_51 : decode zc_R_best 51 = .ok (.iload_n 2, 1) := by decide +kernel
theorem zd_R_best_52 : decode zc_R_best 52 = .ok (.baload, 1) := by decide +kernel
theorem zd_R_best_53 : decode zc_R_best 53 = .ok (.if_icmp .ne 20, 3) := by decide +kernel
theorem zd_R_best_56 : decode zc_R_best 56 = .ok (.aload_n 0, 1) := by decide +kernel
theorem zd_R_best_57 : decode zc_R_best 57 = .ok (.getfield 51, 3) := by decide +kernel
theorem zd_R_best_60 : decode zc_R_best 60 = .ok (.iload_n 3, 1) := by decide +kernel
theorem zd_R_best_61 : decode zc_R_best 61 = .ok (.baload, 1) := by decide +kernel
theorem zd_R_best_62 : decode zc_R_best 62 = .ok (.aload_n 0, 1) := by decide +kernel
theorem zd_R_best_63 : decode zc_R_best 63 = .ok (.getfield 51, 3) := by decide +kernel
theorem zd_R_best_66 : decode zc_R_best 66 = .ok (.iload_n 2, 1) := by decide +kernel
theorem zd_R_best_67 : decode zc_R_best 67 = .ok (.baload, 1) := by decide +kernel
theorem zd_R_best_68 : decode zc_R_best 68 = .ok (.if_icmp .ge 5, 3) := by decide +kernel
theorem zd_R_best_71 : decode zc_R_best 71 = .ok (.iload_n 3, 1) := by decide +kernel
theorem zd_R_best_72 : decode zc_R_best 72 = .ok (.istore_n 2, 1) := by decide +kernel
theorem zd_R_best_73 : decode zc_R_best 73 = .ok (.iinc 3 1, 3) := by decide +kernel
theorem zd_R_best_76 : decode zc_R_best 76 = .ok (.goto (-72), 3) := by decide +kernel
theorem zd_R_best_79 : decode zc_R_best 79 = .ok (.iload_n 2, 1) := by decide +kernel
theorem zd_R_best_80 : decode zc_R_best 80 = .ok (.ireturn, 1) := by decide +kernel
theorem zd_R_await_0 : decode zc_R_await 0 = .ok (.aload_n 0, 1) := by decide +kernel
theorem zd_R_await_1 : decode zc_R_await 1 = .ok (.iload_n 1, 1) := by decide +kernel
theorem zd_R_await_2 : decode zc_R_await 2 = .ok (.invokevirtual 134, 3) := by decide +kernel
theorem zd_R_await_5 : decode zc_R_await 5 = .ok (.istore_n 2, 1) := by decide +kernel
theorem zd_R_await_6 : decode zc_R_await 6 = .ok (.iload_n 2, 1) := by decide +kernel
theorem zd_R_await_7 : decode zc_R_await 7 = .ok (.ifCond .lt 35, 3) := by decide +kernel
theorem zd_R_await_10 : decode zc_R_await 10 = .ok (.aload_n 0, 1) := by decide +kernel
theorem zd_R_await_11 : decode zc_R_await 11 = .ok (.getfield 37, 3) := by decide +kernel
theorem zd_R_await_14 : decode zc_R_await 14 = .ok (.iload_n 1, 1) := by decide +kernel
theorem zd_R_await_15 : decode zc_R_await 15 = .ok (.aload_n 0, 1) := by decide +kernel
theorem zd_R_await_16 : decode zc_R_await 16 = .ok (.getfield 63, 3) := by decide +kernel
theorem zd_R_await_19 : decode zc_R_await 19 = .ok (.iload_n 2, 1) := by decide +kernel
theorem zd_R_await_20 : decode zc_R_await 20 = .ok (.saload, 1) := by decide +kernel
theorem zd_R_await_21 : decode zc_R_await 21 = .ok (.iastore, 1) := by decide +kernel
theorem zd_R_await_22 : decode zc_R_await 22 = .ok (.aload_n 0, 1) := by decide +kernel
theorem zd_R_await_23 : decode zc_R_await 23 = .ok (.getfield 40, 3) := by decide +kernel
theorem zd_R_await_26 : decode zc_R_await 26 = .ok (.iload_n 1, 1) := by decide +kernel
theorem zd_R_await_27 : decode zc_R_await 27 = .ok (.aload_n 0, 1) := by decide +kernel
theorem zd_R_await_28 : decode zc_R_await 28 = .ok (.getfield 34, 3) := by decide +kernel
theorem zd_R_await_31 : decode zc_R_await 31 = .ok (.iload_n 1, 1) := by decide +kernel
theorem zd_R_await_32 : decode zc_R_await 32 = .ok (.iaload, 1) := by decide +kernel
theorem zd_R_await_33 : decode zc_R_await 33 = .ok (.iastore, 1) := by decide +kernel
theorem zd_R_await_34 : decode zc_R_await 34 = .ok (.aload_n 0, 1) := by decide +kernel
theorem zd_R_await_35 : decode zc_R_await 35 = .ok (.iload_n 1, 1) := by decide +kernel
theorem zd_R_await_36 : decode zc_R_await 36 = .ok (.iconst 1, 1) := by decide +kernel
theorem zd_R_await_37 : decode zc_R_await 37 = .ok (.invokevirtual 137, 3) := by decide +kernel
theorem zd_R_await_40 : decode zc_R_await 40 = .ok (.iconst 1, 1) := by decide +kernel
theorem zd_R_await_41 : decode zc_R_await 41 = .ok (.ireturn, 1) := by decide +kernel
theorem zd_R_await_42 : decode zc_R_await 42 = .ok (.aload_n 0, 1) := by decide +kernel
theorem zd_R_await_43 : decode zc_R_await 43 = .ok (.getfield 25, 3) := by decide +kernel
theorem zd_R_await_46 : decode zc_R_await 46 = .ok (.iload_n 1, 1) := by decide +kernel
theorem zd_R_await_47 : decode zc_R_await 47 = .ok (.iaload, 1) := by decide +kernel
theorem zd_R_await_48 : decode zc_R_await 48 = .ok (.aload_n 0, 1) := by decide +kernel
theorem zd_R_await_49 : decode zc_R_await 49 = .ok (.aload_n 0, 1) := by decide +kernel
theorem zd_R_await_50 : decode zc_R_await 50 = .ok (.getfield 34, 3) := by decide +kernel
theorem zd_R_await_53 : decode zc_R_await 53 = .ok (.iload_n 1, 1) := by decide +kernel
theorem zd_R_await_54 : decode zc_R_await 54 = .ok (.iaload, 1) := by decide +kernel
theorem zd_R_await_55 : decode zc_R_await 55 = .ok (.invokevirtual 97, 3) := by decide +kernel
theorem zd_R_await_58 : decode zc_R_await 58 = .ok (.ishr, 1) := by decide +kernel
theorem zd_R_await_59 : decode zc_R_await 59 = .ok (.iconst 1, 1) := by decide +kernel
theorem zd_R_await_60 : decode zc_R_await 60 = .ok (.iand, 1) := by decide +kernel
theorem zd_R_await_61 : decode zc_R_await 61 = .ok (.iconst 1, 1) := by decide +kernel
theorem zd_R_await_62 : decode zc_R_await 62 = .ok (.if_icmp .ne 11, 3) := by decide +kernel
theorem zd_R_await_65 : decode zc_R_await 65 = .ok (.aload_n 0, 1) := by decide +kernel
theorem zd_R_await_66 : decode zc_R_await 66 = .ok (.iload_n 1, 1) := by decide +kernel
theorem zd_R_await_67 : decode zc_R_await 67 = .ok (.iconst 0, 1) := by decide +kernel
theorem zd_R_await_68 : decode zc_R_await 68 = .ok (.invokevirtual 137, 3) := by decide +kernel
theorem zd_R_await_71 : decode zc_R_await 71 = .ok (.iconst 1, 1) := by decide +kernel
theorem zd_R_await_72 : decode zc_R_await 72 = .ok (.ireturn, 1) := by decide +kernel
theorem zd_R_await_73 : decode zc_R_await 73 = .ok (.iconst 0, 1) := by decide +kernel
theorem zd_R_await_74 : decode zc_R_await 74 = .ok (.ireturn, 1) := by decide +kernel
theorem zd_R_offer_0 : decode zc_R_offer 0 = .ok (.iconst (-1), 1) := by decide +kernel
theorem zd_R_offer_1 : decode zc_R_offer 1 = .ok (.istore_n 2, 1) := by decide +kernel
theorem zd_R_offer_2 : decode zc_R_offer 2 = .ok (.iconst 0, 1) := by decide +kernel
theorem zd_R_offer_3 : decode zc_R_offer 3 = .ok (.istore_n 3, 1) := by decide +kernel
theorem zd_R_offer_4 : decode zc_R_offer 4 = .ok (.iload_n 3, 1) := by decide +kernel
theorem zd_R_offer_5 : decode zc_R_offer 5 = .ok (.aload_n 0, 1) := by decide +kernel
theorem zd_R_offer_6 : decode zc_R_offer 6 = .ok (.getfield 77, 3) := by decide +kernel
theorem zd_R_offer_9 : decode zc_R_offer 9 = .ok (.if_icmp .ge 25, 3) := by decide +kernel
theorem zd_R_offer_12 : decode zc_R_offer 12 = .ok (.aload_n 0, 1) := by decide +kernel
theorem zd_R_offer_13 : decode zc_R_offer 13 = .ok (.iload_n 3, 1) := by decide +kernel
theorem zd_R_offer_14 : decode zc_R_offer 14 = .ok (.iconst 3, 1) := by decide +kernel
theorem zd_R_offer_15 : decode zc_R_offer 15 = .ok (.iload_n 1, 1) := by decide +kernel
theorem zd_R_offer_16 : decode zc_R_offer 16 = .ok (.invokevirtual 93, 3) := by decide +kernel
theorem zd_R_offer_19 : decode zc_R_offer 19 = .ok (.ifCond .eq 7, 3) := by decide +kernel
theorem zd_R_offer_22 : decode zc_R_offer 22 = .ok (.iload_n 3, 1) := by decide +kernel
theorem zd_R_offer_23 : decode zc_R_offer 23 = .ok (.goto 4, 3) := by decide +kernel
theorem zd_R_offer_26 : decode zc_R_offer 26 = .ok (.iload_n 2, 1) := by decide +kernel
theorem zd_R_offer_27 : decode zc_R_offer 27 = .ok (.istore_n 2, 1) := by decide +kernel
theorem zd_R_offer_28 : decode zc_R_offer 28 = .ok (.iinc 3 1, 3) := by decide +kernel
theorem zd_R_offer_31 : decode zc_R_offer 31 = .ok (.goto (-27), 3) := by decide +kernel
theorem zd_R_offer_34 : decode zc_R_offer 34 = .ok (.iload_n 2, 1) := by decide +kernel
theorem zd_R_offer_35 : decode zc_R_offer 35 = .ok (.ireturn, 1) := by decide +kernel
theorem zd_R_vote_0 : decode zc_R_vote 0 = .ok (.aload_n 0, 1) := by decide +kernel
theorem zd_R_vote_1 : decode zc_R_vote 1 = .ok (.getfield 34, 3) := by decide +kernel
theorem zd_R_vote_4 : decode zc_R_vote 4 = .ok (.iload_n 1, 1) := by decide +kernel
theorem zd_R_vote_5 : decode zc_R_vote 5 = .ok (.iaload, 1) := by decide +kernel
theorem zd_R_vote_6 : decode zc_R_vote 6 = .ok (.istore_n 3, 1) := by decide +kernel
theorem zd_R_vote_7 : decode zc_R_vote 7 = .ok (.aload_n 0, 1) := by decide +kernel
theorem zd_R_vote_8 : decode zc_R_vote 8 = .ok (.iconst 4, 1) := by decide +kernel
theorem zd_R_vote_9 : decode zc_R_vote 9 = .ok (.iload_n 1, 1) := by decide +kernel
theorem zd_R_vote_10 : decode zc_R_vote 10 = .ok (.aload_n 0, 1) := by decide +kernel
theorem zd_R_vote_11 : decode zc_R_vote 11 = .ok (.iload_n 3, 1) := by decide +kernel
theorem zd_R_vote_12 : decode zc_R_vote 12 = .ok (.invokevirtual 97, 3) := by decide +kernel
theorem zd_R_vote_15 : decode zc_R_vote 15 = .ok (.aload_n 0, 1) := by decide +kernel
theorem zd_R_vote_16 : decode zc_R_vote 16 = .ok (.getfield 22, 3) := by decide +kernel
theorem zd_R_vote_19 : decode zc_R_vote 19 = .ok (.iload_n 1, 1) := by decide +kernel
theorem zd_R_vote_20 : decode zc_R_vote 20 = .ok (.iaload, 1) := by decide +kernel
theorem zd_R_vote_21 : decode zc_R_vote 21 = .ok (.iload_n 3, 1) := by decide +kernel
theorem zd_R_vote_22 : decode zc_R_vote 22 = .ok (.iload_n 2, 1) := by decide +kernel
theorem zd_R_vote_23 : decode zc_R_vote 23 = .ok (.invokevirtual 80, 3) := by decide +kernel
theorem zd_R_vote_26 : decode zc_R_vote 26 = .ok (.aload_n 0, 1) := by decide +kernel
theorem zd_R_vote_27 : decode zc_R_vote 27 = .ok (.iload_n 1, 1) := by decide +kernel
theorem zd_R_vote_28 : decode zc_R_vote 28 = .ok (.iload_n 3, 1) := by decide +kernel
theorem zd_R_vote_29 : decode zc_R_vote 29 = .ok (.iconst 1, 1) := by decide +kernel
theorem zd_R_vote_30 : decode zc_R_vote 30 = .ok (.iadd, 1) := by decide +kernel
theorem zd_R_vote_31 : decode zc_R_vote 31 = .ok (.invokevirtual 105, 3) := by decide +kernel
theorem zd_R_vote_34 : decode zc_R_vote 34 = .ok (.return_, 1) := by decide +kernel
theorem zd_R_allYes_0 : decode zc_R_allYes 0 = .ok (.iconst 1, 1) := by decide +kernel
theorem zd_R_allYes_1 : decode zc_R_allYes 1 = .ok (.istore_n 2, 1) := by decide +kernel
theorem zd_R_allYes_2 : decode zc_R_allYes 2 = .ok (.iconst 0, 1) := by decide +kernel
theorem zd_R_allYes_3 : decode zc_R_allYes 3 = .ok (.istore_n 3, 1) := by decide +kernel
theorem zd_R_allYes_4 : decode zc_R_allYes 4 = .ok (.iload_n 3, 1) := by decide +kernel
theorem zd_R_allYes_5 : decode zc_R_allYes 5 = .ok (.aload_n 0, 1) := by decide +kernel
theorem zd_R_allYes_6 : decode zc_R_allYes 6 = .ok (.getfield 77, 3) := by decide +kernel
theorem zd_R_allYes_9 : decode zc_R_allYes 9 = .ok (.if_icmp .ge 39, 3) := by decide +kernel
theorem zd_R_allYes_12 : decode zc_R_allYes 12 = .ok (.iload_n 2, 1) := by decide +kernel
theorem zd_R_allYes_13 : decode zc_R_allYes 13 = .ok (.ifCond .eq 27, 3) := by decide +kernel
theorem zd_R_allYes_16 : decode zc_R_allYes 16 = .ok (.aload_n 0, 1) := by decide +kernel
theorem zd_R_allYes_17 : decode zc_R_allYes 17 = .ok (.iload_n 3, 1) := by decide +kernel
theorem zd_R_allYes_18 : decode zc_R_allYes 18 = .ok (.iconst 4, 1) := by decide +kernel
theorem zd_R_allYes_19 : decode zc_R_allYes 19 = .ok (.iload_n 1, 1) := by decide +kernel
theorem zd_R_allYes_20 : decode zc_R_allYes 20 = .ok (.invokevirtual 93, 3) := by decide +kernel
theorem zd_R_allYes_23 : decode zc_R_allYes 23 = .ok (.ifCond .eq 13, 3) := by decide +kernel
theorem zd_R_allYes_26 : decode zc_R_allYes 26 = .ok (.aload_n 0, 1) := by decide +kernel
theorem zd_R_allYes_27 : decode zc_R_allYes 27 = .ok (.getfield 63, 3) := by decide +kernel
theorem zd_R_allYes_30 : decode zc_R_allYes 30 = .ok (.iload_n 3, 1) := by decide +kernel
theorem zd_R_allYes_31 : decode zc_R_allYes 31 = .ok (.saload, 1) := by decide +kernel
theorem zd_R_allYes_32 : decode zc_R_allYes 32 = .ok (.iconst 1, 1) := by decide +kernel
theorem zd_R_allYes_33 : decode zc_R_allYes 33 = .ok (.if_icmp .ne 7, 3) := by decide +kernel
theorem zd_R_allYes_36 : decode zc_R_allYes 36 = .ok (.iconst 1, 1) := by decide +kernel
theorem zd_R_allYes_37 : decode zc_R_allYes 37 = .ok (.goto 4, 3) := by decide +kernel
theorem zd_R_allYes_40 : decode zc_R_allYes 40 = .ok (.iconst 0, 1) := by decide +kernel
theorem zd_R_allYes_41 : decode zc_R_allYes 41 = .ok (.istore_n 2, 1) := by decide +kernel
theorem zd_R_allYes_42 : decode zc_R_allYes 42 = .ok (.iinc 3 1, 3) := by decide +kernel
theorem zd_R_allYes_45 : decode zc_R_allYes 45 = .ok (.goto (-41), 3) := by decide +kernel
theorem zd_R_allYes_48 : decode zc_R_allYes 48 = .ok (.iload_n 2, 1) := by decide +kernel
theorem zd_R_allYes_49 : decode zc_R_allYes 49 = .ok (.ireturn, 1) := by decide +kernel
theorem zd_R_learn_0 : decode zc_R_learn 0 = .ok (.aload_n 0, 1) := by decide +kernel
theorem zd_R_learn_1 : decode zc_R_learn 1 = .ok (.getfield 28, 3) := by decide +kernel
theorem zd_R_learn_4 : decode zc_R_learn 4 = .ok (.bipush 8, 2) := by decide +kernel
theorem zd_R_learn_6 : decode zc_R_learn 6 = .ok (.iload_n 1, 1) := by decide +kernel
theorem zd_R_learn_7 : decode zc_R_learn 7 = .ok (.imul, 1) := by decide +kernel
theorem zd_R_learn_8 : decode zc_R_learn 8 = .ok (.iload_n 2, 1) := by decide +kernel
theorem zd_R_learn_9 : decode zc_R_learn 9 = .ok (.iadd, 1) := by decide +kernel
theorem zd_R_learn_10 : decode zc_R_learn 10 = .ok (.iload_n 3, 1) := by decide +kernel
theorem zd_R_learn_11 : decode zc_R_learn 11 = .ok (.iastore, 1) := by decide +kernel
theorem zd_R_learn_12 : decode zc_R_learn 12 = .ok (.aload_n 0, 1) := by decide +kernel
theorem zd_R_learn_13 : decode zc_R_learn 13 = .ok (.iconst 5, 1) := by decide +kernel
theorem zd_R_learn_14 : decode zc_R_learn 14 = .ok (.iload_n 1, 1) := by decide +kernel
theorem zd_R_learn_15 : decode zc_R_learn 15 = .ok (.iload_n 2, 1) := by decide +kernel
theorem zd_R_learn_16 : decode zc_R_learn 16 = .ok (.iconst 0, 1) := by decide +kernel
theorem zd_R_learn_17 : decode zc_R_learn 17 = .ok (.iload_n 3, 1) := by decide +kernel
theorem zd_R_learn_18 : decode zc_R_learn 18 = .ok (.invokevirtual 101, 3) := by decide +kernel
theorem zd_R_learn_21 : decode zc_R_learn 21 = .ok (.return_, 1) := by decide +kernel
theorem zd_R_deliver_0 : decode zc_R_deliver 0 = .ok (.aload_n 0, 1) := by decide +kernel
theorem zd_R_deliver_1 : decode zc_R_deliver 1 = .ok (.iload_n 1, 1) := by decide +kernel
theorem zd_R_deliver_2 : decode zc_R_deliver 2 = .ok (.invokevirtual 84, 3) := by decide +kernel
theorem zd_R_deliver_5 : decode zc_R_deliver 5 = .ok (.ifCond .ne 16, 3) := by decide +kernel
theorem zd_R_deliver_8 : decode zc_R_deliver 8 = .ok (.aload_n 0, 1) := by decide +kernel
theorem zd_R_deliver_9 : decode zc_R_deliver 9 = .ok (.iload_n 2, 1) := by decide +kernel
theorem zd_R_deliver_10 : decode zc_R_deliver 10 = .ok (.invokevirtual 84, 3) := by decide +kernel
theorem zd_R_deliver_13 : decode zc_R_deliver 13 = .ok (.ifCond .ne 8, 3) := by decide +kernel
theorem zd_R_deliver_16 : decode zc_R_deliver 16 = .ok (.iload_n 1, 1) := by decide +kernel
theorem zd_R_deliver_17 : decode zc_R_deliver 17 = .ok (.iload_n 2, 1) := by decide +kernel
theorem zd_R_deliver_18 : decode zc_R_deliver 18 = .ok (.if_icmp .ne 5, 3) := by decide +kernel
theorem zd_R_deliver_21 : decode zc_R_deliver 21 = .ok (.iconst (-1), 1) := by decide +kernel
theorem zd_R_deliver_22 : decode zc_R_deliver 22 = .ok (.ireturn, 1) := by decide +kernel
theorem zd_R_deliver_23 : decode zc_R_deliver 23 = .ok (.aload_n 0, 1) := by decide +kernel
theorem zd_R_deliver_24 : decode zc_R_deliver 24 = .ok (.getfield 43, 3) := by decide +kernel
theorem zd_R_deliver_27 : decode zc_R_deliver 27 = .ok (.iload_n 2, 1) := by decide +kernel
theorem zd_R_deliver_28 : decode zc_R_deliver 28 = .ok (.baload, 1) := by decide +kernel
theorem zd_R_deliver_29 : decode zc_R_deliver 29 = .ok (.ifCond .eq 6, 3) := by decide +kernel
theorem zd_R_deliver_32 : decode zc_R_deliver 32 = .ok (.bipush (-2), 2) := by decide +kernel
theorem zd_R_deliver_34 : decode zc_R_deliver 34 = .ok (.ireturn, 1) := by decide +kernel
theorem zd_R_deliver_35 : decode zc_R_deliver 35 = .ok (.aload_n 0, 1) := by decide +kernel
theorem zd_R_deliver_36 : decode zc_R_deliver 36 = .ok (.iload_n 1, 1) := by decide +kernel
theorem zd_R_deliver_37 : decode zc_R_deliver 37 = .ok (.iload_n 2, 1) := by decide +kernel
theorem zd_R_deliver_38 : decode zc_R_deliver 38 = .ok (.iload_n 3, 1) := by decide +kernel
theorem zd_R_deliver_39 : decode zc_R_deliver 39 = .ok (.invokevirtual 88, 3) := by decide +kernel
theorem zd_R_deliver_42 : decode zc_R_deliver 42 = .ok (.istore 4, 2) := by decide +kernel
theorem zd_R_deliver_44 : decode zc_R_deliver 44 = .ok (.iload 4, 2) := by decide +kernel
theorem zd_R_deliver_46 : decode zc_R_deliver 46 = .ok (.ifCond .ge 6, 3) := by decide +kernel
theorem zd_R_deliver_49 : decode zc_R_deliver 49 = .ok (.bipush (-3), 2) := by decide +kernel
theorem zd_R_deliver_51 : decode zc_R_deliver 51 = .ok (.ireturn, 1) := by decide +kernel
theorem zd_R_deliver_52 : decode zc_R_deliver 52 = .ok (.aload_n 0, 1) := by decide +kernel
theorem zd_R_deliver_53 : decode zc_R_deliver 53 = .ok (.getfield 47, 3) := by decide +kernel
theorem zd_R_deliver_56 : decode zc_R_deliver 56 = .ok (.iload 4, 2) := by decide +kernel
theorem zd_R_deliver_58 : decode zc_R_deliver 58 = .ok (.baload, 1) := by decide +kernel
theorem zd_R_deliver_59 : decode zc_R_deliver 59 = .ok (.istore 5, 2) := by decide +kernel
theorem zd_R_deliver_61 : decode zc_R_deliver 61 = .ok (.aload_n 0, 1) := by decide +kernel
theorem zd_R_deliver_62 : decode zc_R_deliver 62 = .ok (.getfield 63, 3) := by decide +kernel
theorem zd_R_deliver_65 : decode zc_R_deliver 65 = .ok (.iload 4, 2) := by decide +kernel
theorem zd_R_deliver_67 : decode zc_R_deliver 67 = .ok (.saload, 1) := by decide +kernel
theorem zd_R_deliver_68 : decode zc_R_deliver 68 = .ok (.istore 6, 2) := by decide +kernel
theorem zd_R_deliver_70 : decode zc_R_deliver 70 = .ok (.aload_n 0, 1) := by decide +kernel
theorem zd_R_deliver_71 : decode zc_R_deliver 71 = .ok (.getfield 70, 3) := by decide +kernel
theorem zd_R_deliver_74 : decode zc_R_deliver 74 = .ok (.iload 4, 2) := by decide +kernel
theorem zd_R_deliver_76 : decode zc_R_deliver 76 = .ok (.iload 5, 2) := by decide +kernel
theorem zd_R_deliver_78 : decode zc_R_deliver 78 = .ok (.iconst 2, 1) := by decide +kernel
theorem zd_R_deliver_79 : decode zc_R_deliver 79 = .ok (.if_icmp .lt 13, 3) := by decide +kernel
theorem zd_R_deliver_82 : decode zc_R_deliver 82 = .ok (.iload 5, 2) := by decide +kernel
theorem zd_R_deliver_84 : decode zc_R_deliver 84 = .ok (.iconst 4, 1) := by decide +kernel
theorem zd_R_deliver_85 : decode zc_R_deliver 85 = .ok (.if_icmp .gt 7, 3) := by decide +kernel
theorem zd_R_deliver_88 : decode zc_R_deliver 88 = .ok (.iconst 1, 1) := by decide +kernel
theorem zd_R_deliver_89 : decode zc_R_deliver 89 = .ok (.goto 4, 3) := by decide +kernel
theorem zd_R_deliver_92 : decode zc_R_deliver 92 = .ok (.iconst 2, 1) := by decide +kernel
theorem zd_R_deliver_93 : decode zc_R_deliver 93 = .ok (.i2b, 1) := by decide +kernel
theorem zd_R_deliver_94 : decode zc_R_deliver 94 = .ok (.bastore, 1) := by decide +kernel
theorem zd_R_deliver_95 : decode zc_R_deliver 95 = .ok (.iload 5, 2) := by decide +kernel
theorem zd_R_deliver_97 : decode zc_R_deliver 97 = .ok (.iconst 1, 1) := by decide +kernel
theorem zd_R_deliver_98 : decode zc_R_deliver 98 = .ok (.if_icmp .ne 40, 3) := by decide +kernel
theorem zd_R_deliver_101 : decode zc_R_deliver 101 = .ok (.aload_n 0, 1) := by decide +kernel
theorem zd_R_deliver_102 : decode zc_R_deliver 102 = .ok (.getfield 7, 3) := by decide +kernel
theorem zd_R_deliver_105 : decode zc_R_deliver 105 = .ok (.iload_n 2, 1) := by decide +kernel
theorem zd_R_deliver_106 : decode zc_R_deliver 106 = .ok (.iaload, 1) := by decide +kernel
theorem zd_R_deliver_107 : decode zc_R_deliver 107 = .ok (.iload 6, 2) := by decide +kernel
theorem zd_R_deliver_109 : decode zc_R_deliver 109 = .ok (.ishr, 1) := by decide +kernel
theorem zd_R_deliver_110 : decode zc_R_deliver 110 = .ok (.iconst 1, 1) := by decide +kernel
theorem zd_R_deliver_111 : decode zc_R_deliver 111 = .ok (.iand, 1) := by decide +kernel
theorem zd_R_deliver_112 : decode zc_R_deliver 112 = .ok (.ifCond .ne 26, 3) := by decide +kernel
theorem zd_R_deliver_115 : decode zc_R_deliver 115 = .ok (.aload_n 0, 1) := by decide +kernel
theorem zd_R_deliver_116 : decode zc_R_deliver 116 = .ok (.getfield 7, 3) := by decide +kernel
theorem zd_R_deliver_119 : decode zc_R_deliver 119 = .ok (.iload_n 2, 1) := by decide +kernel
theorem zd_R_deliver_120 : decode zc_R_deliver 120 = .ok (.dup2, 1) := by decide +kernel
theorem zd_R_deliver_121 : decode zc_R_deliver 121 = .ok (.iaload, 1) := by decide +kernel
theorem zd_R_deliver_122 : decode zc_R_deliver 122 = .ok (.iconst 1, 1) := by decide +kernel
theorem zd_R_deliver_123 : decode zc_R_deliver 123 = .ok (.iload 6, 2) := by decide +kernel
theorem zd_R_deliver_125 : decode zc_R_deliver 125 = .ok (.ishl, 1) := by decide +kernel
theorem zd_R_deliver_126 : decode zc_R_deliver 126 = .ok (.ior, 1) := by decide +kernel
theorem zd_R_deliver_127 : decode zc_R_deliver 127 = .ok (.iastore, 1) := by decide +kernel
theorem zd_R_deliver_128 : decode zc_R_deliver 128 = .ok (.aload_n 0, 1) := by decide +kernel
theorem zd_R_deliver_129 : decode zc_R_deliver 129 = .ok (.iconst 1, 1) := by decide +kernel
theorem zd_R_deliver_130 : decode zc_R_deliver 130 = .ok (.iload_n 2, 1) := by decide +kernel
theorem zd_R_deliver_131 : decode zc_R_deliver 131 = .ok (.iconst 0, 1) := by decide +kernel
theorem zd_R_deliver_132 : decode zc_R_deliver 132 = .ok (.iconst 0, 1) := by decide +kernel
theorem zd_R_deliver_133 : decode zc_R_deliver 133 = .ok (.iload 6, 2) := by decide +kernel
theorem zd_R_deliver_135 : decode zc_R_deliver 135 = .ok (.invokevirtual 101, 3) := by decide +kernel
theorem zd_R_deliver_138 : decode zc_R_deliver 138 = .ok (.iload 5, 2) := by decide +kernel
theorem zd_R_deliver_140 : decode zc_R_deliver 140 = .ok (.iconst 5, 1) := by decide +kernel
theorem zd_R_deliver_141 : decode zc_R_deliver 141 = .ok (.if_icmp .ne 37, 3) := by decide +kernel
theorem zd_R_deliver_144 : decode zc_R_deliver 144 = .ok (.aload_n 0, 1) := by decide +kernel
theorem zd_R_deliver_145 : decode zc_R_deliver 145 = .ok (.getfield 28, 3) := by decide +kernel
theorem zd_R_deliver_148 : decode zc_R_deliver 148 = .ok (.bipush 8, 2) := by decide +kernel
theorem zd_R_deliver_150 : decode zc_R_deliver 150 = .ok (.iload_n 2, 1) := by decide +kernel
theorem zd_R_deliver_151 : decode zc_R_deliver 151 = .ok (.imul, 1) := by decide +kernel
theorem zd_R_deliver_152 : decode zc_R_deliver 152 = .ok (.aload_n 0, 1) := by decide +kernel
theorem zd_R_deliver_153 : decode zc_R_deliver 153 = .ok (.getfield 57, 3) := by decide +kernel
theorem zd_R_deliver_156 : decode zc_R_deliver 156 = .ok (.iload 4, 2) := by decide +kernel
theorem zd_R_deliver_158 : decode zc_R_deliver 158 = .ok (.baload, 1) := by decide +kernel
theorem zd_R_deliver_159 : decode zc_R_deliver 159 = .ok (.iadd, 1) := by decide +kernel
theorem zd_R_deliver_160 : decode zc_R_deliver 160 = .ok (.iaload, 1) := by decide +kernel
theorem zd_R_deliver_161 : decode zc_R_deliver 161 = .ok (.ifCond .ne 17, 3) := by decide +kernel
theorem zd_R_deliver_164 : decode zc_R_deliver 164 = .ok (.aload_n 0, 1) := by decide +kernel
theorem zd_R_deliver_165 : decode zc_R_deliver 165 = .ok (.iload_n 2, 1) := by decide +kernel
theorem zd_R_deliver_166 : decode zc_R_deliver 166 = .ok (.aload_n 0, 1) := by decide +kernel
theorem zd_R_deliver_167 : decode zc_R_deliver 167 = .ok (.getfield 57, 3) := by decide +kernel
theorem zd_R_deliver_170 : decode zc_R_deliver 170 = .ok (.iload 4, 2) := by decide +kernel
theorem zd_R_deliver_172 : decode zc_R_deliver 172 = .ok (.baload, 1) := by decide +kernel
theorem zd_R_deliver_173 : decode zc_R_deliver 173 = .ok (.iload 6, 2) := by decide +kernel
theorem zd_R_deliver_175 : decode zc_R_deliver 175 = .ok (.invokevirtual 130, 3) := by decide +kernel
theorem zd_R_deliver_178 : decode zc_R_deliver 178 = .ok (.aload_n 0, 1) := by decide +kernel
theorem zd_R_deliver_179 : decode zc_R_deliver 179 = .ok (.iload_n 2, 1) := by decide +kernel
theorem zd_R_deliver_180 : decode zc_R_deliver 180 = .ok (.invokevirtual 146, 3) := by decide +kernel
theorem zd_R_deliver_183 : decode zc_R_deliver 183 = .ok (.iload 5, 2) := by decide +kernel
theorem zd_R_deliver_185 : decode zc_R_deliver 185 = .ok (.ireturn, 1) := by decide +kernel
theorem zd_R_suspect_0 : decode zc_R_suspect 0 = .ok (.aload_n 0, 1) := by decide +kernel
theorem zd_R_suspect_1 : decode zc_R_suspect 1 = .ok (.iload_n 1, 1) := by decide +kernel
theorem zd_R_suspect_2 : decode zc_R_suspect 2 = .ok (.invokevirtual 84, 3) := by decide +kernel
theorem zd_R_suspect_5 : decode zc_R_suspect 5 = .ok (.ifCond .ne 25, 3) := by decide +kernel
theorem zd_R_suspect_8 : decode zc_R_suspect 8 = .ok (.aload_n 0, 1) := by decide +kernel
theorem zd_R_suspect_9 : decode zc_R_suspect 9 = .ok (.iload_n 2, 1) := by decide +kernel
theorem zd_R_suspect_10 : decode zc_R_suspect 10 = .ok (.invokevirtual 84, 3) := by decide +kernel
theorem zd_R_suspect_13 : decode zc_R_suspect 13 = .ok (.ifCond .ne 17, 3) := by decide +kernel
theorem zd_R_suspect_16 : decode zc_R_suspect 16 = .ok (.iload_n 1, 1) := by decide +kernel
theorem zd_R_suspect_17 : decode zc_R_suspect 17 = .ok (.iload_n 2, 1) := by decide +kernel
theorem zd_R_suspect_18 : decode zc_R_suspect 18 = .ok (.if_icmp .eq 12, 3) := by decide +kernel
theorem zd_R_suspect_21 : decode zc_R_suspect 21 = .ok (.aload_n 0, 1) := by decide +kernel
theorem zd_R_suspect_22 : decode zc_R_suspect 22 = .ok (.getfield 43, 3) := by decide +kernel
theorem zd_R_suspect_25 : decode zc_R_suspect 25 = .ok (.iload_n 1, 1) := by decide +kernel
theorem zd_R_suspect_26 : decode zc_R_suspect 26 = .ok (.baload, 1) := by decide +kernel
theorem zd_R_suspect_27 : decode zc_R_suspect 27 = .ok (.ifCond .eq 5, 3) := by decide +kernel
theorem zd_R_suspect_30 : decode zc_R_suspect 30 = .ok (.iconst 0, 1) := by decide +kernel
theorem zd_R_suspect_31 : decode zc_R_suspect 31 = .ok (.ireturn, 1) := by decide +kernel
theorem zd_R_suspect_32 : decode zc_R_suspect 32 = .ok (.aload_n 0, 1) := by decide +kernel
theorem zd_R_suspect_33 : decode zc_R_suspect 33 = .ok (.getfield 25, 3) := by decide +kernel
theorem zd_R_suspect_36 : decode zc_R_suspect 36 = .ok (.iload_n 1, 1) := by decide +kernel
theorem zd_R_suspect_37 : decode zc_R_suspect 37 = .ok (.iload_n 3, 1) := by decide +kernel
theorem zd_R_suspect_38 : decode zc_R_suspect 38 = .ok (.ifCond .eq 16, 3) := by decide +kernel
theorem zd_R_suspect_41 : decode zc_R_suspect 41 = .ok (.aload_n 0, 1) := by decide +kernel
theorem zd_R_suspect_42 : decode zc_R_suspect 42 = .ok (.getfield 25, 3) := by decide +kernel
theorem zd_R_suspect_45 : decode zc_R_suspect 45 = .ok (.iload_n 1, 1) := by decide +kernel
theorem zd_R_suspect_46 : decode zc_R_suspect 46 = .ok (.iaload, 1) := by decide +kernel
theorem zd_R_suspect_47 : decode zc_R_suspect 47 = .ok (.iconst 1, 1) := by decide +kernel
theorem zd_R_suspect_48 : decode zc_R_suspect 48 = .ok (.iload_n 2, 1) := by decide +kernel
theorem zd_R_suspect_49 : decode zc_R_suspect 49 = .ok (.ishl, 1) := by decide +kernel
theorem zd_R_suspect_50 : decode zc_R_suspect 50 = .ok (.ior, 1) := by decide +kernel
theorem zd_R_suspect_51 : decode zc_R_suspect 51 = .ok (.goto 15, 3) := by decide +kernel
theorem zd_R_suspect_54 : decode zc_R_suspect 54 = .ok (.aload_n 0, 1) := by decide +kernel
theorem zd_R_suspect_55 : decode zc_R_suspect 55 = .ok (.getfield 25, 3) := by decide +kernel
theorem zd_R_suspect_58 : decode zc_R_suspect 58 = .ok (.iload_n 1, 1) := by decide +kernel
theorem zd_R_suspect_59 : decode zc_R_suspect 59 = .ok (.iaload, 1) := by decide +kernel
theorem zd_R_suspect_60 : decode zc_R_suspect 60 = .ok (.iconst 1, 1) := by decide +kernel
theorem zd_R_suspect_61 : decode zc_R_suspect 61 = .ok (.iload_n 2, 1) := by decide +kernel
theorem zd_R_suspect_62 : decode zc_R_suspect 62 = .ok (.ishl, 1) := by decide +kernel
theorem zd_R_suspect_63 : decode zc_R_suspect 63 = .ok (.iconst (-1), 1) := by decide +kernel
theorem zd_R_suspect_64 : decode zc_R_suspect 64 = .ok (.ixor, 1) := by decide +kernel
theorem zd_R_suspect_65 : decode zc_R_suspect 65 = .ok (.iand, 1) := by decide +kernel
theorem zd_R_suspect_66 : decode zc_R_suspect 66 = .ok (.iastore, 1) := by decide +kernel
theorem zd_R_suspect_67 : decode zc_R_suspect 67 = .ok (.aload_n 0, 1) := by decide +kernel
theorem zd_R_suspect_68 : decode zc_R_suspect 68 = .ok (.iload_n 1, 1) := by decide +kernel
theorem zd_R_suspect_69 : decode zc_R_suspect 69 = .ok (.invokevirtual 146, 3) := by decide +kernel
theorem zd_R_suspect_72 : decode zc_R_suspect 72 = .ok (.iconst 1, 1) := by decide +kernel
theorem zd_R_suspect_73 : decode zc_R_suspect 73 = .ok (.ireturn, 1) := by decide +kernel
theorem zd_R_crash_0 : decode zc_R_crash 0 = .ok (.aload_n 0, 1) := by decide +kernel
theorem zd_R_crash_1 : decode zc_R_crash 1 = .ok (.iload_n 1, 1) := by decide +kernel
theorem zd_R_crash_2 : decode zc_R_crash 2 = .ok (.invokevirtual 84, 3) := by decide +kernel
theorem zd_R_crash_5 : decode zc_R_crash 5 = .ok (.ifCond .ne 37, 3) := by decide +kernel
theorem zd_R_crash_8 : decode zc_R_crash 8 = .ok (.aload_n 0, 1) := by decide +kernel
theorem zd_R_crash_9 : decode zc_R_crash 9 = .ok (.getfield 43, 3) := by decide +kernel
theorem zd_R_crash_12 : decode zc_R_crash 12 = .ok (.iload_n 1, 1) := by decide +kernel
theorem zd_R_crash_13 : decode zc_R_crash 13 = .ok (.baload, 1) := by decide +kernel
theorem zd_R_crash_14 : decode zc_R_crash 14 = .ok (.ifCond .ne 28, 3) := by decide +kernel
theorem zd_R_crash_17 : decode zc_R_crash 17 = .ok (.aload_n 0, 1) := by decide +kernel
theorem zd_R_crash_18 : decode zc_R_crash 18 = .ok (.getfield 149, 3) := by decide +kernel
theorem zd_R_crash_21 : decode zc_R_crash 21 = .ok (.aload_n 0, 1) := by decide +kernel
theorem zd_R_crash_22 : decode zc_R_crash 22 = .ok (.getfield 73, 3) := by decide +kernel
theorem zd_R_crash_25 : decode zc_R_crash 25 = .ok (.iconst 1, 1) := by decide +kernel
theorem zd_R_crash_26 : decode zc_R_crash 26 = .ok (.isub, 1) := by decide +kernel
theorem zd_R_crash_27 : decode zc_R_crash 27 = .ok (.iconst 2, 1) := by decide +kernel
theorem zd_R_crash_28 : decode zc_R_crash 28 = .ok (.idiv, 1) := by decide +kernel
theorem zd_R_crash_29 : decode zc_R_crash 29 = .ok (.if_icmp .eq 13, 3) := by decide +kernel
theorem zd_R_crash_32 : decode zc_R_crash 32 = .ok (.iload_n 2, 1) := by decide +kernel
theorem zd_R_crash_33 : decode zc_R_crash 33 = .ok (.ifCond .lt 9, 3) := by decide +kernel
theorem zd_R_crash_36 : decode zc_R_crash 36 = .ok (.iload_n 2, 1) := by decide +kernel
theorem zd_R_crash_37 : decode zc_R_crash 37 = .ok (.bipush 20, 2) := by decide +kernel
theorem zd_R_crash_39 : decode zc_R_crash 39 = .ok (.if_icmp .le 5, 3) := by decide +kernel
theorem zd_R_crash_42 : decode zc_R_crash 42 = .ok (.iconst 0, 1) := by decide +kernel
theorem zd_R_crash_43 : decode zc_R_crash 43 = .ok (.ireturn, 1) := by decide +kernel
theorem zd_R_crash_44 : decode zc_R_crash 44 = .ok (.aload_n 0, 1) := by decide +kernel
theorem zd_R_crash_45 : decode zc_R_crash 45 = .ok (.getfield 43, 3) := by decide +kernel
theorem zd_R_crash_48 : decode zc_R_crash 48 = .ok (.iload_n 1, 1) := by decide +kernel
theorem zd_R_crash_49 : decode zc_R_crash 49 = .ok (.iconst 1, 1) := by decide +kernel
theorem zd_R_crash_50 : decode zc_R_crash 50 = .ok (.bastore, 1) := by decide +kernel
theorem zd_R_crash_51 : decode zc_R_crash 51 = .ok (.aload_n 0, 1) := by decide +kernel
theorem zd_R_crash_52 : decode zc_R_crash 52 = .ok (.dup, 1) := by decide +kernel
theorem zd_R_crash_53 : decode zc_R_crash 53 = .ok (.getfield 149, 3) := by decide +kernel
theorem zd_R_crash_56 : decode zc_R_crash 56 = .ok (.iconst 1, 1) := by decide +kernel
theorem zd_R_crash_57 : decode zc_R_crash 57 = .ok (.iadd, 1) := by decide +kernel
theorem zd_R_crash_58 : decode zc_R_crash 58 = .ok (.putfield 149, 3) := by decide +kernel
theorem zd_R_crash_61 : decode zc_R_crash 61 = .ok (.iload_n 2, 1) := by decide +kernel
theorem zd_R_crash_62 : decode zc_R_crash 62 = .ok (.istore_n 3, 1) := by decide +kernel
theorem zd_R_crash_63 : decode zc_R_crash 63 = .ok (.aload_n 0, 1) := by decide +kernel
theorem zd_R_crash_64 : decode zc_R_crash 64 = .ok (.getfield 77, 3) := by decide +kernel
theorem zd_R_crash_67 : decode zc_R_crash 67 = .ok (.iconst 1, 1) := by decide +kernel
theorem zd_R_crash_68 : decode zc_R_crash 68 = .ok (.isub, 1) := by decide +kernel
theorem zd_R_crash_69 : decode zc_R_crash 69 = .ok (.istore 4, 2) := by decide +kernel
theorem zd_R_crash_71 : decode zc_R_crash 71 = .ok (.iload 4, 2) := by decide +kernel
theorem zd_R_crash_73 : decode zc_R_crash 73 = .ok (.ifCond .lt 45, 3) := by decide +kernel
theorem zd_R_crash_76 : decode zc_R_crash 76 = .ok (.iload_n 3, 1) := by decide +kernel
theorem zd_R_crash_77 : decode zc_R_crash 77 = .ok (.ifCond .le 41, 3) := by decide +kernel
theorem zd_R_crash_80 : decode zc_R_crash 80 = .ok (.aload_n 0, 1) := by decide +kernel
theorem zd_R_crash_81 : decode zc_R_crash 81 = .ok (.getfield 70, 3) := by decide +kernel
theorem zd_R_crash_84 : decode zc_R_crash 84 = .ok (.iload 4, 2) := by decide +kernel
theorem zd_R_crash_86 : decode zc_R_crash 86 = .ok (.baload, 1) := by decide +kernel
theorem zd_R_crash_87 : decode zc_R_crash 87 = .ok (.ifCond .ne 25, 3) := by decide +kernel
theorem zd_R_crash_90 : decode zc_R_crash 90 = .ok (.aload_n 0, 1) := by decide +kernel
theorem zd_R_crash_91 : decode zc_R_crash 91 = .ok (.getfield 51, 3) := by decide +kernel
theorem zd_R_crash_94 : decode zc_R_crash 94 = .ok (.iload 4, 2) := by decide +kernel
theorem zd_R_crash_96 : decode zc_R_crash 96 = .ok (.baload, 1) := by decide +kernel
theorem zd_R_crash_97 : decode zc_R_crash 97 = .ok (.iload_n 1, 1) := by decide +kernel
theorem zd_R_crash_98 : decode zc_R_crash 98 = .ok (.if_icmp .ne 14, 3) := by decide +kernel
theorem zd_R_crash_101 : decode zc_R_crash 101 = .ok (.aload_n 0, 1) := by decide +kernel
theorem zd_R_crash_102 : decode zc_R_crash 102 = .ok (.getfield 70, 3) := by decide +kernel
theorem zd_R_crash_105 : decode zc_R_crash 105 = .ok (.iload 4, 2) := by decide +kernel
theorem zd_R_crash_107 : decode zc_R_crash 107 = .ok (.iconst 2, 1) := by decide +kernel
theorem zd_R_crash_108 : decode zc_R_crash 108 = .ok (.bastore, 1) := by decide +kernel
theorem zd_R_crash_109 : decode zc_R_crash 109 = .ok (.iinc 3 (-1), 3) := by decide +kernel
theorem zd_R_crash_112 : decode zc_R_crash 112 = .ok (.iinc 4 (-1), 3) := by decide +kernel
theorem zd_R_crash_115 : decode zc_R_crash 115 = .ok (.goto (-44), 3) := by decide +kernel
theorem zd_R_crash_118 : decode zc_R_crash 118 = .ok (.iconst 1, 1) := by decide +kernel
theorem zd_R_crash_119 : decode zc_R_crash 119 = .ok (.ireturn, 1) := by decide +kernel
theorem zd_R_suspects_0 : decode zc_R_suspects 0 = .ok (.aload_n 0, 1) := by decide +kernel
theorem zd_R_suspects_1 : decode zc_R_suspects 1 = .ok (.iload_n 1, 1) := by decide +kernel
theorem zd_R_suspects_2 : decode zc_R_suspects 2 = .ok (.invokevirtual 84, 3) := by decide +kernel
theorem zd_R_suspects_5 : decode zc_R_suspects 5 = .ok (.ifCond .ne 29, 3) := by decide +kernel
theorem zd_R_suspects_8 : decode zc_R_suspects 8 = .ok (.aload_n 0, 1) := by decide +kernel
theorem zd_R_suspects_9 : decode zc_R_suspects 9 = .ok (.iload_n 2, 1) := by decide +kernel
theorem zd_R_suspects_10 : decode zc_R_suspects 10 = .ok (.invokevirtual 84, 3) := by decide +kernel
theorem zd_R_suspects_13 : decode zc_R_suspects 13 = .ok (.ifCond .ne 21, 3) := by decide +kernel
theorem zd_R_suspects_16 : decode zc_R_suspects 16 = .ok (.aload_n 0, 1) := by decide +kernel
theorem zd_R_suspects_17 : decode zc_R_suspects 17 = .ok (.getfield 25, 3) := by decide +kernel
theorem zd_R_suspects_20 : decode zc_R_suspects 20 = .ok (.iload_n 1, 1) := by decide +kernel
theorem zd_R_suspects_21 : decode zc_R_suspects 21 = .ok (.iaload, 1) := by decide +kernel
theorem zd_R_suspects_22 : decode zc_R_suspects 22 = .ok (.iload_n 2, 1) := by decide +kernel
theorem zd_R_suspects_23 : decode zc_R_suspects 23 = .ok (.ishr, 1) := by decide +kernel
theorem zd_R_suspects_24 : decode zc_R_suspects 24 = .ok (.iconst 1, 1) := by decide +kernel
theorem zd_R_suspects_25 : decode zc_R_suspects 25 = .ok (.iand, 1) := by decide +kernel
theorem zd_R_suspects_26 : decode zc_R_suspects 26 = .ok (.iconst 1, 1) := by decide +kernel
theorem zd_R_suspects_27 : decode zc_R_suspects 27 = .ok (.if_icmp .ne 7, 3) := by decide +kernel
theorem zd_R_suspects_30 : decode zc_R_suspects 30 = .ok (.iconst 1, 1) := by decide +kernel
theorem zd_R_suspects_31 : decode zc_R_suspects 31 = .ok (.goto 4, 3) := by decide +kernel
theorem zd_R_suspects_34 : decode zc_R_suspects 34 = .ok (.iconst 0, 1) := by decide +kernel
theorem zd_R_suspects_35 : decode zc_R_suspects 35 = .ok (.ireturn, 1) := by decide +kernel
theorem zd_R_state_0 : decode zc_R_state 0 = .ok (.aload_n 0, 1) := by decide +kernel
theorem zd_R_state_1 : decode zc_R_state 1 = .ok (.iload_n 1, 1) := by decide +kernel
theorem zd_R_state_2 : decode zc_R_state 2 = .ok (.invokevirtual 84, 3) := by decide +kernel
theorem zd_R_state_5 : decode zc_R_state 5 = .ok (.ifCond .eq 7, 3) := by decide +kernel
theorem zd_R_state_8 : decode zc_R_state 8 = .ok (.iconst (-1), 1) := by decide +kernel
theorem zd_R_state_9 : decode zc_R_state 9 = .ok (.goto 22, 3) := by decide +kernel
theorem zd_R_state_12 : decode zc_R_state 12 = .ok (.aload_n 0, 1) := by decide +kernel
theorem zd_R_state_13 : decode zc_R_state 13 = .ok (.getfield 43, 3) := by decide +kernel
theorem zd_R_state_16 : decode zc_R_state 16 = .ok (.iload_n 1, 1) := by decide +kernel
theorem zd_R_state_17 : decode zc_R_state 17 = .ok (.baload, 1) := by decide +kernel
theorem zd_R_state_18 : decode zc_R_state 18 = .ok (.ifCond .eq 7, 3) := by decide +kernel
theorem zd_R_state_21 : decode zc_R_state 21 = .ok (.iconst 5, 1) := by decide +kernel
theorem zd_R_state_22 : decode zc_R_state 22 = .ok (.goto 9, 3) := by decide +kernel
theorem zd_R_state_25 : decode zc_R_state 25 = .ok (.aload_n 0, 1) := by decide +kernel
theorem zd_R_state_26 : decode zc_R_state 26 = .ok (.getfield 31, 3) := by decide +kernel
theorem zd_R_state_29 : decode zc_R_state 29 = .ok (.iload_n 1, 1) := by decide +kernel
theorem zd_R_state_30 : decode zc_R_state 30 = .ok (.iaload, 1) := by decide +kernel
theorem zd_R_state_31 : decode zc_R_state 31 = .ok (.ireturn, 1) := by decide +kernel
theorem zd_R_finished_0 : decode zc_R_finished 0 = .ok (.aload_n 0, 1) := by decide +kernel
theorem zd_R_finished_1 : decode zc_R_finished 1 = .ok (.iload_n 1, 1) := by decide +kernel
theorem zd_R_finished_2 : decode zc_R_finished 2 = .ok (.invokevirtual 84, 3) := by decide +kernel
theorem zd_R_finished_5 : decode zc_R_finished 5 = .ok (.ifCond .eq 7, 3) := by decide +kernel
theorem zd_R_finished_8 : decode zc_R_finished 8 = .ok (.iconst (-1), 1) := by decide +kernel
theorem zd_R_finished_9 : decode zc_R_finished 9 = .ok (.goto 9, 3) := by decide +kernel
theorem zd_R_finished_12 : decode zc_R_finished 12 = .ok (.aload_n 0, 1) := by decide +kernel
theorem zd_R_finished_13 : decode zc_R_finished 13 = .ok (.getfield 22, 3) := by decide +kernel
theorem zd_R_finished_16 : decode zc_R_finished 16 = .ok (.iload_n 1, 1) := by decide +kernel
theorem zd_R_finished_17 : decode zc_R_finished 17 = .ok (.iaload, 1) := by decide +kernel
theorem zd_R_finished_18 : decode zc_R_finished 18 = .ok (.ireturn, 1) := by decide +kernel
theorem zd_R_round_0 : decode zc_R_round 0 = .ok (.aload_n 0, 1) := by decide +kernel
theorem zd_R_round_1 : decode zc_R_round 1 = .ok (.iload_n 1, 1) := by decide +kernel
theorem zd_R_round_2 : decode zc_R_round 2 = .ok (.invokevirtual 84, 3) := by decide +kernel
theorem zd_R_round_5 : decode zc_R_round 5 = .ok (.ifCond .eq 7, 3) := by decide +kernel
theorem zd_R_round_8 : decode zc_R_round 8 = .ok (.iconst (-1), 1) := by decide +kernel
theorem zd_R_round_9 : decode zc_R_round 9 = .ok (.goto 9, 3) := by decide +kernel
theorem zd_R_round_12 : decode zc_R_round 12 = .ok (.aload_n 0, 1) := by decide +kernel
theorem zd_R_round_13 : decode zc_R_round 13 = .ok (.getfield 34, 3) := by decide +kernel
theorem zd_R_round_16 : decode zc_R_round 16 = .ok (.iload_n 1, 1) := by decide +kernel
theorem zd_R_round_17 : decode zc_R_round 17 = .ok (.iaload, 1) := by decide +kernel
theorem zd_R_round_18 : decode zc_R_round 18 = .ok (.ireturn, 1) := by decide +kernel
theorem zd_R_estimate_0 : decode zc_R_estimate 0 = .ok (.aload_n 0, 1) := by decide +kernel
theorem zd_R_estimate_1 : decode zc_R_estimate 1 = .ok (.iload_n 1, 1) := by decide +kernel
theorem zd_R_estimate_2 : decode zc_R_estimate 2 = .ok (.invokevirtual 84, 3) := by decide +kernel
theorem zd_R_estimate_5 : decode zc_R_estimate 5 = .ok (.ifCond .eq 7, 3) := by decide +kernel
theorem zd_R_estimate_8 : decode zc_R_estimate 8 = .ok (.iconst (-1), 1) := by decide +kernel
theorem zd_R_estimate_9 : decode zc_R_estimate 9 = .ok (.goto 9, 3) := by decide +kernel
theorem zd_R_estimate_12 : decode zc_R_estimate 12 = .ok (.aload_n 0, 1) := by decide +kernel
theorem zd_R_estimate_13 : decode zc_R_estimate 13 = .ok (.getfield 37, 3) := by decide +kernel
theorem zd_R_estimate_16 : decode zc_R_estimate 16 = .ok (.iload_n 1, 1) := by decide +kernel
theorem zd_R_estimate_17 : decode zc_R_estimate 17 = .ok (.iaload, 1) := by decide +kernel
theorem zd_R_estimate_18 : decode zc_R_estimate 18 = .ok (.ireturn, 1) := by decide +kernel
theorem zd_R_stamp_0 : decode zc_R_stamp 0 = .ok (.aload_n 0, 1) := by decide +kernel
theorem zd_R_stamp_1 : decode zc_R_stamp 1 = .ok (.iload_n 1, 1) := by decide +kernel
theorem zd_R_stamp_2 : decode zc_R_stamp 2 = .ok (.invokevirtual 84, 3) := by decide +kernel
theorem zd_R_stamp_5 : decode zc_R_stamp 5 = .ok (.ifCond .eq 7, 3) := by decide +kernel
theorem zd_R_stamp_8 : decode zc_R_stamp 8 = .ok (.iconst (-1), 1) := by decide +kernel
theorem zd_R_stamp_9 : decode zc_R_stamp 9 = .ok (.goto 9, 3) := by decide +kernel
theorem zd_R_stamp_12 : decode zc_R_stamp 12 = .ok (.aload_n 0, 1) := by decide +kernel
theorem zd_R_stamp_13 : decode zc_R_stamp 13 = .ok (.getfield 40, 3) := by decide +kernel
theorem zd_R_stamp_16 : decode zc_R_stamp 16 = .ok (.iload_n 1, 1) := by decide +kernel
theorem zd_R_stamp_17 : decode zc_R_stamp 17 = .ok (.iaload, 1) := by decide +kernel
theorem zd_R_stamp_18 : decode zc_R_stamp 18 = .ok (.ireturn, 1) := by decide +kernel
theorem zd_R_known_0 : decode zc_R_known 0 = .ok (.aload_n 0, 1) := by decide +kernel
theorem zd_R_known_1 : decode zc_R_known 1 = .ok (.iload_n 1, 1) := by decide +kernel
theorem zd_R_known_2 : decode zc_R_known 2 = .ok (.invokevirtual 84, 3) := by decide +kernel
theorem zd_R_known_5 : decode zc_R_known 5 = .ok (.ifCond .eq 7, 3) := by decide +kernel
theorem zd_R_known_8 : decode zc_R_known 8 = .ok (.iconst (-1), 1) := by decide +kernel
theorem zd_R_known_9 : decode zc_R_known 9 = .ok (.goto 9, 3) := by decide +kernel
theorem zd_R_known_12 : decode zc_R_known 12 = .ok (.aload_n 0, 1) := by decide +kernel
theorem zd_R_known_13 : decode zc_R_known 13 = .ok (.getfield 7, 3) := by decide +kernel
theorem zd_R_known_16 : decode zc_R_known 16 = .ok (.iload_n 1, 1) := by decide +kernel
theorem zd_R_known_17 : decode zc_R_known 17 = .ok (.iaload, 1) := by decide +kernel
theorem zd_R_known_18 : decode zc_R_known 18 = .ok (.ireturn, 1) := by decide +kernel
theorem zd_R_delivered_0 : decode zc_R_delivered 0 = .ok (.aload_n 0, 1) := by decide +kernel
theorem zd_R_delivered_1 : decode zc_R_delivered 1 = .ok (.iload_n 1, 1) := by decide +kernel
theorem zd_R_delivered_2 : decode zc_R_delivered 2 = .ok (.invokevirtual 84, 3) := by decide +kernel
theorem zd_R_delivered_5 : decode zc_R_delivered 5 = .ok (.ifCond .eq 7, 3) := by decide +kernel
theorem zd_R_delivered_8 : decode zc_R_delivered 8 = .ok (.iconst (-1), 1) := by decide +kernel
theorem zd_R_delivered_9 : decode zc_R_delivered 9 = .ok (.goto 9, 3) := by decide +kernel
theorem zd_R_delivered_12 : decode zc_R_delivered 12 = .ok (.aload_n 0, 1) := by decide +kernel
theorem zd_R_delivered_13 : decode zc_R_delivered 13 = .ok (.getfield 16, 3) := by decide +kernel
theorem zd_R_delivered_16 : decode zc_R_delivered 16 = .ok (.iload_n 1, 1) := by decide +kernel
theorem zd_R_delivered_17 : decode zc_R_delivered 17 = .ok (.iaload, 1) := by decide +kernel
theorem zd_R_delivered_18 : decode zc_R_delivered 18 = .ok (.ireturn, 1) := by decide +kernel
theorem zd_R_deliveredAt_0 : decode zc_R_deliveredAt 0 = .ok (.aload_n 0, 1) := by decide +kernel
theorem zd_R_deliveredAt_1 : decode zc_R_deliveredAt 1 = .ok (.iload_n 1, 1) := by decide +kernel
theorem zd_R_deliveredAt_2 : decode zc_R_deliveredAt 2 = .ok (.invokevirtual 84, 3) := by decide +kernel
theorem zd_R_deliveredAt_5 : decode zc_R_deliveredAt 5 = .ok (.ifCond .ne 17, 3) := by decide +kernel
theorem zd_R_deliveredAt_8 : decode zc_R_deliveredAt 8 = .ok (.iload_n 2, 1) := by decide +kernel
theorem zd_R_deliveredAt_9 : decode zc_R_deliveredAt 9 = .ok (.ifCond .lt 13, 3) := by decide +kernel
theorem zd_R_deliveredAt_12 : decode zc_R_deliveredAt 12 = .ok (.iload_n 2, 1) := by decide +kernel
theorem zd_R_deliveredAt_13 : decode zc_R_deliveredAt 13 = .ok (.aload_n 0, 1) := by decide +kernel
theorem zd_R_deliveredAt_14 : decode zc_R_deliveredAt 14 = .ok (.getfield 16, 3) := by decide +kernel
theorem zd_R_deliveredAt_17 : decode zc_R_deliveredAt 17 = .ok (.iload_n 1, 1) := by decide +kernel
theorem zd_R_deliveredAt_18 : decode zc_R_deliveredAt 18 = .ok (.iaload, 1) := by decide +kernel
theorem zd_R_deliveredAt_19 : decode zc_R_deliveredAt 19 = .ok (.if_icmp .lt 7, 3) := by decide +kernel
theorem zd_R_deliveredAt_22 : decode zc_R_deliveredAt 22 = .ok (.iconst (-1), 1) := by decide +kernel
theorem zd_R_deliveredAt_23 : decode zc_R_deliveredAt 23 = .ok (.goto 14, 3) := by decide +kernel
theorem zd_R_deliveredAt_26 : decode zc_R_deliveredAt 26 = .ok (.aload_n 0, 1) := by decide +kernel
theorem zd_R_deliveredAt_27 : decode zc_R_deliveredAt 27 = .ok (.getfield 19, 3) := by decide +kernel
theorem zd_R_deliveredAt_30 : decode zc_R_deliveredAt 30 = .ok (.bipush 8, 2) := by decide +kernel
theorem zd_R_deliveredAt_32 : decode zc_R_deliveredAt 32 = .ok (.iload_n 1, 1) := by decide +kernel
theorem zd_R_deliveredAt_33 : decode zc_R_deliveredAt 33 = .ok (.imul, 1) := by decide +kernel
theorem zd_R_deliveredAt_34 : decode zc_R_deliveredAt 34 = .ok (.iload_n 2, 1) := by decide +kernel
theorem zd_R_deliveredAt_35 : decode zc_R_deliveredAt 35 = .ok (.iadd, 1) := by decide +kernel
theorem zd_R_deliveredAt_36 : decode zc_R_deliveredAt 36 = .ok (.iaload, 1) := by decide +kernel
theorem zd_R_deliveredAt_37 : decode zc_R_deliveredAt 37 = .ok (.ireturn, 1) := by decide +kernel
theorem zd_R_verdict_0 : decode zc_R_verdict 0 = .ok (.aload_n 0, 1) := by decide +kernel
theorem zd_R_verdict_1 : decode zc_R_verdict 1 = .ok (.iload_n 1, 1) := by decide +kernel
theorem zd_R_verdict_2 : decode zc_R_verdict 2 = .ok (.invokevirtual 84, 3) := by decide +kernel
theorem zd_R_verdict_5 : decode zc_R_verdict 5 = .ok (.ifCond .ne 13, 3) := by decide +kernel
theorem zd_R_verdict_8 : decode zc_R_verdict 8 = .ok (.iload_n 2, 1) := by decide +kernel
theorem zd_R_verdict_9 : decode zc_R_verdict 9 = .ok (.ifCond .lt 9, 3) := by decide +kernel
theorem zd_R_verdict_12 : decode zc_R_verdict 12 = .ok (.iload_n 2, 1) := by decide +kernel
theorem zd_R_verdict_13 : decode zc_R_verdict 13 = .ok (.bipush 7, 2) := by decide +kernel
theorem zd_R_verdict_15 : decode zc_R_verdict 15 = .ok (.if_icmp .le 7, 3) := by decide +kernel
theorem zd_R_verdict_18 : decode zc_R_verdict 18 = .ok (.iconst (-1), 1) := by decide +kernel
theorem zd_R_verdict_19 : decode zc_R_verdict 19 = .ok (.goto 14, 3) := by decide +kernel
theorem zd_R_verdict_22 : decode zc_R_verdict 22 = .ok (.aload_n 0, 1) := by decide +kernel
theorem zd_R_verdict_23 : decode zc_R_verdict 23 = .ok (.getfield 28, 3) := by decide +kernel
theorem zd_R_verdict_26 : decode zc_R_verdict 26 = .ok (.bipush 8, 2) := by decide +kernel
theorem zd_R_verdict_28 : decode zc_R_verdict 28 = .ok (.iload_n 1, 1) := by decide +kernel
theorem zd_R_verdict_29 : decode zc_R_verdict 29 = .ok (.imul, 1) := by decide +kernel
theorem zd_R_verdict_30 : decode zc_R_verdict 30 = .ok (.iload_n 2, 1) := by decide +kernel
theorem zd_R_verdict_31 : decode zc_R_verdict 31 = .ok (.iadd, 1) := by decide +kernel
theorem zd_R_verdict_32 : decode zc_R_verdict 32 = .ok (.iaload, 1) := by decide +kernel
theorem zd_R_verdict_33 : decode zc_R_verdict 33 = .ok (.ireturn, 1) := by decide +kernel
theorem zd_R_messages_0 : decode zc_R_messages 0 = .ok (.aload_n 0, 1) := by decide +kernel
theorem zd_R_messages_1 : decode zc_R_messages 1 = .ok (.getfield 143, 3) := by decide +kernel
theorem zd_R_messages_4 : decode zc_R_messages 4 = .ok (.ireturn, 1) := by decide +kernel
