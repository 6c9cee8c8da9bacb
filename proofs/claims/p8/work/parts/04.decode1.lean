theorem d_WK_ofTwo_156 : decode b_WK_ofTwo 156 = .ok (.aload_n 0, 1) := by decide +kernel
theorem d_WK_ofTwo_157 : decode b_WK_ofTwo 157 = .ok (.iconst 1, 1) := by decide +kernel
theorem d_WK_ofTwo_158 : decode b_WK_ofTwo 158 = .ok (.invokevirtual 99, 3) := by decide +kernel
theorem d_WK_ofTwo_161 : decode b_WK_ofTwo 161 = .ok (.goto 12, 3) := by decide +kernel
theorem d_WK_ofTwo_164 : decode b_WK_ofTwo 164 = .ok (.aload_n 0, 1) := by decide +kernel
theorem d_WK_ofTwo_165 : decode b_WK_ofTwo 165 = .ok (.dload 4, 2) := by decide +kernel
theorem d_WK_ofTwo_167 : decode b_WK_ofTwo 167 = .ok (.dload 6, 2) := by decide +kernel
theorem d_WK_ofTwo_169 : decode b_WK_ofTwo 169 = .ok (.ddiv, 1) := by decide +kernel
theorem d_WK_ofTwo_170 : decode b_WK_ofTwo 170 = .ok (.invokevirtual 138, 3) := by decide +kernel
theorem d_WK_ofTwo_173 : decode b_WK_ofTwo 173 = .ok (.dreturn, 1) := by decide +kernel
theorem d_WK_ofTwo_174 : decode b_WK_ofTwo 174 = .ok (.aload_n 0, 1) := by decide +kernel
theorem d_WK_ofTwo_175 : decode b_WK_ofTwo 175 = .ok (.dload 4, 2) := by decide +kernel
theorem d_WK_ofTwo_177 : decode b_WK_ofTwo 177 = .ok (.invokestatic 130, 3) := by decide +kernel
theorem d_WK_ofTwo_180 : decode b_WK_ofTwo 180 = .ok (.dload 6, 2) := by decide +kernel
theorem d_WK_ofTwo_182 : decode b_WK_ofTwo 182 = .ok (.invokestatic 130, 3) := by decide +kernel
theorem d_WK_ofTwo_185 : decode b_WK_ofTwo 185 = .ok (.invokevirtual 142, 3) := by decide +kernel
theorem d_WK_ofTwo_188 : decode b_WK_ofTwo 188 = .ok (.dreturn, 1) := by decide +kernel
theorem d_WK_ofTwo_189 : decode b_WK_ofTwo 189 = .ok (.dload 4, 2) := by decide +kernel
theorem d_WK_ofTwo_191 : decode b_WK_ofTwo 191 = .ok (.dload 6, 2) := by decide +kernel
theorem d_WK_ofTwo_193 : decode b_WK_ofTwo 193 = .ok (.dcmp .g, 1) := by decide +kernel
theorem d_WK_ofTwo_194 : decode b_WK_ofTwo 194 = .ok (.ifCond .ge 7, 3) := by decide +kernel
theorem d_WK_ofTwo_197 : decode b_WK_ofTwo 197 = .ok (.dconst 1, 1) := by decide +kernel
theorem d_WK_ofTwo_198 : decode b_WK_ofTwo 198 = .ok (.goto 4, 3) := by decide +kernel
theorem d_WK_ofTwo_201 : decode b_WK_ofTwo 201 = .ok (.dconst 0, 1) := by decide +kernel
theorem d_WK_ofTwo_202 : decode b_WK_ofTwo 202 = .ok (.dreturn, 1) := by decide +kernel
theorem d_WK_elementAt_0 : decode b_WK_elementAt 0 = .ok (.aload_n 0, 1) := by decide +kernel
theorem d_WK_elementAt_1 : decode b_WK_elementAt 1 = .ok (.getfield 34, 3) := by decide +kernel
theorem d_WK_elementAt_4 : decode b_WK_elementAt 4 = .ok (.lload_n 1, 1) := by decide +kernel
theorem d_WK_elementAt_5 : decode b_WK_elementAt 5 = .ok (.lload_n 3, 1) := by decide +kernel
theorem d_WK_elementAt_6 : decode b_WK_elementAt 6 = .ok (.invokevirtual 145, 3) := by decide +kernel
theorem d_WK_elementAt_9 : decode b_WK_elementAt 9 = .ok (.ifCond .eq 23, 3) := by decide +kernel
theorem d_WK_elementAt_12 : decode b_WK_elementAt 12 = .ok (.aload_n 0, 1) := by decide +kernel
theorem d_WK_elementAt_13 : decode b_WK_elementAt 13 = .ok (.getfield 34, 3) := by decide +kernel
theorem d_WK_elementAt_16 : decode b_WK_elementAt 16 = .ok (.getfield 149, 3) := by decide +kernel
theorem d_WK_elementAt_19 : decode b_WK_elementAt 19 = .ok (.aload_n 0, 1) := by decide +kernel
theorem d_WK_elementAt_20 : decode b_WK_elementAt 20 = .ok (.getfield 34, 3) := by decide +kernel
theorem d_WK_elementAt_23 : decode b_WK_elementAt 23 = .ok (.lload_n 1, 1) := by decide +kernel
theorem d_WK_elementAt_24 : decode b_WK_elementAt 24 = .ok (.lload_n 3, 1) := by decide +kernel
theorem d_WK_elementAt_25 : decode b_WK_elementAt 25 = .ok (.invokevirtual 152, 3) := by decide +kernel
theorem d_WK_elementAt_28 : decode b_WK_elementAt 28 = .ok (.daload, 1) := by decide +kernel
theorem d_WK_elementAt_29 : decode b_WK_elementAt 29 = .ok (.goto 8, 3) := by decide +kernel
theorem d_WK_elementAt_32 : decode b_WK_elementAt 32 = .ok (.aload_n 0, 1) := by decide +kernel
theorem d_WK_elementAt_33 : decode b_WK_elementAt 33 = .ok (.iconst 3, 1) := by decide +kernel
theorem d_WK_elementAt_34 : decode b_WK_elementAt 34 = .ok (.invokevirtual 99, 3) := by decide +kernel
theorem d_WK_elementAt_37 : decode b_WK_elementAt 37 = .ok (.dreturn, 1) := by decide +kernel
theorem d_WK_limited_0 : decode b_WK_limited 0 = .ok (.dload_n 1, 1) := by decide +kernel
theorem d_WK_limited_1 : decode b_WK_limited 1 = .ok (.invokestatic 156, 3) := by decide +kernel
theorem d_WK_limited_4 : decode b_WK_limited 4 = .ok (.ifCond .eq 7, 3) := by decide +kernel
theorem d_WK_limited_7 : decode b_WK_limited 7 = .ok (.dload_n 1, 1) := by decide +kernel
theorem d_WK_limited_8 : decode b_WK_limited 8 = .ok (.goto 8, 3) := by decide +kernel
theorem d_WK_limited_11 : decode b_WK_limited 11 = .ok (.aload_n 0, 1) := by decide +kernel
theorem d_WK_limited_12 : decode b_WK_limited 12 = .ok (.iconst 2, 1) := by decide +kernel
theorem d_WK_limited_13 : decode b_WK_limited 13 = .ok (.invokevirtual 99, 3) := by decide +kernel
theorem d_WK_limited_16 : decode b_WK_limited 16 = .ok (.dreturn, 1) := by decide +kernel
theorem d_WK_quotient_0 : decode b_WK_quotient 0 = .ok (.lload_n 3, 1) := by decide +kernel
theorem d_WK_quotient_1 : decode b_WK_quotient 1 = .ok (.lconst 0, 1) := by decide +kernel
theorem d_WK_quotient_2 : decode b_WK_quotient 2 = .ok (.lcmp, 1) := by decide +kernel
theorem d_WK_quotient_3 : decode b_WK_quotient 3 = .ok (.ifCond .ne 11, 3) := by decide +kernel
theorem d_WK_quotient_6 : decode b_WK_quotient 6 = .ok (.aload_n 0, 1) := by decide +kernel
theorem d_WK_quotient_7 : decode b_WK_quotient 7 = .ok (.iconst 1, 1) := by decide +kernel
theorem d_WK_quotient_8 : decode b_WK_quotient 8 = .ok (.invokevirtual 99, 3) := by decide +kernel
theorem d_WK_quotient_11 : decode b_WK_quotient 11 = .ok (.goto 7, 3) := by decide +kernel
theorem d_WK_quotient_14 : decode b_WK_quotient 14 = .ok (.lload_n 1, 1) := by decide +kernel
theorem d_WK_quotient_15 : decode b_WK_quotient 15 = .ok (.lload_n 3, 1) := by decide +kernel
theorem d_WK_quotient_16 : decode b_WK_quotient 16 = .ok (.ldiv, 1) := by decide +kernel
theorem d_WK_quotient_17 : decode b_WK_quotient 17 = .ok (.l2d, 1) := by decide +kernel
theorem d_WK_quotient_18 : decode b_WK_quotient 18 = .ok (.dreturn, 1) := by decide +kernel
theorem d_WK_choice_0 : decode b_WK_choice 0 = .ok (.aload_n 0, 1) := by decide +kernel
theorem d_WK_choice_1 : decode b_WK_choice 1 = .ok (.aload_n 0, 1) := by decide +kernel
theorem d_WK_choice_2 : decode b_WK_choice 2 = .ok (.getfield 30, 3) := by decide +kernel
theorem d_WK_choice_5 : decode b_WK_choice 5 = .ok (.getfield 70, 3) := by decide +kernel
theorem d_WK_choice_8 : decode b_WK_choice 8 = .ok (.iload_n 1, 1) := by decide +kernel
theorem d_WK_choice_9 : decode b_WK_choice 9 = .ok (.iaload, 1) := by decide +kernel
theorem d_WK_choice_10 : decode b_WK_choice 10 = .ok (.aload_n 2, 1) := by decide +kernel
theorem d_WK_choice_11 : decode b_WK_choice 11 = .ok (.iload_n 3, 1) := by decide +kernel
theorem d_WK_choice_12 : decode b_WK_choice 12 = .ok (.iconst 1, 1) := by decide +kernel
theorem d_WK_choice_13 : decode b_WK_choice 13 = .ok (.iadd, 1) := by decide +kernel
theorem d_WK_choice_14 : decode b_WK_choice 14 = .ok (.invokevirtual 53, 3) := by decide +kernel
theorem d_WK_choice_17 : decode b_WK_choice 17 = .ok (.dstore 4, 2) := by decide +kernel
theorem d_WK_choice_19 : decode b_WK_choice 19 = .ok (.aload_n 0, 1) := by decide +kernel
theorem d_WK_choice_20 : decode b_WK_choice 20 = .ok (.invokevirtual 124, 3) := by decide +kernel
theorem d_WK_choice_23 : decode b_WK_choice 23 = .ok (.ifCond .eq 5, 3) := by decide +kernel
theorem d_WK_choice_26 : decode b_WK_choice 26 = .ok (.dconst 0, 1) := by decide +kernel
theorem d_WK_choice_27 : decode b_WK_choice 27 = .ok (.dreturn, 1) := by decide +kernel
theorem d_WK_choice_28 : decode b_WK_choice 28 = .ok (.aload_n 0, 1) := by decide +kernel
theorem d_WK_choice_29 : decode b_WK_choice 29 = .ok (.dload 4, 2) := by decide +kernel
theorem d_WK_choice_31 : decode b_WK_choice 31 = .ok (.dconst 0, 1) := by decide +kernel
theorem d_WK_choice_32 : decode b_WK_choice 32 = .ok (.dcmp .l, 1) := by decide +kernel
theorem d_WK_choice_33 : decode b_WK_choice 33 = .ok (.ifCond .eq 15, 3) := by decide +kernel
theorem d_WK_choice_36 : decode b_WK_choice 36 = .ok (.aload_n 0, 1) := by decide +kernel
theorem d_WK_choice_37 : decode b_WK_choice 37 = .ok (.getfield 30, 3) := by decide +kernel
theorem d_WK_choice_40 : decode b_WK_choice 40 = .ok (.getfield 127, 3) := by decide +kernel
theorem d_WK_choice_43 : decode b_WK_choice 43 = .ok (.iload_n 1, 1) := by decide +kernel
theorem d_WK_choice_44 : decode b_WK_choice 44 = .ok (.iaload, 1) := by decide +kernel
theorem d_WK_choice_45 : decode b_WK_choice 45 = .ok (.goto 12, 3) := by decide +kernel
theorem d_WK_choice_48 : decode b_WK_choice 48 = .ok (.aload_n 0, 1) := by decide +kernel
theorem d_WK_choice_49 : decode b_WK_choice 49 = .ok (.getfield 30, 3) := by decide +kernel
theorem d_WK_choice_52 : decode b_WK_choice 52 = .ok (.getfield 160, 3) := by decide +kernel
theorem d_WK_choice_55 : decode b_WK_choice 55 = .ok (.iload_n 1, 1) := by decide +kernel
theorem d_WK_choice_56 : decode b_WK_choice 56 = .ok (.iaload, 1) := by decide +kernel
theorem d_WK_choice_57 : decode b_WK_choice 57 = .ok (.aload_n 2, 1) := by decide +kernel
theorem d_WK_choice_58 : decode b_WK_choice 58 = .ok (.iload_n 3, 1) := by decide +kernel
theorem d_WK_choice_59 : decode b_WK_choice 59 = .ok (.iconst 1, 1) := by decide +kernel
theorem d_WK_choice_60 : decode b_WK_choice 60 = .ok (.iadd, 1) := by decide +kernel
theorem d_WK_choice_61 : decode b_WK_choice 61 = .ok (.invokevirtual 53, 3) := by decide +kernel
theorem d_WK_choice_64 : decode b_WK_choice 64 = .ok (.dreturn, 1) := by decide +kernel
theorem d_WK_parameter_0 : decode b_WK_parameter 0 = .ok (.aload_n 2, 1) := by decide +kernel
theorem d_WK_parameter_1 : decode b_WK_parameter 1 = .ok (.iload_n 1, 1) := by decide +kernel
theorem d_WK_parameter_2 : decode b_WK_parameter 2 = .ok (.invokevirtual 163, 3) := by decide +kernel
theorem d_WK_parameter_5 : decode b_WK_parameter 5 = .ok (.ifCond .ne 9, 3) := by decide +kernel
theorem d_WK_parameter_8 : decode b_WK_parameter 8 = .ok (.aload_n 0, 1) := by decide +kernel
theorem d_WK_parameter_9 : decode b_WK_parameter 9 = .ok (.iconst 4, 1) := by decide +kernel
theorem d_WK_parameter_10 : decode b_WK_parameter 10 = .ok (.invokevirtual 99, 3) := by decide +kernel
theorem d_WK_parameter_13 : decode b_WK_parameter 13 = .ok (.dreturn, 1) := by decide +kernel
theorem d_WK_parameter_14 : decode b_WK_parameter 14 = .ok (.aload_n 2, 1) := by decide +kernel
theorem d_WK_parameter_15 : decode b_WK_parameter 15 = .ok (.iload_n 1, 1) := by decide +kernel
theorem d_WK_parameter_16 : decode b_WK_parameter 16 = .ok (.invokevirtual 166, 3) := by decide +kernel
theorem d_WK_parameter_19 : decode b_WK_parameter 19 = .ok (.ifCond .ne 10, 3) := by decide +kernel
theorem d_WK_parameter_22 : decode b_WK_parameter 22 = .ok (.aload_n 2, 1) := by decide +kernel
theorem d_WK_parameter_23 : decode b_WK_parameter 23 = .ok (.getfield 169, 3) := by decide +kernel
theorem d_WK_parameter_26 : decode b_WK_parameter 26 = .ok (.iload_n 1, 1) := by decide +kernel
theorem d_WK_parameter_27 : decode b_WK_parameter 27 = .ok (.daload, 1) := by decide +kernel
theorem d_WK_parameter_28 : decode b_WK_parameter 28 = .ok (.dreturn, 1) := by decide +kernel
theorem d_WK_parameter_29 : decode b_WK_parameter 29 = .ok (.aload_n 0, 1) := by decide +kernel
theorem d_WK_parameter_30 : decode b_WK_parameter 30 = .ok (.invokevirtual 172, 3) := by decide +kernel
theorem d_WK_parameter_33 : decode b_WK_parameter 33 = .ok (.ifCond .ne 5, 3) := by decide +kernel
theorem d_WK_parameter_36 : decode b_WK_parameter 36 = .ok (.dconst 0, 1) := by decide +kernel
theorem d_WK_parameter_37 : decode b_WK_parameter 37 = .ok (.dreturn, 1) := by decide +kernel
theorem d_WK_parameter_38 : decode b_WK_parameter 38 = .ok (.aload_n 0, 1) := by decide +kernel
theorem d_WK_parameter_39 : decode b_WK_parameter 39 = .ok (.aload_n 2, 1) := by decide +kernel
theorem d_WK_parameter_40 : decode b_WK_parameter 40 = .ok (.getfield 175, 3) := by decide +kernel
theorem d_WK_parameter_43 : decode b_WK_parameter 43 = .ok (.iload_n 1, 1) := by decide +kernel
theorem d_WK_parameter_44 : decode b_WK_parameter 44 = .ok (.iaload, 1) := by decide +kernel
theorem d_WK_parameter_45 : decode b_WK_parameter 45 = .ok (.aload_n 2, 1) := by decide +kernel
theorem d_WK_parameter_46 : decode b_WK_parameter 46 = .ok (.getfield 178, 3) := by decide +kernel
theorem d_WK_parameter_49 : decode b_WK_parameter 49 = .ok (.iload_n 3, 1) := by decide +kernel
theorem d_WK_parameter_50 : decode b_WK_parameter 50 = .ok (.iconst 1, 1) := by decide +kernel
theorem d_WK_parameter_51 : decode b_WK_parameter 51 = .ok (.iadd, 1) := by decide +kernel
theorem d_WK_parameter_52 : decode b_WK_parameter 52 = .ok (.invokevirtual 53, 3) := by decide +kernel
theorem d_WK_parameter_55 : decode b_WK_parameter 55 = .ok (.dstore 4, 2) := by decide +kernel
theorem d_WK_parameter_57 : decode b_WK_parameter 57 = .ok (.aload_n 0, 1) := by decide +kernel
theorem d_WK_parameter_58 : decode b_WK_parameter 58 = .ok (.dup, 1) := by decide +kernel
theorem d_WK_parameter_59 : decode b_WK_parameter 59 = .ok (.getfield 57, 3) := by decide +kernel
theorem d_WK_parameter_62 : decode b_WK_parameter 62 = .ok (.iconst 1, 1) := by decide +kernel
theorem d_WK_parameter_63 : decode b_WK_parameter 63 = .ok (.isub, 1) := by decide +kernel
theorem d_WK_parameter_64 : decode b_WK_parameter 64 = .ok (.putfield 57, 3) := by decide +kernel
theorem d_WK_parameter_67 : decode b_WK_parameter 67 = .ok (.dload 4, 2) := by decide +kernel
theorem d_WK_parameter_69 : decode b_WK_parameter 69 = .ok (.dreturn, 1) := by decide +kernel
theorem d_WK_call_0 : decode b_WK_call 0 = .ok (.aload_n 0, 1) := by decide +kernel
theorem d_WK_call_1 : decode b_WK_call 1 = .ok (.getfield 30, 3) := by decide +kernel
theorem d_WK_call_4 : decode b_WK_call 4 = .ok (.iload_n 1, 1) := by decide +kernel
theorem d_WK_call_5 : decode b_WK_call 5 = .ok (.invokevirtual 181, 3) := by decide +kernel
theorem d_WK_call_8 : decode b_WK_call 8 = .ok (.ifCond .ne 9, 3) := by decide +kernel
theorem d_WK_call_11 : decode b_WK_call 11 = .ok (.aload_n 0, 1) := by decide +kernel
theorem d_WK_call_12 : decode b_WK_call 12 = .ok (.iconst 4, 1) := by decide +kernel
theorem d_WK_call_13 : decode b_WK_call 13 = .ok (.invokevirtual 99, 3) := by decide +kernel
theorem d_WK_call_16 : decode b_WK_call 16 = .ok (.dreturn, 1) := by decide +kernel
theorem d_WK_call_17 : decode b_WK_call 17 = .ok (.aload_n 0, 1) := by decide +kernel
theorem d_WK_call_18 : decode b_WK_call 18 = .ok (.getfield 30, 3) := by decide +kernel
theorem d_WK_call_21 : decode b_WK_call 21 = .ok (.getfield 70, 3) := by decide +kernel
theorem d_WK_call_24 : decode b_WK_call 24 = .ok (.iload_n 1, 1) := by decide +kernel
theorem d_WK_call_25 : decode b_WK_call 25 = .ok (.iaload, 1) := by decide +kernel
theorem d_WK_call_26 : decode b_WK_call 26 = .ok (.istore 4, 2) := by decide +kernel
theorem d_WK_call_28 : decode b_WK_call 28 = .ok (.aload_n 0, 1) := by decide +kernel
theorem d_WK_call_29 : decode b_WK_call 29 = .ok (.getfield 30, 3) := by decide +kernel
theorem d_WK_call_32 : decode b_WK_call 32 = .ok (.iload 4, 2) := by decide +kernel
theorem d_WK_call_34 : decode b_WK_call 34 = .ok (.iconst 0, 1) := by decide +kernel
theorem d_WK_call_35 : decode b_WK_call 35 = .ok (.invokevirtual 184, 3) := by decide +kernel
theorem d_WK_call_38 : decode b_WK_call 38 = .ok (.ifCond .eq 23, 3) := by decide +kernel
theorem d_WK_call_41 : decode b_WK_call 41 = .ok (.aload_n 0, 1) := by decide +kernel
theorem d_WK_call_42 : decode b_WK_call 42 = .ok (.aload_n 0, 1) := by decide +kernel
theorem d_WK_call_43 : decode b_WK_call 43 = .ok (.getfield 30, 3) := by decide +kernel
theorem d_WK_call_46 : decode b_WK_call 46 = .ok (.getfield 127, 3) := by decide +kernel
theorem d_WK_call_49 : decode b_WK_call 49 = .ok (.iload_n 1, 1) := by decide +kernel
theorem d_WK_call_50 : decode b_WK_call 50 = .ok (.iaload, 1) := by decide +kernel
theorem d_WK_call_51 : decode b_WK_call 51 = .ok (.aload_n 2, 1) := by decide +kernel
theorem d_WK_call_52 : decode b_WK_call 52 = .ok (.iload_n 3, 1) := by decide +kernel
theorem d_WK_call_53 : decode b_WK_call 53 = .ok (.iconst 1, 1) := by decide +kernel
theorem d_WK_call_54 : decode b_WK_call 54 = .ok (.iadd, 1) := by decide +kernel
theorem d_WK_call_55 : decode b_WK_call 55 = .ok (.invokevirtual 53, 3) := by decide +kernel
theorem d_WK_call_58 : decode b_WK_call 58 = .ok (.goto 4, 3) := by decide +kernel
theorem d_WK_call_61 : decode b_WK_call 61 = .ok (.dconst 0, 1) := by decide +kernel
theorem d_WK_call_62 : decode b_WK_call 62 = .ok (.dstore 5, 2) := by decide +kernel
theorem d_WK_call_64 : decode b_WK_call 64 = .ok (.aload_n 0, 1) := by decide +kernel
theorem d_WK_call_65 : decode b_WK_call 65 = .ok (.invokevirtual 124, 3) := by decide +kernel
theorem d_WK_call_68 : decode b_WK_call 68 = .ok (.ifCond .eq 5, 3) := by decide +kernel
theorem d_WK_call_71 : decode b_WK_call 71 = .ok (.dconst 0, 1) := by decide +kernel
theorem d_WK_call_72 : decode b_WK_call 72 = .ok (.dreturn, 1) := by decide +kernel
theorem d_WK_call_73 : decode b_WK_call 73 = .ok (.aload_n 0, 1) := by decide +kernel
theorem d_WK_call_74 : decode b_WK_call 74 = .ok (.getfield 30, 3) := by decide +kernel
theorem d_WK_call_77 : decode b_WK_call 77 = .ok (.iload 4, 2) := by decide +kernel
theorem d_WK_call_79 : decode b_WK_call 79 = .ok (.iconst 1, 1) := by decide +kernel
theorem d_WK_call_80 : decode b_WK_call 80 = .ok (.invokevirtual 184, 3) := by decide +kernel
theorem d_WK_call_83 : decode b_WK_call 83 = .ok (.ifCond .eq 23, 3) := by decide +kernel
theorem d_WK_call_86 : decode b_WK_call 86 = .ok (.aload_n 0, 1) := by decide +kernel
theorem d_WK_call_87 : decode b_WK_call 87 = .ok (.aload_n 0, 1) := by decide +kernel
theorem d_WK_call_88 : decode b_WK_call 88 = .ok (.getfield 30, 3) := by decide +kernel
theorem d_WK_call_91 : decode b_WK_call 91 = .ok (.getfield 160, 3) := by decide +kernel
theorem d_WK_call_94 : decode b_WK_call 94 = .ok (.iload_n 1, 1) := by decide +kernel
theorem d_WK_call_95 : decode b_WK_call 95 = .ok (.iaload, 1) := by decide +kernel
theorem d_WK_call_96 : decode b_WK_call 96 = .ok (.aload_n 2, 1) := by decide +kernel
theorem d_WK_call_97 : decode b_WK_call 97 = .ok (.iload_n 3, 1) := by decide +kernel
theorem d_WK_call_98 : decode b_WK_call 98 = .ok (.iconst 1, 1) := by decide +kernel
theorem d_WK_call_99 : decode b_WK_call 99 = .ok (.iadd, 1) := by decide +kernel
theorem d_WK_call_100 : decode b_WK_call 100 = .ok (.invokevirtual 53, 3) := by decide +kernel
theorem d_WK_call_103 : decode b_WK_call 103 = .ok (.goto 4, 3) := by decide +kernel
theorem d_WK_call_106 : decode b_WK_call 106 = .ok (.dconst 0, 1) := by decide +kernel
theorem d_WK_call_107 : decode b_WK_call 107 = .ok (.dstore 7, 2) := by decide +kernel
theorem d_WK_call_109 : decode b_WK_call 109 = .ok (.aload_n 0, 1) := by decide +kernel
theorem d_WK_call_110 : decode b_WK_call 110 = .ok (.invokevirtual 124, 3) := by decide +kernel
theorem d_WK_call_113 : decode b_WK_call 113 = .ok (.ifCond .ne 10, 3) := by decide +kernel
theorem d_WK_call_116 : decode b_WK_call 116 = .ok (.aload_n 0, 1) := by decide +kernel
theorem d_WK_call_117 : decode b_WK_call 117 = .ok (.invokevirtual 172, 3) := by decide +kernel
theorem d_WK_call_120 : decode b_WK_call 120 = .ok (.ifCond .ne 5, 3) := by decide +kernel
theorem d_WK_call_123 : decode b_WK_call 123 = .ok (.dconst 0, 1) := by decide +kernel
theorem d_WK_call_124 : decode b_WK_call 124 = .ok (.dreturn, 1) := by decide +kernel
theorem d_WK_call_125 : decode b_WK_call 125 = .ok (.aload_n 0, 1) := by decide +kernel
theorem d_WK_call_126 : decode b_WK_call 126 = .ok (.getfield 18, 3) := by decide +kernel
theorem d_WK_call_129 : decode b_WK_call 129 = .ok (.aload_n 0, 1) := by decide +kernel
theorem d_WK_call_130 : decode b_WK_call 130 = .ok (.getfield 188, 3) := by decide +kernel
theorem d_WK_call_133 : decode b_WK_call 133 = .ok (.aaload, 1) := by decide +kernel
theorem d_WK_call_134 : decode b_WK_call 134 = .ok (.astore 9, 2) := by decide +kernel
theorem d_WK_call_136 : decode b_WK_call 136 = .ok (.aload 9, 2) := by decide +kernel
theorem d_WK_call_138 : decode b_WK_call 138 = .ok (.aload_n 2, 1) := by decide +kernel
theorem d_WK_call_139 : decode b_WK_call 139 = .ok (.aload_n 0, 1) := by decide +kernel
theorem d_WK_call_140 : decode b_WK_call 140 = .ok (.getfield 30, 3) := by decide +kernel
theorem d_WK_call_143 : decode b_WK_call 143 = .ok (.getfield 191, 3) := by decide +kernel
theorem d_WK_call_146 : decode b_WK_call 146 = .ok (.iload 4, 2) := by decide +kernel
theorem d_WK_call_148 : decode b_WK_call 148 = .ok (.iaload, 1) := by decide +kernel
theorem d_WK_call_149 : decode b_WK_call 149 = .ok (.aload_n 0, 1) := by decide +kernel
theorem d_WK_call_150 : decode b_WK_call 150 = .ok (.getfield 30, 3) := by decide +kernel
theorem d_WK_call_153 : decode b_WK_call 153 = .ok (.getfield 194, 3) := by decide +kernel
theorem d_WK_call_156 : decode b_WK_call 156 = .ok (.iload 4, 2) := by decide +kernel
theorem d_WK_call_158 : decode b_WK_call 158 = .ok (.iaload, 1) := by decide +kernel
theorem d_WK_call_159 : decode b_WK_call 159 = .ok (.invokevirtual 197, 3) := by decide +kernel
theorem d_WK_call_162 : decode b_WK_call 162 = .ok (.aload 9, 2) := by decide +kernel
theorem d_WK_call_164 : decode b_WK_call 164 = .ok (.iconst 0, 1) := by decide +kernel
theorem d_WK_call_165 : decode b_WK_call 165 = .ok (.aload_n 0, 1) := by decide +kernel
theorem d_WK_call_166 : decode b_WK_call 166 = .ok (.getfield 30, 3) := by decide +kernel
theorem d_WK_call_169 : decode b_WK_call 169 = .ok (.getfield 127, 3) := by decide +kernel
theorem d_WK_call_172 : decode b_WK_call 172 = .ok (.iload_n 1, 1) := by decide +kernel
theorem d_WK_call_173 : decode b_WK_call 173 = .ok (.iaload, 1) := by decide +kernel
theorem d_WK_call_174 : decode b_WK_call 174 = .ok (.dload 5, 2) := by decide +kernel
theorem d_WK_call_176 : decode b_WK_call 176 = .ok (.invokevirtual 201, 3) := by decide +kernel
theorem d_WK_call_179 : decode b_WK_call 179 = .ok (.aload 9, 2) := by decide +kernel
theorem d_WK_call_181 : decode b_WK_call 181 = .ok (.iconst 1, 1) := by decide +kernel
theorem d_WK_call_182 : decode b_WK_call 182 = .ok (.aload_n 0, 1) := by decide +kernel
theorem d_WK_call_183 : decode b_WK_call 183 = .ok (.getfield 30, 3) := by decide +kernel
theorem d_WK_call_186 : decode b_WK_call 186 = .ok (.getfield 160, 3) := by decide +kernel
theorem d_WK_call_189 : decode b_WK_call 189 = .ok (.iload_n 1, 1) := by decide +kernel
theorem d_WK_call_190 : decode b_WK_call 190 = .ok (.iaload, 1) := by decide +kernel
theorem d_WK_call_191 : decode b_WK_call 191 = .ok (.dload 7, 2) := by decide +kernel
theorem d_WK_call_193 : decode b_WK_call 193 = .ok (.invokevirtual 201, 3) := by decide +kernel
theorem d_WK_call_196 : decode b_WK_call 196 = .ok (.aload_n 0, 1) := by decide +kernel
theorem d_WK_call_197 : decode b_WK_call 197 = .ok (.dup, 1) := by decide +kernel
theorem d_WK_call_198 : decode b_WK_call 198 = .ok (.getfield 188, 3) := by decide +kernel
theorem d_WK_call_201 : decode b_WK_call 201 = .ok (.iconst 1, 1) := by decide +kernel
theorem d_WK_call_202 : decode b_WK_call 202 = .ok (.iadd, 1) := by decide +kernel
theorem d_WK_call_203 : decode b_WK_call 203 = .ok (.putfield 188, 3) := by decide +kernel
theorem d_WK_call_206 : decode b_WK_call 206 = .ok (.aload_n 0, 1) := by decide +kernel
theorem d_WK_call_207 : decode b_WK_call 207 = .ok (.dup, 1) := by decide +kernel
theorem d_WK_call_208 : decode b_WK_call 208 = .ok (.getfield 44, 3) := by decide +kernel
theorem d_WK_call_211 : decode b_WK_call 211 = .ok (.iconst 1, 1) := by decide +kernel
theorem d_WK_call_212 : decode b_WK_call 212 = .ok (.iadd, 1) := by decide +kernel
theorem d_WK_call_213 : decode b_WK_call 213 = .ok (.putfield 44, 3) := by decide +kernel
theorem d_WK_call_216 : decode b_WK_call 216 = .ok (.aload_n 0, 1) := by decide +kernel
theorem d_WK_call_217 : decode b_WK_call 217 = .ok (.aload_n 0, 1) := by decide +kernel
theorem d_WK_call_218 : decode b_WK_call 218 = .ok (.getfield 30, 3) := by decide +kernel
theorem d_WK_call_221 : decode b_WK_call 221 = .ok (.getfield 205, 3) := by decide +kernel
theorem d_WK_call_224 : decode b_WK_call 224 = .ok (.iload 4, 2) := by decide +kernel
theorem d_WK_call_226 : decode b_WK_call 226 = .ok (.iaload, 1) := by decide +kernel
theorem d_WK_call_227 : decode b_WK_call 227 = .ok (.aload 9, 2) := by decide +kernel
theorem d_WK_call_229 : decode b_WK_call 229 = .ok (.iload_n 3, 1) := by decide +kernel
theorem d_WK_call_230 : decode b_WK_call 230 = .ok (.iconst 1, 1) := by decide +kernel
theorem d_WK_call_231 : decode b_WK_call 231 = .ok (.iadd, 1) := by decide +kernel
theorem d_WK_call_232 : decode b_WK_call 232 = .ok (.invokevirtual 53, 3) := by decide +kernel
theorem d_WK_call_235 : decode b_WK_call 235 = .ok (.dstore 10, 2) := by decide +kernel
theorem d_WK_call_237 : decode b_WK_call 237 = .ok (.aload_n 0, 1) := by decide +kernel
theorem d_WK_call_238 : decode b_WK_call 238 = .ok (.dup, 1) := by decide +kernel
theorem d_WK_call_239 : decode b_WK_call 239 = .ok (.getfield 188, 3) := by decide +kernel
theorem d_WK_call_242 : decode b_WK_call 242 = .ok (.iconst 1, 1) := by decide +kernel
theorem d_WK_call_243 : decode b_WK_call 243 = .ok (.isub, 1) := by decide +kernel
theorem d_WK_call_244 : decode b_WK_call 244 = .ok (.putfield 188, 3) := by decide +kernel
theorem d_WK_call_247 : decode b_WK_call 247 = .ok (.aload_n 0, 1) := by decide +kernel
theorem d_WK_call_248 : decode b_WK_call 248 = .ok (.dup, 1) := by decide +kernel
theorem d_WK_call_249 : decode b_WK_call 249 = .ok (.getfield 57, 3) := by decide +kernel
theorem d_WK_call_252 : decode b_WK_call 252 = .ok (.iconst 1, 1) := by decide +kernel
theorem d_WK_call_253 : decode b_WK_call 253 = .ok (.isub, 1) := by decide +kernel
theorem d_WK_call_254 : decode b_WK_call 254 = .ok (.putfield 57, 3) := by decide +kernel
theorem d_WK_call_257 : decode b_WK_call 257 = .ok (.dload 10, 2) := by decide +kernel
theorem d_WK_call_259 : decode b_WK_call 259 = .ok (.dreturn, 1) := by decide +kernel
theorem d_WK_set_0 : decode b_WK_set 0 = .ok (.aload_n 0, 1) := by decide +kernel
theorem d_WK_set_1 : decode b_WK_set 1 = .ok (.getfield 30, 3) := by decide +kernel
theorem d_WK_set_4 : decode b_WK_set 4 = .ok (.getfield 70, 3) := by decide +kernel
theorem d_WK_set_7 : decode b_WK_set 7 = .ok (.iload_n 1, 1) := by decide +kernel
theorem d_WK_set_8 : decode b_WK_set 8 = .ok (.iaload, 1) := by decide +kernel
theorem d_WK_set_9 : decode b_WK_set 9 = .ok (.istore 4, 2) := by decide +kernel
theorem d_WK_set_11 : decode b_WK_set 11 = .ok (.aload_n 0, 1) := by decide +kernel
theorem d_WK_set_12 : decode b_WK_set 12 = .ok (.getfield 30, 3) := by decide +kernel
theorem d_WK_set_15 : decode b_WK_set 15 = .ok (.iload 4, 2) := by decide +kernel
theorem d_WK_set_17 : decode b_WK_set 17 = .ok (.invokevirtual 208, 3) := by decide +kernel
theorem d_WK_set_20 : decode b_WK_set 20 = .ok (.ifCond .ne 10, 3) := by decide +kernel
theorem d_WK_set_23 : decode b_WK_set 23 = .ok (.aload_n 0, 1) := by decide +kernel
theorem d_WK_set_24 : decode b_WK_set 24 = .ok (.bipush 6, 2) := by decide +kernel
theorem d_WK_set_26 : decode b_WK_set 26 = .ok (.invokevirtual 99, 3) := by decide +kernel
theorem d_WK_set_29 : decode b_WK_set 29 = .ok (.dreturn, 1) := by decide +kernel
theorem d_WK_set_30 : decode b_WK_set 30 = .ok (.aload_n 0, 1) := by decide +kernel
theorem d_WK_set_31 : decode b_WK_set 31 = .ok (.aload_n 0, 1) := by decide +kernel
theorem d_WK_set_32 : decode b_WK_set 32 = .ok (.getfield 30, 3) := by decide +kernel
theorem d_WK_set_35 : decode b_WK_set 35 = .ok (.getfield 127, 3) := by decide +kernel
theorem d_WK_set_38 : decode b_WK_set 38 = .ok (.iload_n 1, 1) := by decide +kernel
theorem d_WK_set_39 : decode b_WK_set 39 = .ok (.iaload, 1) := by decide +kernel
theorem d_WK_set_40 : decode b_WK_set 40 = .ok (.aload_n 2, 1) := by decide +kernel
theorem d_WK_set_41 : decode b_WK_set 41 = .ok (.iload_n 3, 1) := by decide +kernel
theorem d_WK_set_42 : decode b_WK_set 42 = .ok (.iconst 1, 1) := by decide +kernel
theorem d_WK_set_43 : decode b_WK_set 43 = .ok (.iadd, 1) := by decide +kernel
theorem d_WK_set_44 : decode b_WK_set 44 = .ok (.invokevirtual 53, 3) := by decide +kernel
theorem d_WK_set_47 : decode b_WK_set 47 = .ok (.dstore 5, 2) := by decide +kernel
theorem d_WK_set_49 : decode b_WK_set 49 = .ok (.aload_n 0, 1) := by decide +kernel
theorem d_WK_set_50 : decode b_WK_set 50 = .ok (.invokevirtual 124, 3) := by decide +kernel
theorem d_WK_set_53 : decode b_WK_set 53 = .ok (.ifCond .eq 7, 3) := by decide +kernel
theorem d_WK_set_56 : decode b_WK_set 56 = .ok (.dconst 0, 1) := by decide +kernel
theorem d_WK_set_57 : decode b_WK_set 57 = .ok (.goto 13, 3) := by decide +kernel
theorem d_WK_set_60 : decode b_WK_set 60 = .ok (.aload_n 0, 1) := by decide +kernel
theorem d_WK_set_61 : decode b_WK_set 61 = .ok (.iload 4, 2) := by decide +kernel
theorem d_WK_set_63 : decode b_WK_set 63 = .ok (.dload 5, 2) := by decide +kernel
theorem d_WK_set_65 : decode b_WK_set 65 = .ok (.aload_n 2, 1) := by decide +kernel
theorem d_WK_set_66 : decode b_WK_set 66 = .ok (.iload_n 3, 1) := by decide +kernel
theorem d_WK_set_67 : decode b_WK_set 67 = .ok (.invokevirtual 211, 3) := by decide +kernel
theorem d_WK_set_70 : decode b_WK_set 70 = .ok (.dreturn, 1) := by decide +kernel
theorem d_WK_become_0 : decode b_WK_become 0 = .ok (.aload_n 0, 1) := by decide +kernel
theorem d_WK_become_1 : decode b_WK_become 1 = .ok (.getfield 30, 3) := by decide +kernel
theorem d_WK_become_4 : decode b_WK_become 4 = .ok (.getfield 70, 3) := by decide +kernel
theorem d_WK_become_7 : decode b_WK_become 7 = .ok (.iload_n 1, 1) := by decide +kernel
theorem d_WK_become_8 : decode b_WK_become 8 = .ok (.iaload, 1) := by decide +kernel
theorem d_WK_become_9 : decode b_WK_become 9 = .ok (.istore 6, 2) := by decide +kernel
theorem d_WK_become_11 : decode b_WK_become 11 = .ok (.aload_n 0, 1) := by decide +kernel
theorem d_WK_become_12 : decode b_WK_become 12 = .ok (.getfield 30, 3) := by decide +kernel
theorem d_WK_become_15 : decode b_WK_become 15 = .ok (.getfield 75, 3) := by decide +kernel
theorem d_WK_become_18 : decode b_WK_become 18 = .ok (.iload_n 1, 1) := by decide +kernel
theorem d_WK_become_19 : decode b_WK_become 19 = .ok (.iaload, 1) := by decide +kernel
theorem d_WK_become_20 : decode b_WK_become 20 = .ok (.lookupswitch 148 #[(1, 44), (2, 55), (10, 136), (11, 126)], 44) := by decide +kernel
theorem d_WK_become_64 : decode b_WK_become 64 = .ok (.aload_n 0, 1) := by decide +kernel
theorem d_WK_become_65 : decode b_WK_become 65 = .ok (.getfield 34, 3) := by decide +kernel
theorem d_WK_become_68 : decode b_WK_become 68 = .ok (.iload 6, 2) := by decide +kernel
theorem d_WK_become_70 : decode b_WK_become 70 = .ok (.dload_n 2, 1) := by decide +kernel
theorem d_WK_become_71 : decode b_WK_become 71 = .ok (.invokevirtual 215, 3) := by decide +kernel
theorem d_WK_become_74 : decode b_WK_become 74 = .ok (.dreturn, 1) := by decide +kernel
theorem d_WK_become_75 : decode b_WK_become 75 = .ok (.aload_n 0, 1) := by decide +kernel
theorem d_WK_become_76 : decode b_WK_become 76 = .ok (.iload 6, 2) := by decide +kernel
theorem d_WK_become_78 : decode b_WK_become 78 = .ok (.aload 4, 2) := by decide +kernel
theorem d_WK_become_80 : decode b_WK_become 80 = .ok (.iload 5, 2) := by decide +kernel
theorem d_WK_become_82 : decode b_WK_become 82 = .ok (.iconst 1, 1) := by decide +kernel
theorem d_WK_become_83 : decode b_WK_become 83 = .ok (.iadd, 1) := by decide +kernel
theorem d_WK_become_84 : decode b_WK_become 84 = .ok (.invokevirtual 53, 3) := by decide +kernel
theorem d_WK_become_87 : decode b_WK_become 87 = .ok (.dstore 7, 2) := by decide +kernel
theorem d_WK_become_89 : decode b_WK_become 89 = .ok (.aload_n 0, 1) := by decide +kernel
theorem d_WK_become_90 : decode b_WK_become 90 = .ok (.invokevirtual 124, 3) := by decide +kernel
theorem d_WK_become_93 : decode b_WK_become 93 = .ok (.ifCond .eq 5, 3) := by decide +kernel
theorem d_WK_become_96 : decode b_WK_become 96 = .ok (.dconst 0, 1) := by decide +kernel
theorem d_WK_become_97 : decode b_WK_become 97 = .ok (.dreturn, 1) := by decide +kernel
theorem d_WK_become_98 : decode b_WK_become 98 = .ok (.aload_n 0, 1) := by decide +kernel
theorem d_WK_become_99 : decode b_WK_become 99 = .ok (.aload_n 0, 1) := by decide +kernel
theorem d_WK_become_100 : decode b_WK_become 100 = .ok (.getfield 30, 3) := by decide +kernel
theorem d_WK_become_103 : decode b_WK_become 103 = .ok (.getfield 127, 3) := by decide +kernel
theorem d_WK_become_106 : decode b_WK_become 106 = .ok (.iload_n 1, 1) := by decide +kernel
theorem d_WK_become_107 : decode b_WK_become 107 = .ok (.iaload, 1) := by decide +kernel
theorem d_WK_become_108 : decode b_WK_become 108 = .ok (.aload 4, 2) := by decide +kernel
theorem d_WK_become_110 : decode b_WK_become 110 = .ok (.iload 5, 2) := by decide +kernel
theorem d_WK_become_112 : decode b_WK_become 112 = .ok (.iconst 1, 1) := by decide +kernel
theorem d_WK_become_113 : decode b_WK_become 113 = .ok (.iadd, 1) := by decide +kernel
theorem d_WK_become_114 : decode b_WK_become 114 = .ok (.invokevirtual 53, 3) := by decide +kernel
theorem d_WK_become_117 : decode b_WK_become 117 = .ok (.dstore 9, 2) := by decide +kernel
theorem d_WK_become_119 : decode b_WK_become 119 = .ok (.aload_n 0, 1) := by decide +kernel
theorem d_WK_become_120 : decode b_WK_become 120 = .ok (.invokevirtual 124, 3) := by decide +kernel
theorem d_WK_become_123 : decode b_WK_become 123 = .ok (.ifCond .eq 7, 3) := by decide +kernel
theorem d_WK_become_126 : decode b_WK_become 126 = .ok (.dconst 0, 1) := by decide +kernel
theorem d_WK_become_127 : decode b_WK_become 127 = .ok (.goto 18, 3) := by decide +kernel
theorem d_WK_become_130 : decode b_WK_become 130 = .ok (.aload_n 0, 1) := by decide +kernel
theorem d_WK_become_131 : decode b_WK_become 131 = .ok (.dload 7, 2) := by decide +kernel
theorem d_WK_become_133 : decode b_WK_become 133 = .ok (.invokestatic 130, 3) := by decide +kernel
theorem d_WK_become_136 : decode b_WK_become 136 = .ok (.dload 9, 2) := by decide +kernel
theorem d_WK_become_138 : decode b_WK_become 138 = .ok (.invokestatic 130, 3) := by decide +kernel
theorem d_WK_become_141 : decode b_WK_become 141 = .ok (.dload_n 2, 1) := by decide +kernel
theorem d_WK_become_142 : decode b_WK_become 142 = .ok (.invokevirtual 219, 3) := by decide +kernel
theorem d_WK_become_145 : decode b_WK_become 145 = .ok (.dreturn, 1) := by decide +kernel
theorem d_WK_become_146 : decode b_WK_become 146 = .ok (.aload_n 0, 1) := by decide +kernel
theorem d_WK_become_147 : decode b_WK_become 147 = .ok (.iload 6, 2) := by decide +kernel
theorem d_WK_become_149 : decode b_WK_become 149 = .ok (.dload_n 2, 1) := by decide +kernel
theorem d_WK_become_150 : decode b_WK_become 150 = .ok (.aload 4, 2) := by decide +kernel
theorem d_WK_become_152 : decode b_WK_become 152 = .ok (.invokevirtual 223, 3) := by decide +kernel
theorem d_WK_become_155 : decode b_WK_become 155 = .ok (.dreturn, 1) := by decide +kernel
theorem d_WK_become_156 : decode b_WK_become 156 = .ok (.aload_n 0, 1) := by decide +kernel
theorem d_WK_become_157 : decode b_WK_become 157 = .ok (.iload 6, 2) := by decide +kernel
theorem d_WK_become_159 : decode b_WK_become 159 = .ok (.dload_n 2, 1) := by decide +kernel
theorem d_WK_become_160 : decode b_WK_become 160 = .ok (.aload 4, 2) := by decide +kernel
theorem d_WK_become_162 : decode b_WK_become 162 = .ok (.iload 5, 2) := by decide +kernel
theorem d_WK_become_164 : decode b_WK_become 164 = .ok (.invokevirtual 227, 3) := by decide +kernel
theorem d_WK_become_167 : decode b_WK_become 167 = .ok (.dreturn, 1) := by decide +kernel
theorem d_WK_become_168 : decode b_WK_become 168 = .ok (.aload_n 0, 1) := by decide +kernel
theorem d_WK_become_169 : decode b_WK_become 169 = .ok (.bipush 6, 2) := by decide +kernel
theorem d_WK_become_171 : decode b_WK_become 171 = .ok (.invokevirtual 99, 3) := by decide +kernel
theorem d_WK_become_174 : decode b_WK_become 174 = .ok (.dreturn, 1) := by decide +kernel
theorem d_WK_elementBecomes_0 : decode b_WK_elementBecomes 0 = .ok (.aload_n 0, 1) := by decide +kernel
theorem d_WK_elementBecomes_1 : decode b_WK_elementBecomes 1 = .ok (.getfield 34, 3) := by decide +kernel
theorem d_WK_elementBecomes_4 : decode b_WK_elementBecomes 4 = .ok (.lload_n 1, 1) := by decide +kernel
theorem d_WK_elementBecomes_5 : decode b_WK_elementBecomes 5 = .ok (.lload_n 3, 1) := by decide +kernel
theorem d_WK_elementBecomes_6 : decode b_WK_elementBecomes 6 = .ok (.invokevirtual 145, 3) := by decide +kernel
theorem d_WK_elementBecomes_9 : decode b_WK_elementBecomes 9 = .ok (.ifCond .ne 9, 3) := by decide +kernel
theorem d_WK_elementBecomes_12 : decode b_WK_elementBecomes 12 = .ok (.aload_n 0, 1) := by decide +kernel
theorem d_WK_elementBecomes_13 : decode b_WK_elementBecomes 13 = .ok (.iconst 3, 1) := by decide +kernel
theorem d_WK_elementBecomes_14 : decode b_WK_elementBecomes 14 = .ok (.invokevirtual 99, 3) := by decide +kernel
theorem d_WK_elementBecomes_17 : decode b_WK_elementBecomes 17 = .ok (.dreturn, 1) := by decide +kernel
theorem d_WK_elementBecomes_18 : decode b_WK_elementBecomes 18 = .ok (.aload_n 0, 1) := by decide +kernel
theorem d_WK_elementBecomes_19 : decode b_WK_elementBecomes 19 = .ok (.getfield 34, 3) := by decide +kernel
theorem d_WK_elementBecomes_22 : decode b_WK_elementBecomes 22 = .ok (.getfield 149, 3) := by decide +kernel
theorem d_WK_elementBecomes_25 : decode b_WK_elementBecomes 25 = .ok (.aload_n 0, 1) := by decide +kernel
theorem d_WK_elementBecomes_26 : decode b_WK_elementBecomes 26 = .ok (.getfield 34, 3) := by decide +kernel
theorem d_WK_elementBecomes_29 : decode b_WK_elementBecomes 29 = .ok (.lload_n 1, 1) := by decide +kernel
theorem d_WK_elementBecomes_30 : decode b_WK_elementBecomes 30 = .ok (.lload_n 3, 1) := by decide +kernel
theorem d_WK_elementBecomes_31 : decode b_WK_elementBecomes 31 = .ok (.invokevirtual 152, 3) := by decide +kernel
theorem d_WK_elementBecomes_34 : decode b_WK_elementBecomes 34 = .ok (.dload 5, 2) := by decide +kernel
theorem d_WK_elementBecomes_36 : decode b_WK_elementBecomes 36 = .ok (.dastore, 1) := by decide +kernel
theorem d_WK_elementBecomes_37 : decode b_WK_elementBecomes 37 = .ok (.dload 5, 2) := by decide +kernel
theorem d_WK_elementBecomes_39 : decode b_WK_elementBecomes 39 = .ok (.dreturn, 1) := by decide +kernel
theorem d_WK_localBecomes_0 : decode b_WK_localBecomes 0 = .ok (.aload 4, 2) := by decide +kernel
theorem d_WK_localBecomes_2 : decode b_WK_localBecomes 2 = .ok (.invokevirtual 92, 3) := by decide +kernel
theorem d_WK_localBecomes_5 : decode b_WK_localBecomes 5 = .ok (.ifCond .ne 9, 3) := by decide +kernel
theorem d_WK_localBecomes_8 : decode b_WK_localBecomes 8 = .ok (.aload_n 0, 1) := by decide +kernel
theorem d_WK_localBecomes_9 : decode b_WK_localBecomes 9 = .ok (.iconst 4, 1) := by decide +kernel
theorem d_WK_localBecomes_10 : decode b_WK_localBecomes 10 = .ok (.invokevirtual 99, 3) := by decide +kernel
theorem d_WK_localBecomes_13 : decode b_WK_localBecomes 13 = .ok (.dreturn, 1) := by decide +kernel
theorem d_WK_localBecomes_14 : decode b_WK_localBecomes 14 = .ok (.aload 4, 2) := by decide +kernel
theorem d_WK_localBecomes_16 : decode b_WK_localBecomes 16 = .ok (.getfield 96, 3) := by decide +kernel
theorem d_WK_localBecomes_19 : decode b_WK_localBecomes 19 = .ok (.iload_n 1, 1) := by decide +kernel
theorem d_WK_localBecomes_20 : decode b_WK_localBecomes 20 = .ok (.dload_n 2, 1) := by decide +kernel
theorem d_WK_localBecomes_21 : decode b_WK_localBecomes 21 = .ok (.dastore, 1) := by decide +kernel
theorem d_WK_localBecomes_22 : decode b_WK_localBecomes 22 = .ok (.dload_n 2, 1) := by decide +kernel
theorem d_WK_localBecomes_23 : decode b_WK_localBecomes 23 = .ok (.dreturn, 1) := by decide +kernel
theorem d_WK_parameterBecomes_0 : decode b_WK_parameterBecomes 0 = .ok (.aload 4, 2) := by decide +kernel
theorem d_WK_parameterBecomes_2 : decode b_WK_parameterBecomes 2 = .ok (.iload_n 1, 1) := by decide +kernel
theorem d_WK_parameterBecomes_3 : decode b_WK_parameterBecomes 3 = .ok (.invokevirtual 163, 3) := by decide +kernel
theorem d_WK_parameterBecomes_6 : decode b_WK_parameterBecomes 6 = .ok (.ifCond .ne 9, 3) := by decide +kernel
theorem d_WK_parameterBecomes_9 : decode b_WK_parameterBecomes 9 = .ok (.aload_n 0, 1) := by decide +kernel
theorem d_WK_parameterBecomes_10 : decode b_WK_parameterBecomes 10 = .ok (.iconst 4, 1) := by decide +kernel
theorem d_WK_parameterBecomes_11 : decode b_WK_parameterBecomes 11 = .ok (.invokevirtual 99, 3) := by decide +kernel
theorem d_WK_parameterBecomes_14 : decode b_WK_parameterBecomes 14 = .ok (.dreturn, 1) := by decide +kernel
theorem d_WK_parameterBecomes_15 : decode b_WK_parameterBecomes 15 = .ok (.aload 4, 2) := by decide +kernel
theorem d_WK_parameterBecomes_17 : decode b_WK_parameterBecomes 17 = .ok (.iload_n 1, 1) := by decide +kernel
theorem d_WK_parameterBecomes_18 : decode b_WK_parameterBecomes 18 = .ok (.invokevirtual 166, 3) := by decide +kernel
theorem d_WK_parameterBecomes_21 : decode b_WK_parameterBecomes 21 = .ok (.ifCond .ne 13, 3) := by decide +kernel
theorem d_WK_parameterBecomes_24 : decode b_WK_parameterBecomes 24 = .ok (.aload 4, 2) := by decide +kernel
theorem d_WK_parameterBecomes_26 : decode b_WK_parameterBecomes 26 = .ok (.getfield 169, 3) := by decide +kernel
theorem d_WK_parameterBecomes_29 : decode b_WK_parameterBecomes 29 = .ok (.iload_n 1, 1) := by decide +kernel
theorem d_WK_parameterBecomes_30 : decode b_WK_parameterBecomes 30 = .ok (.dload_n 2, 1) := by decide +kernel
theorem d_WK_parameterBecomes_31 : decode b_WK_parameterBecomes 31 = .ok (.dastore, 1) := by decide +kernel
theorem d_WK_parameterBecomes_32 : decode b_WK_parameterBecomes 32 = .ok (.dload_n 2, 1) := by decide +kernel
theorem d_WK_parameterBecomes_33 : decode b_WK_parameterBecomes 33 = .ok (.dreturn, 1) := by decide +kernel
theorem d_WK_parameterBecomes_34 : decode b_WK_parameterBecomes 34 = .ok (.aload_n 0, 1) := by decide +kernel
theorem d_WK_parameterBecomes_35 : decode b_WK_parameterBecomes 35 = .ok (.invokevirtual 172, 3) := by decide +kernel
theorem d_WK_parameterBecomes_38 : decode b_WK_parameterBecomes 38 = .ok (.ifCond .ne 5, 3) := by decide +kernel
theorem d_WK_parameterBecomes_41 : decode b_WK_parameterBecomes 41 = .ok (.dconst 0, 1) := by decide +kernel
theorem d_WK_parameterBecomes_42 : decode b_WK_parameterBecomes 42 = .ok (.dreturn, 1) := by decide +kernel
theorem d_WK_parameterBecomes_43 : decode b_WK_parameterBecomes 43 = .ok (.aload_n 0, 1) := by decide +kernel
theorem d_WK_parameterBecomes_44 : decode b_WK_parameterBecomes 44 = .ok (.aload 4, 2) := by decide +kernel
theorem d_WK_parameterBecomes_46 : decode b_WK_parameterBecomes 46 = .ok (.getfield 175, 3) := by decide +kernel
theorem d_WK_parameterBecomes_49 : decode b_WK_parameterBecomes 49 = .ok (.iload_n 1, 1) := by decide +kernel
theorem d_WK_parameterBecomes_50 : decode b_WK_parameterBecomes 50 = .ok (.iaload, 1) := by decide +kernel
theorem d_WK_parameterBecomes_51 : decode b_WK_parameterBecomes 51 = .ok (.dload_n 2, 1) := by decide +kernel
theorem d_WK_parameterBecomes_52 : decode b_WK_parameterBecomes 52 = .ok (.aload 4, 2) := by decide +kernel
theorem d_WK_parameterBecomes_54 : decode b_WK_parameterBecomes 54 = .ok (.getfield 178, 3) := by decide +kernel
theorem d_WK_parameterBecomes_57 : decode b_WK_parameterBecomes 57 = .ok (.iload 5, 2) := by decide +kernel
theorem d_WK_parameterBecomes_59 : decode b_WK_parameterBecomes 59 = .ok (.invokevirtual 211, 3) := by decide +kernel
theorem d_WK_parameterBecomes_62 : decode b_WK_parameterBecomes 62 = .ok (.dstore 6, 2) := by decide +kernel
theorem d_WK_parameterBecomes_64 : decode b_WK_parameterBecomes 64 = .ok (.aload_n 0, 1) := by decide +kernel
theorem d_WK_parameterBecomes_65 : decode b_WK_parameterBecomes 65 = .ok (.dup, 1) := by decide +kernel
theorem d_WK_parameterBecomes_66 : decode b_WK_parameterBecomes 66 = .ok (.getfield 57, 3) := by decide +kernel
theorem d_WK_parameterBecomes_69 : decode b_WK_parameterBecomes 69 = .ok (.iconst 1, 1) := by decide +kernel
theorem d_WK_parameterBecomes_70 : decode b_WK_parameterBecomes 70 = .ok (.isub, 1) := by decide +kernel
theorem d_WK_parameterBecomes_71 : decode b_WK_parameterBecomes 71 = .ok (.putfield 57, 3) := by decide +kernel
theorem d_WK_parameterBecomes_74 : decode b_WK_parameterBecomes 74 = .ok (.dload 6, 2) := by decide +kernel
theorem d_WK_parameterBecomes_76 : decode b_WK_parameterBecomes 76 = .ok (.dreturn, 1) := by decide +kernel
theorem d_WK_sequence_0 : decode b_WK_sequence 0 = .ok (.aload_n 0, 1) := by decide +kernel
theorem d_WK_sequence_1 : decode b_WK_sequence 1 = .ok (.aload_n 0, 1) := by decide +kernel
theorem d_WK_sequence_2 : decode b_WK_sequence 2 = .ok (.getfield 30, 3) := by decide +kernel
theorem d_WK_sequence_5 : decode b_WK_sequence 5 = .ok (.getfield 70, 3) := by decide +kernel
theorem d_WK_sequence_8 : decode b_WK_sequence 8 = .ok (.iload_n 1, 1) := by decide +kernel
theorem d_WK_sequence_9 : decode b_WK_sequence 9 = .ok (.iaload, 1) := by decide +kernel
theorem d_WK_sequence_10 : decode b_WK_sequence 10 = .ok (.aload_n 2, 1) := by decide +kernel
theorem d_WK_sequence_11 : decode b_WK_sequence 11 = .ok (.iload_n 3, 1) := by decide +kernel
theorem d_WK_sequence_12 : decode b_WK_sequence 12 = .ok (.iconst 1, 1) := by decide +kernel
theorem d_WK_sequence_13 : decode b_WK_sequence 13 = .ok (.iadd, 1) := by decide +kernel
theorem d_WK_sequence_14 : decode b_WK_sequence 14 = .ok (.invokevirtual 53, 3) := by decide +kernel
theorem d_WK_sequence_17 : decode b_WK_sequence 17 = .ok (.pop2, 1) := by decide +kernel
theorem d_WK_sequence_18 : decode b_WK_sequence 18 = .ok (.aload_n 0, 1) := by decide +kernel
theorem d_WK_sequence_19 : decode b_WK_sequence 19 = .ok (.invokevirtual 124, 3) := by decide +kernel
theorem d_WK_sequence_22 : decode b_WK_sequence 22 = .ok (.ifCond .eq 7, 3) := by decide +kernel
theorem d_WK_sequence_25 : decode b_WK_sequence 25 = .ok (.dconst 0, 1) := by decide +kernel
theorem d_WK_sequence_26 : decode b_WK_sequence 26 = .ok (.goto 20, 3) := by decide +kernel
theorem d_WK_sequence_29 : decode b_WK_sequence 29 = .ok (.aload_n 0, 1) := by decide +kernel
theorem d_WK_sequence_30 : decode b_WK_sequence 30 = .ok (.aload_n 0, 1) := by decide +kernel
theorem d_WK_sequence_31 : decode b_WK_sequence 31 = .ok (.getfield 30, 3) := by decide +kernel
theorem d_WK_sequence_34 : decode b_WK_sequence 34 = .ok (.getfield 127, 3) := by decide +kernel
theorem d_WK_sequence_37 : decode b_WK_sequence 37 = .ok (.iload_n 1, 1) := by decide +kernel
theorem d_WK_sequence_38 : decode b_WK_sequence 38 = .ok (.iaload, 1) := by decide +kernel
theorem d_WK_sequence_39 : decode b_WK_sequence 39 = .ok (.aload_n 2, 1) := by decide +kernel
theorem d_WK_sequence_40 : decode b_WK_sequence 40 = .ok (.iload_n 3, 1) := by decide +kernel
theorem d_WK_sequence_41 : decode b_WK_sequence 41 = .ok (.iconst 1, 1) := by decide +kernel
theorem d_WK_sequence_42 : decode b_WK_sequence 42 = .ok (.iadd, 1) := by decide +kernel
theorem d_WK_sequence_43 : decode b_WK_sequence 43 = .ok (.invokevirtual 53, 3) := by decide +kernel
theorem d_WK_sequence_46 : decode b_WK_sequence 46 = .ok (.dreturn, 1) := by decide +kernel
theorem d_WK_loop_0 : decode b_WK_loop 0 = .ok (.iconst 0, 1) := by decide +kernel
theorem d_WK_loop_1 : decode b_WK_loop 1 = .ok (.istore 4, 2) := by decide +kernel
theorem d_WK_loop_3 : decode b_WK_loop 3 = .ok (.iload 4, 2) := by decide +kernel
theorem d_WK_loop_5 : decode b_WK_loop 5 = .ok (.sipush 300, 3) := by decide +kernel
theorem d_WK_loop_8 : decode b_WK_loop 8 = .ok (.if_icmp .gt 71, 3) := by decide +kernel
theorem d_WK_loop_11 : decode b_WK_loop 11 = .ok (.aload_n 0, 1) := by decide +kernel
theorem d_WK_loop_12 : decode b_WK_loop 12 = .ok (.aload_n 0, 1) := by decide +kernel
theorem d_WK_loop_13 : decode b_WK_loop 13 = .ok (.getfield 30, 3) := by decide +kernel
theorem d_WK_loop_16 : decode b_WK_loop 16 = .ok (.getfield 70, 3) := by decide +kernel
theorem d_WK_loop_19 : decode b_WK_loop 19 = .ok (.iload_n 1, 1) := by decide +kernel
theorem d_WK_loop_20 : decode b_WK_loop 20 = .ok (.iaload, 1) := by decide +kernel
theorem d_WK_loop_21 : decode b_WK_loop 21 = .ok (.aload_n 2, 1) := by decide +kernel
theorem d_WK_loop_22 : decode b_WK_loop 22 = .ok (.iload_n 3, 1) := by decide +kernel
theorem d_WK_loop_23 : decode b_WK_loop 23 = .ok (.iconst 1, 1) := by decide +kernel
theorem d_WK_loop_24 : decode b_WK_loop 24 = .ok (.iadd, 1) := by decide +kernel
theorem d_WK_loop_25 : decode b_WK_loop 25 = .ok (.invokevirtual 53, 3) := by decide +kernel
theorem d_WK_loop_28 : decode b_WK_loop 28 = .ok (.dstore 5, 2) := by decide +kernel
theorem d_WK_loop_30 : decode b_WK_loop 30 = .ok (.aload_n 0, 1) := by decide +kernel
theorem d_WK_loop_31 : decode b_WK_loop 31 = .ok (.invokevirtual 124, 3) := by decide +kernel
theorem d_WK_loop_34 : decode b_WK_loop 34 = .ok (.ifCond .ne 10, 3) := by decide +kernel
theorem d_WK_loop_37 : decode b_WK_loop 37 = .ok (.dload 5, 2) := by decide +kernel
theorem d_WK_loop_39 : decode b_WK_loop 39 = .ok (.dconst 0, 1) := by decide +kernel
theorem d_WK_loop_40 : decode b_WK_loop 40 = .ok (.dcmp .l, 1) := by decide +kernel
theorem d_WK_loop_41 : decode b_WK_loop 41 = .ok (.ifCond .ne 5, 3) := by decide +kernel
theorem d_WK_loop_44 : decode b_WK_loop 44 = .ok (.dconst 0, 1) := by decide +kernel
theorem d_WK_loop_45 : decode b_WK_loop 45 = .ok (.dreturn, 1) := by decide +kernel
theorem d_WK_loop_46 : decode b_WK_loop 46 = .ok (.aload_n 0, 1) := by decide +kernel
theorem d_WK_loop_47 : decode b_WK_loop 47 = .ok (.aload_n 0, 1) := by decide +kernel
theorem d_WK_loop_48 : decode b_WK_loop 48 = .ok (.getfield 30, 3) := by decide +kernel
theorem d_WK_loop_51 : decode b_WK_loop 51 = .ok (.getfield 127, 3) := by decide +kernel
theorem d_WK_loop_54 : decode b_WK_loop 54 = .ok (.iload_n 1, 1) := by decide +kernel
theorem d_WK_loop_55 : decode b_WK_loop 55 = .ok (.iaload, 1) := by decide +kernel
theorem d_WK_loop_56 : decode b_WK_loop 56 = .ok (.aload_n 2, 1) := by decide +kernel
theorem d_WK_loop_57 : decode b_WK_loop 57 = .ok (.iload_n 3, 1) := by decide +kernel
theorem d_WK_loop_58 : decode b_WK_loop 58 = .ok (.iconst 1, 1) := by decide +kernel
theorem d_WK_loop_59 : decode b_WK_loop 59 = .ok (.iadd, 1) := by decide +kernel
theorem d_WK_loop_60 : decode b_WK_loop 60 = .ok (.invokevirtual 53, 3) := by decide +kernel
theorem d_WK_loop_63 : decode b_WK_loop 63 = .ok (.pop2, 1) := by decide +kernel
theorem d_WK_loop_64 : decode b_WK_loop 64 = .ok (.aload_n 0, 1) := by decide +kernel
theorem d_WK_loop_65 : decode b_WK_loop 65 = .ok (.invokevirtual 124, 3) := by decide +kernel
theorem d_WK_loop_68 : decode b_WK_loop 68 = .ok (.ifCond .eq 5, 3) := by decide +kernel
theorem d_WK_loop_71 : decode b_WK_loop 71 = .ok (.dconst 0, 1) := by decide +kernel
theorem d_WK_loop_72 : decode b_WK_loop 72 = .ok (.dreturn, 1) := by decide +kernel
theorem d_WK_loop_73 : decode b_WK_loop 73 = .ok (.iinc 4 1, 3) := by decide +kernel
theorem d_WK_loop_76 : decode b_WK_loop 76 = .ok (.goto (-73), 3) := by decide +kernel
theorem d_WK_loop_79 : decode b_WK_loop 79 = .ok (.dconst 0, 1) := by decide +kernel
theorem d_WK_loop_80 : decode b_WK_loop 80 = .ok (.dreturn, 1) := by decide +kernel
theorem d_WK_jump_0 : decode b_WK_jump 0 = .ok (.aload_n 0, 1) := by decide +kernel
theorem d_WK_jump_1 : decode b_WK_jump 1 = .ok (.getfield 22, 3) := by decide +kernel
theorem d_WK_jump_4 : decode b_WK_jump 4 = .ok (.iload_n 1, 1) := by decide +kernel
theorem d_WK_jump_5 : decode b_WK_jump 5 = .ok (.iaload, 1) := by decide +kernel
theorem d_WK_jump_6 : decode b_WK_jump 6 = .ok (.ifCond .ne 9, 3) := by decide +kernel
theorem d_WK_jump_9 : decode b_WK_jump 9 = .ok (.aload_n 0, 1) := by decide +kernel
theorem d_WK_jump_10 : decode b_WK_jump 10 = .ok (.iconst 5, 1) := by decide +kernel
theorem d_WK_jump_11 : decode b_WK_jump 11 = .ok (.invokevirtual 99, 3) := by decide +kernel
theorem d_WK_jump_14 : decode b_WK_jump 14 = .ok (.dreturn, 1) := by decide +kernel
theorem d_WK_jump_15 : decode b_WK_jump 15 = .ok (.aload_n 0, 1) := by decide +kernel
theorem d_WK_jump_16 : decode b_WK_jump 16 = .ok (.iload_n 1, 1) := by decide +kernel
theorem d_WK_jump_17 : decode b_WK_jump 17 = .ok (.putfield 26, 3) := by decide +kernel
theorem d_WK_jump_20 : decode b_WK_jump 20 = .ok (.dconst 0, 1) := by decide +kernel
theorem d_WK_jump_21 : decode b_WK_jump 21 = .ok (.dreturn, 1) := by decide +kernel
theorem d_WK_label_0 : decode b_WK_label 0 = .ok (.aload_n 0, 1) := by decide +kernel
theorem d_WK_label_1 : decode b_WK_label 1 = .ok (.getfield 30, 3) := by decide +kernel
theorem d_WK_label_4 : decode b_WK_label 4 = .ok (.getfield 70, 3) := by decide +kernel
theorem d_WK_label_7 : decode b_WK_label 7 = .ok (.iload_n 1, 1) := by decide +kernel
theorem d_WK_label_8 : decode b_WK_label 8 = .ok (.iaload, 1) := by decide +kernel
theorem d_WK_label_9 : decode b_WK_label 9 = .ok (.istore 4, 2) := by decide +kernel
theorem d_WK_label_11 : decode b_WK_label 11 = .ok (.aload_n 0, 1) := by decide +kernel
theorem d_WK_label_12 : decode b_WK_label 12 = .ok (.getfield 22, 3) := by decide +kernel
theorem d_WK_label_15 : decode b_WK_label 15 = .ok (.iload 4, 2) := by decide +kernel
theorem d_WK_label_17 : decode b_WK_label 17 = .ok (.dup2, 1) := by decide +kernel
theorem d_WK_label_18 : decode b_WK_label 18 = .ok (.iaload, 1) := by decide +kernel
theorem d_WK_label_19 : decode b_WK_label 19 = .ok (.iconst 1, 1) := by decide +kernel
theorem d_WK_label_20 : decode b_WK_label 20 = .ok (.iadd, 1) := by decide +kernel
theorem d_WK_label_21 : decode b_WK_label 21 = .ok (.iastore, 1) := by decide +kernel
theorem d_WK_label_22 : decode b_WK_label 22 = .ok (.aload_n 0, 1) := by decide +kernel
theorem d_WK_label_23 : decode b_WK_label 23 = .ok (.aload_n 0, 1) := by decide +kernel
theorem d_WK_label_24 : decode b_WK_label 24 = .ok (.getfield 30, 3) := by decide +kernel
theorem d_WK_label_27 : decode b_WK_label 27 = .ok (.getfield 127, 3) := by decide +kernel
theorem d_WK_label_30 : decode b_WK_label 30 = .ok (.iload_n 1, 1) := by decide +kernel
theorem d_WK_label_31 : decode b_WK_label 31 = .ok (.iaload, 1) := by decide +kernel
theorem d_WK_label_32 : decode b_WK_label 32 = .ok (.aload_n 2, 1) := by decide +kernel
theorem d_WK_label_33 : decode b_WK_label 33 = .ok (.iload_n 3, 1) := by decide +kernel
theorem d_WK_label_34 : decode b_WK_label 34 = .ok (.iconst 1, 1) := by decide +kernel
theorem d_WK_label_35 : decode b_WK_label 35 = .ok (.iadd, 1) := by decide +kernel
theorem d_WK_label_36 : decode b_WK_label 36 = .ok (.invokevirtual 53, 3) := by decide +kernel
theorem d_WK_label_39 : decode b_WK_label 39 = .ok (.dstore 5, 2) := by decide +kernel
theorem d_WK_label_41 : decode b_WK_label 41 = .ok (.aload_n 0, 1) := by decide +kernel
theorem d_WK_label_42 : decode b_WK_label 42 = .ok (.getfield 22, 3) := by decide +kernel
theorem d_WK_label_45 : decode b_WK_label 45 = .ok (.iload 4, 2) := by decide +kernel
theorem d_WK_label_47 : decode b_WK_label 47 = .ok (.dup2, 1) := by decide +kernel
theorem d_WK_label_48 : decode b_WK_label 48 = .ok (.iaload, 1) := by decide +kernel
theorem d_WK_label_49 : decode b_WK_label 49 = .ok (.iconst 1, 1) := by decide +kernel
theorem d_WK_label_50 : decode b_WK_label 50 = .ok (.isub, 1) := by decide +kernel
theorem d_WK_label_51 : decode b_WK_label 51 = .ok (.iastore, 1) := by decide +kernel
theorem d_WK_label_52 : decode b_WK_label 52 = .ok (.aload_n 0, 1) := by decide +kernel
theorem d_WK_label_53 : decode b_WK_label 53 = .ok (.getfield 26, 3) := by decide +kernel
theorem d_WK_label_56 : decode b_WK_label 56 = .ok (.iload 4, 2) := by decide +kernel
theorem d_WK_label_58 : decode b_WK_label 58 = .ok (.if_icmp .eq 6, 3) := by decide +kernel
theorem d_WK_label_61 : decode b_WK_label 61 = .ok (.dload 5, 2) := by decide +kernel
theorem d_WK_label_63 : decode b_WK_label 63 = .ok (.dreturn, 1) := by decide +kernel
theorem d_WK_label_64 : decode b_WK_label 64 = .ok (.aload_n 0, 1) := by decide +kernel
theorem d_WK_label_65 : decode b_WK_label 65 = .ok (.iconst (-1), 1) := by decide +kernel
theorem d_WK_label_66 : decode b_WK_label 66 = .ok (.putfield 26, 3) := by decide +kernel
theorem d_WK_label_69 : decode b_WK_label 69 = .ok (.aload_n 0, 1) := by decide +kernel
theorem d_WK_label_70 : decode b_WK_label 70 = .ok (.dup, 1) := by decide +kernel
theorem d_WK_label_71 : decode b_WK_label 71 = .ok (.getfield 50, 3) := by decide +kernel
theorem d_WK_label_74 : decode b_WK_label 74 = .ok (.iconst 1, 1) := by decide +kernel
theorem d_WK_label_75 : decode b_WK_label 75 = .ok (.iadd, 1) := by decide +kernel
theorem d_WK_label_76 : decode b_WK_label 76 = .ok (.putfield 50, 3) := by decide +kernel
theorem d_WK_label_79 : decode b_WK_label 79 = .ok (.dconst 0, 1) := by decide +kernel
theorem d_WK_label_80 : decode b_WK_label 80 = .ok (.dreturn, 1) := by decide +kernel
theorem d_MO_init_0 : decode b_MO_init 0 = .ok (.aload_n 0, 1) := by decide +kernel
theorem d_MO_init_1 : decode b_MO_init 1 = .ok (.invokespecial 1, 3) := by decide +kernel
theorem d_MO_init_4 : decode b_MO_init 4 = .ok (.aload_n 0, 1) := by decide +kernel
theorem d_MO_init_5 : decode b_MO_init 5 = .ok (.bipush 48, 2) := by decide +kernel
theorem d_MO_init_7 : decode b_MO_init 7 = .ok (.newarray .int, 2) := by decide +kernel
theorem d_MO_init_9 : decode b_MO_init 9 = .ok (.putfield 7, 3) := by decide +kernel
theorem d_MO_init_12 : decode b_MO_init 12 = .ok (.aload_n 0, 1) := by decide +kernel
theorem d_MO_init_13 : decode b_MO_init 13 = .ok (.bipush 48, 2) := by decide +kernel
theorem d_MO_init_15 : decode b_MO_init 15 = .ok (.newarray .int, 2) := by decide +kernel
theorem d_MO_init_17 : decode b_MO_init 17 = .ok (.putfield 13, 3) := by decide +kernel
theorem d_MO_init_20 : decode b_MO_init 20 = .ok (.aload_n 0, 1) := by decide +kernel
theorem d_MO_init_21 : decode b_MO_init 21 = .ok (.bipush 48, 2) := by decide +kernel
theorem d_MO_init_23 : decode b_MO_init 23 = .ok (.newarray .int, 2) := by decide +kernel
theorem d_MO_init_25 : decode b_MO_init 25 = .ok (.putfield 16, 3) := by decide +kernel
theorem d_MO_init_28 : decode b_MO_init 28 = .ok (.aload_n 0, 1) := by decide +kernel
theorem d_MO_init_29 : decode b_MO_init 29 = .ok (.bipush 48, 2) := by decide +kernel
theorem d_MO_init_31 : decode b_MO_init 31 = .ok (.newarray .int, 2) := by decide +kernel
theorem d_MO_init_33 : decode b_MO_init 33 = .ok (.putfield 19, 3) := by decide +kernel
theorem d_MO_init_36 : decode b_MO_init 36 = .ok (.aload_n 0, 1) := by decide +kernel
theorem d_MO_init_37 : decode b_MO_init 37 = .ok (.iconst 4, 1) := by decide +kernel
theorem d_MO_init_38 : decode b_MO_init 38 = .ok (.newarray .int, 2) := by decide +kernel
theorem d_MO_init_40 : decode b_MO_init 40 = .ok (.putfield 22, 3) := by decide +kernel
theorem d_MO_init_43 : decode b_MO_init 43 = .ok (.aload_n 0, 1) := by decide +kernel
theorem d_MO_init_44 : decode b_MO_init 44 = .ok (.iconst 4, 1) := by decide +kernel
theorem d_MO_init_45 : decode b_MO_init 45 = .ok (.newarray .int, 2) := by decide +kernel
theorem d_MO_init_47 : decode b_MO_init 47 = .ok (.putfield 25, 3) := by decide +kernel
theorem d_MO_init_50 : decode b_MO_init 50 = .ok (.aload_n 0, 1) := by decide +kernel
theorem d_MO_init_51 : decode b_MO_init 51 = .ok (.iconst 4, 1) := by decide +kernel
theorem d_MO_init_52 : decode b_MO_init 52 = .ok (.newarray .int, 2) := by decide +kernel
theorem d_MO_init_54 : decode b_MO_init 54 = .ok (.putfield 28, 3) := by decide +kernel
theorem d_MO_init_57 : decode b_MO_init 57 = .ok (.aload_n 0, 1) := by decide +kernel
theorem d_MO_init_58 : decode b_MO_init 58 = .ok (.bipush 8, 2) := by decide +kernel
theorem d_MO_init_60 : decode b_MO_init 60 = .ok (.newarray .double, 2) := by decide +kernel
theorem d_MO_init_62 : decode b_MO_init 62 = .ok (.putfield 31, 3) := by decide +kernel
theorem d_MO_init_65 : decode b_MO_init 65 = .ok (.aload_n 0, 1) := by decide +kernel
theorem d_MO_init_66 : decode b_MO_init 66 = .ok (.bipush 25, 2) := by decide +kernel
theorem d_MO_init_68 : decode b_MO_init 68 = .ok (.newarray .double, 2) := by decide +kernel
theorem d_MO_init_70 : decode b_MO_init 70 = .ok (.putfield 35, 3) := by decide +kernel
theorem d_MO_init_73 : decode b_MO_init 73 = .ok (.aload_n 0, 1) := by decide +kernel
theorem d_MO_init_74 : decode b_MO_init 74 = .ok (.iconst 1, 1) := by decide +kernel
theorem d_MO_init_75 : decode b_MO_init 75 = .ok (.putfield 38, 3) := by decide +kernel
theorem d_MO_init_78 : decode b_MO_init 78 = .ok (.aload_n 0, 1) := by decide +kernel
theorem d_MO_init_79 : decode b_MO_init 79 = .ok (.iconst 1, 1) := by decide +kernel
theorem d_MO_init_80 : decode b_MO_init 80 = .ok (.putfield 42, 3) := by decide +kernel
theorem d_MO_init_83 : decode b_MO_init 83 = .ok (.aload_n 0, 1) := by decide +kernel
theorem d_MO_init_84 : decode b_MO_init 84 = .ok (.iconst 1, 1) := by decide +kernel
theorem d_MO_init_85 : decode b_MO_init 85 = .ok (.putfield 45, 3) := by decide +kernel
theorem d_MO_init_88 : decode b_MO_init 88 = .ok (.aload_n 0, 1) := by decide +kernel
theorem d_MO_init_89 : decode b_MO_init 89 = .ok (.iconst 1, 1) := by decide +kernel
theorem d_MO_init_90 : decode b_MO_init 90 = .ok (.putfield 48, 3) := by decide +kernel
theorem d_MO_init_93 : decode b_MO_init 93 = .ok (.aload_n 0, 1) := by decide +kernel
theorem d_MO_init_94 : decode b_MO_init 94 = .ok (.bipush 20, 2) := by decide +kernel
theorem d_MO_init_96 : decode b_MO_init 96 = .ok (.newarray .int, 2) := by decide +kernel
theorem d_MO_init_98 : decode b_MO_init 98 = .ok (.putfield 51, 3) := by decide +kernel
theorem d_MO_init_101 : decode b_MO_init 101 = .ok (.aload_n 0, 1) := by decide +kernel
theorem d_MO_init_102 : decode b_MO_init 102 = .ok (.bipush 20, 2) := by decide +kernel
theorem d_MO_init_104 : decode b_MO_init 104 = .ok (.newarray .int, 2) := by decide +kernel
theorem d_MO_init_106 : decode b_MO_init 106 = .ok (.putfield 54, 3) := by decide +kernel
theorem d_MO_init_109 : decode b_MO_init 109 = .ok (.aload_n 0, 1) := by decide +kernel
theorem d_MO_init_110 : decode b_MO_init 110 = .ok (.bipush 10, 2) := by decide +kernel
theorem d_MO_init_112 : decode b_MO_init 112 = .ok (.newarray .int, 2) := by decide +kernel
theorem d_MO_init_114 : decode b_MO_init 114 = .ok (.putfield 57, 3) := by decide +kernel
theorem d_MO_init_117 : decode b_MO_init 117 = .ok (.aload_n 0, 1) := by decide +kernel
theorem d_MO_init_118 : decode b_MO_init 118 = .ok (.bipush 10, 2) := by decide +kernel
theorem d_MO_init_120 : decode b_MO_init 120 = .ok (.newarray .int, 2) := by decide +kernel
theorem d_MO_init_122 : decode b_MO_init 122 = .ok (.putfield 60, 3) := by decide +kernel
theorem d_MO_init_125 : decode b_MO_init 125 = .ok (.aload_n 0, 1) := by decide +kernel
theorem d_MO_init_126 : decode b_MO_init 126 = .ok (.bipush 20, 2) := by decide +kernel
theorem d_MO_init_128 : decode b_MO_init 128 = .ok (.newarray .double, 2) := by decide +kernel
theorem d_MO_init_130 : decode b_MO_init 130 = .ok (.putfield 63, 3) := by decide +kernel
theorem d_MO_init_133 : decode b_MO_init 133 = .ok (.aload_n 0, 1) := by decide +kernel
theorem d_MO_init_134 : decode b_MO_init 134 = .ok (.bipush 20, 2) := by decide +kernel
theorem d_MO_init_136 : decode b_MO_init 136 = .ok (.newarray .double, 2) := by decide +kernel
theorem d_MO_init_138 : decode b_MO_init 138 = .ok (.putfield 66, 3) := by decide +kernel
theorem d_MO_init_141 : decode b_MO_init 141 = .ok (.aload_n 0, 1) := by decide +kernel
theorem d_MO_init_142 : decode b_MO_init 142 = .ok (.sipush 310, 3) := by decide +kernel
theorem d_MO_init_145 : decode b_MO_init 145 = .ok (.newarray .int, 2) := by decide +kernel
theorem d_MO_init_147 : decode b_MO_init 147 = .ok (.putfield 69, 3) := by decide +kernel
theorem d_MO_init_150 : decode b_MO_init 150 = .ok (.aload_n 0, 1) := by decide +kernel
theorem d_MO_init_151 : decode b_MO_init 151 = .ok (.sipush 310, 3) := by decide +kernel
theorem d_MO_init_154 : decode b_MO_init 154 = .ok (.newarray .int, 2) := by decide +kernel
theorem d_MO_init_156 : decode b_MO_init 156 = .ok (.putfield 72, 3) := by decide +kernel
theorem d_MO_init_159 : decode b_MO_init 159 = .ok (.aload_n 0, 1) := by decide +kernel
theorem d_MO_init_160 : decode b_MO_init 160 = .ok (.sipush 310, 3) := by decide +kernel
theorem d_MO_init_163 : decode b_MO_init 163 = .ok (.newarray .int, 2) := by decide +kernel
theorem d_MO_init_165 : decode b_MO_init 165 = .ok (.putfield 75, 3) := by decide +kernel
theorem d_MO_init_168 : decode b_MO_init 168 = .ok (.aload_n 0, 1) := by decide +kernel
theorem d_MO_init_169 : decode b_MO_init 169 = .ok (.sipush 310, 3) := by decide +kernel
theorem d_MO_init_172 : decode b_MO_init 172 = .ok (.newarray .int, 2) := by decide +kernel
theorem d_MO_init_174 : decode b_MO_init 174 = .ok (.putfield 78, 3) := by decide +kernel
theorem d_MO_init_177 : decode b_MO_init 177 = .ok (.aload_n 0, 1) := by decide +kernel
theorem d_MO_init_178 : decode b_MO_init 178 = .ok (.sipush 310, 3) := by decide +kernel
theorem d_MO_init_181 : decode b_MO_init 181 = .ok (.newarray .int, 2) := by decide +kernel
theorem d_MO_init_183 : decode b_MO_init 183 = .ok (.putfield 81, 3) := by decide +kernel
theorem d_MO_init_186 : decode b_MO_init 186 = .ok (.aload_n 0, 1) := by decide +kernel
theorem d_MO_init_187 : decode b_MO_init 187 = .ok (.sipush 310, 3) := by decide +kernel
theorem d_MO_init_190 : decode b_MO_init 190 = .ok (.newarray .int, 2) := by decide +kernel
theorem d_MO_init_192 : decode b_MO_init 192 = .ok (.putfield 84, 3) := by decide +kernel
theorem d_MO_init_195 : decode b_MO_init 195 = .ok (.aload_n 0, 1) := by decide +kernel
theorem d_MO_init_196 : decode b_MO_init 196 = .ok (.sipush 310, 3) := by decide +kernel
theorem d_MO_init_199 : decode b_MO_init 199 = .ok (.newarray .int, 2) := by decide +kernel
theorem d_MO_init_201 : decode b_MO_init 201 = .ok (.putfield 87, 3) := by decide +kernel
theorem d_MO_init_204 : decode b_MO_init 204 = .ok (.aload_n 0, 1) := by decide +kernel
theorem d_MO_init_205 : decode b_MO_init 205 = .ok (.sipush 310, 3) := by decide +kernel
theorem d_MO_init_208 : decode b_MO_init 208 = .ok (.newarray .double, 2) := by decide +kernel
theorem d_MO_init_210 : decode b_MO_init 210 = .ok (.putfield 90, 3) := by decide +kernel
theorem d_MO_init_213 : decode b_MO_init 213 = .ok (.aload_n 0, 1) := by decide +kernel
theorem d_MO_init_214 : decode b_MO_init 214 = .ok (.sipush 310, 3) := by decide +kernel
theorem d_MO_init_217 : decode b_MO_init 217 = .ok (.newarray .double, 2) := by decide +kernel
theorem d_MO_init_219 : decode b_MO_init 219 = .ok (.putfield 93, 3) := by decide +kernel
theorem d_MO_init_222 : decode b_MO_init 222 = .ok (.iconst 0, 1) := by decide +kernel
theorem d_MO_init_223 : decode b_MO_init 223 = .ok (.istore_n 1, 1) := by decide +kernel
theorem d_MO_init_224 : decode b_MO_init 224 = .ok (.iload_n 1, 1) := by decide +kernel
theorem d_MO_init_225 : decode b_MO_init 225 = .ok (.iconst 4, 1) := by decide +kernel
theorem d_MO_init_226 : decode b_MO_init 226 = .ok (.if_icmp .ge 16, 3) := by decide +kernel
theorem d_MO_init_229 : decode b_MO_init 229 = .ok (.aload_n 0, 1) := by decide +kernel
theorem d_MO_init_230 : decode b_MO_init 230 = .ok (.getfield 22, 3) := by decide +kernel
theorem d_MO_init_233 : decode b_MO_init 233 = .ok (.iload_n 1, 1) := by decide +kernel
theorem d_MO_init_234 : decode b_MO_init 234 = .ok (.iconst (-1), 1) := by decide +kernel
theorem d_MO_init_235 : decode b_MO_init 235 = .ok (.iastore, 1) := by decide +kernel
theorem d_MO_init_236 : decode b_MO_init 236 = .ok (.iinc 1 1, 3) := by decide +kernel
theorem d_MO_init_239 : decode b_MO_init 239 = .ok (.goto (-15), 3) := by decide +kernel
theorem d_MO_init_242 : decode b_MO_init 242 = .ok (.return_, 1) := by decide +kernel
theorem d_MO_thrown_0 : decode b_MO_thrown 0 = .ok (.aload_n 0, 1) := by decide +kernel
theorem d_MO_thrown_1 : decode b_MO_thrown 1 = .ok (.getfield 96, 3) := by decide +kernel
theorem d_MO_thrown_4 : decode b_MO_thrown 4 = .ok (.ireturn, 1) := by decide +kernel
theorem d_MO_within_0 : decode b_MO_within 0 = .ok (.iload_n 0, 1) := by decide +kernel
theorem d_MO_within_1 : decode b_MO_within 1 = .ok (.iload_n 1, 1) := by decide +kernel
theorem d_MO_within_2 : decode b_MO_within 2 = .ok (.if_icmp .lt 12, 3) := by decide +kernel
theorem d_MO_within_5 : decode b_MO_within 5 = .ok (.iload_n 0, 1) := by decide +kernel
theorem d_MO_within_6 : decode b_MO_within 6 = .ok (.iload_n 2, 1) := by decide +kernel
theorem d_MO_within_7 : decode b_MO_within 7 = .ok (.if_icmp .gt 7, 3) := by decide +kernel
theorem d_MO_within_10 : decode b_MO_within 10 = .ok (.iconst 1, 1) := by decide +kernel
theorem d_MO_within_11 : decode b_MO_within 11 = .ok (.goto 4, 3) := by decide +kernel
theorem d_MO_within_14 : decode b_MO_within 14 = .ok (.iconst 0, 1) := by decide +kernel
theorem d_MO_within_15 : decode b_MO_within 15 = .ok (.ireturn, 1) := by decide +kernel
theorem d_MO_fail_0 : decode b_MO_fail 0 = .ok (.aload_n 0, 1) := by decide +kernel
theorem d_MO_fail_1 : decode b_MO_fail 1 = .ok (.iload_n 1, 1) := by decide +kernel
theorem d_MO_fail_2 : decode b_MO_fail 2 = .ok (.putfield 96, 3) := by decide +kernel
theorem d_MO_fail_5 : decode b_MO_fail 5 = .ok (.iconst 0, 1) := by decide +kernel
theorem d_MO_fail_6 : decode b_MO_fail 6 = .ok (.ireturn, 1) := by decide +kernel
theorem d_MO_round_0 : decode b_MO_round 0 = .ok (.dload_n 0, 1) := by decide +kernel
theorem d_MO_round_1 : decode b_MO_round 1 = .ok (.ldc2_w 99, 3) := by decide +kernel
theorem d_MO_round_4 : decode b_MO_round 4 = .ok (.dadd, 1) := by decide +kernel
theorem d_MO_round_5 : decode b_MO_round 5 = .ok (.dstore_n 2, 1) := by decide +kernel
theorem d_MO_round_6 : decode b_MO_round 6 = .ok (.dload_n 2, 1) := by decide +kernel
theorem d_MO_round_7 : decode b_MO_round 7 = .ok (.d2l, 1) := by decide +kernel
theorem d_MO_round_8 : decode b_MO_round 8 = .ok (.l2d, 1) := by decide +kernel
theorem d_MO_round_9 : decode b_MO_round 9 = .ok (.dstore 4, 2) := by decide +kernel
theorem d_MO_round_11 : decode b_MO_round 11 = .ok (.dload 4, 2) := by decide +kernel
theorem d_MO_round_13 : decode b_MO_round 13 = .ok (.dload_n 2, 1) := by decide +kernel
theorem d_MO_round_14 : decode b_MO_round 14 = .ok (.dcmp .l, 1) := by decide +kernel
theorem d_MO_round_15 : decode b_MO_round 15 = .ok (.ifCond .le 10, 3) := by decide +kernel
theorem d_MO_round_18 : decode b_MO_round 18 = .ok (.dload 4, 2) := by decide +kernel
theorem d_MO_round_20 : decode b_MO_round 20 = .ok (.dconst 1, 1) := by decide +kernel
theorem d_MO_round_21 : decode b_MO_round 21 = .ok (.dsub, 1) := by decide +kernel
theorem d_MO_round_22 : decode b_MO_round 22 = .ok (.goto 5, 3) := by decide +kernel
theorem d_MO_round_25 : decode b_MO_round 25 = .ok (.dload 4, 2) := by decide +kernel
theorem d_MO_round_27 : decode b_MO_round 27 = .ok (.dreturn, 1) := by decide +kernel
theorem d_MO_isGood_0 : decode b_MO_isGood 0 = .ok (.dload_n 0, 1) := by decide +kernel
theorem d_MO_isGood_1 : decode b_MO_isGood 1 = .ok (.ldc2_w 101, 3) := by decide +kernel
theorem d_MO_isGood_4 : decode b_MO_isGood 4 = .ok (.dcmp .g, 1) := by decide +kernel
theorem d_MO_isGood_5 : decode b_MO_isGood 5 = .ok (.ifCond .gt 15, 3) := by decide +kernel
theorem d_MO_isGood_8 : decode b_MO_isGood 8 = .ok (.dload_n 0, 1) := by decide +kernel
theorem d_MO_isGood_9 : decode b_MO_isGood 9 = .ok (.ldc2_w 103, 3) := by decide +kernel
theorem d_MO_isGood_12 : decode b_MO_isGood 12 = .ok (.dcmp .l, 1) := by decide +kernel
theorem d_MO_isGood_13 : decode b_MO_isGood 13 = .ok (.ifCond .lt 7, 3) := by decide +kernel
theorem d_MO_isGood_16 : decode b_MO_isGood 16 = .ok (.iconst 1, 1) := by decide +kernel
theorem d_MO_isGood_17 : decode b_MO_isGood 17 = .ok (.goto 4, 3) := by decide +kernel
theorem d_MO_isGood_20 : decode b_MO_isGood 20 = .ok (.iconst 0, 1) := by decide +kernel
theorem d_MO_isGood_21 : decode b_MO_isGood 21 = .ok (.ireturn, 1) := by decide +kernel
theorem d_MO_isNode_0 : decode b_MO_isNode 0 = .ok (.iload_n 1, 1) := by decide +kernel
theorem d_MO_isNode_1 : decode b_MO_isNode 1 = .ok (.iconst 0, 1) := by decide +kernel
theorem d_MO_isNode_2 : decode b_MO_isNode 2 = .ok (.aload_n 0, 1) := by decide +kernel
theorem d_MO_isNode_3 : decode b_MO_isNode 3 = .ok (.getfield 105, 3) := by decide +kernel
theorem d_MO_isNode_6 : decode b_MO_isNode 6 = .ok (.iconst 1, 1) := by decide +kernel
theorem d_MO_isNode_7 : decode b_MO_isNode 7 = .ok (.isub, 1) := by decide +kernel
theorem d_MO_isNode_8 : decode b_MO_isNode 8 = .ok (.invokestatic 108, 3) := by decide +kernel
theorem d_MO_isNode_11 : decode b_MO_isNode 11 = .ok (.ireturn, 1) := by decide +kernel
theorem d_MO_fits_0 : decode b_MO_fits 0 = .ok (.iload_n 1, 1) := by decide +kernel
theorem d_MO_fits_1 : decode b_MO_fits 1 = .ok (.tableswitch 208 0 17 #[87, 89, 208, 208, 208, 208, 208, 208, 208, 177, 97, 97, 134, 208, 208, 208, 104, 111], 87) := by decide +kernel
theorem d_MO_fits_88 : decode b_MO_fits 88 = .ok (.iconst 1, 1) := by decide +kernel
theorem d_MO_fits_89 : decode b_MO_fits 89 = .ok (.ireturn, 1) := by decide +kernel
theorem d_MO_fits_90 : decode b_MO_fits 90 = .ok (.iload_n 2, 1) := by decide +kernel
theorem d_MO_fits_91 : decode b_MO_fits 91 = .ok (.iconst 0, 1) := by decide +kernel
theorem d_MO_fits_92 : decode b_MO_fits 92 = .ok (.bipush 7, 2) := by decide +kernel
theorem d_MO_fits_94 : decode b_MO_fits 94 = .ok (.invokestatic 108, 3) := by decide +kernel
theorem d_MO_fits_97 : decode b_MO_fits 97 = .ok (.ireturn, 1) := by decide +kernel
theorem d_MO_fits_98 : decode b_MO_fits 98 = .ok (.iload_n 2, 1) := by decide +kernel
theorem d_MO_fits_99 : decode b_MO_fits 99 = .ok (.iconst 0, 1) := by decide +kernel
theorem d_MO_fits_100 : decode b_MO_fits 100 = .ok (.iconst 1, 1) := by decide +kernel
theorem d_MO_fits_101 : decode b_MO_fits 101 = .ok (.invokestatic 108, 3) := by decide +kernel
theorem d_MO_fits_104 : decode b_MO_fits 104 = .ok (.ireturn, 1) := by decide +kernel
theorem d_MO_fits_105 : decode b_MO_fits 105 = .ok (.iload_n 2, 1) := by decide +kernel
theorem d_MO_fits_106 : decode b_MO_fits 106 = .ok (.iconst 0, 1) := by decide +kernel
theorem d_MO_fits_107 : decode b_MO_fits 107 = .ok (.iconst 3, 1) := by decide +kernel
theorem d_MO_fits_108 : decode b_MO_fits 108 = .ok (.invokestatic 108, 3) := by decide +kernel
theorem d_MO_fits_111 : decode b_MO_fits 111 = .ok (.ireturn, 1) := by decide +kernel
theorem d_MO_fits_112 : decode b_MO_fits 112 = .ok (.iload_n 2, 1) := by decide +kernel
theorem d_MO_fits_113 : decode b_MO_fits 113 = .ok (.iconst 0, 1) := by decide +kernel
theorem d_MO_fits_114 : decode b_MO_fits 114 = .ok (.iconst 3, 1) := by decide +kernel
theorem d_MO_fits_115 : decode b_MO_fits 115 = .ok (.invokestatic 108, 3) := by decide +kernel
theorem d_MO_fits_118 : decode b_MO_fits 118 = .ok (.ifCond .eq 15, 3) := by decide +kernel
theorem d_MO_fits_121 : decode b_MO_fits 121 = .ok (.aload_n 0, 1) := by decide +kernel
theorem d_MO_fits_122 : decode b_MO_fits 122 = .ok (.iload_n 3, 1) := by decide +kernel
theorem d_MO_fits_123 : decode b_MO_fits 123 = .ok (.invokevirtual 112, 3) := by decide +kernel
theorem d_MO_fits_126 : decode b_MO_fits 126 = .ok (.ifCond .eq 7, 3) := by decide +kernel
theorem d_MO_fits_129 : decode b_MO_fits 129 = .ok (.iconst 1, 1) := by decide +kernel
theorem d_MO_fits_130 : decode b_MO_fits 130 = .ok (.goto 4, 3) := by decide +kernel
theorem d_MO_fits_133 : decode b_MO_fits 133 = .ok (.iconst 0, 1) := by decide +kernel
theorem d_MO_fits_134 : decode b_MO_fits 134 = .ok (.ireturn, 1) := by decide +kernel
theorem d_MO_fits_135 : decode b_MO_fits 135 = .ok (.iload_n 2, 1) := by decide +kernel
theorem d_MO_fits_136 : decode b_MO_fits 136 = .ok (.iconst 0, 1) := by decide +kernel
theorem d_MO_fits_137 : decode b_MO_fits 137 = .ok (.iconst 3, 1) := by decide +kernel
theorem d_MO_fits_138 : decode b_MO_fits 138 = .ok (.invokestatic 108, 3) := by decide +kernel
theorem d_MO_fits_141 : decode b_MO_fits 141 = .ok (.ifCond .eq 35, 3) := by decide +kernel
theorem d_MO_fits_144 : decode b_MO_fits 144 = .ok (.iload_n 3, 1) := by decide +kernel
theorem d_MO_fits_145 : decode b_MO_fits 145 = .ok (.iconst (-1), 1) := by decide +kernel
theorem d_MO_fits_146 : decode b_MO_fits 146 = .ok (.if_icmp .eq 11, 3) := by decide +kernel
theorem d_MO_fits_149 : decode b_MO_fits 149 = .ok (.aload_n 0, 1) := by decide +kernel
theorem d_MO_fits_150 : decode b_MO_fits 150 = .ok (.iload_n 3, 1) := by decide +kernel
theorem d_MO_fits_151 : decode b_MO_fits 151 = .ok (.invokevirtual 112, 3) := by decide +kernel
theorem d_MO_fits_154 : decode b_MO_fits 154 = .ok (.ifCond .eq 22, 3) := by decide +kernel
theorem d_MO_fits_157 : decode b_MO_fits 157 = .ok (.iload 4, 2) := by decide +kernel
theorem d_MO_fits_159 : decode b_MO_fits 159 = .ok (.iconst (-1), 1) := by decide +kernel
theorem d_MO_fits_160 : decode b_MO_fits 160 = .ok (.if_icmp .eq 12, 3) := by decide +kernel
theorem d_MO_fits_163 : decode b_MO_fits 163 = .ok (.aload_n 0, 1) := by decide +kernel
theorem d_MO_fits_164 : decode b_MO_fits 164 = .ok (.iload 4, 2) := by decide +kernel
theorem d_MO_fits_166 : decode b_MO_fits 166 = .ok (.invokevirtual 112, 3) := by decide +kernel
theorem d_MO_fits_169 : decode b_MO_fits 169 = .ok (.ifCond .eq 7, 3) := by decide +kernel
theorem d_MO_fits_172 : decode b_MO_fits 172 = .ok (.iconst 1, 1) := by decide +kernel
theorem d_MO_fits_173 : decode b_MO_fits 173 = .ok (.goto 4, 3) := by decide +kernel
theorem d_MO_fits_176 : decode b_MO_fits 176 = .ok (.iconst 0, 1) := by decide +kernel
theorem d_MO_fits_177 : decode b_MO_fits 177 = .ok (.ireturn, 1) := by decide +kernel
theorem d_MO_fits_178 : decode b_MO_fits 178 = .ok (.aload_n 0, 1) := by decide +kernel
theorem d_MO_fits_179 : decode b_MO_fits 179 = .ok (.iload_n 2, 1) := by decide +kernel
theorem d_MO_fits_180 : decode b_MO_fits 180 = .ok (.invokevirtual 112, 3) := by decide +kernel
theorem d_MO_fits_183 : decode b_MO_fits 183 = .ok (.ifCond .eq 24, 3) := by decide +kernel
theorem d_MO_fits_186 : decode b_MO_fits 186 = .ok (.aload_n 0, 1) := by decide +kernel
theorem d_MO_fits_187 : decode b_MO_fits 187 = .ok (.iload_n 3, 1) := by decide +kernel
theorem d_MO_fits_188 : decode b_MO_fits 188 = .ok (.invokevirtual 112, 3) := by decide +kernel
theorem d_MO_fits_191 : decode b_MO_fits 191 = .ok (.ifCond .eq 16, 3) := by decide +kernel
theorem d_MO_fits_194 : decode b_MO_fits 194 = .ok (.aload_n 0, 1) := by decide +kernel
theorem d_MO_fits_195 : decode b_MO_fits 195 = .ok (.iload 4, 2) := by decide +kernel
theorem d_MO_fits_197 : decode b_MO_fits 197 = .ok (.invokevirtual 112, 3) := by decide +kernel
theorem d_MO_fits_200 : decode b_MO_fits 200 = .ok (.ifCond .eq 7, 3) := by decide +kernel
theorem d_MO_fits_203 : decode b_MO_fits 203 = .ok (.iconst 1, 1) := by decide +kernel
theorem d_MO_fits_204 : decode b_MO_fits 204 = .ok (.goto 4, 3) := by decide +kernel
theorem d_MO_fits_207 : decode b_MO_fits 207 = .ok (.iconst 0, 1) := by decide +kernel
theorem d_MO_fits_208 : decode b_MO_fits 208 = .ok (.ireturn, 1) := by decide +kernel
theorem d_MO_fits_209 : decode b_MO_fits 209 = .ok (.iload_n 1, 1) := by decide +kernel
theorem d_MO_fits_210 : decode b_MO_fits 210 = .ok (.iconst 2, 1) := by decide +kernel
theorem d_MO_fits_211 : decode b_MO_fits 211 = .ok (.bipush 15, 2) := by decide +kernel
theorem d_MO_fits_213 : decode b_MO_fits 213 = .ok (.invokestatic 108, 3) := by decide +kernel
theorem d_MO_fits_216 : decode b_MO_fits 216 = .ok (.ifCond .eq 23, 3) := by decide +kernel
theorem d_MO_fits_219 : decode b_MO_fits 219 = .ok (.aload_n 0, 1) := by decide +kernel
theorem d_MO_fits_220 : decode b_MO_fits 220 = .ok (.iload_n 2, 1) := by decide +kernel
theorem d_MO_fits_221 : decode b_MO_fits 221 = .ok (.invokevirtual 112, 3) := by decide +kernel
theorem d_MO_fits_224 : decode b_MO_fits 224 = .ok (.ifCond .eq 15, 3) := by decide +kernel
theorem d_MO_fits_227 : decode b_MO_fits 227 = .ok (.aload_n 0, 1) := by decide +kernel
theorem d_MO_fits_228 : decode b_MO_fits 228 = .ok (.iload_n 3, 1) := by decide +kernel
theorem d_MO_fits_229 : decode b_MO_fits 229 = .ok (.invokevirtual 112, 3) := by decide +kernel
theorem d_MO_fits_232 : decode b_MO_fits 232 = .ok (.ifCond .eq 7, 3) := by decide +kernel
theorem d_MO_fits_235 : decode b_MO_fits 235 = .ok (.iconst 1, 1) := by decide +kernel
theorem d_MO_fits_236 : decode b_MO_fits 236 = .ok (.goto 4, 3) := by decide +kernel
theorem d_MO_fits_239 : decode b_MO_fits 239 = .ok (.iconst 0, 1) := by decide +kernel
theorem d_MO_fits_240 : decode b_MO_fits 240 = .ok (.ireturn, 1) := by decide +kernel
theorem d_MO_make_0 : decode b_MO_make 0 = .ok (.aload_n 0, 1) := by decide +kernel
theorem d_MO_make_1 : decode b_MO_make 1 = .ok (.iload_n 1, 1) := by decide +kernel
theorem d_MO_make_2 : decode b_MO_make 2 = .ok (.iload_n 2, 1) := by decide +kernel
theorem d_MO_make_3 : decode b_MO_make 3 = .ok (.iload_n 3, 1) := by decide +kernel
theorem d_MO_make_4 : decode b_MO_make 4 = .ok (.iload 4, 2) := by decide +kernel
theorem d_MO_make_6 : decode b_MO_make 6 = .ok (.invokevirtual 116, 3) := by decide +kernel
theorem d_MO_make_9 : decode b_MO_make 9 = .ok (.istore 5, 2) := by decide +kernel
theorem d_MO_make_11 : decode b_MO_make 11 = .ok (.iload 5, 2) := by decide +kernel
theorem d_MO_make_13 : decode b_MO_make 13 = .ok (.ifCond .ne 9, 3) := by decide +kernel
theorem d_MO_make_16 : decode b_MO_make 16 = .ok (.aload_n 0, 1) := by decide +kernel
theorem d_MO_make_17 : decode b_MO_make 17 = .ok (.iconst 1, 1) := by decide +kernel
theorem d_MO_make_18 : decode b_MO_make 18 = .ok (.invokevirtual 120, 3) := by decide +kernel
theorem d_MO_make_21 : decode b_MO_make 21 = .ok (.ireturn, 1) := by decide +kernel
theorem d_MO_make_22 : decode b_MO_make 22 = .ok (.aload_n 0, 1) := by decide +kernel
theorem d_MO_make_23 : decode b_MO_make 23 = .ok (.getfield 105, 3) := by decide +kernel
theorem d_MO_make_26 : decode b_MO_make 26 = .ok (.bipush 48, 2) := by decide +kernel
theorem d_MO_make_28 : decode b_MO_make 28 = .ok (.if_icmp .ne 9, 3) := by decide +kernel
theorem d_MO_make_31 : decode b_MO_make 31 = .ok (.aload_n 0, 1) := by decide +kernel
theorem d_MO_make_32 : decode b_MO_make 32 = .ok (.iconst 2, 1) := by decide +kernel
theorem d_MO_make_33 : decode b_MO_make 33 = .ok (.invokevirtual 120, 3) := by decide +kernel
theorem d_MO_make_36 : decode b_MO_make 36 = .ok (.ireturn, 1) := by decide +kernel
theorem d_MO_make_37 : decode b_MO_make 37 = .ok (.aload_n 0, 1) := by decide +kernel
theorem d_MO_make_38 : decode b_MO_make 38 = .ok (.iconst 0, 1) := by decide +kernel
theorem d_MO_make_39 : decode b_MO_make 39 = .ok (.putfield 96, 3) := by decide +kernel
theorem d_MO_make_42 : decode b_MO_make 42 = .ok (.iload_n 1, 1) := by decide +kernel
theorem d_MO_make_43 : decode b_MO_make 43 = .ok (.iconst 2, 1) := by decide +kernel
theorem d_MO_make_44 : decode b_MO_make 44 = .ok (.if_icmp .lt 21, 3) := by decide +kernel
theorem d_MO_make_47 : decode b_MO_make 47 = .ok (.iload_n 1, 1) := by decide +kernel
theorem d_MO_make_48 : decode b_MO_make 48 = .ok (.bipush 10, 2) := by decide +kernel
theorem d_MO_make_50 : decode b_MO_make 50 = .ok (.if_icmp .eq 15, 3) := by decide +kernel
theorem d_MO_make_53 : decode b_MO_make 53 = .ok (.iload_n 1, 1) := by decide +kernel
theorem d_MO_make_54 : decode b_MO_make 54 = .ok (.bipush 11, 2) := by decide +kernel
theorem d_MO_make_56 : decode b_MO_make 56 = .ok (.if_icmp .eq 9, 3) := by decide +kernel
theorem d_MO_make_59 : decode b_MO_make 59 = .ok (.iload_n 1, 1) := by decide +kernel
theorem d_MO_make_60 : decode b_MO_make 60 = .ok (.bipush 16, 2) := by decide +kernel
theorem d_MO_make_62 : decode b_MO_make 62 = .ok (.if_icmp .ne 7, 3) := by decide +kernel
theorem d_MO_make_65 : decode b_MO_make 65 = .ok (.iconst 1, 1) := by decide +kernel
theorem d_MO_make_66 : decode b_MO_make 66 = .ok (.goto 4, 3) := by decide +kernel
theorem d_MO_make_69 : decode b_MO_make 69 = .ok (.iconst 0, 1) := by decide +kernel
theorem d_MO_make_70 : decode b_MO_make 70 = .ok (.istore 6, 2) := by decide +kernel
theorem d_MO_make_72 : decode b_MO_make 72 = .ok (.aload_n 0, 1) := by decide +kernel
theorem d_MO_make_73 : decode b_MO_make 73 = .ok (.getfield 7, 3) := by decide +kernel
theorem d_MO_make_76 : decode b_MO_make 76 = .ok (.aload_n 0, 1) := by decide +kernel
theorem d_MO_make_77 : decode b_MO_make 77 = .ok (.getfield 105, 3) := by decide +kernel
theorem d_MO_make_80 : decode b_MO_make 80 = .ok (.iload_n 1, 1) := by decide +kernel
theorem d_MO_make_81 : decode b_MO_make 81 = .ok (.iastore, 1) := by decide +kernel
theorem d_MO_make_82 : decode b_MO_make 82 = .ok (.aload_n 0, 1) := by decide +kernel
theorem d_MO_make_83 : decode b_MO_make 83 = .ok (.getfield 13, 3) := by decide +kernel
theorem d_MO_make_86 : decode b_MO_make 86 = .ok (.aload_n 0, 1) := by decide +kernel
theorem d_MO_make_87 : decode b_MO_make 87 = .ok (.getfield 105, 3) := by decide +kernel
theorem d_MO_make_90 : decode b_MO_make 90 = .ok (.iload_n 2, 1) := by decide +kernel
theorem d_MO_make_91 : decode b_MO_make 91 = .ok (.iastore, 1) := by decide +kernel
theorem d_MO_make_92 : decode b_MO_make 92 = .ok (.aload_n 0, 1) := by decide +kernel
theorem d_MO_make_93 : decode b_MO_make 93 = .ok (.getfield 16, 3) := by decide +kernel
theorem d_MO_make_96 : decode b_MO_make 96 = .ok (.aload_n 0, 1) := by decide +kernel
theorem d_MO_make_97 : decode b_MO_make 97 = .ok (.getfield 105, 3) := by decide +kernel
theorem d_MO_make_100 : decode b_MO_make 100 = .ok (.iload 6, 2) := by decide +kernel
theorem d_MO_make_102 : decode b_MO_make 102 = .ok (.ifCond .eq 7, 3) := by decide +kernel
theorem d_MO_make_105 : decode b_MO_make 105 = .ok (.iconst (-1), 1) := by decide +kernel
theorem d_MO_make_106 : decode b_MO_make 106 = .ok (.goto 4, 3) := by decide +kernel
theorem d_MO_make_109 : decode b_MO_make 109 = .ok (.iload_n 3, 1) := by decide +kernel
theorem d_MO_make_110 : decode b_MO_make 110 = .ok (.iastore, 1) := by decide +kernel
theorem d_MO_make_111 : decode b_MO_make 111 = .ok (.aload_n 0, 1) := by decide +kernel
theorem d_MO_make_112 : decode b_MO_make 112 = .ok (.getfield 19, 3) := by decide +kernel
theorem d_MO_make_115 : decode b_MO_make 115 = .ok (.aload_n 0, 1) := by decide +kernel
theorem d_MO_make_116 : decode b_MO_make 116 = .ok (.getfield 105, 3) := by decide +kernel
theorem d_MO_make_119 : decode b_MO_make 119 = .ok (.iload_n 1, 1) := by decide +kernel
theorem d_MO_make_120 : decode b_MO_make 120 = .ok (.bipush 9, 2) := by decide +kernel
theorem d_MO_make_122 : decode b_MO_make 122 = .ok (.if_icmp .eq 9, 3) := by decide +kernel
theorem d_MO_make_125 : decode b_MO_make 125 = .ok (.iload_n 1, 1) := by decide +kernel
theorem d_MO_make_126 : decode b_MO_make 126 = .ok (.bipush 12, 2) := by decide +kernel
theorem d_MO_make_128 : decode b_MO_make 128 = .ok (.if_icmp .ne 8, 3) := by decide +kernel
theorem d_MO_make_131 : decode b_MO_make 131 = .ok (.iload 4, 2) := by decide +kernel
theorem d_MO_make_133 : decode b_MO_make 133 = .ok (.goto 4, 3) := by decide +kernel
theorem d_MO_make_136 : decode b_MO_make 136 = .ok (.iconst (-1), 1) := by decide +kernel
theorem d_MO_make_137 : decode b_MO_make 137 = .ok (.iastore, 1) := by decide +kernel
theorem d_MO_make_138 : decode b_MO_make 138 = .ok (.aload_n 0, 1) := by decide +kernel
theorem d_MO_make_139 : decode b_MO_make 139 = .ok (.dup, 1) := by decide +kernel
theorem d_MO_make_140 : decode b_MO_make 140 = .ok (.getfield 105, 3) := by decide +kernel
theorem d_MO_make_143 : decode b_MO_make 143 = .ok (.iconst 1, 1) := by decide +kernel
theorem d_MO_make_144 : decode b_MO_make 144 = .ok (.iadd, 1) := by decide +kernel
theorem d_MO_make_145 : decode b_MO_make 145 = .ok (.putfield 105, 3) := by decide +kernel
theorem d_MO_make_148 : decode b_MO_make 148 = .ok (.aload_n 0, 1) := by decide +kernel
theorem d_MO_make_149 : decode b_MO_make 149 = .ok (.getfield 105, 3) := by decide +kernel
theorem d_MO_make_152 : decode b_MO_make 152 = .ok (.iconst 1, 1) := by decide +kernel
theorem d_MO_make_153 : decode b_MO_make 153 = .ok (.isub, 1) := by decide +kernel
theorem d_MO_make_154 : decode b_MO_make 154 = .ok (.ireturn, 1) := by decide +kernel
theorem d_MO_procedure_0 : decode b_MO_procedure 0 = .ok (.aload_n 0, 1) := by decide +kernel
theorem d_MO_procedure_1 : decode b_MO_procedure 1 = .ok (.iload_n 1, 1) := by decide +kernel
theorem d_MO_procedure_2 : decode b_MO_procedure 2 = .ok (.iconst 0, 1) := by decide +kernel
theorem d_MO_procedure_3 : decode b_MO_procedure 3 = .ok (.iconst 3, 1) := by decide +kernel
theorem d_MO_procedure_4 : decode b_MO_procedure 4 = .ok (.invokestatic 108, 3) := by decide +kernel
theorem d_MO_procedure_7 : decode b_MO_procedure 7 = .ok (.ifCond .eq 34, 3) := by decide +kernel
theorem d_MO_procedure_10 : decode b_MO_procedure 10 = .ok (.aload_n 0, 1) := by decide +kernel
theorem d_MO_procedure_11 : decode b_MO_procedure 11 = .ok (.iload_n 2, 1) := by decide +kernel
theorem d_MO_procedure_12 : decode b_MO_procedure 12 = .ok (.invokevirtual 112, 3) := by decide +kernel
theorem d_MO_procedure_15 : decode b_MO_procedure 15 = .ok (.ifCond .eq 26, 3) := by decide +kernel
theorem d_MO_procedure_18 : decode b_MO_procedure 18 = .ok (.iload_n 3, 1) := by decide +kernel
theorem d_MO_procedure_19 : decode b_MO_procedure 19 = .ok (.iconst 0, 1) := by decide +kernel
theorem d_MO_procedure_20 : decode b_MO_procedure 20 = .ok (.iconst 2, 1) := by decide +kernel
theorem d_MO_procedure_21 : decode b_MO_procedure 21 = .ok (.invokestatic 108, 3) := by decide +kernel
theorem d_MO_procedure_24 : decode b_MO_procedure 24 = .ok (.ifCond .eq 17, 3) := by decide +kernel
theorem d_MO_procedure_27 : decode b_MO_procedure 27 = .ok (.iload 4, 2) := by decide +kernel
theorem d_MO_procedure_29 : decode b_MO_procedure 29 = .ok (.iconst 0, 1) := by decide +kernel
theorem d_MO_procedure_30 : decode b_MO_procedure 30 = .ok (.iconst 3, 1) := by decide +kernel
theorem d_MO_procedure_31 : decode b_MO_procedure 31 = .ok (.invokestatic 108, 3) := by decide +kernel
theorem d_MO_procedure_34 : decode b_MO_procedure 34 = .ok (.ifCond .eq 7, 3) := by decide +kernel
theorem d_MO_procedure_37 : decode b_MO_procedure 37 = .ok (.iconst 0, 1) := by decide +kernel
theorem d_MO_procedure_38 : decode b_MO_procedure 38 = .ok (.goto 4, 3) := by decide +kernel
theorem d_MO_procedure_41 : decode b_MO_procedure 41 = .ok (.iconst 1, 1) := by decide +kernel
theorem d_MO_procedure_42 : decode b_MO_procedure 42 = .ok (.putfield 96, 3) := by decide +kernel
theorem d_MO_procedure_45 : decode b_MO_procedure 45 = .ok (.aload_n 0, 1) := by decide +kernel
theorem d_MO_procedure_46 : decode b_MO_procedure 46 = .ok (.getfield 96, 3) := by decide +kernel
theorem d_MO_procedure_49 : decode b_MO_procedure 49 = .ok (.ifCond .le 4, 3) := by decide +kernel
theorem d_MO_procedure_52 : decode b_MO_procedure 52 = .ok (.return_, 1) := by decide +kernel
theorem d_MO_procedure_53 : decode b_MO_procedure 53 = .ok (.aload_n 0, 1) := by decide +kernel
theorem d_MO_procedure_54 : decode b_MO_procedure 54 = .ok (.getfield 22, 3) := by decide +kernel
theorem d_MO_procedure_57 : decode b_MO_procedure 57 = .ok (.iload_n 1, 1) := by decide +kernel
theorem d_MO_procedure_58 : decode b_MO_procedure 58 = .ok (.iload_n 2, 1) := by decide +kernel
theorem d_MO_procedure_59 : decode b_MO_procedure 59 = .ok (.iastore, 1) := by decide +kernel
theorem d_MO_procedure_60 : decode b_MO_procedure 60 = .ok (.aload_n 0, 1) := by decide +kernel
theorem d_MO_procedure_61 : decode b_MO_procedure 61 = .ok (.getfield 25, 3) := by decide +kernel
theorem d_MO_procedure_64 : decode b_MO_procedure 64 = .ok (.iload_n 1, 1) := by decide +kernel
theorem d_MO_procedure_65 : decode b_MO_procedure 65 = .ok (.iload_n 3, 1) := by decide +kernel
theorem d_MO_procedure_66 : decode b_MO_procedure 66 = .ok (.iastore, 1) := by decide +kernel
theorem d_MO_procedure_67 : decode b_MO_procedure 67 = .ok (.aload_n 0, 1) := by decide +kernel
theorem d_MO_procedure_68 : decode b_MO_procedure 68 = .ok (.getfield 28, 3) := by decide +kernel
theorem d_MO_procedure_71 : decode b_MO_procedure 71 = .ok (.iload_n 1, 1) := by decide +kernel
theorem d_MO_procedure_72 : decode b_MO_procedure 72 = .ok (.iload 4, 2) := by decide +kernel
theorem d_MO_procedure_74 : decode b_MO_procedure 74 = .ok (.iastore, 1) := by decide +kernel
theorem d_MO_procedure_75 : decode b_MO_procedure 75 = .ok (.return_, 1) := by decide +kernel
theorem d_MO_isRange_0 : decode b_MO_isRange 0 = .ok (.iload_n 0, 1) := by decide +kernel
theorem d_MO_isRange_1 : decode b_MO_isRange 1 = .ok (.bipush (-9), 2) := by decide +kernel
theorem d_MO_isRange_3 : decode b_MO_isRange 3 = .ok (.bipush 9, 2) := by decide +kernel
theorem d_MO_isRange_5 : decode b_MO_isRange 5 = .ok (.invokestatic 108, 3) := by decide +kernel
theorem d_MO_isRange_8 : decode b_MO_isRange 8 = .ok (.ifCond .eq 30, 3) := by decide +kernel
theorem d_MO_isRange_11 : decode b_MO_isRange 11 = .ok (.iload_n 1, 1) := by decide +kernel
theorem d_MO_isRange_12 : decode b_MO_isRange 12 = .ok (.bipush (-9), 2) := by decide +kernel
theorem d_MO_isRange_14 : decode b_MO_isRange 14 = .ok (.bipush 9, 2) := by decide +kernel
theorem d_MO_isRange_16 : decode b_MO_isRange 16 = .ok (.invokestatic 108, 3) := by decide +kernel
theorem d_MO_isRange_19 : decode b_MO_isRange 19 = .ok (.ifCond .eq 19, 3) := by decide +kernel
theorem d_MO_isRange_22 : decode b_MO_isRange 22 = .ok (.iload_n 0, 1) := by decide +kernel
theorem d_MO_isRange_23 : decode b_MO_isRange 23 = .ok (.iload_n 1, 1) := by decide +kernel
theorem d_MO_isRange_24 : decode b_MO_isRange 24 = .ok (.if_icmp .gt 14, 3) := by decide +kernel
theorem d_MO_isRange_27 : decode b_MO_isRange 27 = .ok (.iload_n 1, 1) := by decide +kernel
theorem d_MO_isRange_28 : decode b_MO_isRange 28 = .ok (.iload_n 0, 1) := by decide +kernel
theorem d_MO_isRange_29 : decode b_MO_isRange 29 = .ok (.isub, 1) := by decide +kernel
theorem d_MO_isRange_30 : decode b_MO_isRange 30 = .ok (.iconst 5, 1) := by decide +kernel
theorem d_MO_isRange_31 : decode b_MO_isRange 31 = .ok (.if_icmp .ge 7, 3) := by decide +kernel
theorem d_MO_isRange_34 : decode b_MO_isRange 34 = .ok (.iconst 1, 1) := by decide +kernel
theorem d_MO_isRange_35 : decode b_MO_isRange 35 = .ok (.goto 4, 3) := by decide +kernel
theorem d_MO_isRange_38 : decode b_MO_isRange 38 = .ok (.iconst 0, 1) := by decide +kernel
theorem d_MO_isRange_39 : decode b_MO_isRange 39 = .ok (.ireturn, 1) := by decide +kernel
theorem d_MO_bounds_0 : decode b_MO_bounds 0 = .ok (.iload_n 1, 1) := by decide +kernel
theorem d_MO_bounds_1 : decode b_MO_bounds 1 = .ok (.iload_n 2, 1) := by decide +kernel
theorem d_MO_bounds_2 : decode b_MO_bounds 2 = .ok (.invokestatic 124, 3) := by decide +kernel
theorem d_MO_bounds_5 : decode b_MO_bounds 5 = .ok (.ifCond .eq 12, 3) := by decide +kernel
theorem d_MO_bounds_8 : decode b_MO_bounds 8 = .ok (.iload_n 3, 1) := by decide +kernel
theorem d_MO_bounds_9 : decode b_MO_bounds 9 = .ok (.iload 4, 2) := by decide +kernel
theorem d_MO_bounds_11 : decode b_MO_bounds 11 = .ok (.invokestatic 124, 3) := by decide +kernel
theorem d_MO_bounds_14 : decode b_MO_bounds 14 = .ok (.ifCond .ne 9, 3) := by decide +kernel
theorem d_MO_bounds_17 : decode b_MO_bounds 17 = .ok (.aload_n 0, 1) := by decide +kernel
theorem d_MO_bounds_18 : decode b_MO_bounds 18 = .ok (.iconst 1, 1) := by decide +kernel
theorem d_MO_bounds_19 : decode b_MO_bounds 19 = .ok (.invokevirtual 120, 3) := by decide +kernel
theorem d_MO_bounds_22 : decode b_MO_bounds 22 = .ok (.ireturn, 1) := by decide +kernel
theorem d_MO_bounds_23 : decode b_MO_bounds 23 = .ok (.aload_n 0, 1) := by decide +kernel
theorem d_MO_bounds_24 : decode b_MO_bounds 24 = .ok (.iconst 0, 1) := by decide +kernel
theorem d_MO_bounds_25 : decode b_MO_bounds 25 = .ok (.putfield 96, 3) := by decide +kernel
theorem d_MO_bounds_28 : decode b_MO_bounds 28 = .ok (.aload_n 0, 1) := by decide +kernel
theorem d_MO_bounds_29 : decode b_MO_bounds 29 = .ok (.iload_n 1, 1) := by decide +kernel
theorem d_MO_bounds_30 : decode b_MO_bounds 30 = .ok (.putfield 38, 3) := by decide +kernel
theorem d_MO_bounds_33 : decode b_MO_bounds 33 = .ok (.aload_n 0, 1) := by decide +kernel
theorem d_MO_bounds_34 : decode b_MO_bounds 34 = .ok (.iload_n 2, 1) := by decide +kernel
theorem d_MO_bounds_35 : decode b_MO_bounds 35 = .ok (.putfield 42, 3) := by decide +kernel
theorem d_MO_bounds_38 : decode b_MO_bounds 38 = .ok (.aload_n 0, 1) := by decide +kernel
theorem d_MO_bounds_39 : decode b_MO_bounds 39 = .ok (.iload_n 3, 1) := by decide +kernel
theorem d_MO_bounds_40 : decode b_MO_bounds 40 = .ok (.putfield 45, 3) := by decide +kernel
theorem d_MO_bounds_43 : decode b_MO_bounds 43 = .ok (.aload_n 0, 1) := by decide +kernel
theorem d_MO_bounds_44 : decode b_MO_bounds 44 = .ok (.iload 4, 2) := by decide +kernel
theorem d_MO_bounds_46 : decode b_MO_bounds 46 = .ok (.putfield 48, 3) := by decide +kernel
theorem d_MO_bounds_49 : decode b_MO_bounds 49 = .ok (.iconst 0, 1) := by decide +kernel
theorem d_MO_bounds_50 : decode b_MO_bounds 50 = .ok (.istore 5, 2) := by decide +kernel
theorem d_MO_bounds_52 : decode b_MO_bounds 52 = .ok (.iload 5, 2) := by decide +kernel
theorem d_MO_bounds_54 : decode b_MO_bounds 54 = .ok (.bipush 25, 2) := by decide +kernel
theorem d_MO_bounds_56 : decode b_MO_bounds 56 = .ok (.if_icmp .ge 17, 3) := by decide +kernel
theorem d_MO_bounds_59 : decode b_MO_bounds 59 = .ok (.aload_n 0, 1) := by decide +kernel
theorem d_MO_bounds_60 : decode b_MO_bounds 60 = .ok (.getfield 35, 3) := by decide +kernel
theorem d_MO_bounds_63 : decode b_MO_bounds 63 = .ok (.iload 5, 2) := by decide +kernel
theorem d_MO_bounds_65 : decode b_MO_bounds 65 = .ok (.dconst 0, 1) := by decide +kernel
theorem d_MO_bounds_66 : decode b_MO_bounds 66 = .ok (.dastore, 1) := by decide +kernel
theorem d_MO_bounds_67 : decode b_MO_bounds 67 = .ok (.iinc 5 1, 3) := by decide +kernel
theorem d_MO_bounds_70 : decode b_MO_bounds 70 = .ok (.goto (-18), 3) := by decide +kernel
theorem d_MO_bounds_73 : decode b_MO_bounds 73 = .ok (.iload_n 2, 1) := by decide +kernel
theorem d_MO_bounds_74 : decode b_MO_bounds 74 = .ok (.iload_n 1, 1) := by decide +kernel
theorem d_MO_bounds_75 : decode b_MO_bounds 75 = .ok (.isub, 1) := by decide +kernel
theorem d_MO_bounds_76 : decode b_MO_bounds 76 = .ok (.iconst 1, 1) := by decide +kernel
theorem d_MO_bounds_77 : decode b_MO_bounds 77 = .ok (.iadd, 1) := by decide +kernel
theorem d_MO_bounds_78 : decode b_MO_bounds 78 = .ok (.iload 4, 2) := by decide +kernel
theorem d_MO_bounds_80 : decode b_MO_bounds 80 = .ok (.iload_n 3, 1) := by decide +kernel
theorem d_MO_bounds_81 : decode b_MO_bounds 81 = .ok (.isub, 1) := by decide +kernel
theorem d_MO_bounds_82 : decode b_MO_bounds 82 = .ok (.iconst 1, 1) := by decide +kernel
theorem d_MO_bounds_83 : decode b_MO_bounds 83 = .ok (.iadd, 1) := by decide +kernel
theorem d_MO_bounds_84 : decode b_MO_bounds 84 = .ok (.imul, 1) := by decide +kernel
theorem d_MO_bounds_85 : decode b_MO_bounds 85 = .ok (.ireturn, 1) := by decide +kernel
theorem d_MO_put_0 : decode b_MO_put 0 = .ok (.aload_n 0, 1) := by decide +kernel
theorem d_MO_put_1 : decode b_MO_put 1 = .ok (.iload_n 1, 1) := by decide +kernel
theorem d_MO_put_2 : decode b_MO_put 2 = .ok (.iconst 0, 1) := by decide +kernel
theorem d_MO_put_3 : decode b_MO_put 3 = .ok (.bipush 7, 2) := by decide +kernel
theorem d_MO_put_5 : decode b_MO_put 5 = .ok (.invokestatic 108, 3) := by decide +kernel
theorem d_MO_put_8 : decode b_MO_put 8 = .ok (.ifCond .eq 14, 3) := by decide +kernel
