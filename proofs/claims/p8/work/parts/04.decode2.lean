theorem d_MO_put_11 : decode b_MO_put 11 = .ok (.dload_n 2, 1) := by decide +kernel
theorem d_MO_put_12 : decode b_MO_put 12 = .ok (.invokestatic 128, 3) := by decide +kernel
theorem d_MO_put_15 : decode b_MO_put 15 = .ok (.ifCond .eq 7, 3) := by decide +kernel
theorem d_MO_put_18 : decode b_MO_put 18 = .ok (.iconst 0, 1) := by decide +kernel
theorem d_MO_put_19 : decode b_MO_put 19 = .ok (.goto 4, 3) := by decide +kernel
theorem d_MO_put_22 : decode b_MO_put 22 = .ok (.iconst 1, 1) := by decide +kernel
theorem d_MO_put_23 : decode b_MO_put 23 = .ok (.putfield 96, 3) := by decide +kernel
theorem d_MO_put_26 : decode b_MO_put 26 = .ok (.aload_n 0, 1) := by decide +kernel
theorem d_MO_put_27 : decode b_MO_put 27 = .ok (.getfield 96, 3) := by decide +kernel
theorem d_MO_put_30 : decode b_MO_put 30 = .ok (.ifCond .le 5, 3) := by decide +kernel
theorem d_MO_put_33 : decode b_MO_put 33 = .ok (.dconst 0, 1) := by decide +kernel
theorem d_MO_put_34 : decode b_MO_put 34 = .ok (.dreturn, 1) := by decide +kernel
theorem d_MO_put_35 : decode b_MO_put 35 = .ok (.aload_n 0, 1) := by decide +kernel
theorem d_MO_put_36 : decode b_MO_put 36 = .ok (.getfield 31, 3) := by decide +kernel
theorem d_MO_put_39 : decode b_MO_put 39 = .ok (.iload_n 1, 1) := by decide +kernel
theorem d_MO_put_40 : decode b_MO_put 40 = .ok (.daload, 1) := by decide +kernel
theorem d_MO_put_41 : decode b_MO_put 41 = .ok (.dstore 4, 2) := by decide +kernel
theorem d_MO_put_43 : decode b_MO_put 43 = .ok (.aload_n 0, 1) := by decide +kernel
theorem d_MO_put_44 : decode b_MO_put 44 = .ok (.getfield 31, 3) := by decide +kernel
theorem d_MO_put_47 : decode b_MO_put 47 = .ok (.iload_n 1, 1) := by decide +kernel
theorem d_MO_put_48 : decode b_MO_put 48 = .ok (.iload_n 1, 1) := by decide +kernel
theorem d_MO_put_49 : decode b_MO_put 49 = .ok (.iconst 4, 1) := by decide +kernel
theorem d_MO_put_50 : decode b_MO_put 50 = .ok (.if_icmp .ge 10, 3) := by decide +kernel
theorem d_MO_put_53 : decode b_MO_put 53 = .ok (.dload_n 2, 1) := by decide +kernel
theorem d_MO_put_54 : decode b_MO_put 54 = .ok (.invokestatic 132, 3) := by decide +kernel
theorem d_MO_put_57 : decode b_MO_put 57 = .ok (.goto 4, 3) := by decide +kernel
theorem d_MO_put_60 : decode b_MO_put 60 = .ok (.dload_n 2, 1) := by decide +kernel
theorem d_MO_put_61 : decode b_MO_put 61 = .ok (.dastore, 1) := by decide +kernel
theorem d_MO_put_62 : decode b_MO_put 62 = .ok (.dload 4, 2) := by decide +kernel
theorem d_MO_put_64 : decode b_MO_put 64 = .ok (.dreturn, 1) := by decide +kernel
theorem d_MO_wrong_0 : decode b_MO_wrong 0 = .ok (.aload_n 0, 1) := by decide +kernel
theorem d_MO_wrong_1 : decode b_MO_wrong 1 = .ok (.iload_n 1, 1) := by decide +kernel
theorem d_MO_wrong_2 : decode b_MO_wrong 2 = .ok (.putfield 136, 3) := by decide +kernel
theorem d_MO_wrong_5 : decode b_MO_wrong 5 = .ok (.return_, 1) := by decide +kernel
theorem d_MO_enter_0 : decode b_MO_enter 0 = .ok (.aload_n 0, 1) := by decide +kernel
theorem d_MO_enter_1 : decode b_MO_enter 1 = .ok (.getfield 139, 3) := by decide +kernel
theorem d_MO_enter_4 : decode b_MO_enter 4 = .ok (.sipush 300, 3) := by decide +kernel
theorem d_MO_enter_7 : decode b_MO_enter 7 = .ok (.if_icmp .ne 10, 3) := by decide +kernel
theorem d_MO_enter_10 : decode b_MO_enter 10 = .ok (.aload_n 0, 1) := by decide +kernel
theorem d_MO_enter_11 : decode b_MO_enter 11 = .ok (.bipush 8, 2) := by decide +kernel
theorem d_MO_enter_13 : decode b_MO_enter 13 = .ok (.invokevirtual 142, 3) := by decide +kernel
theorem d_MO_enter_16 : decode b_MO_enter 16 = .ok (.return_, 1) := by decide +kernel
theorem d_MO_enter_17 : decode b_MO_enter 17 = .ok (.aload_n 0, 1) := by decide +kernel
theorem d_MO_enter_18 : decode b_MO_enter 18 = .ok (.getfield 146, 3) := by decide +kernel
theorem d_MO_enter_21 : decode b_MO_enter 21 = .ok (.bipush 80, 2) := by decide +kernel
theorem d_MO_enter_23 : decode b_MO_enter 23 = .ok (.if_icmp .ne 10, 3) := by decide +kernel
theorem d_MO_enter_26 : decode b_MO_enter 26 = .ok (.aload_n 0, 1) := by decide +kernel
theorem d_MO_enter_27 : decode b_MO_enter 27 = .ok (.bipush 7, 2) := by decide +kernel
theorem d_MO_enter_29 : decode b_MO_enter 29 = .ok (.invokevirtual 142, 3) := by decide +kernel
theorem d_MO_enter_32 : decode b_MO_enter 32 = .ok (.return_, 1) := by decide +kernel
theorem d_MO_enter_33 : decode b_MO_enter 33 = .ok (.aload_n 0, 1) := by decide +kernel
theorem d_MO_enter_34 : decode b_MO_enter 34 = .ok (.dup, 1) := by decide +kernel
theorem d_MO_enter_35 : decode b_MO_enter 35 = .ok (.getfield 139, 3) := by decide +kernel
theorem d_MO_enter_38 : decode b_MO_enter 38 = .ok (.iconst 1, 1) := by decide +kernel
theorem d_MO_enter_39 : decode b_MO_enter 39 = .ok (.iadd, 1) := by decide +kernel
theorem d_MO_enter_40 : decode b_MO_enter 40 = .ok (.putfield 139, 3) := by decide +kernel
theorem d_MO_enter_43 : decode b_MO_enter 43 = .ok (.aload_n 0, 1) := by decide +kernel
theorem d_MO_enter_44 : decode b_MO_enter 44 = .ok (.getfield 69, 3) := by decide +kernel
theorem d_MO_enter_47 : decode b_MO_enter 47 = .ok (.aload_n 0, 1) := by decide +kernel
theorem d_MO_enter_48 : decode b_MO_enter 48 = .ok (.getfield 146, 3) := by decide +kernel
theorem d_MO_enter_51 : decode b_MO_enter 51 = .ok (.iload_n 1, 1) := by decide +kernel
theorem d_MO_enter_52 : decode b_MO_enter 52 = .ok (.iastore, 1) := by decide +kernel
theorem d_MO_enter_53 : decode b_MO_enter 53 = .ok (.aload_n 0, 1) := by decide +kernel
theorem d_MO_enter_54 : decode b_MO_enter 54 = .ok (.getfield 72, 3) := by decide +kernel
theorem d_MO_enter_57 : decode b_MO_enter 57 = .ok (.aload_n 0, 1) := by decide +kernel
theorem d_MO_enter_58 : decode b_MO_enter 58 = .ok (.getfield 146, 3) := by decide +kernel
theorem d_MO_enter_61 : decode b_MO_enter 61 = .ok (.iload_n 2, 1) := by decide +kernel
theorem d_MO_enter_62 : decode b_MO_enter 62 = .ok (.iastore, 1) := by decide +kernel
theorem d_MO_enter_63 : decode b_MO_enter 63 = .ok (.aload_n 0, 1) := by decide +kernel
theorem d_MO_enter_64 : decode b_MO_enter 64 = .ok (.getfield 75, 3) := by decide +kernel
theorem d_MO_enter_67 : decode b_MO_enter 67 = .ok (.aload_n 0, 1) := by decide +kernel
theorem d_MO_enter_68 : decode b_MO_enter 68 = .ok (.getfield 146, 3) := by decide +kernel
theorem d_MO_enter_71 : decode b_MO_enter 71 = .ok (.iconst 0, 1) := by decide +kernel
theorem d_MO_enter_72 : decode b_MO_enter 72 = .ok (.iastore, 1) := by decide +kernel
theorem d_MO_enter_73 : decode b_MO_enter 73 = .ok (.aload_n 0, 1) := by decide +kernel
theorem d_MO_enter_74 : decode b_MO_enter 74 = .ok (.getfield 78, 3) := by decide +kernel
theorem d_MO_enter_77 : decode b_MO_enter 77 = .ok (.aload_n 0, 1) := by decide +kernel
theorem d_MO_enter_78 : decode b_MO_enter 78 = .ok (.getfield 146, 3) := by decide +kernel
theorem d_MO_enter_81 : decode b_MO_enter 81 = .ok (.aload_n 0, 1) := by decide +kernel
theorem d_MO_enter_82 : decode b_MO_enter 82 = .ok (.getfield 149, 3) := by decide +kernel
theorem d_MO_enter_85 : decode b_MO_enter 85 = .ok (.iastore, 1) := by decide +kernel
theorem d_MO_enter_86 : decode b_MO_enter 86 = .ok (.aload_n 0, 1) := by decide +kernel
theorem d_MO_enter_87 : decode b_MO_enter 87 = .ok (.getfield 81, 3) := by decide +kernel
theorem d_MO_enter_90 : decode b_MO_enter 90 = .ok (.aload_n 0, 1) := by decide +kernel
theorem d_MO_enter_91 : decode b_MO_enter 91 = .ok (.getfield 146, 3) := by decide +kernel
theorem d_MO_enter_94 : decode b_MO_enter 94 = .ok (.aload_n 0, 1) := by decide +kernel
theorem d_MO_enter_95 : decode b_MO_enter 95 = .ok (.getfield 152, 3) := by decide +kernel
theorem d_MO_enter_98 : decode b_MO_enter 98 = .ok (.iastore, 1) := by decide +kernel
theorem d_MO_enter_99 : decode b_MO_enter 99 = .ok (.aload_n 0, 1) := by decide +kernel
theorem d_MO_enter_100 : decode b_MO_enter 100 = .ok (.dup, 1) := by decide +kernel
theorem d_MO_enter_101 : decode b_MO_enter 101 = .ok (.getfield 146, 3) := by decide +kernel
theorem d_MO_enter_104 : decode b_MO_enter 104 = .ok (.iconst 1, 1) := by decide +kernel
theorem d_MO_enter_105 : decode b_MO_enter 105 = .ok (.iadd, 1) := by decide +kernel
theorem d_MO_enter_106 : decode b_MO_enter 106 = .ok (.putfield 146, 3) := by decide +kernel
theorem d_MO_enter_109 : decode b_MO_enter 109 = .ok (.return_, 1) := by decide +kernel
theorem d_MO_deeper_0 : decode b_MO_deeper 0 = .ok (.aload_n 0, 1) := by decide +kernel
theorem d_MO_deeper_1 : decode b_MO_deeper 1 = .ok (.getfield 149, 3) := by decide +kernel
theorem d_MO_deeper_4 : decode b_MO_deeper 4 = .ok (.bipush 8, 2) := by decide +kernel
theorem d_MO_deeper_6 : decode b_MO_deeper 6 = .ok (.if_icmp .ne 10, 3) := by decide +kernel
theorem d_MO_deeper_9 : decode b_MO_deeper 9 = .ok (.aload_n 0, 1) := by decide +kernel
theorem d_MO_deeper_10 : decode b_MO_deeper 10 = .ok (.bipush 7, 2) := by decide +kernel
theorem d_MO_deeper_12 : decode b_MO_deeper 12 = .ok (.invokevirtual 142, 3) := by decide +kernel
theorem d_MO_deeper_15 : decode b_MO_deeper 15 = .ok (.return_, 1) := by decide +kernel
theorem d_MO_deeper_16 : decode b_MO_deeper 16 = .ok (.aload_n 0, 1) := by decide +kernel
theorem d_MO_deeper_17 : decode b_MO_deeper 17 = .ok (.dup, 1) := by decide +kernel
theorem d_MO_deeper_18 : decode b_MO_deeper 18 = .ok (.getfield 149, 3) := by decide +kernel
theorem d_MO_deeper_21 : decode b_MO_deeper 21 = .ok (.iconst 1, 1) := by decide +kernel
theorem d_MO_deeper_22 : decode b_MO_deeper 22 = .ok (.iadd, 1) := by decide +kernel
theorem d_MO_deeper_23 : decode b_MO_deeper 23 = .ok (.putfield 149, 3) := by decide +kernel
theorem d_MO_deeper_26 : decode b_MO_deeper 26 = .ok (.aload_n 0, 1) := by decide +kernel
theorem d_MO_deeper_27 : decode b_MO_deeper 27 = .ok (.getfield 149, 3) := by decide +kernel
theorem d_MO_deeper_30 : decode b_MO_deeper 30 = .ok (.aload_n 0, 1) := by decide +kernel
theorem d_MO_deeper_31 : decode b_MO_deeper 31 = .ok (.getfield 155, 3) := by decide +kernel
theorem d_MO_deeper_34 : decode b_MO_deeper 34 = .ok (.if_icmp .le 11, 3) := by decide +kernel
theorem d_MO_deeper_37 : decode b_MO_deeper 37 = .ok (.aload_n 0, 1) := by decide +kernel
theorem d_MO_deeper_38 : decode b_MO_deeper 38 = .ok (.aload_n 0, 1) := by decide +kernel
theorem d_MO_deeper_39 : decode b_MO_deeper 39 = .ok (.getfield 149, 3) := by decide +kernel
theorem d_MO_deeper_42 : decode b_MO_deeper 42 = .ok (.putfield 155, 3) := by decide +kernel
theorem d_MO_deeper_45 : decode b_MO_deeper 45 = .ok (.return_, 1) := by decide +kernel
theorem d_MO_end_0 : decode b_MO_end 0 = .ok (.aload_n 0, 1) := by decide +kernel
theorem d_MO_end_1 : decode b_MO_end 1 = .ok (.dup, 1) := by decide +kernel
theorem d_MO_end_2 : decode b_MO_end 2 = .ok (.getfield 146, 3) := by decide +kernel
theorem d_MO_end_5 : decode b_MO_end 5 = .ok (.iconst 1, 1) := by decide +kernel
theorem d_MO_end_6 : decode b_MO_end 6 = .ok (.isub, 1) := by decide +kernel
theorem d_MO_end_7 : decode b_MO_end 7 = .ok (.putfield 146, 3) := by decide +kernel
theorem d_MO_end_10 : decode b_MO_end 10 = .ok (.aload_n 0, 1) := by decide +kernel
theorem d_MO_end_11 : decode b_MO_end 11 = .ok (.dload_n 1, 1) := by decide +kernel
theorem d_MO_end_12 : decode b_MO_end 12 = .ok (.putfield 158, 3) := by decide +kernel
theorem d_MO_end_15 : decode b_MO_end 15 = .ok (.aload_n 0, 1) := by decide +kernel
theorem d_MO_end_16 : decode b_MO_end 16 = .ok (.aload_n 0, 1) := by decide +kernel
theorem d_MO_end_17 : decode b_MO_end 17 = .ok (.getfield 78, 3) := by decide +kernel
theorem d_MO_end_20 : decode b_MO_end 20 = .ok (.aload_n 0, 1) := by decide +kernel
theorem d_MO_end_21 : decode b_MO_end 21 = .ok (.getfield 146, 3) := by decide +kernel
theorem d_MO_end_24 : decode b_MO_end 24 = .ok (.iaload, 1) := by decide +kernel
theorem d_MO_end_25 : decode b_MO_end 25 = .ok (.putfield 149, 3) := by decide +kernel
theorem d_MO_end_28 : decode b_MO_end 28 = .ok (.aload_n 0, 1) := by decide +kernel
theorem d_MO_end_29 : decode b_MO_end 29 = .ok (.aload_n 0, 1) := by decide +kernel
theorem d_MO_end_30 : decode b_MO_end 30 = .ok (.getfield 81, 3) := by decide +kernel
theorem d_MO_end_33 : decode b_MO_end 33 = .ok (.aload_n 0, 1) := by decide +kernel
theorem d_MO_end_34 : decode b_MO_end 34 = .ok (.getfield 146, 3) := by decide +kernel
theorem d_MO_end_37 : decode b_MO_end 37 = .ok (.iaload, 1) := by decide +kernel
theorem d_MO_end_38 : decode b_MO_end 38 = .ok (.putfield 152, 3) := by decide +kernel
theorem d_MO_end_41 : decode b_MO_end 41 = .ok (.return_, 1) := by decide +kernel
theorem d_MO_place_0 : decode b_MO_place 0 = .ok (.dload_n 1, 1) := by decide +kernel
theorem d_MO_place_1 : decode b_MO_place 1 = .ok (.aload_n 0, 1) := by decide +kernel
theorem d_MO_place_2 : decode b_MO_place 2 = .ok (.getfield 38, 3) := by decide +kernel
theorem d_MO_place_5 : decode b_MO_place 5 = .ok (.i2d, 1) := by decide +kernel
theorem d_MO_place_6 : decode b_MO_place 6 = .ok (.dcmp .l, 1) := by decide +kernel
theorem d_MO_place_7 : decode b_MO_place 7 = .ok (.ifCond .lt 33, 3) := by decide +kernel
theorem d_MO_place_10 : decode b_MO_place 10 = .ok (.dload_n 1, 1) := by decide +kernel
theorem d_MO_place_11 : decode b_MO_place 11 = .ok (.aload_n 0, 1) := by decide +kernel
theorem d_MO_place_12 : decode b_MO_place 12 = .ok (.getfield 42, 3) := by decide +kernel
theorem d_MO_place_15 : decode b_MO_place 15 = .ok (.i2d, 1) := by decide +kernel
theorem d_MO_place_16 : decode b_MO_place 16 = .ok (.dcmp .g, 1) := by decide +kernel
theorem d_MO_place_17 : decode b_MO_place 17 = .ok (.ifCond .gt 23, 3) := by decide +kernel
theorem d_MO_place_20 : decode b_MO_place 20 = .ok (.dload_n 3, 1) := by decide +kernel
theorem d_MO_place_21 : decode b_MO_place 21 = .ok (.aload_n 0, 1) := by decide +kernel
theorem d_MO_place_22 : decode b_MO_place 22 = .ok (.getfield 45, 3) := by decide +kernel
theorem d_MO_place_25 : decode b_MO_place 25 = .ok (.i2d, 1) := by decide +kernel
theorem d_MO_place_26 : decode b_MO_place 26 = .ok (.dcmp .l, 1) := by decide +kernel
theorem d_MO_place_27 : decode b_MO_place 27 = .ok (.ifCond .lt 13, 3) := by decide +kernel
theorem d_MO_place_30 : decode b_MO_place 30 = .ok (.dload_n 3, 1) := by decide +kernel
theorem d_MO_place_31 : decode b_MO_place 31 = .ok (.aload_n 0, 1) := by decide +kernel
theorem d_MO_place_32 : decode b_MO_place 32 = .ok (.getfield 48, 3) := by decide +kernel
theorem d_MO_place_35 : decode b_MO_place 35 = .ok (.i2d, 1) := by decide +kernel
theorem d_MO_place_36 : decode b_MO_place 36 = .ok (.dcmp .g, 1) := by decide +kernel
theorem d_MO_place_37 : decode b_MO_place 37 = .ok (.ifCond .le 5, 3) := by decide +kernel
theorem d_MO_place_40 : decode b_MO_place 40 = .ok (.iconst (-1), 1) := by decide +kernel
theorem d_MO_place_41 : decode b_MO_place 41 = .ok (.ireturn, 1) := by decide +kernel
theorem d_MO_place_42 : decode b_MO_place 42 = .ok (.iconst 5, 1) := by decide +kernel
theorem d_MO_place_43 : decode b_MO_place 43 = .ok (.dload_n 1, 1) := by decide +kernel
theorem d_MO_place_44 : decode b_MO_place 44 = .ok (.aload_n 0, 1) := by decide +kernel
theorem d_MO_place_45 : decode b_MO_place 45 = .ok (.getfield 38, 3) := by decide +kernel
theorem d_MO_place_48 : decode b_MO_place 48 = .ok (.i2d, 1) := by decide +kernel
theorem d_MO_place_49 : decode b_MO_place 49 = .ok (.dsub, 1) := by decide +kernel
theorem d_MO_place_50 : decode b_MO_place 50 = .ok (.d2i, 1) := by decide +kernel
theorem d_MO_place_51 : decode b_MO_place 51 = .ok (.imul, 1) := by decide +kernel
theorem d_MO_place_52 : decode b_MO_place 52 = .ok (.dload_n 3, 1) := by decide +kernel
theorem d_MO_place_53 : decode b_MO_place 53 = .ok (.aload_n 0, 1) := by decide +kernel
theorem d_MO_place_54 : decode b_MO_place 54 = .ok (.getfield 45, 3) := by decide +kernel
theorem d_MO_place_57 : decode b_MO_place 57 = .ok (.i2d, 1) := by decide +kernel
theorem d_MO_place_58 : decode b_MO_place 58 = .ok (.dsub, 1) := by decide +kernel
theorem d_MO_place_59 : decode b_MO_place 59 = .ok (.d2i, 1) := by decide +kernel
theorem d_MO_place_60 : decode b_MO_place 60 = .ok (.iadd, 1) := by decide +kernel
theorem d_MO_place_61 : decode b_MO_place 61 = .ok (.ireturn, 1) := by decide +kernel
theorem d_MO_sum_0 : decode b_MO_sum 0 = .ok (.dconst 0, 1) := by decide +kernel
theorem d_MO_sum_1 : decode b_MO_sum 1 = .ok (.dstore 6, 2) := by decide +kernel
theorem d_MO_sum_3 : decode b_MO_sum 3 = .ok (.iload_n 1, 1) := by decide +kernel
theorem d_MO_sum_4 : decode b_MO_sum 4 = .ok (.bipush 7, 2) := by decide +kernel
theorem d_MO_sum_6 : decode b_MO_sum 6 = .ok (.if_icmp .ne 44, 3) := by decide +kernel
theorem d_MO_sum_9 : decode b_MO_sum 9 = .ok (.dload_n 2, 1) := by decide +kernel
theorem d_MO_sum_10 : decode b_MO_sum 10 = .ok (.invokestatic 132, 3) := by decide +kernel
theorem d_MO_sum_13 : decode b_MO_sum 13 = .ok (.d2l, 1) := by decide +kernel
theorem d_MO_sum_14 : decode b_MO_sum 14 = .ok (.lstore 8, 2) := by decide +kernel
theorem d_MO_sum_16 : decode b_MO_sum 16 = .ok (.dload 4, 2) := by decide +kernel
theorem d_MO_sum_18 : decode b_MO_sum 18 = .ok (.invokestatic 132, 3) := by decide +kernel
theorem d_MO_sum_21 : decode b_MO_sum 21 = .ok (.d2l, 1) := by decide +kernel
theorem d_MO_sum_22 : decode b_MO_sum 22 = .ok (.lstore 10, 2) := by decide +kernel
theorem d_MO_sum_24 : decode b_MO_sum 24 = .ok (.lload 10, 2) := by decide +kernel
theorem d_MO_sum_26 : decode b_MO_sum 26 = .ok (.lconst 0, 1) := by decide +kernel
theorem d_MO_sum_27 : decode b_MO_sum 27 = .ok (.lcmp, 1) := by decide +kernel
theorem d_MO_sum_28 : decode b_MO_sum 28 = .ok (.ifCond .ne 11, 3) := by decide +kernel
theorem d_MO_sum_31 : decode b_MO_sum 31 = .ok (.aload_n 0, 1) := by decide +kernel
theorem d_MO_sum_32 : decode b_MO_sum 32 = .ok (.iconst 1, 1) := by decide +kernel
theorem d_MO_sum_33 : decode b_MO_sum 33 = .ok (.invokevirtual 142, 3) := by decide +kernel
theorem d_MO_sum_36 : decode b_MO_sum 36 = .ok (.goto 11, 3) := by decide +kernel
theorem d_MO_sum_39 : decode b_MO_sum 39 = .ok (.lload 8, 2) := by decide +kernel
theorem d_MO_sum_41 : decode b_MO_sum 41 = .ok (.lload 10, 2) := by decide +kernel
theorem d_MO_sum_43 : decode b_MO_sum 43 = .ok (.ldiv, 1) := by decide +kernel
theorem d_MO_sum_44 : decode b_MO_sum 44 = .ok (.l2d, 1) := by decide +kernel
theorem d_MO_sum_45 : decode b_MO_sum 45 = .ok (.dstore 6, 2) := by decide +kernel
theorem d_MO_sum_47 : decode b_MO_sum 47 = .ok (.goto 109, 3) := by decide +kernel
theorem d_MO_sum_50 : decode b_MO_sum 50 = .ok (.iload_n 1, 1) := by decide +kernel
theorem d_MO_sum_51 : decode b_MO_sum 51 = .ok (.bipush 8, 2) := by decide +kernel
theorem d_MO_sum_53 : decode b_MO_sum 53 = .ok (.if_icmp .ne 20, 3) := by decide +kernel
theorem d_MO_sum_56 : decode b_MO_sum 56 = .ok (.dload_n 2, 1) := by decide +kernel
theorem d_MO_sum_57 : decode b_MO_sum 57 = .ok (.dload 4, 2) := by decide +kernel
theorem d_MO_sum_59 : decode b_MO_sum 59 = .ok (.dcmp .g, 1) := by decide +kernel
theorem d_MO_sum_60 : decode b_MO_sum 60 = .ok (.ifCond .ge 7, 3) := by decide +kernel
theorem d_MO_sum_63 : decode b_MO_sum 63 = .ok (.dconst 1, 1) := by decide +kernel
theorem d_MO_sum_64 : decode b_MO_sum 64 = .ok (.goto 4, 3) := by decide +kernel
theorem d_MO_sum_67 : decode b_MO_sum 67 = .ok (.dconst 0, 1) := by decide +kernel
theorem d_MO_sum_68 : decode b_MO_sum 68 = .ok (.dstore 6, 2) := by decide +kernel
theorem d_MO_sum_70 : decode b_MO_sum 70 = .ok (.goto 86, 3) := by decide +kernel
theorem d_MO_sum_73 : decode b_MO_sum 73 = .ok (.iload_n 1, 1) := by decide +kernel
theorem d_MO_sum_74 : decode b_MO_sum 74 = .ok (.bipush 6, 2) := by decide +kernel
theorem d_MO_sum_76 : decode b_MO_sum 76 = .ok (.if_icmp .ne 18, 3) := by decide +kernel
theorem d_MO_sum_79 : decode b_MO_sum 79 = .ok (.dload 4, 2) := by decide +kernel
theorem d_MO_sum_81 : decode b_MO_sum 81 = .ok (.dconst 0, 1) := by decide +kernel
theorem d_MO_sum_82 : decode b_MO_sum 82 = .ok (.dcmp .l, 1) := by decide +kernel
theorem d_MO_sum_83 : decode b_MO_sum 83 = .ok (.ifCond .ne 11, 3) := by decide +kernel
theorem d_MO_sum_86 : decode b_MO_sum 86 = .ok (.aload_n 0, 1) := by decide +kernel
theorem d_MO_sum_87 : decode b_MO_sum 87 = .ok (.iconst 1, 1) := by decide +kernel
theorem d_MO_sum_88 : decode b_MO_sum 88 = .ok (.invokevirtual 142, 3) := by decide +kernel
theorem d_MO_sum_91 : decode b_MO_sum 91 = .ok (.goto 65, 3) := by decide +kernel
theorem d_MO_sum_94 : decode b_MO_sum 94 = .ok (.iload_n 1, 1) := by decide +kernel
theorem d_MO_sum_95 : decode b_MO_sum 95 = .ok (.iconst 3, 1) := by decide +kernel
theorem d_MO_sum_96 : decode b_MO_sum 96 = .ok (.if_icmp .ne 10, 3) := by decide +kernel
theorem d_MO_sum_99 : decode b_MO_sum 99 = .ok (.dload_n 2, 1) := by decide +kernel
theorem d_MO_sum_100 : decode b_MO_sum 100 = .ok (.dload 4, 2) := by decide +kernel
theorem d_MO_sum_102 : decode b_MO_sum 102 = .ok (.dadd, 1) := by decide +kernel
theorem d_MO_sum_103 : decode b_MO_sum 103 = .ok (.goto 31, 3) := by decide +kernel
theorem d_MO_sum_106 : decode b_MO_sum 106 = .ok (.iload_n 1, 1) := by decide +kernel
theorem d_MO_sum_107 : decode b_MO_sum 107 = .ok (.iconst 4, 1) := by decide +kernel
theorem d_MO_sum_108 : decode b_MO_sum 108 = .ok (.if_icmp .ne 10, 3) := by decide +kernel
theorem d_MO_sum_111 : decode b_MO_sum 111 = .ok (.dload_n 2, 1) := by decide +kernel
theorem d_MO_sum_112 : decode b_MO_sum 112 = .ok (.dload 4, 2) := by decide +kernel
theorem d_MO_sum_114 : decode b_MO_sum 114 = .ok (.dsub, 1) := by decide +kernel
theorem d_MO_sum_115 : decode b_MO_sum 115 = .ok (.goto 19, 3) := by decide +kernel
theorem d_MO_sum_118 : decode b_MO_sum 118 = .ok (.iload_n 1, 1) := by decide +kernel
theorem d_MO_sum_119 : decode b_MO_sum 119 = .ok (.iconst 5, 1) := by decide +kernel
theorem d_MO_sum_120 : decode b_MO_sum 120 = .ok (.if_icmp .ne 10, 3) := by decide +kernel
theorem d_MO_sum_123 : decode b_MO_sum 123 = .ok (.dload_n 2, 1) := by decide +kernel
theorem d_MO_sum_124 : decode b_MO_sum 124 = .ok (.dload 4, 2) := by decide +kernel
theorem d_MO_sum_126 : decode b_MO_sum 126 = .ok (.dmul, 1) := by decide +kernel
theorem d_MO_sum_127 : decode b_MO_sum 127 = .ok (.goto 7, 3) := by decide +kernel
theorem d_MO_sum_130 : decode b_MO_sum 130 = .ok (.dload_n 2, 1) := by decide +kernel
theorem d_MO_sum_131 : decode b_MO_sum 131 = .ok (.dload 4, 2) := by decide +kernel
theorem d_MO_sum_133 : decode b_MO_sum 133 = .ok (.ddiv, 1) := by decide +kernel
theorem d_MO_sum_134 : decode b_MO_sum 134 = .ok (.dstore 6, 2) := by decide +kernel
theorem d_MO_sum_136 : decode b_MO_sum 136 = .ok (.aload_n 0, 1) := by decide +kernel
theorem d_MO_sum_137 : decode b_MO_sum 137 = .ok (.getfield 136, 3) := by decide +kernel
theorem d_MO_sum_140 : decode b_MO_sum 140 = .ok (.ifCond .ne 16, 3) := by decide +kernel
theorem d_MO_sum_143 : decode b_MO_sum 143 = .ok (.dload 6, 2) := by decide +kernel
theorem d_MO_sum_145 : decode b_MO_sum 145 = .ok (.invokestatic 128, 3) := by decide +kernel
theorem d_MO_sum_148 : decode b_MO_sum 148 = .ok (.ifCond .ne 8, 3) := by decide +kernel
theorem d_MO_sum_151 : decode b_MO_sum 151 = .ok (.aload_n 0, 1) := by decide +kernel
theorem d_MO_sum_152 : decode b_MO_sum 152 = .ok (.iconst 2, 1) := by decide +kernel
theorem d_MO_sum_153 : decode b_MO_sum 153 = .ok (.invokevirtual 142, 3) := by decide +kernel
theorem d_MO_sum_156 : decode b_MO_sum 156 = .ok (.aload_n 0, 1) := by decide +kernel
theorem d_MO_sum_157 : decode b_MO_sum 157 = .ok (.getfield 136, 3) := by decide +kernel
theorem d_MO_sum_160 : decode b_MO_sum 160 = .ok (.ifCond .ne 9, 3) := by decide +kernel
theorem d_MO_sum_163 : decode b_MO_sum 163 = .ok (.aload_n 0, 1) := by decide +kernel
theorem d_MO_sum_164 : decode b_MO_sum 164 = .ok (.dload 6, 2) := by decide +kernel
theorem d_MO_sum_166 : decode b_MO_sum 166 = .ok (.invokevirtual 162, 3) := by decide +kernel
theorem d_MO_sum_169 : decode b_MO_sum 169 = .ok (.return_, 1) := by decide +kernel
theorem d_MO_pair_0 : decode b_MO_pair 0 = .ok (.aload_n 0, 1) := by decide +kernel
theorem d_MO_pair_1 : decode b_MO_pair 1 = .ok (.getfield 75, 3) := by decide +kernel
theorem d_MO_pair_4 : decode b_MO_pair 4 = .ok (.iload_n 1, 1) := by decide +kernel
theorem d_MO_pair_5 : decode b_MO_pair 5 = .ok (.iaload, 1) := by decide +kernel
theorem d_MO_pair_6 : decode b_MO_pair 6 = .ok (.istore_n 3, 1) := by decide +kernel
theorem d_MO_pair_7 : decode b_MO_pair 7 = .ok (.aload_n 0, 1) := by decide +kernel
theorem d_MO_pair_8 : decode b_MO_pair 8 = .ok (.getfield 75, 3) := by decide +kernel
theorem d_MO_pair_11 : decode b_MO_pair 11 = .ok (.iload_n 1, 1) := by decide +kernel
theorem d_MO_pair_12 : decode b_MO_pair 12 = .ok (.dup2, 1) := by decide +kernel
theorem d_MO_pair_13 : decode b_MO_pair 13 = .ok (.iaload, 1) := by decide +kernel
theorem d_MO_pair_14 : decode b_MO_pair 14 = .ok (.iconst 1, 1) := by decide +kernel
theorem d_MO_pair_15 : decode b_MO_pair 15 = .ok (.iadd, 1) := by decide +kernel
theorem d_MO_pair_16 : decode b_MO_pair 16 = .ok (.iastore, 1) := by decide +kernel
theorem d_MO_pair_17 : decode b_MO_pair 17 = .ok (.iload_n 3, 1) := by decide +kernel
theorem d_MO_pair_18 : decode b_MO_pair 18 = .ok (.ifCond .ne 22, 3) := by decide +kernel
theorem d_MO_pair_21 : decode b_MO_pair 21 = .ok (.aload_n 0, 1) := by decide +kernel
theorem d_MO_pair_22 : decode b_MO_pair 22 = .ok (.aload_n 0, 1) := by decide +kernel
theorem d_MO_pair_23 : decode b_MO_pair 23 = .ok (.getfield 13, 3) := by decide +kernel
theorem d_MO_pair_26 : decode b_MO_pair 26 = .ok (.iload_n 2, 1) := by decide +kernel
theorem d_MO_pair_27 : decode b_MO_pair 27 = .ok (.iaload, 1) := by decide +kernel
theorem d_MO_pair_28 : decode b_MO_pair 28 = .ok (.aload_n 0, 1) := by decide +kernel
theorem d_MO_pair_29 : decode b_MO_pair 29 = .ok (.getfield 72, 3) := by decide +kernel
theorem d_MO_pair_32 : decode b_MO_pair 32 = .ok (.iload_n 1, 1) := by decide +kernel
theorem d_MO_pair_33 : decode b_MO_pair 33 = .ok (.iaload, 1) := by decide +kernel
theorem d_MO_pair_34 : decode b_MO_pair 34 = .ok (.invokevirtual 166, 3) := by decide +kernel
theorem d_MO_pair_37 : decode b_MO_pair 37 = .ok (.goto 116, 3) := by decide +kernel
theorem d_MO_pair_40 : decode b_MO_pair 40 = .ok (.iload_n 3, 1) := by decide +kernel
theorem d_MO_pair_41 : decode b_MO_pair 41 = .ok (.iconst 1, 1) := by decide +kernel
theorem d_MO_pair_42 : decode b_MO_pair 42 = .ok (.if_icmp .ne 32, 3) := by decide +kernel
theorem d_MO_pair_45 : decode b_MO_pair 45 = .ok (.aload_n 0, 1) := by decide +kernel
theorem d_MO_pair_46 : decode b_MO_pair 46 = .ok (.getfield 90, 3) := by decide +kernel
theorem d_MO_pair_49 : decode b_MO_pair 49 = .ok (.iload_n 1, 1) := by decide +kernel
theorem d_MO_pair_50 : decode b_MO_pair 50 = .ok (.aload_n 0, 1) := by decide +kernel
theorem d_MO_pair_51 : decode b_MO_pair 51 = .ok (.getfield 158, 3) := by decide +kernel
theorem d_MO_pair_54 : decode b_MO_pair 54 = .ok (.dastore, 1) := by decide +kernel
theorem d_MO_pair_55 : decode b_MO_pair 55 = .ok (.aload_n 0, 1) := by decide +kernel
theorem d_MO_pair_56 : decode b_MO_pair 56 = .ok (.aload_n 0, 1) := by decide +kernel
theorem d_MO_pair_57 : decode b_MO_pair 57 = .ok (.getfield 16, 3) := by decide +kernel
theorem d_MO_pair_60 : decode b_MO_pair 60 = .ok (.iload_n 2, 1) := by decide +kernel
theorem d_MO_pair_61 : decode b_MO_pair 61 = .ok (.iaload, 1) := by decide +kernel
theorem d_MO_pair_62 : decode b_MO_pair 62 = .ok (.aload_n 0, 1) := by decide +kernel
theorem d_MO_pair_63 : decode b_MO_pair 63 = .ok (.getfield 72, 3) := by decide +kernel
theorem d_MO_pair_66 : decode b_MO_pair 66 = .ok (.iload_n 1, 1) := by decide +kernel
theorem d_MO_pair_67 : decode b_MO_pair 67 = .ok (.iaload, 1) := by decide +kernel
theorem d_MO_pair_68 : decode b_MO_pair 68 = .ok (.invokevirtual 166, 3) := by decide +kernel
theorem d_MO_pair_71 : decode b_MO_pair 71 = .ok (.goto 82, 3) := by decide +kernel
theorem d_MO_pair_74 : decode b_MO_pair 74 = .ok (.aload_n 0, 1) := by decide +kernel
theorem d_MO_pair_75 : decode b_MO_pair 75 = .ok (.getfield 7, 3) := by decide +kernel
theorem d_MO_pair_78 : decode b_MO_pair 78 = .ok (.iload_n 2, 1) := by decide +kernel
theorem d_MO_pair_79 : decode b_MO_pair 79 = .ok (.iaload, 1) := by decide +kernel
theorem d_MO_pair_80 : decode b_MO_pair 80 = .ok (.iconst 2, 1) := by decide +kernel
theorem d_MO_pair_81 : decode b_MO_pair 81 = .ok (.if_icmp .eq 26, 3) := by decide +kernel
theorem d_MO_pair_84 : decode b_MO_pair 84 = .ok (.aload_n 0, 1) := by decide +kernel
theorem d_MO_pair_85 : decode b_MO_pair 85 = .ok (.aload_n 0, 1) := by decide +kernel
theorem d_MO_pair_86 : decode b_MO_pair 86 = .ok (.getfield 7, 3) := by decide +kernel
theorem d_MO_pair_89 : decode b_MO_pair 89 = .ok (.iload_n 2, 1) := by decide +kernel
theorem d_MO_pair_90 : decode b_MO_pair 90 = .ok (.iaload, 1) := by decide +kernel
theorem d_MO_pair_91 : decode b_MO_pair 91 = .ok (.aload_n 0, 1) := by decide +kernel
theorem d_MO_pair_92 : decode b_MO_pair 92 = .ok (.getfield 90, 3) := by decide +kernel
theorem d_MO_pair_95 : decode b_MO_pair 95 = .ok (.iload_n 1, 1) := by decide +kernel
theorem d_MO_pair_96 : decode b_MO_pair 96 = .ok (.daload, 1) := by decide +kernel
theorem d_MO_pair_97 : decode b_MO_pair 97 = .ok (.aload_n 0, 1) := by decide +kernel
theorem d_MO_pair_98 : decode b_MO_pair 98 = .ok (.getfield 158, 3) := by decide +kernel
theorem d_MO_pair_101 : decode b_MO_pair 101 = .ok (.invokevirtual 170, 3) := by decide +kernel
theorem d_MO_pair_104 : decode b_MO_pair 104 = .ok (.goto 49, 3) := by decide +kernel
theorem d_MO_pair_107 : decode b_MO_pair 107 = .ok (.aload_n 0, 1) := by decide +kernel
theorem d_MO_pair_108 : decode b_MO_pair 108 = .ok (.aload_n 0, 1) := by decide +kernel
theorem d_MO_pair_109 : decode b_MO_pair 109 = .ok (.getfield 90, 3) := by decide +kernel
theorem d_MO_pair_112 : decode b_MO_pair 112 = .ok (.iload_n 1, 1) := by decide +kernel
theorem d_MO_pair_113 : decode b_MO_pair 113 = .ok (.daload, 1) := by decide +kernel
theorem d_MO_pair_114 : decode b_MO_pair 114 = .ok (.invokestatic 132, 3) := by decide +kernel
theorem d_MO_pair_117 : decode b_MO_pair 117 = .ok (.aload_n 0, 1) := by decide +kernel
theorem d_MO_pair_118 : decode b_MO_pair 118 = .ok (.getfield 158, 3) := by decide +kernel
theorem d_MO_pair_121 : decode b_MO_pair 121 = .ok (.invokestatic 132, 3) := by decide +kernel
theorem d_MO_pair_124 : decode b_MO_pair 124 = .ok (.invokevirtual 174, 3) := by decide +kernel
theorem d_MO_pair_127 : decode b_MO_pair 127 = .ok (.istore 4, 2) := by decide +kernel
theorem d_MO_pair_129 : decode b_MO_pair 129 = .ok (.iload 4, 2) := by decide +kernel
theorem d_MO_pair_131 : decode b_MO_pair 131 = .ok (.ifCond .ge 11, 3) := by decide +kernel
theorem d_MO_pair_134 : decode b_MO_pair 134 = .ok (.aload_n 0, 1) := by decide +kernel
theorem d_MO_pair_135 : decode b_MO_pair 135 = .ok (.iconst 3, 1) := by decide +kernel
theorem d_MO_pair_136 : decode b_MO_pair 136 = .ok (.invokevirtual 142, 3) := by decide +kernel
theorem d_MO_pair_139 : decode b_MO_pair 139 = .ok (.goto 14, 3) := by decide +kernel
theorem d_MO_pair_142 : decode b_MO_pair 142 = .ok (.aload_n 0, 1) := by decide +kernel
theorem d_MO_pair_143 : decode b_MO_pair 143 = .ok (.aload_n 0, 1) := by decide +kernel
theorem d_MO_pair_144 : decode b_MO_pair 144 = .ok (.getfield 35, 3) := by decide +kernel
theorem d_MO_pair_147 : decode b_MO_pair 147 = .ok (.iload 4, 2) := by decide +kernel
theorem d_MO_pair_149 : decode b_MO_pair 149 = .ok (.daload, 1) := by decide +kernel
theorem d_MO_pair_150 : decode b_MO_pair 150 = .ok (.invokevirtual 162, 3) := by decide +kernel
theorem d_MO_pair_153 : decode b_MO_pair 153 = .ok (.return_, 1) := by decide +kernel
theorem d_MO_isThere_0 : decode b_MO_isThere 0 = .ok (.iload_n 1, 1) := by decide +kernel
theorem d_MO_isThere_1 : decode b_MO_isThere 1 = .ok (.ifCond .le 17, 3) := by decide +kernel
theorem d_MO_isThere_4 : decode b_MO_isThere 4 = .ok (.iload_n 2, 1) := by decide +kernel
theorem d_MO_isThere_5 : decode b_MO_isThere 5 = .ok (.aload_n 0, 1) := by decide +kernel
theorem d_MO_isThere_6 : decode b_MO_isThere 6 = .ok (.getfield 57, 3) := by decide +kernel
theorem d_MO_isThere_9 : decode b_MO_isThere 9 = .ok (.iload_n 1, 1) := by decide +kernel
theorem d_MO_isThere_10 : decode b_MO_isThere 10 = .ok (.iaload, 1) := by decide +kernel
theorem d_MO_isThere_11 : decode b_MO_isThere 11 = .ok (.if_icmp .ge 7, 3) := by decide +kernel
theorem d_MO_isThere_14 : decode b_MO_isThere 14 = .ok (.iconst 1, 1) := by decide +kernel
theorem d_MO_isThere_15 : decode b_MO_isThere 15 = .ok (.goto 4, 3) := by decide +kernel
theorem d_MO_isThere_18 : decode b_MO_isThere 18 = .ok (.iconst 0, 1) := by decide +kernel
theorem d_MO_isThere_19 : decode b_MO_isThere 19 = .ok (.ireturn, 1) := by decide +kernel
theorem d_MO_isName_0 : decode b_MO_isName 0 = .ok (.aload_n 0, 1) := by decide +kernel
theorem d_MO_isName_1 : decode b_MO_isName 1 = .ok (.getfield 60, 3) := by decide +kernel
theorem d_MO_isName_4 : decode b_MO_isName 4 = .ok (.iload_n 1, 1) := by decide +kernel
theorem d_MO_isName_5 : decode b_MO_isName 5 = .ok (.iaload, 1) := by decide +kernel
theorem d_MO_isName_6 : decode b_MO_isName 6 = .ok (.iload_n 2, 1) := by decide +kernel
theorem d_MO_isName_7 : decode b_MO_isName 7 = .ok (.ishr, 1) := by decide +kernel
theorem d_MO_isName_8 : decode b_MO_isName 8 = .ok (.iconst 1, 1) := by decide +kernel
theorem d_MO_isName_9 : decode b_MO_isName 9 = .ok (.iand, 1) := by decide +kernel
theorem d_MO_isName_10 : decode b_MO_isName 10 = .ok (.iconst 1, 1) := by decide +kernel
theorem d_MO_isName_11 : decode b_MO_isName 11 = .ok (.if_icmp .ne 7, 3) := by decide +kernel
theorem d_MO_isName_14 : decode b_MO_isName 14 = .ok (.iconst 1, 1) := by decide +kernel
theorem d_MO_isName_15 : decode b_MO_isName 15 = .ok (.goto 4, 3) := by decide +kernel
theorem d_MO_isName_18 : decode b_MO_isName 18 = .ok (.iconst 0, 1) := by decide +kernel
theorem d_MO_isName_19 : decode b_MO_isName 19 = .ok (.ireturn, 1) := by decide +kernel
theorem d_MO_parameter_0 : decode b_MO_parameter 0 = .ok (.aload_n 0, 1) := by decide +kernel
theorem d_MO_parameter_1 : decode b_MO_parameter 1 = .ok (.getfield 72, 3) := by decide +kernel
theorem d_MO_parameter_4 : decode b_MO_parameter 4 = .ok (.iload_n 1, 1) := by decide +kernel
theorem d_MO_parameter_5 : decode b_MO_parameter 5 = .ok (.iaload, 1) := by decide +kernel
theorem d_MO_parameter_6 : decode b_MO_parameter 6 = .ok (.istore_n 3, 1) := by decide +kernel
theorem d_MO_parameter_7 : decode b_MO_parameter 7 = .ok (.aload_n 0, 1) := by decide +kernel
theorem d_MO_parameter_8 : decode b_MO_parameter 8 = .ok (.getfield 75, 3) := by decide +kernel
theorem d_MO_parameter_11 : decode b_MO_parameter 11 = .ok (.iload_n 1, 1) := by decide +kernel
theorem d_MO_parameter_12 : decode b_MO_parameter 12 = .ok (.iaload, 1) := by decide +kernel
theorem d_MO_parameter_13 : decode b_MO_parameter 13 = .ok (.ifCond .le 14, 3) := by decide +kernel
theorem d_MO_parameter_16 : decode b_MO_parameter 16 = .ok (.aload_n 0, 1) := by decide +kernel
theorem d_MO_parameter_17 : decode b_MO_parameter 17 = .ok (.aload_n 0, 1) := by decide +kernel
theorem d_MO_parameter_18 : decode b_MO_parameter 18 = .ok (.getfield 158, 3) := by decide +kernel
theorem d_MO_parameter_21 : decode b_MO_parameter 21 = .ok (.invokevirtual 162, 3) := by decide +kernel
theorem d_MO_parameter_24 : decode b_MO_parameter 24 = .ok (.goto 109, 3) := by decide +kernel
theorem d_MO_parameter_27 : decode b_MO_parameter 27 = .ok (.aload_n 0, 1) := by decide +kernel
theorem d_MO_parameter_28 : decode b_MO_parameter 28 = .ok (.iload_n 3, 1) := by decide +kernel
theorem d_MO_parameter_29 : decode b_MO_parameter 29 = .ok (.iload_n 2, 1) := by decide +kernel
theorem d_MO_parameter_30 : decode b_MO_parameter 30 = .ok (.invokevirtual 178, 3) := by decide +kernel
theorem d_MO_parameter_33 : decode b_MO_parameter 33 = .ok (.ifCond .ne 11, 3) := by decide +kernel
theorem d_MO_parameter_36 : decode b_MO_parameter 36 = .ok (.aload_n 0, 1) := by decide +kernel
theorem d_MO_parameter_37 : decode b_MO_parameter 37 = .ok (.iconst 4, 1) := by decide +kernel
theorem d_MO_parameter_38 : decode b_MO_parameter 38 = .ok (.invokevirtual 142, 3) := by decide +kernel
theorem d_MO_parameter_41 : decode b_MO_parameter 41 = .ok (.goto 92, 3) := by decide +kernel
theorem d_MO_parameter_44 : decode b_MO_parameter 44 = .ok (.aload_n 0, 1) := by decide +kernel
theorem d_MO_parameter_45 : decode b_MO_parameter 45 = .ok (.iload_n 3, 1) := by decide +kernel
theorem d_MO_parameter_46 : decode b_MO_parameter 46 = .ok (.iload_n 2, 1) := by decide +kernel
theorem d_MO_parameter_47 : decode b_MO_parameter 47 = .ok (.invokevirtual 181, 3) := by decide +kernel
theorem d_MO_parameter_50 : decode b_MO_parameter 50 = .ok (.ifCond .ne 20, 3) := by decide +kernel
theorem d_MO_parameter_53 : decode b_MO_parameter 53 = .ok (.aload_n 0, 1) := by decide +kernel
theorem d_MO_parameter_54 : decode b_MO_parameter 54 = .ok (.aload_n 0, 1) := by decide +kernel
theorem d_MO_parameter_55 : decode b_MO_parameter 55 = .ok (.getfield 63, 3) := by decide +kernel
theorem d_MO_parameter_58 : decode b_MO_parameter 58 = .ok (.iconst 2, 1) := by decide +kernel
theorem d_MO_parameter_59 : decode b_MO_parameter 59 = .ok (.iload_n 3, 1) := by decide +kernel
theorem d_MO_parameter_60 : decode b_MO_parameter 60 = .ok (.imul, 1) := by decide +kernel
theorem d_MO_parameter_61 : decode b_MO_parameter 61 = .ok (.iload_n 2, 1) := by decide +kernel
theorem d_MO_parameter_62 : decode b_MO_parameter 62 = .ok (.iadd, 1) := by decide +kernel
theorem d_MO_parameter_63 : decode b_MO_parameter 63 = .ok (.daload, 1) := by decide +kernel
theorem d_MO_parameter_64 : decode b_MO_parameter 64 = .ok (.invokevirtual 162, 3) := by decide +kernel
theorem d_MO_parameter_67 : decode b_MO_parameter 67 = .ok (.goto 66, 3) := by decide +kernel
theorem d_MO_parameter_70 : decode b_MO_parameter 70 = .ok (.aload_n 0, 1) := by decide +kernel
theorem d_MO_parameter_71 : decode b_MO_parameter 71 = .ok (.getfield 51, 3) := by decide +kernel
theorem d_MO_parameter_74 : decode b_MO_parameter 74 = .ok (.iconst 2, 1) := by decide +kernel
theorem d_MO_parameter_75 : decode b_MO_parameter 75 = .ok (.iload_n 3, 1) := by decide +kernel
theorem d_MO_parameter_76 : decode b_MO_parameter 76 = .ok (.imul, 1) := by decide +kernel
theorem d_MO_parameter_77 : decode b_MO_parameter 77 = .ok (.iload_n 2, 1) := by decide +kernel
theorem d_MO_parameter_78 : decode b_MO_parameter 78 = .ok (.iadd, 1) := by decide +kernel
theorem d_MO_parameter_79 : decode b_MO_parameter 79 = .ok (.iaload, 1) := by decide +kernel
theorem d_MO_parameter_80 : decode b_MO_parameter 80 = .ok (.ifCond .ge 11, 3) := by decide +kernel
theorem d_MO_parameter_83 : decode b_MO_parameter 83 = .ok (.aload_n 0, 1) := by decide +kernel
theorem d_MO_parameter_84 : decode b_MO_parameter 84 = .ok (.iconst 4, 1) := by decide +kernel
theorem d_MO_parameter_85 : decode b_MO_parameter 85 = .ok (.invokevirtual 142, 3) := by decide +kernel
theorem d_MO_parameter_88 : decode b_MO_parameter 88 = .ok (.goto 45, 3) := by decide +kernel
theorem d_MO_parameter_91 : decode b_MO_parameter 91 = .ok (.aload_n 0, 1) := by decide +kernel
theorem d_MO_parameter_92 : decode b_MO_parameter 92 = .ok (.getfield 75, 3) := by decide +kernel
theorem d_MO_parameter_95 : decode b_MO_parameter 95 = .ok (.iload_n 1, 1) := by decide +kernel
theorem d_MO_parameter_96 : decode b_MO_parameter 96 = .ok (.iconst 1, 1) := by decide +kernel
theorem d_MO_parameter_97 : decode b_MO_parameter 97 = .ok (.iastore, 1) := by decide +kernel
theorem d_MO_parameter_98 : decode b_MO_parameter 98 = .ok (.aload_n 0, 1) := by decide +kernel
theorem d_MO_parameter_99 : decode b_MO_parameter 99 = .ok (.invokevirtual 184, 3) := by decide +kernel
theorem d_MO_parameter_102 : decode b_MO_parameter 102 = .ok (.aload_n 0, 1) := by decide +kernel
theorem d_MO_parameter_103 : decode b_MO_parameter 103 = .ok (.getfield 136, 3) := by decide +kernel
theorem d_MO_parameter_106 : decode b_MO_parameter 106 = .ok (.ifCond .ne 27, 3) := by decide +kernel
theorem d_MO_parameter_109 : decode b_MO_parameter 109 = .ok (.aload_n 0, 1) := by decide +kernel
theorem d_MO_parameter_110 : decode b_MO_parameter 110 = .ok (.aload_n 0, 1) := by decide +kernel
theorem d_MO_parameter_111 : decode b_MO_parameter 111 = .ok (.getfield 51, 3) := by decide +kernel
theorem d_MO_parameter_114 : decode b_MO_parameter 114 = .ok (.iconst 2, 1) := by decide +kernel
theorem d_MO_parameter_115 : decode b_MO_parameter 115 = .ok (.iload_n 3, 1) := by decide +kernel
theorem d_MO_parameter_116 : decode b_MO_parameter 116 = .ok (.imul, 1) := by decide +kernel
theorem d_MO_parameter_117 : decode b_MO_parameter 117 = .ok (.iload_n 2, 1) := by decide +kernel
theorem d_MO_parameter_118 : decode b_MO_parameter 118 = .ok (.iadd, 1) := by decide +kernel
theorem d_MO_parameter_119 : decode b_MO_parameter 119 = .ok (.iaload, 1) := by decide +kernel
theorem d_MO_parameter_120 : decode b_MO_parameter 120 = .ok (.aload_n 0, 1) := by decide +kernel
theorem d_MO_parameter_121 : decode b_MO_parameter 121 = .ok (.getfield 54, 3) := by decide +kernel
theorem d_MO_parameter_124 : decode b_MO_parameter 124 = .ok (.iconst 2, 1) := by decide +kernel
theorem d_MO_parameter_125 : decode b_MO_parameter 125 = .ok (.iload_n 3, 1) := by decide +kernel
theorem d_MO_parameter_126 : decode b_MO_parameter 126 = .ok (.imul, 1) := by decide +kernel
theorem d_MO_parameter_127 : decode b_MO_parameter 127 = .ok (.iload_n 2, 1) := by decide +kernel
theorem d_MO_parameter_128 : decode b_MO_parameter 128 = .ok (.iadd, 1) := by decide +kernel
theorem d_MO_parameter_129 : decode b_MO_parameter 129 = .ok (.iaload, 1) := by decide +kernel
theorem d_MO_parameter_130 : decode b_MO_parameter 130 = .ok (.invokevirtual 166, 3) := by decide +kernel
theorem d_MO_parameter_133 : decode b_MO_parameter 133 = .ok (.return_, 1) := by decide +kernel
theorem d_MO_call_0 : decode b_MO_call 0 = .ok (.aload_n 0, 1) := by decide +kernel
theorem d_MO_call_1 : decode b_MO_call 1 = .ok (.getfield 13, 3) := by decide +kernel
theorem d_MO_call_4 : decode b_MO_call 4 = .ok (.iload_n 2, 1) := by decide +kernel
theorem d_MO_call_5 : decode b_MO_call 5 = .ok (.iaload, 1) := by decide +kernel
theorem d_MO_call_6 : decode b_MO_call 6 = .ok (.istore_n 3, 1) := by decide +kernel
theorem d_MO_call_7 : decode b_MO_call 7 = .ok (.aload_n 0, 1) := by decide +kernel
theorem d_MO_call_8 : decode b_MO_call 8 = .ok (.getfield 75, 3) := by decide +kernel
theorem d_MO_call_11 : decode b_MO_call 11 = .ok (.iload_n 1, 1) := by decide +kernel
theorem d_MO_call_12 : decode b_MO_call 12 = .ok (.iaload, 1) := by decide +kernel
theorem d_MO_call_13 : decode b_MO_call 13 = .ok (.istore 4, 2) := by decide +kernel
theorem d_MO_call_15 : decode b_MO_call 15 = .ok (.iload 4, 2) := by decide +kernel
theorem d_MO_call_17 : decode b_MO_call 17 = .ok (.ifCond .ne 55, 3) := by decide +kernel
theorem d_MO_call_20 : decode b_MO_call 20 = .ok (.aload_n 0, 1) := by decide +kernel
theorem d_MO_call_21 : decode b_MO_call 21 = .ok (.getfield 22, 3) := by decide +kernel
theorem d_MO_call_24 : decode b_MO_call 24 = .ok (.iload_n 3, 1) := by decide +kernel
theorem d_MO_call_25 : decode b_MO_call 25 = .ok (.iaload, 1) := by decide +kernel
theorem d_MO_call_26 : decode b_MO_call 26 = .ok (.ifCond .lt 40, 3) := by decide +kernel
theorem d_MO_call_29 : decode b_MO_call 29 = .ok (.aload_n 0, 1) := by decide +kernel
theorem d_MO_call_30 : decode b_MO_call 30 = .ok (.getfield 25, 3) := by decide +kernel
theorem d_MO_call_33 : decode b_MO_call 33 = .ok (.iload_n 3, 1) := by decide +kernel
theorem d_MO_call_34 : decode b_MO_call 34 = .ok (.iaload, 1) := by decide +kernel
theorem d_MO_call_35 : decode b_MO_call 35 = .ok (.ifCond .le 12, 3) := by decide +kernel
theorem d_MO_call_38 : decode b_MO_call 38 = .ok (.aload_n 0, 1) := by decide +kernel
theorem d_MO_call_39 : decode b_MO_call 39 = .ok (.getfield 16, 3) := by decide +kernel
theorem d_MO_call_42 : decode b_MO_call 42 = .ok (.iload_n 2, 1) := by decide +kernel
theorem d_MO_call_43 : decode b_MO_call 43 = .ok (.iaload, 1) := by decide +kernel
theorem d_MO_call_44 : decode b_MO_call 44 = .ok (.ifCond .lt 22, 3) := by decide +kernel
theorem d_MO_call_47 : decode b_MO_call 47 = .ok (.aload_n 0, 1) := by decide +kernel
theorem d_MO_call_48 : decode b_MO_call 48 = .ok (.getfield 25, 3) := by decide +kernel
theorem d_MO_call_51 : decode b_MO_call 51 = .ok (.iload_n 3, 1) := by decide +kernel
theorem d_MO_call_52 : decode b_MO_call 52 = .ok (.iaload, 1) := by decide +kernel
theorem d_MO_call_53 : decode b_MO_call 53 = .ok (.iconst 1, 1) := by decide +kernel
theorem d_MO_call_54 : decode b_MO_call 54 = .ok (.if_icmp .le 18, 3) := by decide +kernel
theorem d_MO_call_57 : decode b_MO_call 57 = .ok (.aload_n 0, 1) := by decide +kernel
theorem d_MO_call_58 : decode b_MO_call 58 = .ok (.getfield 19, 3) := by decide +kernel
theorem d_MO_call_61 : decode b_MO_call 61 = .ok (.iload_n 2, 1) := by decide +kernel
theorem d_MO_call_62 : decode b_MO_call 62 = .ok (.iaload, 1) := by decide +kernel
theorem d_MO_call_63 : decode b_MO_call 63 = .ok (.ifCond .ge 9, 3) := by decide +kernel
theorem d_MO_call_66 : decode b_MO_call 66 = .ok (.aload_n 0, 1) := by decide +kernel
theorem d_MO_call_67 : decode b_MO_call 67 = .ok (.iconst 4, 1) := by decide +kernel
theorem d_MO_call_68 : decode b_MO_call 68 = .ok (.invokevirtual 142, 3) := by decide +kernel
theorem d_MO_call_71 : decode b_MO_call 71 = .ok (.return_, 1) := by decide +kernel
theorem d_MO_call_72 : decode b_MO_call 72 = .ok (.iload 4, 2) := by decide +kernel
theorem d_MO_call_74 : decode b_MO_call 74 = .ok (.bipush 9, 2) := by decide +kernel
theorem d_MO_call_76 : decode b_MO_call 76 = .ok (.if_icmp .ne 12, 3) := by decide +kernel
theorem d_MO_call_79 : decode b_MO_call 79 = .ok (.aload_n 0, 1) := by decide +kernel
theorem d_MO_call_80 : decode b_MO_call 80 = .ok (.aload_n 0, 1) := by decide +kernel
theorem d_MO_call_81 : decode b_MO_call 81 = .ok (.getfield 158, 3) := by decide +kernel
theorem d_MO_call_84 : decode b_MO_call 84 = .ok (.invokevirtual 162, 3) := by decide +kernel
theorem d_MO_call_87 : decode b_MO_call 87 = .ok (.return_, 1) := by decide +kernel
theorem d_MO_call_88 : decode b_MO_call 88 = .ok (.iload 4, 2) := by decide +kernel
theorem d_MO_call_90 : decode b_MO_call 90 = .ok (.iconst 1, 1) := by decide +kernel
theorem d_MO_call_91 : decode b_MO_call 91 = .ok (.if_icmp .ne 13, 3) := by decide +kernel
theorem d_MO_call_94 : decode b_MO_call 94 = .ok (.aload_n 0, 1) := by decide +kernel
theorem d_MO_call_95 : decode b_MO_call 95 = .ok (.getfield 90, 3) := by decide +kernel
theorem d_MO_call_98 : decode b_MO_call 98 = .ok (.iload_n 1, 1) := by decide +kernel
theorem d_MO_call_99 : decode b_MO_call 99 = .ok (.aload_n 0, 1) := by decide +kernel
theorem d_MO_call_100 : decode b_MO_call 100 = .ok (.getfield 158, 3) := by decide +kernel
theorem d_MO_call_103 : decode b_MO_call 103 = .ok (.dastore, 1) := by decide +kernel
theorem d_MO_call_104 : decode b_MO_call 104 = .ok (.iload 4, 2) := by decide +kernel
theorem d_MO_call_106 : decode b_MO_call 106 = .ok (.iconst 2, 1) := by decide +kernel
theorem d_MO_call_107 : decode b_MO_call 107 = .ok (.if_icmp .ne 13, 3) := by decide +kernel
theorem d_MO_call_110 : decode b_MO_call 110 = .ok (.aload_n 0, 1) := by decide +kernel
theorem d_MO_call_111 : decode b_MO_call 111 = .ok (.getfield 93, 3) := by decide +kernel
theorem d_MO_call_114 : decode b_MO_call 114 = .ok (.iload_n 1, 1) := by decide +kernel
theorem d_MO_call_115 : decode b_MO_call 115 = .ok (.aload_n 0, 1) := by decide +kernel
theorem d_MO_call_116 : decode b_MO_call 116 = .ok (.getfield 158, 3) := by decide +kernel
theorem d_MO_call_119 : decode b_MO_call 119 = .ok (.dastore, 1) := by decide +kernel
theorem d_MO_call_120 : decode b_MO_call 120 = .ok (.iload 4, 2) := by decide +kernel
theorem d_MO_call_122 : decode b_MO_call 122 = .ok (.istore 5, 2) := by decide +kernel
theorem d_MO_call_124 : decode b_MO_call 124 = .ok (.iload 5, 2) := by decide +kernel
theorem d_MO_call_126 : decode b_MO_call 126 = .ok (.aload_n 0, 1) := by decide +kernel
theorem d_MO_call_127 : decode b_MO_call 127 = .ok (.getfield 25, 3) := by decide +kernel
theorem d_MO_call_130 : decode b_MO_call 130 = .ok (.iload_n 3, 1) := by decide +kernel
theorem d_MO_call_131 : decode b_MO_call 131 = .ok (.iaload, 1) := by decide +kernel
theorem d_MO_call_132 : decode b_MO_call 132 = .ok (.if_icmp .ge 85, 3) := by decide +kernel
theorem d_MO_call_135 : decode b_MO_call 135 = .ok (.aload_n 0, 1) := by decide +kernel
theorem d_MO_call_136 : decode b_MO_call 136 = .ok (.getfield 28, 3) := by decide +kernel
theorem d_MO_call_139 : decode b_MO_call 139 = .ok (.iload_n 3, 1) := by decide +kernel
theorem d_MO_call_140 : decode b_MO_call 140 = .ok (.iaload, 1) := by decide +kernel
theorem d_MO_call_141 : decode b_MO_call 141 = .ok (.iload 5, 2) := by decide +kernel
theorem d_MO_call_143 : decode b_MO_call 143 = .ok (.ishr, 1) := by decide +kernel
theorem d_MO_call_144 : decode b_MO_call 144 = .ok (.iconst 1, 1) := by decide +kernel
theorem d_MO_call_145 : decode b_MO_call 145 = .ok (.iand, 1) := by decide +kernel
theorem d_MO_call_146 : decode b_MO_call 146 = .ok (.iconst 1, 1) := by decide +kernel
theorem d_MO_call_147 : decode b_MO_call 147 = .ok (.if_icmp .ne 6, 3) := by decide +kernel
theorem d_MO_call_150 : decode b_MO_call 150 = .ok (.goto 61, 3) := by decide +kernel
theorem d_MO_call_153 : decode b_MO_call 153 = .ok (.iload 5, 2) := by decide +kernel
theorem d_MO_call_155 : decode b_MO_call 155 = .ok (.ifCond .ne 12, 3) := by decide +kernel
theorem d_MO_call_158 : decode b_MO_call 158 = .ok (.aload_n 0, 1) := by decide +kernel
theorem d_MO_call_159 : decode b_MO_call 159 = .ok (.getfield 16, 3) := by decide +kernel
theorem d_MO_call_162 : decode b_MO_call 162 = .ok (.iload_n 2, 1) := by decide +kernel
theorem d_MO_call_163 : decode b_MO_call 163 = .ok (.iaload, 1) := by decide +kernel
theorem d_MO_call_164 : decode b_MO_call 164 = .ok (.goto 9, 3) := by decide +kernel
theorem d_MO_call_167 : decode b_MO_call 167 = .ok (.aload_n 0, 1) := by decide +kernel
theorem d_MO_call_168 : decode b_MO_call 168 = .ok (.getfield 19, 3) := by decide +kernel
theorem d_MO_call_171 : decode b_MO_call 171 = .ok (.iload_n 2, 1) := by decide +kernel
theorem d_MO_call_172 : decode b_MO_call 172 = .ok (.iaload, 1) := by decide +kernel
theorem d_MO_call_173 : decode b_MO_call 173 = .ok (.istore 6, 2) := by decide +kernel
theorem d_MO_call_175 : decode b_MO_call 175 = .ok (.aload_n 0, 1) := by decide +kernel
theorem d_MO_call_176 : decode b_MO_call 176 = .ok (.getfield 75, 3) := by decide +kernel
theorem d_MO_call_179 : decode b_MO_call 179 = .ok (.iload_n 1, 1) := by decide +kernel
theorem d_MO_call_180 : decode b_MO_call 180 = .ok (.iload 5, 2) := by decide +kernel
theorem d_MO_call_182 : decode b_MO_call 182 = .ok (.iconst 1, 1) := by decide +kernel
theorem d_MO_call_183 : decode b_MO_call 183 = .ok (.iadd, 1) := by decide +kernel
theorem d_MO_call_184 : decode b_MO_call 184 = .ok (.iastore, 1) := by decide +kernel
theorem d_MO_call_185 : decode b_MO_call 185 = .ok (.iload 6, 2) := by decide +kernel
theorem d_MO_call_187 : decode b_MO_call 187 = .ok (.ifCond .ge 11, 3) := by decide +kernel
theorem d_MO_call_190 : decode b_MO_call 190 = .ok (.aload_n 0, 1) := by decide +kernel
theorem d_MO_call_191 : decode b_MO_call 191 = .ok (.iconst 4, 1) := by decide +kernel
theorem d_MO_call_192 : decode b_MO_call 192 = .ok (.invokevirtual 142, 3) := by decide +kernel
theorem d_MO_call_195 : decode b_MO_call 195 = .ok (.goto 15, 3) := by decide +kernel
theorem d_MO_call_198 : decode b_MO_call 198 = .ok (.aload_n 0, 1) := by decide +kernel
theorem d_MO_call_199 : decode b_MO_call 199 = .ok (.iload 6, 2) := by decide +kernel
theorem d_MO_call_201 : decode b_MO_call 201 = .ok (.aload_n 0, 1) := by decide +kernel
theorem d_MO_call_202 : decode b_MO_call 202 = .ok (.getfield 72, 3) := by decide +kernel
theorem d_MO_call_205 : decode b_MO_call 205 = .ok (.iload_n 1, 1) := by decide +kernel
theorem d_MO_call_206 : decode b_MO_call 206 = .ok (.iaload, 1) := by decide +kernel
theorem d_MO_call_207 : decode b_MO_call 207 = .ok (.invokevirtual 166, 3) := by decide +kernel
theorem d_MO_call_210 : decode b_MO_call 210 = .ok (.return_, 1) := by decide +kernel
theorem d_MO_call_211 : decode b_MO_call 211 = .ok (.iinc 5 1, 3) := by decide +kernel
theorem d_MO_call_214 : decode b_MO_call 214 = .ok (.goto (-90), 3) := by decide +kernel
theorem d_MO_call_217 : decode b_MO_call 217 = .ok (.aload_n 0, 1) := by decide +kernel
theorem d_MO_call_218 : decode b_MO_call 218 = .ok (.invokevirtual 184, 3) := by decide +kernel
theorem d_MO_call_221 : decode b_MO_call 221 = .ok (.aload_n 0, 1) := by decide +kernel
theorem d_MO_call_222 : decode b_MO_call 222 = .ok (.getfield 136, 3) := by decide +kernel
theorem d_MO_call_225 : decode b_MO_call 225 = .ok (.ifCond .le 4, 3) := by decide +kernel
theorem d_MO_call_228 : decode b_MO_call 228 = .ok (.return_, 1) := by decide +kernel
theorem d_MO_call_229 : decode b_MO_call 229 = .ok (.aload_n 0, 1) := by decide +kernel
theorem d_MO_call_230 : decode b_MO_call 230 = .ok (.dup, 1) := by decide +kernel
theorem d_MO_call_231 : decode b_MO_call 231 = .ok (.getfield 152, 3) := by decide +kernel
theorem d_MO_call_234 : decode b_MO_call 234 = .ok (.iconst 1, 1) := by decide +kernel
theorem d_MO_call_235 : decode b_MO_call 235 = .ok (.iadd, 1) := by decide +kernel
theorem d_MO_call_236 : decode b_MO_call 236 = .ok (.putfield 152, 3) := by decide +kernel
theorem d_MO_call_239 : decode b_MO_call 239 = .ok (.aload_n 0, 1) := by decide +kernel
theorem d_MO_call_240 : decode b_MO_call 240 = .ok (.getfield 152, 3) := by decide +kernel
theorem d_MO_call_243 : decode b_MO_call 243 = .ok (.istore 5, 2) := by decide +kernel
theorem d_MO_call_245 : decode b_MO_call 245 = .ok (.aload_n 0, 1) := by decide +kernel
theorem d_MO_call_246 : decode b_MO_call 246 = .ok (.dup, 1) := by decide +kernel
theorem d_MO_call_247 : decode b_MO_call 247 = .ok (.getfield 187, 3) := by decide +kernel
theorem d_MO_call_250 : decode b_MO_call 250 = .ok (.iconst 1, 1) := by decide +kernel
theorem d_MO_call_251 : decode b_MO_call 251 = .ok (.iadd, 1) := by decide +kernel
theorem d_MO_call_252 : decode b_MO_call 252 = .ok (.putfield 187, 3) := by decide +kernel
theorem d_MO_call_255 : decode b_MO_call 255 = .ok (.aload_n 0, 1) := by decide +kernel
theorem d_MO_call_256 : decode b_MO_call 256 = .ok (.getfield 57, 3) := by decide +kernel
theorem d_MO_call_259 : decode b_MO_call 259 = .ok (.iload 5, 2) := by decide +kernel
theorem d_MO_call_261 : decode b_MO_call 261 = .ok (.aload_n 0, 1) := by decide +kernel
theorem d_MO_call_262 : decode b_MO_call 262 = .ok (.getfield 25, 3) := by decide +kernel
theorem d_MO_call_265 : decode b_MO_call 265 = .ok (.iload_n 3, 1) := by decide +kernel
theorem d_MO_call_266 : decode b_MO_call 266 = .ok (.iaload, 1) := by decide +kernel
theorem d_MO_call_267 : decode b_MO_call 267 = .ok (.iastore, 1) := by decide +kernel
theorem d_MO_call_268 : decode b_MO_call 268 = .ok (.aload_n 0, 1) := by decide +kernel
theorem d_MO_call_269 : decode b_MO_call 269 = .ok (.getfield 60, 3) := by decide +kernel
theorem d_MO_call_272 : decode b_MO_call 272 = .ok (.iload 5, 2) := by decide +kernel
theorem d_MO_call_274 : decode b_MO_call 274 = .ok (.aload_n 0, 1) := by decide +kernel
theorem d_MO_call_275 : decode b_MO_call 275 = .ok (.getfield 28, 3) := by decide +kernel
theorem d_MO_call_278 : decode b_MO_call 278 = .ok (.iload_n 3, 1) := by decide +kernel
theorem d_MO_call_279 : decode b_MO_call 279 = .ok (.iaload, 1) := by decide +kernel
theorem d_MO_call_280 : decode b_MO_call 280 = .ok (.iastore, 1) := by decide +kernel
theorem d_MO_call_281 : decode b_MO_call 281 = .ok (.iconst 0, 1) := by decide +kernel
theorem d_MO_call_282 : decode b_MO_call 282 = .ok (.istore 6, 2) := by decide +kernel
theorem d_MO_call_284 : decode b_MO_call 284 = .ok (.iload 6, 2) := by decide +kernel
theorem d_MO_call_286 : decode b_MO_call 286 = .ok (.iconst 2, 1) := by decide +kernel
theorem d_MO_call_287 : decode b_MO_call 287 = .ok (.if_icmp .ge 104, 3) := by decide +kernel
theorem d_MO_call_290 : decode b_MO_call 290 = .ok (.aload_n 0, 1) := by decide +kernel
theorem d_MO_call_291 : decode b_MO_call 291 = .ok (.getfield 63, 3) := by decide +kernel
theorem d_MO_call_294 : decode b_MO_call 294 = .ok (.iconst 2, 1) := by decide +kernel
theorem d_MO_call_295 : decode b_MO_call 295 = .ok (.iload 5, 2) := by decide +kernel
theorem d_MO_call_297 : decode b_MO_call 297 = .ok (.imul, 1) := by decide +kernel
theorem d_MO_call_298 : decode b_MO_call 298 = .ok (.iload 6, 2) := by decide +kernel
theorem d_MO_call_300 : decode b_MO_call 300 = .ok (.iadd, 1) := by decide +kernel
theorem d_MO_call_301 : decode b_MO_call 301 = .ok (.iload 6, 2) := by decide +kernel
theorem d_MO_call_303 : decode b_MO_call 303 = .ok (.ifCond .ne 12, 3) := by decide +kernel
theorem d_MO_call_306 : decode b_MO_call 306 = .ok (.aload_n 0, 1) := by decide +kernel
theorem d_MO_call_307 : decode b_MO_call 307 = .ok (.getfield 90, 3) := by decide +kernel
theorem d_MO_call_310 : decode b_MO_call 310 = .ok (.iload_n 1, 1) := by decide +kernel
theorem d_MO_call_311 : decode b_MO_call 311 = .ok (.daload, 1) := by decide +kernel
theorem d_MO_call_312 : decode b_MO_call 312 = .ok (.goto 9, 3) := by decide +kernel
theorem d_MO_call_315 : decode b_MO_call 315 = .ok (.aload_n 0, 1) := by decide +kernel
theorem d_MO_call_316 : decode b_MO_call 316 = .ok (.getfield 93, 3) := by decide +kernel
theorem d_MO_call_319 : decode b_MO_call 319 = .ok (.iload_n 1, 1) := by decide +kernel
theorem d_MO_call_320 : decode b_MO_call 320 = .ok (.daload, 1) := by decide +kernel
theorem d_MO_call_321 : decode b_MO_call 321 = .ok (.dastore, 1) := by decide +kernel
theorem d_MO_call_322 : decode b_MO_call 322 = .ok (.aload_n 0, 1) := by decide +kernel
theorem d_MO_call_323 : decode b_MO_call 323 = .ok (.getfield 51, 3) := by decide +kernel
theorem d_MO_call_326 : decode b_MO_call 326 = .ok (.iconst 2, 1) := by decide +kernel
theorem d_MO_call_327 : decode b_MO_call 327 = .ok (.iload 5, 2) := by decide +kernel
theorem d_MO_call_329 : decode b_MO_call 329 = .ok (.imul, 1) := by decide +kernel
theorem d_MO_call_330 : decode b_MO_call 330 = .ok (.iload 6, 2) := by decide +kernel
theorem d_MO_call_332 : decode b_MO_call 332 = .ok (.iadd, 1) := by decide +kernel
theorem d_MO_call_333 : decode b_MO_call 333 = .ok (.iload 6, 2) := by decide +kernel
theorem d_MO_call_335 : decode b_MO_call 335 = .ok (.ifCond .ne 12, 3) := by decide +kernel
theorem d_MO_call_338 : decode b_MO_call 338 = .ok (.aload_n 0, 1) := by decide +kernel
theorem d_MO_call_339 : decode b_MO_call 339 = .ok (.getfield 16, 3) := by decide +kernel
theorem d_MO_call_342 : decode b_MO_call 342 = .ok (.iload_n 2, 1) := by decide +kernel
theorem d_MO_call_343 : decode b_MO_call 343 = .ok (.iaload, 1) := by decide +kernel
theorem d_MO_call_344 : decode b_MO_call 344 = .ok (.goto 9, 3) := by decide +kernel
theorem d_MO_call_347 : decode b_MO_call 347 = .ok (.aload_n 0, 1) := by decide +kernel
theorem d_MO_call_348 : decode b_MO_call 348 = .ok (.getfield 19, 3) := by decide +kernel
theorem d_MO_call_351 : decode b_MO_call 351 = .ok (.iload_n 2, 1) := by decide +kernel
theorem d_MO_call_352 : decode b_MO_call 352 = .ok (.iaload, 1) := by decide +kernel
theorem d_MO_call_353 : decode b_MO_call 353 = .ok (.iastore, 1) := by decide +kernel
theorem d_MO_call_354 : decode b_MO_call 354 = .ok (.aload_n 0, 1) := by decide +kernel
theorem d_MO_call_355 : decode b_MO_call 355 = .ok (.getfield 54, 3) := by decide +kernel
theorem d_MO_call_358 : decode b_MO_call 358 = .ok (.iconst 2, 1) := by decide +kernel
theorem d_MO_call_359 : decode b_MO_call 359 = .ok (.iload 5, 2) := by decide +kernel
theorem d_MO_call_361 : decode b_MO_call 361 = .ok (.imul, 1) := by decide +kernel
theorem d_MO_call_362 : decode b_MO_call 362 = .ok (.iload 6, 2) := by decide +kernel
theorem d_MO_call_364 : decode b_MO_call 364 = .ok (.iadd, 1) := by decide +kernel
theorem d_MO_call_365 : decode b_MO_call 365 = .ok (.aload_n 0, 1) := by decide +kernel
theorem d_MO_call_366 : decode b_MO_call 366 = .ok (.getfield 72, 3) := by decide +kernel
theorem d_MO_call_369 : decode b_MO_call 369 = .ok (.iload_n 1, 1) := by decide +kernel
theorem d_MO_call_370 : decode b_MO_call 370 = .ok (.iaload, 1) := by decide +kernel
theorem d_MO_call_371 : decode b_MO_call 371 = .ok (.iastore, 1) := by decide +kernel
theorem d_MO_call_372 : decode b_MO_call 372 = .ok (.aload_n 0, 1) := by decide +kernel
theorem d_MO_call_373 : decode b_MO_call 373 = .ok (.getfield 66, 3) := by decide +kernel
theorem d_MO_call_376 : decode b_MO_call 376 = .ok (.iconst 2, 1) := by decide +kernel
theorem d_MO_call_377 : decode b_MO_call 377 = .ok (.iload 5, 2) := by decide +kernel
theorem d_MO_call_379 : decode b_MO_call 379 = .ok (.imul, 1) := by decide +kernel
theorem d_MO_call_380 : decode b_MO_call 380 = .ok (.iload 6, 2) := by decide +kernel
theorem d_MO_call_382 : decode b_MO_call 382 = .ok (.iadd, 1) := by decide +kernel
theorem d_MO_call_383 : decode b_MO_call 383 = .ok (.dconst 0, 1) := by decide +kernel
theorem d_MO_call_384 : decode b_MO_call 384 = .ok (.dastore, 1) := by decide +kernel
theorem d_MO_call_385 : decode b_MO_call 385 = .ok (.iinc 6 1, 3) := by decide +kernel
theorem d_MO_call_388 : decode b_MO_call 388 = .ok (.goto (-104), 3) := by decide +kernel
theorem d_MO_call_391 : decode b_MO_call 391 = .ok (.aload_n 0, 1) := by decide +kernel
theorem d_MO_call_392 : decode b_MO_call 392 = .ok (.getfield 75, 3) := by decide +kernel
theorem d_MO_call_395 : decode b_MO_call 395 = .ok (.iload_n 1, 1) := by decide +kernel
theorem d_MO_call_396 : decode b_MO_call 396 = .ok (.bipush 9, 2) := by decide +kernel
theorem d_MO_call_398 : decode b_MO_call 398 = .ok (.iastore, 1) := by decide +kernel
theorem d_MO_call_399 : decode b_MO_call 399 = .ok (.aload_n 0, 1) := by decide +kernel
theorem d_MO_call_400 : decode b_MO_call 400 = .ok (.aload_n 0, 1) := by decide +kernel
theorem d_MO_call_401 : decode b_MO_call 401 = .ok (.getfield 22, 3) := by decide +kernel
theorem d_MO_call_404 : decode b_MO_call 404 = .ok (.iload_n 3, 1) := by decide +kernel
theorem d_MO_call_405 : decode b_MO_call 405 = .ok (.iaload, 1) := by decide +kernel
theorem d_MO_call_406 : decode b_MO_call 406 = .ok (.iload 5, 2) := by decide +kernel
theorem d_MO_call_408 : decode b_MO_call 408 = .ok (.invokevirtual 166, 3) := by decide +kernel
theorem d_MO_call_411 : decode b_MO_call 411 = .ok (.return_, 1) := by decide +kernel
theorem d_MO_isGoal_0 : decode b_MO_isGoal 0 = .ok (.iload_n 0, 1) := by decide +kernel
theorem d_MO_isGoal_1 : decode b_MO_isGoal 1 = .ok (.iconst 1, 1) := by decide +kernel
theorem d_MO_isGoal_2 : decode b_MO_isGoal 2 = .ok (.if_icmp .eq 20, 3) := by decide +kernel
theorem d_MO_isGoal_5 : decode b_MO_isGoal 5 = .ok (.iload_n 0, 1) := by decide +kernel
theorem d_MO_isGoal_6 : decode b_MO_isGoal 6 = .ok (.iconst 2, 1) := by decide +kernel
theorem d_MO_isGoal_7 : decode b_MO_isGoal 7 = .ok (.if_icmp .eq 15, 3) := by decide +kernel
theorem d_MO_isGoal_10 : decode b_MO_isGoal 10 = .ok (.iload_n 0, 1) := by decide +kernel
theorem d_MO_isGoal_11 : decode b_MO_isGoal 11 = .ok (.bipush 10, 2) := by decide +kernel
theorem d_MO_isGoal_13 : decode b_MO_isGoal 13 = .ok (.if_icmp .eq 9, 3) := by decide +kernel
theorem d_MO_isGoal_16 : decode b_MO_isGoal 16 = .ok (.iload_n 0, 1) := by decide +kernel
theorem d_MO_isGoal_17 : decode b_MO_isGoal 17 = .ok (.bipush 11, 2) := by decide +kernel
theorem d_MO_isGoal_19 : decode b_MO_isGoal 19 = .ok (.if_icmp .ne 7, 3) := by decide +kernel
theorem d_MO_isGoal_22 : decode b_MO_isGoal 22 = .ok (.iconst 1, 1) := by decide +kernel
theorem d_MO_isGoal_23 : decode b_MO_isGoal 23 = .ok (.goto 4, 3) := by decide +kernel
theorem d_MO_isGoal_26 : decode b_MO_isGoal 26 = .ok (.iconst 0, 1) := by decide +kernel
theorem d_MO_isGoal_27 : decode b_MO_isGoal 27 = .ok (.ireturn, 1) := by decide +kernel
theorem d_MO_follow_0 : decode b_MO_follow 0 = .ok (.aload_n 0, 1) := by decide +kernel
theorem d_MO_follow_1 : decode b_MO_follow 1 = .ok (.getfield 136, 3) := by decide +kernel
theorem d_MO_follow_4 : decode b_MO_follow 4 = .ok (.ifCond .ne 155, 3) := by decide +kernel
theorem d_MO_follow_7 : decode b_MO_follow 7 = .ok (.aload_n 0, 1) := by decide +kernel
theorem d_MO_follow_8 : decode b_MO_follow 8 = .ok (.getfield 7, 3) := by decide +kernel
theorem d_MO_follow_11 : decode b_MO_follow 11 = .ok (.aload_n 0, 1) := by decide +kernel
theorem d_MO_follow_12 : decode b_MO_follow 12 = .ok (.getfield 84, 3) := by decide +kernel
theorem d_MO_follow_15 : decode b_MO_follow 15 = .ok (.iload_n 1, 1) := by decide +kernel
theorem d_MO_follow_16 : decode b_MO_follow 16 = .ok (.iaload, 1) := by decide +kernel
theorem d_MO_follow_17 : decode b_MO_follow 17 = .ok (.iaload, 1) := by decide +kernel
theorem d_MO_follow_18 : decode b_MO_follow 18 = .ok (.bipush 10, 2) := by decide +kernel
theorem d_MO_follow_20 : decode b_MO_follow 20 = .ok (.if_icmp .ne 139, 3) := by decide +kernel
theorem d_MO_follow_23 : decode b_MO_follow 23 = .ok (.aload_n 0, 1) := by decide +kernel
theorem d_MO_follow_24 : decode b_MO_follow 24 = .ok (.getfield 87, 3) := by decide +kernel
theorem d_MO_follow_27 : decode b_MO_follow 27 = .ok (.iload_n 1, 1) := by decide +kernel
theorem d_MO_follow_28 : decode b_MO_follow 28 = .ok (.iaload, 1) := by decide +kernel
theorem d_MO_follow_29 : decode b_MO_follow 29 = .ok (.istore_n 2, 1) := by decide +kernel
theorem d_MO_follow_30 : decode b_MO_follow 30 = .ok (.aload_n 0, 1) := by decide +kernel
theorem d_MO_follow_31 : decode b_MO_follow 31 = .ok (.getfield 13, 3) := by decide +kernel
theorem d_MO_follow_34 : decode b_MO_follow 34 = .ok (.aload_n 0, 1) := by decide +kernel
theorem d_MO_follow_35 : decode b_MO_follow 35 = .ok (.getfield 84, 3) := by decide +kernel
theorem d_MO_follow_38 : decode b_MO_follow 38 = .ok (.iload_n 1, 1) := by decide +kernel
theorem d_MO_follow_39 : decode b_MO_follow 39 = .ok (.iaload, 1) := by decide +kernel
theorem d_MO_follow_40 : decode b_MO_follow 40 = .ok (.iaload, 1) := by decide +kernel
theorem d_MO_follow_41 : decode b_MO_follow 41 = .ok (.istore_n 3, 1) := by decide +kernel
theorem d_MO_follow_42 : decode b_MO_follow 42 = .ok (.aload_n 0, 1) := by decide +kernel
theorem d_MO_follow_43 : decode b_MO_follow 43 = .ok (.iload_n 2, 1) := by decide +kernel
theorem d_MO_follow_44 : decode b_MO_follow 44 = .ok (.iload_n 3, 1) := by decide +kernel
theorem d_MO_follow_45 : decode b_MO_follow 45 = .ok (.invokevirtual 178, 3) := by decide +kernel
theorem d_MO_follow_48 : decode b_MO_follow 48 = .ok (.ifCond .ne 11, 3) := by decide +kernel
theorem d_MO_follow_51 : decode b_MO_follow 51 = .ok (.aload_n 0, 1) := by decide +kernel
theorem d_MO_follow_52 : decode b_MO_follow 52 = .ok (.iconst 4, 1) := by decide +kernel
theorem d_MO_follow_53 : decode b_MO_follow 53 = .ok (.invokevirtual 142, 3) := by decide +kernel
theorem d_MO_follow_56 : decode b_MO_follow 56 = .ok (.goto 100, 3) := by decide +kernel
theorem d_MO_follow_59 : decode b_MO_follow 59 = .ok (.aload_n 0, 1) := by decide +kernel
theorem d_MO_follow_60 : decode b_MO_follow 60 = .ok (.iload_n 2, 1) := by decide +kernel
theorem d_MO_follow_61 : decode b_MO_follow 61 = .ok (.iload_n 3, 1) := by decide +kernel
theorem d_MO_follow_62 : decode b_MO_follow 62 = .ok (.invokevirtual 181, 3) := by decide +kernel
theorem d_MO_follow_65 : decode b_MO_follow 65 = .ok (.ifCond .ne 4, 3) := by decide +kernel
theorem d_MO_follow_68 : decode b_MO_follow 68 = .ok (.return_, 1) := by decide +kernel
theorem d_MO_follow_69 : decode b_MO_follow 69 = .ok (.aload_n 0, 1) := by decide +kernel
theorem d_MO_follow_70 : decode b_MO_follow 70 = .ok (.getfield 51, 3) := by decide +kernel
theorem d_MO_follow_73 : decode b_MO_follow 73 = .ok (.iconst 2, 1) := by decide +kernel
theorem d_MO_follow_74 : decode b_MO_follow 74 = .ok (.iload_n 2, 1) := by decide +kernel
theorem d_MO_follow_75 : decode b_MO_follow 75 = .ok (.imul, 1) := by decide +kernel
theorem d_MO_follow_76 : decode b_MO_follow 76 = .ok (.iload_n 3, 1) := by decide +kernel
theorem d_MO_follow_77 : decode b_MO_follow 77 = .ok (.iadd, 1) := by decide +kernel
theorem d_MO_follow_78 : decode b_MO_follow 78 = .ok (.iaload, 1) := by decide +kernel
theorem d_MO_follow_79 : decode b_MO_follow 79 = .ok (.ifCond .ge 11, 3) := by decide +kernel
theorem d_MO_follow_82 : decode b_MO_follow 82 = .ok (.aload_n 0, 1) := by decide +kernel
theorem d_MO_follow_83 : decode b_MO_follow 83 = .ok (.iconst 4, 1) := by decide +kernel
theorem d_MO_follow_84 : decode b_MO_follow 84 = .ok (.invokevirtual 142, 3) := by decide +kernel
theorem d_MO_follow_87 : decode b_MO_follow 87 = .ok (.goto 69, 3) := by decide +kernel
theorem d_MO_follow_90 : decode b_MO_follow 90 = .ok (.aload_n 0, 1) := by decide +kernel
theorem d_MO_follow_91 : decode b_MO_follow 91 = .ok (.getfield 7, 3) := by decide +kernel
theorem d_MO_follow_94 : decode b_MO_follow 94 = .ok (.aload_n 0, 1) := by decide +kernel
theorem d_MO_follow_95 : decode b_MO_follow 95 = .ok (.getfield 51, 3) := by decide +kernel
theorem d_MO_follow_98 : decode b_MO_follow 98 = .ok (.iconst 2, 1) := by decide +kernel
theorem d_MO_follow_99 : decode b_MO_follow 99 = .ok (.iload_n 2, 1) := by decide +kernel
theorem d_MO_follow_100 : decode b_MO_follow 100 = .ok (.imul, 1) := by decide +kernel
theorem d_MO_follow_101 : decode b_MO_follow 101 = .ok (.iload_n 3, 1) := by decide +kernel
theorem d_MO_follow_102 : decode b_MO_follow 102 = .ok (.iadd, 1) := by decide +kernel
theorem d_MO_follow_103 : decode b_MO_follow 103 = .ok (.iaload, 1) := by decide +kernel
theorem d_MO_follow_104 : decode b_MO_follow 104 = .ok (.iaload, 1) := by decide +kernel
theorem d_MO_follow_105 : decode b_MO_follow 105 = .ok (.invokestatic 190, 3) := by decide +kernel
theorem d_MO_follow_108 : decode b_MO_follow 108 = .ok (.ifCond .ne 12, 3) := by decide +kernel
theorem d_MO_follow_111 : decode b_MO_follow 111 = .ok (.aload_n 0, 1) := by decide +kernel
theorem d_MO_follow_112 : decode b_MO_follow 112 = .ok (.bipush 6, 2) := by decide +kernel
theorem d_MO_follow_114 : decode b_MO_follow 114 = .ok (.invokevirtual 142, 3) := by decide +kernel
theorem d_MO_follow_117 : decode b_MO_follow 117 = .ok (.goto 39, 3) := by decide +kernel
theorem d_MO_follow_120 : decode b_MO_follow 120 = .ok (.aload_n 0, 1) := by decide +kernel
theorem d_MO_follow_121 : decode b_MO_follow 121 = .ok (.invokevirtual 184, 3) := by decide +kernel
theorem d_MO_follow_124 : decode b_MO_follow 124 = .ok (.aload_n 0, 1) := by decide +kernel
theorem d_MO_follow_125 : decode b_MO_follow 125 = .ok (.getfield 84, 3) := by decide +kernel
theorem d_MO_follow_128 : decode b_MO_follow 128 = .ok (.iload_n 1, 1) := by decide +kernel
theorem d_MO_follow_129 : decode b_MO_follow 129 = .ok (.aload_n 0, 1) := by decide +kernel
theorem d_MO_follow_130 : decode b_MO_follow 130 = .ok (.getfield 51, 3) := by decide +kernel
theorem d_MO_follow_133 : decode b_MO_follow 133 = .ok (.iconst 2, 1) := by decide +kernel
theorem d_MO_follow_134 : decode b_MO_follow 134 = .ok (.iload_n 2, 1) := by decide +kernel
theorem d_MO_follow_135 : decode b_MO_follow 135 = .ok (.imul, 1) := by decide +kernel
theorem d_MO_follow_136 : decode b_MO_follow 136 = .ok (.iload_n 3, 1) := by decide +kernel
theorem d_MO_follow_137 : decode b_MO_follow 137 = .ok (.iadd, 1) := by decide +kernel
theorem d_MO_follow_138 : decode b_MO_follow 138 = .ok (.iaload, 1) := by decide +kernel
theorem d_MO_follow_139 : decode b_MO_follow 139 = .ok (.iastore, 1) := by decide +kernel
theorem d_MO_follow_140 : decode b_MO_follow 140 = .ok (.aload_n 0, 1) := by decide +kernel
theorem d_MO_follow_141 : decode b_MO_follow 141 = .ok (.getfield 87, 3) := by decide +kernel
theorem d_MO_follow_144 : decode b_MO_follow 144 = .ok (.iload_n 1, 1) := by decide +kernel
theorem d_MO_follow_145 : decode b_MO_follow 145 = .ok (.aload_n 0, 1) := by decide +kernel
theorem d_MO_follow_146 : decode b_MO_follow 146 = .ok (.getfield 54, 3) := by decide +kernel
theorem d_MO_follow_149 : decode b_MO_follow 149 = .ok (.iconst 2, 1) := by decide +kernel
theorem d_MO_follow_150 : decode b_MO_follow 150 = .ok (.iload_n 2, 1) := by decide +kernel
theorem d_MO_follow_151 : decode b_MO_follow 151 = .ok (.imul, 1) := by decide +kernel
theorem d_MO_follow_152 : decode b_MO_follow 152 = .ok (.iload_n 3, 1) := by decide +kernel
theorem d_MO_follow_153 : decode b_MO_follow 153 = .ok (.iadd, 1) := by decide +kernel
theorem d_MO_follow_154 : decode b_MO_follow 154 = .ok (.iaload, 1) := by decide +kernel
theorem d_MO_follow_155 : decode b_MO_follow 155 = .ok (.iastore, 1) := by decide +kernel
theorem d_MO_follow_156 : decode b_MO_follow 156 = .ok (.goto (-156), 3) := by decide +kernel
theorem d_MO_follow_159 : decode b_MO_follow 159 = .ok (.return_, 1) := by decide +kernel
theorem d_MO_become_0 : decode b_MO_become 0 = .ok (.aload_n 0, 1) := by decide +kernel
theorem d_MO_become_1 : decode b_MO_become 1 = .ok (.getfield 84, 3) := by decide +kernel
theorem d_MO_become_4 : decode b_MO_become 4 = .ok (.iload_n 1, 1) := by decide +kernel
theorem d_MO_become_5 : decode b_MO_become 5 = .ok (.iaload, 1) := by decide +kernel
theorem d_MO_become_6 : decode b_MO_become 6 = .ok (.istore_n 2, 1) := by decide +kernel
theorem d_MO_become_7 : decode b_MO_become 7 = .ok (.aload_n 0, 1) := by decide +kernel
theorem d_MO_become_8 : decode b_MO_become 8 = .ok (.getfield 87, 3) := by decide +kernel
theorem d_MO_become_11 : decode b_MO_become 11 = .ok (.iload_n 1, 1) := by decide +kernel
theorem d_MO_become_12 : decode b_MO_become 12 = .ok (.iaload, 1) := by decide +kernel
theorem d_MO_become_13 : decode b_MO_become 13 = .ok (.istore_n 3, 1) := by decide +kernel
theorem d_MO_become_14 : decode b_MO_become 14 = .ok (.aload_n 0, 1) := by decide +kernel
theorem d_MO_become_15 : decode b_MO_become 15 = .ok (.getfield 13, 3) := by decide +kernel
theorem d_MO_become_18 : decode b_MO_become 18 = .ok (.iload_n 2, 1) := by decide +kernel
theorem d_MO_become_19 : decode b_MO_become 19 = .ok (.iaload, 1) := by decide +kernel
theorem d_MO_become_20 : decode b_MO_become 20 = .ok (.istore 4, 2) := by decide +kernel
theorem d_MO_become_22 : decode b_MO_become 22 = .ok (.aload_n 0, 1) := by decide +kernel
theorem d_MO_become_23 : decode b_MO_become 23 = .ok (.getfield 90, 3) := by decide +kernel
theorem d_MO_become_26 : decode b_MO_become 26 = .ok (.iload_n 1, 1) := by decide +kernel
theorem d_MO_become_27 : decode b_MO_become 27 = .ok (.daload, 1) := by decide +kernel
theorem d_MO_become_28 : decode b_MO_become 28 = .ok (.dstore 5, 2) := by decide +kernel
theorem d_MO_become_30 : decode b_MO_become 30 = .ok (.aload_n 0, 1) := by decide +kernel
theorem d_MO_become_31 : decode b_MO_become 31 = .ok (.getfield 7, 3) := by decide +kernel
theorem d_MO_become_34 : decode b_MO_become 34 = .ok (.iload_n 2, 1) := by decide +kernel
theorem d_MO_become_35 : decode b_MO_become 35 = .ok (.iaload, 1) := by decide +kernel
theorem d_MO_become_36 : decode b_MO_become 36 = .ok (.iconst 1, 1) := by decide +kernel
theorem d_MO_become_37 : decode b_MO_become 37 = .ok (.if_icmp .ne 49, 3) := by decide +kernel
theorem d_MO_become_40 : decode b_MO_become 40 = .ok (.iload 4, 2) := by decide +kernel
theorem d_MO_become_42 : decode b_MO_become 42 = .ok (.iconst 4, 1) := by decide +kernel
theorem d_MO_become_43 : decode b_MO_become 43 = .ok (.if_icmp .ge 11, 3) := by decide +kernel
theorem d_MO_become_46 : decode b_MO_become 46 = .ok (.dload 5, 2) := by decide +kernel
theorem d_MO_become_48 : decode b_MO_become 48 = .ok (.invokestatic 132, 3) := by decide +kernel
theorem d_MO_become_51 : decode b_MO_become 51 = .ok (.goto 5, 3) := by decide +kernel
theorem d_MO_become_54 : decode b_MO_become 54 = .ok (.dload 5, 2) := by decide +kernel
theorem d_MO_become_56 : decode b_MO_become 56 = .ok (.dstore 5, 2) := by decide +kernel
theorem d_MO_become_58 : decode b_MO_become 58 = .ok (.dload 5, 2) := by decide +kernel
theorem d_MO_become_60 : decode b_MO_become 60 = .ok (.invokestatic 128, 3) := by decide +kernel
theorem d_MO_become_63 : decode b_MO_become 63 = .ok (.ifCond .ne 11, 3) := by decide +kernel
theorem d_MO_become_66 : decode b_MO_become 66 = .ok (.aload_n 0, 1) := by decide +kernel
theorem d_MO_become_67 : decode b_MO_become 67 = .ok (.iconst 2, 1) := by decide +kernel
theorem d_MO_become_68 : decode b_MO_become 68 = .ok (.invokevirtual 142, 3) := by decide +kernel
theorem d_MO_become_71 : decode b_MO_become 71 = .ok (.goto 83, 3) := by decide +kernel
theorem d_MO_become_74 : decode b_MO_become 74 = .ok (.aload_n 0, 1) := by decide +kernel
theorem d_MO_become_75 : decode b_MO_become 75 = .ok (.getfield 31, 3) := by decide +kernel
theorem d_MO_become_78 : decode b_MO_become 78 = .ok (.iload 4, 2) := by decide +kernel
theorem d_MO_become_80 : decode b_MO_become 80 = .ok (.dload 5, 2) := by decide +kernel
theorem d_MO_become_82 : decode b_MO_become 82 = .ok (.dastore, 1) := by decide +kernel
theorem d_MO_become_83 : decode b_MO_become 83 = .ok (.goto 71, 3) := by decide +kernel
theorem d_MO_become_86 : decode b_MO_become 86 = .ok (.dload 5, 2) := by decide +kernel
theorem d_MO_become_88 : decode b_MO_become 88 = .ok (.invokestatic 128, 3) := by decide +kernel
theorem d_MO_become_91 : decode b_MO_become 91 = .ok (.ifCond .ne 11, 3) := by decide +kernel
theorem d_MO_become_94 : decode b_MO_become 94 = .ok (.aload_n 0, 1) := by decide +kernel
theorem d_MO_become_95 : decode b_MO_become 95 = .ok (.iconst 2, 1) := by decide +kernel
theorem d_MO_become_96 : decode b_MO_become 96 = .ok (.invokevirtual 142, 3) := by decide +kernel
theorem d_MO_become_99 : decode b_MO_become 99 = .ok (.goto 55, 3) := by decide +kernel
theorem d_MO_become_102 : decode b_MO_become 102 = .ok (.aload_n 0, 1) := by decide +kernel
theorem d_MO_become_103 : decode b_MO_become 103 = .ok (.getfield 7, 3) := by decide +kernel
theorem d_MO_become_106 : decode b_MO_become 106 = .ok (.iload_n 2, 1) := by decide +kernel
theorem d_MO_become_107 : decode b_MO_become 107 = .ok (.iaload, 1) := by decide +kernel
theorem d_MO_become_108 : decode b_MO_become 108 = .ok (.bipush 10, 2) := by decide +kernel
theorem d_MO_become_110 : decode b_MO_become 110 = .ok (.if_icmp .ne 19, 3) := by decide +kernel
theorem d_MO_become_113 : decode b_MO_become 113 = .ok (.aload_n 0, 1) := by decide +kernel
theorem d_MO_become_114 : decode b_MO_become 114 = .ok (.getfield 63, 3) := by decide +kernel
theorem d_MO_become_117 : decode b_MO_become 117 = .ok (.iconst 2, 1) := by decide +kernel
theorem d_MO_become_118 : decode b_MO_become 118 = .ok (.iload_n 3, 1) := by decide +kernel
theorem d_MO_become_119 : decode b_MO_become 119 = .ok (.imul, 1) := by decide +kernel
theorem d_MO_become_120 : decode b_MO_become 120 = .ok (.iload 4, 2) := by decide +kernel
theorem d_MO_become_122 : decode b_MO_become 122 = .ok (.iadd, 1) := by decide +kernel
theorem d_MO_become_123 : decode b_MO_become 123 = .ok (.dload 5, 2) := by decide +kernel
theorem d_MO_become_125 : decode b_MO_become 125 = .ok (.dastore, 1) := by decide +kernel
theorem d_MO_become_126 : decode b_MO_become 126 = .ok (.goto 28, 3) := by decide +kernel
theorem d_MO_become_129 : decode b_MO_become 129 = .ok (.iload_n 3, 1) := by decide +kernel
theorem d_MO_become_130 : decode b_MO_become 130 = .ok (.ifCond .ne 11, 3) := by decide +kernel
theorem d_MO_become_133 : decode b_MO_become 133 = .ok (.aload_n 0, 1) := by decide +kernel
theorem d_MO_become_134 : decode b_MO_become 134 = .ok (.iconst 4, 1) := by decide +kernel
theorem d_MO_become_135 : decode b_MO_become 135 = .ok (.invokevirtual 142, 3) := by decide +kernel
theorem d_MO_become_138 : decode b_MO_become 138 = .ok (.goto 16, 3) := by decide +kernel
theorem d_MO_become_141 : decode b_MO_become 141 = .ok (.aload_n 0, 1) := by decide +kernel
theorem d_MO_become_142 : decode b_MO_become 142 = .ok (.getfield 66, 3) := by decide +kernel
theorem d_MO_become_145 : decode b_MO_become 145 = .ok (.iconst 2, 1) := by decide +kernel
theorem d_MO_become_146 : decode b_MO_become 146 = .ok (.iload_n 3, 1) := by decide +kernel
theorem d_MO_become_147 : decode b_MO_become 147 = .ok (.imul, 1) := by decide +kernel
theorem d_MO_become_148 : decode b_MO_become 148 = .ok (.iload 4, 2) := by decide +kernel
theorem d_MO_become_150 : decode b_MO_become 150 = .ok (.iadd, 1) := by decide +kernel
theorem d_MO_become_151 : decode b_MO_become 151 = .ok (.dload 5, 2) := by decide +kernel
theorem d_MO_become_153 : decode b_MO_become 153 = .ok (.dastore, 1) := by decide +kernel
theorem d_MO_become_154 : decode b_MO_become 154 = .ok (.aload_n 0, 1) := by decide +kernel
theorem d_MO_become_155 : decode b_MO_become 155 = .ok (.getfield 136, 3) := by decide +kernel
theorem d_MO_become_158 : decode b_MO_become 158 = .ok (.ifCond .ne 9, 3) := by decide +kernel
theorem d_MO_become_161 : decode b_MO_become 161 = .ok (.aload_n 0, 1) := by decide +kernel
theorem d_MO_become_162 : decode b_MO_become 162 = .ok (.dload 5, 2) := by decide +kernel
theorem d_MO_become_164 : decode b_MO_become 164 = .ok (.invokevirtual 162, 3) := by decide +kernel
theorem d_MO_become_167 : decode b_MO_become 167 = .ok (.return_, 1) := by decide +kernel
theorem d_MO_set_0 : decode b_MO_set 0 = .ok (.aload_n 0, 1) := by decide +kernel
theorem d_MO_set_1 : decode b_MO_set 1 = .ok (.getfield 75, 3) := by decide +kernel
theorem d_MO_set_4 : decode b_MO_set 4 = .ok (.iload_n 1, 1) := by decide +kernel
theorem d_MO_set_5 : decode b_MO_set 5 = .ok (.iaload, 1) := by decide +kernel
theorem d_MO_set_6 : decode b_MO_set 6 = .ok (.tableswitch 218 0 2 #[26, 80, 179], 26) := by decide +kernel
theorem d_MO_set_32 : decode b_MO_set 32 = .ok (.aload_n 0, 1) := by decide +kernel
theorem d_MO_set_33 : decode b_MO_set 33 = .ok (.getfield 7, 3) := by decide +kernel
theorem d_MO_set_36 : decode b_MO_set 36 = .ok (.aload_n 0, 1) := by decide +kernel
theorem d_MO_set_37 : decode b_MO_set 37 = .ok (.getfield 13, 3) := by decide +kernel
theorem d_MO_set_40 : decode b_MO_set 40 = .ok (.iload_n 2, 1) := by decide +kernel
theorem d_MO_set_41 : decode b_MO_set 41 = .ok (.iaload, 1) := by decide +kernel
theorem d_MO_set_42 : decode b_MO_set 42 = .ok (.iaload, 1) := by decide +kernel
theorem d_MO_set_43 : decode b_MO_set 43 = .ok (.invokestatic 190, 3) := by decide +kernel
theorem d_MO_set_46 : decode b_MO_set 46 = .ok (.ifCond .ne 9, 3) := by decide +kernel
theorem d_MO_set_49 : decode b_MO_set 49 = .ok (.aload_n 0, 1) := by decide +kernel
theorem d_MO_set_50 : decode b_MO_set 50 = .ok (.bipush 6, 2) := by decide +kernel
theorem d_MO_set_52 : decode b_MO_set 52 = .ok (.invokevirtual 142, 3) := by decide +kernel
theorem d_MO_set_55 : decode b_MO_set 55 = .ok (.aload_n 0, 1) := by decide +kernel
theorem d_MO_set_56 : decode b_MO_set 56 = .ok (.getfield 75, 3) := by decide +kernel
theorem d_MO_set_59 : decode b_MO_set 59 = .ok (.iload_n 1, 1) := by decide +kernel
theorem d_MO_set_60 : decode b_MO_set 60 = .ok (.iconst 1, 1) := by decide +kernel
theorem d_MO_set_61 : decode b_MO_set 61 = .ok (.iastore, 1) := by decide +kernel
theorem d_MO_set_62 : decode b_MO_set 62 = .ok (.aload_n 0, 1) := by decide +kernel
theorem d_MO_set_63 : decode b_MO_set 63 = .ok (.getfield 136, 3) := by decide +kernel
theorem d_MO_set_66 : decode b_MO_set 66 = .ok (.ifCond .ne 19, 3) := by decide +kernel
theorem d_MO_set_69 : decode b_MO_set 69 = .ok (.aload_n 0, 1) := by decide +kernel
theorem d_MO_set_70 : decode b_MO_set 70 = .ok (.aload_n 0, 1) := by decide +kernel
theorem d_MO_set_71 : decode b_MO_set 71 = .ok (.getfield 16, 3) := by decide +kernel
theorem d_MO_set_74 : decode b_MO_set 74 = .ok (.iload_n 2, 1) := by decide +kernel
theorem d_MO_set_75 : decode b_MO_set 75 = .ok (.iaload, 1) := by decide +kernel
theorem d_MO_set_76 : decode b_MO_set 76 = .ok (.aload_n 0, 1) := by decide +kernel
theorem d_MO_set_77 : decode b_MO_set 77 = .ok (.getfield 72, 3) := by decide +kernel
theorem d_MO_set_80 : decode b_MO_set 80 = .ok (.iload_n 1, 1) := by decide +kernel
theorem d_MO_set_81 : decode b_MO_set 81 = .ok (.iaload, 1) := by decide +kernel
theorem d_MO_set_82 : decode b_MO_set 82 = .ok (.invokevirtual 166, 3) := by decide +kernel
theorem d_MO_set_85 : decode b_MO_set 85 = .ok (.return_, 1) := by decide +kernel
theorem d_MO_set_86 : decode b_MO_set 86 = .ok (.aload_n 0, 1) := by decide +kernel
theorem d_MO_set_87 : decode b_MO_set 87 = .ok (.getfield 90, 3) := by decide +kernel
theorem d_MO_set_90 : decode b_MO_set 90 = .ok (.iload_n 1, 1) := by decide +kernel
theorem d_MO_set_91 : decode b_MO_set 91 = .ok (.aload_n 0, 1) := by decide +kernel
theorem d_MO_set_92 : decode b_MO_set 92 = .ok (.getfield 158, 3) := by decide +kernel
theorem d_MO_set_95 : decode b_MO_set 95 = .ok (.dastore, 1) := by decide +kernel
theorem d_MO_set_96 : decode b_MO_set 96 = .ok (.aload_n 0, 1) := by decide +kernel
theorem d_MO_set_97 : decode b_MO_set 97 = .ok (.getfield 84, 3) := by decide +kernel
theorem d_MO_set_100 : decode b_MO_set 100 = .ok (.iload_n 1, 1) := by decide +kernel
theorem d_MO_set_101 : decode b_MO_set 101 = .ok (.aload_n 0, 1) := by decide +kernel
theorem d_MO_set_102 : decode b_MO_set 102 = .ok (.getfield 13, 3) := by decide +kernel
theorem d_MO_set_105 : decode b_MO_set 105 = .ok (.iload_n 2, 1) := by decide +kernel
theorem d_MO_set_106 : decode b_MO_set 106 = .ok (.iaload, 1) := by decide +kernel
theorem d_MO_set_107 : decode b_MO_set 107 = .ok (.iastore, 1) := by decide +kernel
theorem d_MO_set_108 : decode b_MO_set 108 = .ok (.aload_n 0, 1) := by decide +kernel
theorem d_MO_set_109 : decode b_MO_set 109 = .ok (.getfield 87, 3) := by decide +kernel
theorem d_MO_set_112 : decode b_MO_set 112 = .ok (.iload_n 1, 1) := by decide +kernel
theorem d_MO_set_113 : decode b_MO_set 113 = .ok (.aload_n 0, 1) := by decide +kernel
theorem d_MO_set_114 : decode b_MO_set 114 = .ok (.getfield 72, 3) := by decide +kernel
theorem d_MO_set_117 : decode b_MO_set 117 = .ok (.iload_n 1, 1) := by decide +kernel
theorem d_MO_set_118 : decode b_MO_set 118 = .ok (.iaload, 1) := by decide +kernel
theorem d_MO_set_119 : decode b_MO_set 119 = .ok (.iastore, 1) := by decide +kernel
theorem d_MO_set_120 : decode b_MO_set 120 = .ok (.aload_n 0, 1) := by decide +kernel
theorem d_MO_set_121 : decode b_MO_set 121 = .ok (.iload_n 1, 1) := by decide +kernel
theorem d_MO_set_122 : decode b_MO_set 122 = .ok (.invokevirtual 193, 3) := by decide +kernel
theorem d_MO_set_125 : decode b_MO_set 125 = .ok (.aload_n 0, 1) := by decide +kernel
theorem d_MO_set_126 : decode b_MO_set 126 = .ok (.getfield 136, 3) := by decide +kernel
theorem d_MO_set_129 : decode b_MO_set 129 = .ok (.ifCond .le 4, 3) := by decide +kernel
theorem d_MO_set_132 : decode b_MO_set 132 = .ok (.return_, 1) := by decide +kernel
theorem d_MO_set_133 : decode b_MO_set 133 = .ok (.aload_n 0, 1) := by decide +kernel
theorem d_MO_set_134 : decode b_MO_set 134 = .ok (.getfield 7, 3) := by decide +kernel
theorem d_MO_set_137 : decode b_MO_set 137 = .ok (.aload_n 0, 1) := by decide +kernel
theorem d_MO_set_138 : decode b_MO_set 138 = .ok (.getfield 84, 3) := by decide +kernel
theorem d_MO_set_141 : decode b_MO_set 141 = .ok (.iload_n 1, 1) := by decide +kernel
theorem d_MO_set_142 : decode b_MO_set 142 = .ok (.iaload, 1) := by decide +kernel
theorem d_MO_set_143 : decode b_MO_set 143 = .ok (.iaload, 1) := by decide +kernel
theorem d_MO_set_144 : decode b_MO_set 144 = .ok (.iconst 2, 1) := by decide +kernel
theorem d_MO_set_145 : decode b_MO_set 145 = .ok (.if_icmp .eq 11, 3) := by decide +kernel
theorem d_MO_set_148 : decode b_MO_set 148 = .ok (.aload_n 0, 1) := by decide +kernel
theorem d_MO_set_149 : decode b_MO_set 149 = .ok (.iload_n 1, 1) := by decide +kernel
theorem d_MO_set_150 : decode b_MO_set 150 = .ok (.invokevirtual 196, 3) := by decide +kernel
theorem d_MO_set_153 : decode b_MO_set 153 = .ok (.goto 31, 3) := by decide +kernel
theorem d_MO_set_156 : decode b_MO_set 156 = .ok (.aload_n 0, 1) := by decide +kernel
theorem d_MO_set_157 : decode b_MO_set 157 = .ok (.getfield 75, 3) := by decide +kernel
theorem d_MO_set_160 : decode b_MO_set 160 = .ok (.iload_n 1, 1) := by decide +kernel
theorem d_MO_set_161 : decode b_MO_set 161 = .ok (.iconst 2, 1) := by decide +kernel
theorem d_MO_set_162 : decode b_MO_set 162 = .ok (.iastore, 1) := by decide +kernel
theorem d_MO_set_163 : decode b_MO_set 163 = .ok (.aload_n 0, 1) := by decide +kernel
theorem d_MO_set_164 : decode b_MO_set 164 = .ok (.aload_n 0, 1) := by decide +kernel
theorem d_MO_set_165 : decode b_MO_set 165 = .ok (.getfield 13, 3) := by decide +kernel
theorem d_MO_set_168 : decode b_MO_set 168 = .ok (.aload_n 0, 1) := by decide +kernel
theorem d_MO_set_169 : decode b_MO_set 169 = .ok (.getfield 84, 3) := by decide +kernel
theorem d_MO_set_172 : decode b_MO_set 172 = .ok (.iload_n 1, 1) := by decide +kernel
theorem d_MO_set_173 : decode b_MO_set 173 = .ok (.iaload, 1) := by decide +kernel
theorem d_MO_set_174 : decode b_MO_set 174 = .ok (.iaload, 1) := by decide +kernel
theorem d_MO_set_175 : decode b_MO_set 175 = .ok (.aload_n 0, 1) := by decide +kernel
theorem d_MO_set_176 : decode b_MO_set 176 = .ok (.getfield 87, 3) := by decide +kernel
theorem d_MO_set_179 : decode b_MO_set 179 = .ok (.iload_n 1, 1) := by decide +kernel
theorem d_MO_set_180 : decode b_MO_set 180 = .ok (.iaload, 1) := by decide +kernel
theorem d_MO_set_181 : decode b_MO_set 181 = .ok (.invokevirtual 166, 3) := by decide +kernel
theorem d_MO_set_184 : decode b_MO_set 184 = .ok (.return_, 1) := by decide +kernel
theorem d_MO_set_185 : decode b_MO_set 185 = .ok (.aload_n 0, 1) := by decide +kernel
theorem d_MO_set_186 : decode b_MO_set 186 = .ok (.getfield 93, 3) := by decide +kernel
theorem d_MO_set_189 : decode b_MO_set 189 = .ok (.iload_n 1, 1) := by decide +kernel
theorem d_MO_set_190 : decode b_MO_set 190 = .ok (.aload_n 0, 1) := by decide +kernel
theorem d_MO_set_191 : decode b_MO_set 191 = .ok (.getfield 158, 3) := by decide +kernel
theorem d_MO_set_194 : decode b_MO_set 194 = .ok (.dastore, 1) := by decide +kernel
theorem d_MO_set_195 : decode b_MO_set 195 = .ok (.aload_n 0, 1) := by decide +kernel
theorem d_MO_set_196 : decode b_MO_set 196 = .ok (.getfield 75, 3) := by decide +kernel
theorem d_MO_set_199 : decode b_MO_set 199 = .ok (.iload_n 1, 1) := by decide +kernel
theorem d_MO_set_200 : decode b_MO_set 200 = .ok (.iconst 3, 1) := by decide +kernel
theorem d_MO_set_201 : decode b_MO_set 201 = .ok (.iastore, 1) := by decide +kernel
theorem d_MO_set_202 : decode b_MO_set 202 = .ok (.aload_n 0, 1) := by decide +kernel
theorem d_MO_set_203 : decode b_MO_set 203 = .ok (.aload_n 0, 1) := by decide +kernel
theorem d_MO_set_204 : decode b_MO_set 204 = .ok (.getfield 16, 3) := by decide +kernel
theorem d_MO_set_207 : decode b_MO_set 207 = .ok (.aload_n 0, 1) := by decide +kernel
theorem d_MO_set_208 : decode b_MO_set 208 = .ok (.getfield 84, 3) := by decide +kernel
theorem d_MO_set_211 : decode b_MO_set 211 = .ok (.iload_n 1, 1) := by decide +kernel
theorem d_MO_set_212 : decode b_MO_set 212 = .ok (.iaload, 1) := by decide +kernel
theorem d_MO_set_213 : decode b_MO_set 213 = .ok (.iaload, 1) := by decide +kernel
theorem d_MO_set_214 : decode b_MO_set 214 = .ok (.aload_n 0, 1) := by decide +kernel
theorem d_MO_set_215 : decode b_MO_set 215 = .ok (.getfield 87, 3) := by decide +kernel
theorem d_MO_set_218 : decode b_MO_set 218 = .ok (.iload_n 1, 1) := by decide +kernel
theorem d_MO_set_219 : decode b_MO_set 219 = .ok (.iaload, 1) := by decide +kernel
theorem d_MO_set_220 : decode b_MO_set 220 = .ok (.invokevirtual 166, 3) := by decide +kernel
theorem d_MO_set_223 : decode b_MO_set 223 = .ok (.return_, 1) := by decide +kernel
theorem d_MO_set_224 : decode b_MO_set 224 = .ok (.aload_n 0, 1) := by decide +kernel
theorem d_MO_set_225 : decode b_MO_set 225 = .ok (.aload_n 0, 1) := by decide +kernel
theorem d_MO_set_226 : decode b_MO_set 226 = .ok (.getfield 93, 3) := by decide +kernel
theorem d_MO_set_229 : decode b_MO_set 229 = .ok (.iload_n 1, 1) := by decide +kernel
theorem d_MO_set_230 : decode b_MO_set 230 = .ok (.daload, 1) := by decide +kernel
theorem d_MO_set_231 : decode b_MO_set 231 = .ok (.invokestatic 132, 3) := by decide +kernel
theorem d_MO_set_234 : decode b_MO_set 234 = .ok (.aload_n 0, 1) := by decide +kernel
theorem d_MO_set_235 : decode b_MO_set 235 = .ok (.getfield 158, 3) := by decide +kernel
theorem d_MO_set_238 : decode b_MO_set 238 = .ok (.invokestatic 132, 3) := by decide +kernel
theorem d_MO_set_241 : decode b_MO_set 241 = .ok (.invokevirtual 174, 3) := by decide +kernel
theorem d_MO_set_244 : decode b_MO_set 244 = .ok (.istore_n 3, 1) := by decide +kernel
theorem d_MO_set_245 : decode b_MO_set 245 = .ok (.iload_n 3, 1) := by decide +kernel
theorem d_MO_set_246 : decode b_MO_set 246 = .ok (.ifCond .ge 11, 3) := by decide +kernel
theorem d_MO_set_249 : decode b_MO_set 249 = .ok (.aload_n 0, 1) := by decide +kernel
theorem d_MO_set_250 : decode b_MO_set 250 = .ok (.iconst 3, 1) := by decide +kernel
theorem d_MO_set_251 : decode b_MO_set 251 = .ok (.invokevirtual 142, 3) := by decide +kernel
theorem d_MO_set_254 : decode b_MO_set 254 = .ok (.goto 45, 3) := by decide +kernel
theorem d_MO_set_257 : decode b_MO_set 257 = .ok (.aload_n 0, 1) := by decide +kernel
theorem d_MO_set_258 : decode b_MO_set 258 = .ok (.getfield 90, 3) := by decide +kernel
theorem d_MO_set_261 : decode b_MO_set 261 = .ok (.iload_n 1, 1) := by decide +kernel
theorem d_MO_set_262 : decode b_MO_set 262 = .ok (.daload, 1) := by decide +kernel
theorem d_MO_set_263 : decode b_MO_set 263 = .ok (.invokestatic 128, 3) := by decide +kernel
theorem d_MO_set_266 : decode b_MO_set 266 = .ok (.ifCond .ne 11, 3) := by decide +kernel
theorem d_MO_set_269 : decode b_MO_set 269 = .ok (.aload_n 0, 1) := by decide +kernel
theorem d_MO_set_270 : decode b_MO_set 270 = .ok (.iconst 2, 1) := by decide +kernel
theorem d_MO_set_271 : decode b_MO_set 271 = .ok (.invokevirtual 142, 3) := by decide +kernel
theorem d_MO_set_274 : decode b_MO_set 274 = .ok (.goto 25, 3) := by decide +kernel
theorem d_MO_set_277 : decode b_MO_set 277 = .ok (.aload_n 0, 1) := by decide +kernel
theorem d_MO_set_278 : decode b_MO_set 278 = .ok (.getfield 35, 3) := by decide +kernel
theorem d_MO_set_281 : decode b_MO_set 281 = .ok (.iload_n 3, 1) := by decide +kernel
theorem d_MO_set_282 : decode b_MO_set 282 = .ok (.aload_n 0, 1) := by decide +kernel
theorem d_MO_set_283 : decode b_MO_set 283 = .ok (.getfield 90, 3) := by decide +kernel
theorem d_MO_set_286 : decode b_MO_set 286 = .ok (.iload_n 1, 1) := by decide +kernel
theorem d_MO_set_287 : decode b_MO_set 287 = .ok (.daload, 1) := by decide +kernel
theorem d_MO_set_288 : decode b_MO_set 288 = .ok (.dastore, 1) := by decide +kernel
theorem d_MO_set_289 : decode b_MO_set 289 = .ok (.aload_n 0, 1) := by decide +kernel
theorem d_MO_set_290 : decode b_MO_set 290 = .ok (.aload_n 0, 1) := by decide +kernel
theorem d_MO_set_291 : decode b_MO_set 291 = .ok (.getfield 90, 3) := by decide +kernel
theorem d_MO_set_294 : decode b_MO_set 294 = .ok (.iload_n 1, 1) := by decide +kernel
theorem d_MO_set_295 : decode b_MO_set 295 = .ok (.daload, 1) := by decide +kernel
theorem d_MO_set_296 : decode b_MO_set 296 = .ok (.invokevirtual 162, 3) := by decide +kernel
theorem d_MO_set_299 : decode b_MO_set 299 = .ok (.return_, 1) := by decide +kernel
theorem d_MO_jump_0 : decode b_MO_jump 0 = .ok (.aload_n 0, 1) := by decide +kernel
theorem d_MO_jump_1 : decode b_MO_jump 1 = .ok (.getfield 146, 3) := by decide +kernel
theorem d_MO_jump_4 : decode b_MO_jump 4 = .ok (.iconst 1, 1) := by decide +kernel
theorem d_MO_jump_5 : decode b_MO_jump 5 = .ok (.isub, 1) := by decide +kernel
theorem d_MO_jump_6 : decode b_MO_jump 6 = .ok (.istore_n 2, 1) := by decide +kernel
theorem d_MO_jump_7 : decode b_MO_jump 7 = .ok (.iload_n 2, 1) := by decide +kernel
theorem d_MO_jump_8 : decode b_MO_jump 8 = .ok (.ifCond .lt 40, 3) := by decide +kernel
theorem d_MO_jump_11 : decode b_MO_jump 11 = .ok (.aload_n 0, 1) := by decide +kernel
theorem d_MO_jump_12 : decode b_MO_jump 12 = .ok (.getfield 7, 3) := by decide +kernel
theorem d_MO_jump_15 : decode b_MO_jump 15 = .ok (.aload_n 0, 1) := by decide +kernel
theorem d_MO_jump_16 : decode b_MO_jump 16 = .ok (.getfield 69, 3) := by decide +kernel
theorem d_MO_jump_19 : decode b_MO_jump 19 = .ok (.iload_n 2, 1) := by decide +kernel
theorem d_MO_jump_20 : decode b_MO_jump 20 = .ok (.iaload, 1) := by decide +kernel
theorem d_MO_jump_21 : decode b_MO_jump 21 = .ok (.iaload, 1) := by decide +kernel
theorem d_MO_jump_22 : decode b_MO_jump 22 = .ok (.bipush 17, 2) := by decide +kernel
theorem d_MO_jump_24 : decode b_MO_jump 24 = .ok (.if_icmp .ne 18, 3) := by decide +kernel
theorem d_MO_jump_27 : decode b_MO_jump 27 = .ok (.aload_n 0, 1) := by decide +kernel
theorem d_MO_jump_28 : decode b_MO_jump 28 = .ok (.getfield 13, 3) := by decide +kernel
theorem d_MO_jump_31 : decode b_MO_jump 31 = .ok (.aload_n 0, 1) := by decide +kernel
