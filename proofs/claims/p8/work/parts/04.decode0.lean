theorem d_NF_init_0 : decode b_NF_init 0 = .ok (.aload_n 0, 1) := by decide +kernel
theorem d_NF_init_1 : decode b_NF_init 1 = .ok (.invokespecial 1, 3) := by decide +kernel
theorem d_NF_init_4 : decode b_NF_init 4 = .ok (.aload_n 0, 1) := by decide +kernel
theorem d_NF_init_5 : decode b_NF_init 5 = .ok (.new 7, 3) := by decide +kernel
theorem d_NF_init_8 : decode b_NF_init 8 = .ok (.dup, 1) := by decide +kernel
theorem d_NF_init_9 : decode b_NF_init 9 = .ok (.invokespecial 9, 3) := by decide +kernel
theorem d_NF_init_12 : decode b_NF_init 12 = .ok (.putfield 10, 3) := by decide +kernel
theorem d_NF_init_15 : decode b_NF_init 15 = .ok (.aload_n 0, 1) := by decide +kernel
theorem d_NF_init_16 : decode b_NF_init 16 = .ok (.new 16, 3) := by decide +kernel
theorem d_NF_init_19 : decode b_NF_init 19 = .ok (.dup, 1) := by decide +kernel
theorem d_NF_init_20 : decode b_NF_init 20 = .ok (.invokespecial 18, 3) := by decide +kernel
theorem d_NF_init_23 : decode b_NF_init 23 = .ok (.putfield 19, 3) := by decide +kernel
theorem d_NF_init_26 : decode b_NF_init 26 = .ok (.aload_n 0, 1) := by decide +kernel
theorem d_NF_init_27 : decode b_NF_init 27 = .ok (.new 23, 3) := by decide +kernel
theorem d_NF_init_30 : decode b_NF_init 30 = .ok (.dup, 1) := by decide +kernel
theorem d_NF_init_31 : decode b_NF_init 31 = .ok (.aload_n 0, 1) := by decide +kernel
theorem d_NF_init_32 : decode b_NF_init 32 = .ok (.getfield 10, 3) := by decide +kernel
theorem d_NF_init_35 : decode b_NF_init 35 = .ok (.aload_n 0, 1) := by decide +kernel
theorem d_NF_init_36 : decode b_NF_init 36 = .ok (.getfield 19, 3) := by decide +kernel
theorem d_NF_init_39 : decode b_NF_init 39 = .ok (.invokespecial 25, 3) := by decide +kernel
theorem d_NF_init_42 : decode b_NF_init 42 = .ok (.putfield 28, 3) := by decide +kernel
theorem d_NF_init_45 : decode b_NF_init 45 = .ok (.return_, 1) := by decide +kernel
theorem d_NF_make_0 : decode b_NF_make 0 = .ok (.aload_n 0, 1) := by decide +kernel
theorem d_NF_make_1 : decode b_NF_make 1 = .ok (.getfield 10, 3) := by decide +kernel
theorem d_NF_make_4 : decode b_NF_make 4 = .ok (.iload_n 1, 1) := by decide +kernel
theorem d_NF_make_5 : decode b_NF_make 5 = .ok (.iload_n 2, 1) := by decide +kernel
theorem d_NF_make_6 : decode b_NF_make 6 = .ok (.iload_n 3, 1) := by decide +kernel
theorem d_NF_make_7 : decode b_NF_make 7 = .ok (.iload 4, 2) := by decide +kernel
theorem d_NF_make_9 : decode b_NF_make 9 = .ok (.invokevirtual 32, 3) := by decide +kernel
theorem d_NF_make_12 : decode b_NF_make 12 = .ok (.ifCond .ne 13, 3) := by decide +kernel
theorem d_NF_make_15 : decode b_NF_make 15 = .ok (.new 36, 3) := by decide +kernel
theorem d_NF_make_18 : decode b_NF_make 18 = .ok (.dup, 1) := by decide +kernel
theorem d_NF_make_19 : decode b_NF_make 19 = .ok (.ldc 38, 2) := by decide +kernel
theorem d_NF_make_21 : decode b_NF_make 21 = .ok (.invokespecial 40, 3) := by decide +kernel
theorem d_NF_make_24 : decode b_NF_make 24 = .ok (.athrow, 1) := by decide +kernel
theorem d_NF_make_25 : decode b_NF_make 25 = .ok (.aload_n 0, 1) := by decide +kernel
theorem d_NF_make_26 : decode b_NF_make 26 = .ok (.getfield 10, 3) := by decide +kernel
theorem d_NF_make_29 : decode b_NF_make 29 = .ok (.getfield 43, 3) := by decide +kernel
theorem d_NF_make_32 : decode b_NF_make 32 = .ok (.bipush 48, 2) := by decide +kernel
theorem d_NF_make_34 : decode b_NF_make 34 = .ok (.if_icmp .ne 13, 3) := by decide +kernel
theorem d_NF_make_37 : decode b_NF_make 37 = .ok (.new 47, 3) := by decide +kernel
theorem d_NF_make_40 : decode b_NF_make 40 = .ok (.dup, 1) := by decide +kernel
theorem d_NF_make_41 : decode b_NF_make 41 = .ok (.ldc 49, 2) := by decide +kernel
theorem d_NF_make_43 : decode b_NF_make 43 = .ok (.invokespecial 51, 3) := by decide +kernel
theorem d_NF_make_46 : decode b_NF_make 46 = .ok (.athrow, 1) := by decide +kernel
theorem d_NF_make_47 : decode b_NF_make 47 = .ok (.aload_n 0, 1) := by decide +kernel
theorem d_NF_make_48 : decode b_NF_make 48 = .ok (.getfield 10, 3) := by decide +kernel
theorem d_NF_make_51 : decode b_NF_make 51 = .ok (.iload_n 1, 1) := by decide +kernel
theorem d_NF_make_52 : decode b_NF_make 52 = .ok (.iload_n 2, 1) := by decide +kernel
theorem d_NF_make_53 : decode b_NF_make 53 = .ok (.iload_n 3, 1) := by decide +kernel
theorem d_NF_make_54 : decode b_NF_make 54 = .ok (.iload 4, 2) := by decide +kernel
theorem d_NF_make_56 : decode b_NF_make 56 = .ok (.invokevirtual 52, 3) := by decide +kernel
theorem d_NF_make_59 : decode b_NF_make 59 = .ok (.ireturn, 1) := by decide +kernel
theorem d_NF_procedure_0 : decode b_NF_procedure 0 = .ok (.iload_n 1, 1) := by decide +kernel
theorem d_NF_procedure_1 : decode b_NF_procedure 1 = .ok (.iconst 4, 1) := by decide +kernel
theorem d_NF_procedure_2 : decode b_NF_procedure 2 = .ok (.invokestatic 56, 3) := by decide +kernel
theorem d_NF_procedure_5 : decode b_NF_procedure 5 = .ok (.ifCond .eq 31, 3) := by decide +kernel
theorem d_NF_procedure_8 : decode b_NF_procedure 8 = .ok (.aload_n 0, 1) := by decide +kernel
theorem d_NF_procedure_9 : decode b_NF_procedure 9 = .ok (.getfield 10, 3) := by decide +kernel
theorem d_NF_procedure_12 : decode b_NF_procedure 12 = .ok (.iload_n 2, 1) := by decide +kernel
theorem d_NF_procedure_13 : decode b_NF_procedure 13 = .ok (.invokevirtual 60, 3) := by decide +kernel
theorem d_NF_procedure_16 : decode b_NF_procedure 16 = .ok (.ifCond .eq 20, 3) := by decide +kernel
theorem d_NF_procedure_19 : decode b_NF_procedure 19 = .ok (.iload_n 3, 1) := by decide +kernel
theorem d_NF_procedure_20 : decode b_NF_procedure 20 = .ok (.iconst 3, 1) := by decide +kernel
theorem d_NF_procedure_21 : decode b_NF_procedure 21 = .ok (.invokestatic 56, 3) := by decide +kernel
theorem d_NF_procedure_24 : decode b_NF_procedure 24 = .ok (.ifCond .eq 12, 3) := by decide +kernel
theorem d_NF_procedure_27 : decode b_NF_procedure 27 = .ok (.iload 4, 2) := by decide +kernel
theorem d_NF_procedure_29 : decode b_NF_procedure 29 = .ok (.iconst 4, 1) := by decide +kernel
theorem d_NF_procedure_30 : decode b_NF_procedure 30 = .ok (.invokestatic 56, 3) := by decide +kernel
theorem d_NF_procedure_33 : decode b_NF_procedure 33 = .ok (.ifCond .ne 13, 3) := by decide +kernel
theorem d_NF_procedure_36 : decode b_NF_procedure 36 = .ok (.new 36, 3) := by decide +kernel
theorem d_NF_procedure_39 : decode b_NF_procedure 39 = .ok (.dup, 1) := by decide +kernel
theorem d_NF_procedure_40 : decode b_NF_procedure 40 = .ok (.ldc 64, 2) := by decide +kernel
theorem d_NF_procedure_42 : decode b_NF_procedure 42 = .ok (.invokespecial 40, 3) := by decide +kernel
theorem d_NF_procedure_45 : decode b_NF_procedure 45 = .ok (.athrow, 1) := by decide +kernel
theorem d_NF_procedure_46 : decode b_NF_procedure 46 = .ok (.aload_n 0, 1) := by decide +kernel
theorem d_NF_procedure_47 : decode b_NF_procedure 47 = .ok (.getfield 10, 3) := by decide +kernel
theorem d_NF_procedure_50 : decode b_NF_procedure 50 = .ok (.iload_n 1, 1) := by decide +kernel
theorem d_NF_procedure_51 : decode b_NF_procedure 51 = .ok (.iload_n 2, 1) := by decide +kernel
theorem d_NF_procedure_52 : decode b_NF_procedure 52 = .ok (.iload_n 3, 1) := by decide +kernel
theorem d_NF_procedure_53 : decode b_NF_procedure 53 = .ok (.iload 4, 2) := by decide +kernel
theorem d_NF_procedure_55 : decode b_NF_procedure 55 = .ok (.invokevirtual 66, 3) := by decide +kernel
theorem d_NF_procedure_58 : decode b_NF_procedure 58 = .ok (.return_, 1) := by decide +kernel
theorem d_NF_bounds_0 : decode b_NF_bounds 0 = .ok (.iload_n 1, 1) := by decide +kernel
theorem d_NF_bounds_1 : decode b_NF_bounds 1 = .ok (.iload_n 2, 1) := by decide +kernel
theorem d_NF_bounds_2 : decode b_NF_bounds 2 = .ok (.invokestatic 70, 3) := by decide +kernel
theorem d_NF_bounds_5 : decode b_NF_bounds 5 = .ok (.ifCond .eq 12, 3) := by decide +kernel
theorem d_NF_bounds_8 : decode b_NF_bounds 8 = .ok (.iload_n 3, 1) := by decide +kernel
theorem d_NF_bounds_9 : decode b_NF_bounds 9 = .ok (.iload 4, 2) := by decide +kernel
theorem d_NF_bounds_11 : decode b_NF_bounds 11 = .ok (.invokestatic 70, 3) := by decide +kernel
theorem d_NF_bounds_14 : decode b_NF_bounds 14 = .ok (.ifCond .ne 13, 3) := by decide +kernel
theorem d_NF_bounds_17 : decode b_NF_bounds 17 = .ok (.new 36, 3) := by decide +kernel
theorem d_NF_bounds_20 : decode b_NF_bounds 20 = .ok (.dup, 1) := by decide +kernel
theorem d_NF_bounds_21 : decode b_NF_bounds 21 = .ok (.ldc 73, 2) := by decide +kernel
theorem d_NF_bounds_23 : decode b_NF_bounds 23 = .ok (.invokespecial 40, 3) := by decide +kernel
theorem d_NF_bounds_26 : decode b_NF_bounds 26 = .ok (.athrow, 1) := by decide +kernel
theorem d_NF_bounds_27 : decode b_NF_bounds 27 = .ok (.aload_n 0, 1) := by decide +kernel
theorem d_NF_bounds_28 : decode b_NF_bounds 28 = .ok (.getfield 19, 3) := by decide +kernel
theorem d_NF_bounds_31 : decode b_NF_bounds 31 = .ok (.iload_n 1, 1) := by decide +kernel
theorem d_NF_bounds_32 : decode b_NF_bounds 32 = .ok (.iload_n 2, 1) := by decide +kernel
theorem d_NF_bounds_33 : decode b_NF_bounds 33 = .ok (.iload_n 3, 1) := by decide +kernel
theorem d_NF_bounds_34 : decode b_NF_bounds 34 = .ok (.iload 4, 2) := by decide +kernel
theorem d_NF_bounds_36 : decode b_NF_bounds 36 = .ok (.invokevirtual 75, 3) := by decide +kernel
theorem d_NF_bounds_39 : decode b_NF_bounds 39 = .ok (.aload_n 0, 1) := by decide +kernel
theorem d_NF_bounds_40 : decode b_NF_bounds 40 = .ok (.getfield 19, 3) := by decide +kernel
theorem d_NF_bounds_43 : decode b_NF_bounds 43 = .ok (.invokevirtual 78, 3) := by decide +kernel
theorem d_NF_bounds_46 : decode b_NF_bounds 46 = .ok (.ireturn, 1) := by decide +kernel
theorem d_NF_put_0 : decode b_NF_put 0 = .ok (.iload_n 1, 1) := by decide +kernel
theorem d_NF_put_1 : decode b_NF_put 1 = .ok (.bipush 8, 2) := by decide +kernel
theorem d_NF_put_3 : decode b_NF_put 3 = .ok (.invokestatic 56, 3) := by decide +kernel
theorem d_NF_put_6 : decode b_NF_put 6 = .ok (.ifCond .eq 10, 3) := by decide +kernel
theorem d_NF_put_9 : decode b_NF_put 9 = .ok (.dload_n 2, 1) := by decide +kernel
theorem d_NF_put_10 : decode b_NF_put 10 = .ok (.invokestatic 81, 3) := by decide +kernel
theorem d_NF_put_13 : decode b_NF_put 13 = .ok (.ifCond .ne 13, 3) := by decide +kernel
theorem d_NF_put_16 : decode b_NF_put 16 = .ok (.new 36, 3) := by decide +kernel
theorem d_NF_put_19 : decode b_NF_put 19 = .ok (.dup, 1) := by decide +kernel
theorem d_NF_put_20 : decode b_NF_put 20 = .ok (.ldc 85, 2) := by decide +kernel
theorem d_NF_put_22 : decode b_NF_put 22 = .ok (.invokespecial 40, 3) := by decide +kernel
theorem d_NF_put_25 : decode b_NF_put 25 = .ok (.athrow, 1) := by decide +kernel
theorem d_NF_put_26 : decode b_NF_put 26 = .ok (.aload_n 0, 1) := by decide +kernel
theorem d_NF_put_27 : decode b_NF_put 27 = .ok (.getfield 19, 3) := by decide +kernel
theorem d_NF_put_30 : decode b_NF_put 30 = .ok (.getfield 87, 3) := by decide +kernel
theorem d_NF_put_33 : decode b_NF_put 33 = .ok (.iload_n 1, 1) := by decide +kernel
theorem d_NF_put_34 : decode b_NF_put 34 = .ok (.daload, 1) := by decide +kernel
theorem d_NF_put_35 : decode b_NF_put 35 = .ok (.dstore 4, 2) := by decide +kernel
theorem d_NF_put_37 : decode b_NF_put 37 = .ok (.aload_n 0, 1) := by decide +kernel
theorem d_NF_put_38 : decode b_NF_put 38 = .ok (.getfield 19, 3) := by decide +kernel
theorem d_NF_put_41 : decode b_NF_put 41 = .ok (.iload_n 1, 1) := by decide +kernel
theorem d_NF_put_42 : decode b_NF_put 42 = .ok (.dload_n 2, 1) := by decide +kernel
theorem d_NF_put_43 : decode b_NF_put 43 = .ok (.invokevirtual 91, 3) := by decide +kernel
theorem d_NF_put_46 : decode b_NF_put 46 = .ok (.pop2, 1) := by decide +kernel
theorem d_NF_put_47 : decode b_NF_put 47 = .ok (.dload 4, 2) := by decide +kernel
theorem d_NF_put_49 : decode b_NF_put 49 = .ok (.dreturn, 1) := by decide +kernel
theorem d_NF_work_0 : decode b_NF_work 0 = .ok (.aload_n 0, 1) := by decide +kernel
theorem d_NF_work_1 : decode b_NF_work 1 = .ok (.getfield 10, 3) := by decide +kernel
theorem d_NF_work_4 : decode b_NF_work 4 = .ok (.iload_n 1, 1) := by decide +kernel
theorem d_NF_work_5 : decode b_NF_work 5 = .ok (.invokevirtual 60, 3) := by decide +kernel
theorem d_NF_work_8 : decode b_NF_work 8 = .ok (.ifCond .ne 13, 3) := by decide +kernel
theorem d_NF_work_11 : decode b_NF_work 11 = .ok (.new 36, 3) := by decide +kernel
theorem d_NF_work_14 : decode b_NF_work 14 = .ok (.dup, 1) := by decide +kernel
theorem d_NF_work_15 : decode b_NF_work 15 = .ok (.ldc 95, 2) := by decide +kernel
theorem d_NF_work_17 : decode b_NF_work 17 = .ok (.invokespecial 40, 3) := by decide +kernel
theorem d_NF_work_20 : decode b_NF_work 20 = .ok (.athrow, 1) := by decide +kernel
theorem d_NF_work_21 : decode b_NF_work 21 = .ok (.aload_n 0, 1) := by decide +kernel
theorem d_NF_work_22 : decode b_NF_work 22 = .ok (.getfield 28, 3) := by decide +kernel
theorem d_NF_work_25 : decode b_NF_work 25 = .ok (.iload_n 1, 1) := by decide +kernel
theorem d_NF_work_26 : decode b_NF_work 26 = .ok (.invokevirtual 97, 3) := by decide +kernel
theorem d_NF_work_29 : decode b_NF_work 29 = .ok (.dstore_n 2, 1) := by decide +kernel
theorem d_NF_work_30 : decode b_NF_work 30 = .ok (.aload_n 0, 1) := by decide +kernel
theorem d_NF_work_31 : decode b_NF_work 31 = .ok (.getfield 28, 3) := by decide +kernel
theorem d_NF_work_34 : decode b_NF_work 34 = .ok (.getfield 101, 3) := by decide +kernel
theorem d_NF_work_37 : decode b_NF_work 37 = .ok (.invokestatic 104, 3) := by decide +kernel
theorem d_NF_work_40 : decode b_NF_work 40 = .ok (.dload_n 2, 1) := by decide +kernel
theorem d_NF_work_41 : decode b_NF_work 41 = .ok (.dreturn, 1) := by decide +kernel
theorem d_NF_variable_0 : decode b_NF_variable 0 = .ok (.iload_n 1, 1) := by decide +kernel
theorem d_NF_variable_1 : decode b_NF_variable 1 = .ok (.bipush 8, 2) := by decide +kernel
theorem d_NF_variable_3 : decode b_NF_variable 3 = .ok (.invokestatic 56, 3) := by decide +kernel
theorem d_NF_variable_6 : decode b_NF_variable 6 = .ok (.ifCond .ne 13, 3) := by decide +kernel
theorem d_NF_variable_9 : decode b_NF_variable 9 = .ok (.new 36, 3) := by decide +kernel
theorem d_NF_variable_12 : decode b_NF_variable 12 = .ok (.dup, 1) := by decide +kernel
theorem d_NF_variable_13 : decode b_NF_variable 13 = .ok (.ldc 108, 2) := by decide +kernel
theorem d_NF_variable_15 : decode b_NF_variable 15 = .ok (.invokespecial 40, 3) := by decide +kernel
theorem d_NF_variable_18 : decode b_NF_variable 18 = .ok (.athrow, 1) := by decide +kernel
theorem d_NF_variable_19 : decode b_NF_variable 19 = .ok (.aload_n 0, 1) := by decide +kernel
theorem d_NF_variable_20 : decode b_NF_variable 20 = .ok (.getfield 19, 3) := by decide +kernel
theorem d_NF_variable_23 : decode b_NF_variable 23 = .ok (.getfield 87, 3) := by decide +kernel
theorem d_NF_variable_26 : decode b_NF_variable 26 = .ok (.iload_n 1, 1) := by decide +kernel
theorem d_NF_variable_27 : decode b_NF_variable 27 = .ok (.daload, 1) := by decide +kernel
theorem d_NF_variable_28 : decode b_NF_variable 28 = .ok (.dreturn, 1) := by decide +kernel
theorem d_NF_element_0 : decode b_NF_element 0 = .ok (.aload_n 0, 1) := by decide +kernel
theorem d_NF_element_1 : decode b_NF_element 1 = .ok (.getfield 19, 3) := by decide +kernel
theorem d_NF_element_4 : decode b_NF_element 4 = .ok (.iload_n 1, 1) := by decide +kernel
theorem d_NF_element_5 : decode b_NF_element 5 = .ok (.i2l, 1) := by decide +kernel
theorem d_NF_element_6 : decode b_NF_element 6 = .ok (.iload_n 2, 1) := by decide +kernel
theorem d_NF_element_7 : decode b_NF_element 7 = .ok (.i2l, 1) := by decide +kernel
theorem d_NF_element_8 : decode b_NF_element 8 = .ok (.invokevirtual 110, 3) := by decide +kernel
theorem d_NF_element_11 : decode b_NF_element 11 = .ok (.ifCond .ne 13, 3) := by decide +kernel
theorem d_NF_element_14 : decode b_NF_element 14 = .ok (.new 114, 3) := by decide +kernel
theorem d_NF_element_17 : decode b_NF_element 17 = .ok (.dup, 1) := by decide +kernel
theorem d_NF_element_18 : decode b_NF_element 18 = .ok (.ldc 116, 2) := by decide +kernel
theorem d_NF_element_20 : decode b_NF_element 20 = .ok (.invokespecial 118, 3) := by decide +kernel
theorem d_NF_element_23 : decode b_NF_element 23 = .ok (.athrow, 1) := by decide +kernel
theorem d_NF_element_24 : decode b_NF_element 24 = .ok (.aload_n 0, 1) := by decide +kernel
theorem d_NF_element_25 : decode b_NF_element 25 = .ok (.getfield 19, 3) := by decide +kernel
theorem d_NF_element_28 : decode b_NF_element 28 = .ok (.getfield 119, 3) := by decide +kernel
theorem d_NF_element_31 : decode b_NF_element 31 = .ok (.aload_n 0, 1) := by decide +kernel
theorem d_NF_element_32 : decode b_NF_element 32 = .ok (.getfield 19, 3) := by decide +kernel
theorem d_NF_element_35 : decode b_NF_element 35 = .ok (.iload_n 1, 1) := by decide +kernel
theorem d_NF_element_36 : decode b_NF_element 36 = .ok (.i2l, 1) := by decide +kernel
theorem d_NF_element_37 : decode b_NF_element 37 = .ok (.iload_n 2, 1) := by decide +kernel
theorem d_NF_element_38 : decode b_NF_element 38 = .ok (.i2l, 1) := by decide +kernel
theorem d_NF_element_39 : decode b_NF_element 39 = .ok (.invokevirtual 122, 3) := by decide +kernel
theorem d_NF_element_42 : decode b_NF_element 42 = .ok (.daload, 1) := by decide +kernel
theorem d_NF_element_43 : decode b_NF_element 43 = .ok (.dreturn, 1) := by decide +kernel
theorem d_NF_node_0 : decode b_NF_node 0 = .ok (.iload_n 2, 1) := by decide +kernel
theorem d_NF_node_1 : decode b_NF_node 1 = .ok (.iconst 4, 1) := by decide +kernel
theorem d_NF_node_2 : decode b_NF_node 2 = .ok (.invokestatic 56, 3) := by decide +kernel
theorem d_NF_node_5 : decode b_NF_node 5 = .ok (.ifCond .ne 13, 3) := by decide +kernel
theorem d_NF_node_8 : decode b_NF_node 8 = .ok (.new 36, 3) := by decide +kernel
theorem d_NF_node_11 : decode b_NF_node 11 = .ok (.dup, 1) := by decide +kernel
theorem d_NF_node_12 : decode b_NF_node 12 = .ok (.ldc 126, 2) := by decide +kernel
theorem d_NF_node_14 : decode b_NF_node 14 = .ok (.invokespecial 40, 3) := by decide +kernel
theorem d_NF_node_17 : decode b_NF_node 17 = .ok (.athrow, 1) := by decide +kernel
theorem d_NF_node_18 : decode b_NF_node 18 = .ok (.aload_n 0, 1) := by decide +kernel
theorem d_NF_node_19 : decode b_NF_node 19 = .ok (.getfield 10, 3) := by decide +kernel
theorem d_NF_node_22 : decode b_NF_node 22 = .ok (.iload_n 1, 1) := by decide +kernel
theorem d_NF_node_23 : decode b_NF_node 23 = .ok (.invokevirtual 60, 3) := by decide +kernel
theorem d_NF_node_26 : decode b_NF_node 26 = .ok (.ifCond .ne 13, 3) := by decide +kernel
theorem d_NF_node_29 : decode b_NF_node 29 = .ok (.new 114, 3) := by decide +kernel
theorem d_NF_node_32 : decode b_NF_node 32 = .ok (.dup, 1) := by decide +kernel
theorem d_NF_node_33 : decode b_NF_node 33 = .ok (.ldc 95, 2) := by decide +kernel
theorem d_NF_node_35 : decode b_NF_node 35 = .ok (.invokespecial 118, 3) := by decide +kernel
theorem d_NF_node_38 : decode b_NF_node 38 = .ok (.athrow, 1) := by decide +kernel
theorem d_NF_node_39 : decode b_NF_node 39 = .ok (.iload_n 2, 1) := by decide +kernel
theorem d_NF_node_40 : decode b_NF_node 40 = .ok (.tableswitch 58 0 2 #[28, 38, 48], 28) := by decide +kernel
theorem d_NF_node_68 : decode b_NF_node 68 = .ok (.aload_n 0, 1) := by decide +kernel
theorem d_NF_node_69 : decode b_NF_node 69 = .ok (.getfield 10, 3) := by decide +kernel
theorem d_NF_node_72 : decode b_NF_node 72 = .ok (.getfield 128, 3) := by decide +kernel
theorem d_NF_node_75 : decode b_NF_node 75 = .ok (.iload_n 1, 1) := by decide +kernel
theorem d_NF_node_76 : decode b_NF_node 76 = .ok (.iaload, 1) := by decide +kernel
theorem d_NF_node_77 : decode b_NF_node 77 = .ok (.ireturn, 1) := by decide +kernel
theorem d_NF_node_78 : decode b_NF_node 78 = .ok (.aload_n 0, 1) := by decide +kernel
theorem d_NF_node_79 : decode b_NF_node 79 = .ok (.getfield 10, 3) := by decide +kernel
theorem d_NF_node_82 : decode b_NF_node 82 = .ok (.getfield 132, 3) := by decide +kernel
theorem d_NF_node_85 : decode b_NF_node 85 = .ok (.iload_n 1, 1) := by decide +kernel
theorem d_NF_node_86 : decode b_NF_node 86 = .ok (.iaload, 1) := by decide +kernel
theorem d_NF_node_87 : decode b_NF_node 87 = .ok (.ireturn, 1) := by decide +kernel
theorem d_NF_node_88 : decode b_NF_node 88 = .ok (.aload_n 0, 1) := by decide +kernel
theorem d_NF_node_89 : decode b_NF_node 89 = .ok (.getfield 10, 3) := by decide +kernel
theorem d_NF_node_92 : decode b_NF_node 92 = .ok (.getfield 135, 3) := by decide +kernel
theorem d_NF_node_95 : decode b_NF_node 95 = .ok (.iload_n 1, 1) := by decide +kernel
theorem d_NF_node_96 : decode b_NF_node 96 = .ok (.iaload, 1) := by decide +kernel
theorem d_NF_node_97 : decode b_NF_node 97 = .ok (.ireturn, 1) := by decide +kernel
theorem d_NF_node_98 : decode b_NF_node 98 = .ok (.aload_n 0, 1) := by decide +kernel
theorem d_NF_node_99 : decode b_NF_node 99 = .ok (.getfield 10, 3) := by decide +kernel
theorem d_NF_node_102 : decode b_NF_node 102 = .ok (.getfield 138, 3) := by decide +kernel
theorem d_NF_node_105 : decode b_NF_node 105 = .ok (.iload_n 1, 1) := by decide +kernel
theorem d_NF_node_106 : decode b_NF_node 106 = .ok (.iaload, 1) := by decide +kernel
theorem d_NF_node_107 : decode b_NF_node 107 = .ok (.ireturn, 1) := by decide +kernel
theorem d_NF_clear_0 : decode b_NF_clear 0 = .ok (.aload_n 0, 1) := by decide +kernel
theorem d_NF_clear_1 : decode b_NF_clear 1 = .ok (.getfield 10, 3) := by decide +kernel
theorem d_NF_clear_4 : decode b_NF_clear 4 = .ok (.getfield 43, 3) := by decide +kernel
theorem d_NF_clear_7 : decode b_NF_clear 7 = .ok (.istore_n 1, 1) := by decide +kernel
theorem d_NF_clear_8 : decode b_NF_clear 8 = .ok (.aload_n 0, 1) := by decide +kernel
theorem d_NF_clear_9 : decode b_NF_clear 9 = .ok (.getfield 10, 3) := by decide +kernel
theorem d_NF_clear_12 : decode b_NF_clear 12 = .ok (.invokevirtual 141, 3) := by decide +kernel
theorem d_NF_clear_15 : decode b_NF_clear 15 = .ok (.iload_n 1, 1) := by decide +kernel
theorem d_NF_clear_16 : decode b_NF_clear 16 = .ok (.ireturn, 1) := by decide +kernel
theorem d_NF_count_0 : decode b_NF_count 0 = .ok (.iload_n 1, 1) := by decide +kernel
theorem d_NF_count_1 : decode b_NF_count 1 = .ok (.tableswitch 99 0 6 #[43, 51, 59, 67, 75, 83, 91], 43) := by decide +kernel
theorem d_NF_count_44 : decode b_NF_count 44 = .ok (.aload_n 0, 1) := by decide +kernel
theorem d_NF_count_45 : decode b_NF_count 45 = .ok (.getfield 10, 3) := by decide +kernel
theorem d_NF_count_48 : decode b_NF_count 48 = .ok (.getfield 43, 3) := by decide +kernel
theorem d_NF_count_51 : decode b_NF_count 51 = .ok (.ireturn, 1) := by decide +kernel
theorem d_NF_count_52 : decode b_NF_count 52 = .ok (.aload_n 0, 1) := by decide +kernel
theorem d_NF_count_53 : decode b_NF_count 53 = .ok (.getfield 19, 3) := by decide +kernel
theorem d_NF_count_56 : decode b_NF_count 56 = .ok (.invokevirtual 78, 3) := by decide +kernel
theorem d_NF_count_59 : decode b_NF_count 59 = .ok (.ireturn, 1) := by decide +kernel
theorem d_NF_count_60 : decode b_NF_count 60 = .ok (.aload_n 0, 1) := by decide +kernel
theorem d_NF_count_61 : decode b_NF_count 61 = .ok (.getfield 28, 3) := by decide +kernel
theorem d_NF_count_64 : decode b_NF_count 64 = .ok (.getfield 144, 3) := by decide +kernel
theorem d_NF_count_67 : decode b_NF_count 67 = .ok (.ireturn, 1) := by decide +kernel
theorem d_NF_count_68 : decode b_NF_count 68 = .ok (.aload_n 0, 1) := by decide +kernel
theorem d_NF_count_69 : decode b_NF_count 69 = .ok (.getfield 28, 3) := by decide +kernel
theorem d_NF_count_72 : decode b_NF_count 72 = .ok (.getfield 101, 3) := by decide +kernel
theorem d_NF_count_75 : decode b_NF_count 75 = .ok (.ireturn, 1) := by decide +kernel
theorem d_NF_count_76 : decode b_NF_count 76 = .ok (.aload_n 0, 1) := by decide +kernel
theorem d_NF_count_77 : decode b_NF_count 77 = .ok (.getfield 28, 3) := by decide +kernel
theorem d_NF_count_80 : decode b_NF_count 80 = .ok (.getfield 147, 3) := by decide +kernel
theorem d_NF_count_83 : decode b_NF_count 83 = .ok (.ireturn, 1) := by decide +kernel
theorem d_NF_count_84 : decode b_NF_count 84 = .ok (.aload_n 0, 1) := by decide +kernel
theorem d_NF_count_85 : decode b_NF_count 85 = .ok (.getfield 28, 3) := by decide +kernel
theorem d_NF_count_88 : decode b_NF_count 88 = .ok (.getfield 150, 3) := by decide +kernel
theorem d_NF_count_91 : decode b_NF_count 91 = .ok (.ireturn, 1) := by decide +kernel
theorem d_NF_count_92 : decode b_NF_count 92 = .ok (.aload_n 0, 1) := by decide +kernel
theorem d_NF_count_93 : decode b_NF_count 93 = .ok (.getfield 28, 3) := by decide +kernel
theorem d_NF_count_96 : decode b_NF_count 96 = .ok (.getfield 153, 3) := by decide +kernel
theorem d_NF_count_99 : decode b_NF_count 99 = .ok (.ireturn, 1) := by decide +kernel
theorem d_NF_count_100 : decode b_NF_count 100 = .ok (.new 36, 3) := by decide +kernel
theorem d_NF_count_103 : decode b_NF_count 103 = .ok (.dup, 1) := by decide +kernel
theorem d_NF_count_104 : decode b_NF_count 104 = .ok (.ldc 156, 2) := by decide +kernel
theorem d_NF_count_106 : decode b_NF_count 106 = .ok (.invokespecial 40, 3) := by decide +kernel
theorem d_NF_count_109 : decode b_NF_count 109 = .ok (.athrow, 1) := by decide +kernel
theorem d_NF_throwFault_0 : decode b_NF_throwFault 0 = .ok (.iload_n 0, 1) := by decide +kernel
theorem d_NF_throwFault_1 : decode b_NF_throwFault 1 = .ok (.tableswitch 127 1 8 #[47, 57, 67, 77, 87, 97, 107, 117], 47) := by decide +kernel
theorem d_NF_throwFault_48 : decode b_NF_throwFault 48 = .ok (.new 158, 3) := by decide +kernel
theorem d_NF_throwFault_51 : decode b_NF_throwFault 51 = .ok (.dup, 1) := by decide +kernel
theorem d_NF_throwFault_52 : decode b_NF_throwFault 52 = .ok (.ldc 160, 2) := by decide +kernel
theorem d_NF_throwFault_54 : decode b_NF_throwFault 54 = .ok (.invokespecial 162, 3) := by decide +kernel
theorem d_NF_throwFault_57 : decode b_NF_throwFault 57 = .ok (.athrow, 1) := by decide +kernel
theorem d_NF_throwFault_58 : decode b_NF_throwFault 58 = .ok (.new 158, 3) := by decide +kernel
theorem d_NF_throwFault_61 : decode b_NF_throwFault 61 = .ok (.dup, 1) := by decide +kernel
theorem d_NF_throwFault_62 : decode b_NF_throwFault 62 = .ok (.ldc 163, 2) := by decide +kernel
theorem d_NF_throwFault_64 : decode b_NF_throwFault 64 = .ok (.invokespecial 162, 3) := by decide +kernel
theorem d_NF_throwFault_67 : decode b_NF_throwFault 67 = .ok (.athrow, 1) := by decide +kernel
theorem d_NF_throwFault_68 : decode b_NF_throwFault 68 = .ok (.new 114, 3) := by decide +kernel
theorem d_NF_throwFault_71 : decode b_NF_throwFault 71 = .ok (.dup, 1) := by decide +kernel
theorem d_NF_throwFault_72 : decode b_NF_throwFault 72 = .ok (.ldc 165, 2) := by decide +kernel
theorem d_NF_throwFault_74 : decode b_NF_throwFault 74 = .ok (.invokespecial 118, 3) := by decide +kernel
theorem d_NF_throwFault_77 : decode b_NF_throwFault 77 = .ok (.athrow, 1) := by decide +kernel
theorem d_NF_throwFault_78 : decode b_NF_throwFault 78 = .ok (.new 167, 3) := by decide +kernel
theorem d_NF_throwFault_81 : decode b_NF_throwFault 81 = .ok (.dup, 1) := by decide +kernel
theorem d_NF_throwFault_82 : decode b_NF_throwFault 82 = .ok (.ldc 169, 2) := by decide +kernel
theorem d_NF_throwFault_84 : decode b_NF_throwFault 84 = .ok (.invokespecial 171, 3) := by decide +kernel
theorem d_NF_throwFault_87 : decode b_NF_throwFault 87 = .ok (.athrow, 1) := by decide +kernel
theorem d_NF_throwFault_88 : decode b_NF_throwFault 88 = .ok (.new 172, 3) := by decide +kernel
theorem d_NF_throwFault_91 : decode b_NF_throwFault 91 = .ok (.dup, 1) := by decide +kernel
theorem d_NF_throwFault_92 : decode b_NF_throwFault 92 = .ok (.ldc 174, 2) := by decide +kernel
theorem d_NF_throwFault_94 : decode b_NF_throwFault 94 = .ok (.invokespecial 176, 3) := by decide +kernel
theorem d_NF_throwFault_97 : decode b_NF_throwFault 97 = .ok (.athrow, 1) := by decide +kernel
theorem d_NF_throwFault_98 : decode b_NF_throwFault 98 = .ok (.new 167, 3) := by decide +kernel
theorem d_NF_throwFault_101 : decode b_NF_throwFault 101 = .ok (.dup, 1) := by decide +kernel
theorem d_NF_throwFault_102 : decode b_NF_throwFault 102 = .ok (.ldc 177, 2) := by decide +kernel
theorem d_NF_throwFault_104 : decode b_NF_throwFault 104 = .ok (.invokespecial 171, 3) := by decide +kernel
theorem d_NF_throwFault_107 : decode b_NF_throwFault 107 = .ok (.athrow, 1) := by decide +kernel
theorem d_NF_throwFault_108 : decode b_NF_throwFault 108 = .ok (.new 47, 3) := by decide +kernel
theorem d_NF_throwFault_111 : decode b_NF_throwFault 111 = .ok (.dup, 1) := by decide +kernel
theorem d_NF_throwFault_112 : decode b_NF_throwFault 112 = .ok (.ldc 179, 2) := by decide +kernel
theorem d_NF_throwFault_114 : decode b_NF_throwFault 114 = .ok (.invokespecial 51, 3) := by decide +kernel
theorem d_NF_throwFault_117 : decode b_NF_throwFault 117 = .ok (.athrow, 1) := by decide +kernel
theorem d_NF_throwFault_118 : decode b_NF_throwFault 118 = .ok (.new 47, 3) := by decide +kernel
theorem d_NF_throwFault_121 : decode b_NF_throwFault 121 = .ok (.dup, 1) := by decide +kernel
theorem d_NF_throwFault_122 : decode b_NF_throwFault 122 = .ok (.ldc 181, 2) := by decide +kernel
theorem d_NF_throwFault_124 : decode b_NF_throwFault 124 = .ok (.invokespecial 51, 3) := by decide +kernel
theorem d_NF_throwFault_127 : decode b_NF_throwFault 127 = .ok (.athrow, 1) := by decide +kernel
theorem d_NF_throwFault_128 : decode b_NF_throwFault 128 = .ok (.return_, 1) := by decide +kernel
theorem d_NF_isBelow_0 : decode b_NF_isBelow 0 = .ok (.iload_n 0, 1) := by decide +kernel
theorem d_NF_isBelow_1 : decode b_NF_isBelow 1 = .ok (.ifCond .lt 12, 3) := by decide +kernel
theorem d_NF_isBelow_4 : decode b_NF_isBelow 4 = .ok (.iload_n 0, 1) := by decide +kernel
theorem d_NF_isBelow_5 : decode b_NF_isBelow 5 = .ok (.iload_n 1, 1) := by decide +kernel
theorem d_NF_isBelow_6 : decode b_NF_isBelow 6 = .ok (.if_icmp .ge 7, 3) := by decide +kernel
theorem d_NF_isBelow_9 : decode b_NF_isBelow 9 = .ok (.iconst 1, 1) := by decide +kernel
theorem d_NF_isBelow_10 : decode b_NF_isBelow 10 = .ok (.goto 4, 3) := by decide +kernel
theorem d_NF_isBelow_13 : decode b_NF_isBelow 13 = .ok (.iconst 0, 1) := by decide +kernel
theorem d_NF_isBelow_14 : decode b_NF_isBelow 14 = .ok (.ireturn, 1) := by decide +kernel
theorem d_NF_areBounds_0 : decode b_NF_areBounds 0 = .ok (.iload_n 0, 1) := by decide +kernel
theorem d_NF_areBounds_1 : decode b_NF_areBounds 1 = .ok (.bipush (-9), 2) := by decide +kernel
theorem d_NF_areBounds_3 : decode b_NF_areBounds 3 = .ok (.if_icmp .lt 25, 3) := by decide +kernel
theorem d_NF_areBounds_6 : decode b_NF_areBounds 6 = .ok (.iload_n 1, 1) := by decide +kernel
theorem d_NF_areBounds_7 : decode b_NF_areBounds 7 = .ok (.bipush 9, 2) := by decide +kernel
theorem d_NF_areBounds_9 : decode b_NF_areBounds 9 = .ok (.if_icmp .gt 19, 3) := by decide +kernel
theorem d_NF_areBounds_12 : decode b_NF_areBounds 12 = .ok (.iload_n 0, 1) := by decide +kernel
theorem d_NF_areBounds_13 : decode b_NF_areBounds 13 = .ok (.iload_n 1, 1) := by decide +kernel
theorem d_NF_areBounds_14 : decode b_NF_areBounds 14 = .ok (.if_icmp .gt 14, 3) := by decide +kernel
theorem d_NF_areBounds_17 : decode b_NF_areBounds 17 = .ok (.iload_n 1, 1) := by decide +kernel
theorem d_NF_areBounds_18 : decode b_NF_areBounds 18 = .ok (.iload_n 0, 1) := by decide +kernel
theorem d_NF_areBounds_19 : decode b_NF_areBounds 19 = .ok (.isub, 1) := by decide +kernel
theorem d_NF_areBounds_20 : decode b_NF_areBounds 20 = .ok (.iconst 5, 1) := by decide +kernel
theorem d_NF_areBounds_21 : decode b_NF_areBounds 21 = .ok (.if_icmp .ge 7, 3) := by decide +kernel
theorem d_NF_areBounds_24 : decode b_NF_areBounds 24 = .ok (.iconst 1, 1) := by decide +kernel
theorem d_NF_areBounds_25 : decode b_NF_areBounds 25 = .ok (.goto 4, 3) := by decide +kernel
theorem d_NF_areBounds_28 : decode b_NF_areBounds 28 = .ok (.iconst 0, 1) := by decide +kernel
theorem d_NF_areBounds_29 : decode b_NF_areBounds 29 = .ok (.ireturn, 1) := by decide +kernel
theorem d_NF_isWithinSize_0 : decode b_NF_isWithinSize 0 = .ok (.dload_n 0, 1) := by decide +kernel
theorem d_NF_isWithinSize_1 : decode b_NF_isWithinSize 1 = .ok (.ldc2_w 183, 3) := by decide +kernel
theorem d_NF_isWithinSize_4 : decode b_NF_isWithinSize 4 = .ok (.dcmp .l, 1) := by decide +kernel
theorem d_NF_isWithinSize_5 : decode b_NF_isWithinSize 5 = .ok (.ifCond .lt 15, 3) := by decide +kernel
theorem d_NF_isWithinSize_8 : decode b_NF_isWithinSize 8 = .ok (.dload_n 0, 1) := by decide +kernel
theorem d_NF_isWithinSize_9 : decode b_NF_isWithinSize 9 = .ok (.ldc2_w 185, 3) := by decide +kernel
theorem d_NF_isWithinSize_12 : decode b_NF_isWithinSize 12 = .ok (.dcmp .g, 1) := by decide +kernel
theorem d_NF_isWithinSize_13 : decode b_NF_isWithinSize 13 = .ok (.ifCond .gt 7, 3) := by decide +kernel
theorem d_NF_isWithinSize_16 : decode b_NF_isWithinSize 16 = .ok (.iconst 1, 1) := by decide +kernel
theorem d_NF_isWithinSize_17 : decode b_NF_isWithinSize 17 = .ok (.goto 4, 3) := by decide +kernel
theorem d_NF_isWithinSize_20 : decode b_NF_isWithinSize 20 = .ok (.iconst 0, 1) := by decide +kernel
theorem d_NF_isWithinSize_21 : decode b_NF_isWithinSize 21 = .ok (.ireturn, 1) := by decide +kernel
theorem d_NF_rounded_0 : decode b_NF_rounded 0 = .ok (.dload_n 0, 1) := by decide +kernel
theorem d_NF_rounded_1 : decode b_NF_rounded 1 = .ok (.ldc2_w 187, 3) := by decide +kernel
theorem d_NF_rounded_4 : decode b_NF_rounded 4 = .ok (.dadd, 1) := by decide +kernel
theorem d_NF_rounded_5 : decode b_NF_rounded 5 = .ok (.dstore_n 2, 1) := by decide +kernel
theorem d_NF_rounded_6 : decode b_NF_rounded 6 = .ok (.dload_n 2, 1) := by decide +kernel
theorem d_NF_rounded_7 : decode b_NF_rounded 7 = .ok (.d2l, 1) := by decide +kernel
theorem d_NF_rounded_8 : decode b_NF_rounded 8 = .ok (.lstore 4, 2) := by decide +kernel
theorem d_NF_rounded_10 : decode b_NF_rounded 10 = .ok (.lload 4, 2) := by decide +kernel
theorem d_NF_rounded_12 : decode b_NF_rounded 12 = .ok (.l2d, 1) := by decide +kernel
theorem d_NF_rounded_13 : decode b_NF_rounded 13 = .ok (.dload_n 2, 1) := by decide +kernel
theorem d_NF_rounded_14 : decode b_NF_rounded 14 = .ok (.dcmp .l, 1) := by decide +kernel
theorem d_NF_rounded_15 : decode b_NF_rounded 15 = .ok (.ifCond .le 10, 3) := by decide +kernel
theorem d_NF_rounded_18 : decode b_NF_rounded 18 = .ok (.lload 4, 2) := by decide +kernel
theorem d_NF_rounded_20 : decode b_NF_rounded 20 = .ok (.lconst 1, 1) := by decide +kernel
theorem d_NF_rounded_21 : decode b_NF_rounded 21 = .ok (.lsub, 1) := by decide +kernel
theorem d_NF_rounded_22 : decode b_NF_rounded 22 = .ok (.goto 5, 3) := by decide +kernel
theorem d_NF_rounded_25 : decode b_NF_rounded 25 = .ok (.lload 4, 2) := by decide +kernel
theorem d_NF_rounded_27 : decode b_NF_rounded 27 = .ok (.lreturn, 1) := by decide +kernel
theorem d_EN_init_0 : decode b_EN_init 0 = .ok (.aload_n 0, 1) := by decide +kernel
theorem d_EN_init_1 : decode b_EN_init 1 = .ok (.invokespecial 3, 3) := by decide +kernel
theorem d_EN_init_4 : decode b_EN_init 4 = .ok (.aload_n 0, 1) := by decide +kernel
theorem d_EN_init_5 : decode b_EN_init 5 = .ok (.iconst 2, 1) := by decide +kernel
theorem d_EN_init_6 : decode b_EN_init 6 = .ok (.newarray .int, 2) := by decide +kernel
theorem d_EN_init_8 : decode b_EN_init 8 = .ok (.putfield 9, 3) := by decide +kernel
theorem d_EN_init_11 : decode b_EN_init 11 = .ok (.aload_n 0, 1) := by decide +kernel
theorem d_EN_init_12 : decode b_EN_init 12 = .ok (.iconst 2, 1) := by decide +kernel
theorem d_EN_init_13 : decode b_EN_init 13 = .ok (.newarray .double, 2) := by decide +kernel
theorem d_EN_init_15 : decode b_EN_init 15 = .ok (.putfield 15, 3) := by decide +kernel
theorem d_EN_init_18 : decode b_EN_init 18 = .ok (.aload_n 0, 1) := by decide +kernel
theorem d_EN_init_19 : decode b_EN_init 19 = .ok (.iconst 2, 1) := by decide +kernel
theorem d_EN_init_20 : decode b_EN_init 20 = .ok (.newarray .double, 2) := by decide +kernel
theorem d_EN_init_22 : decode b_EN_init 22 = .ok (.putfield 19, 3) := by decide +kernel
theorem d_EN_init_25 : decode b_EN_init 25 = .ok (.return_, 1) := by decide +kernel
theorem d_EN_begin_0 : decode b_EN_begin 0 = .ok (.aload_n 0, 1) := by decide +kernel
theorem d_EN_begin_1 : decode b_EN_begin 1 = .ok (.aload_n 1, 1) := by decide +kernel
theorem d_EN_begin_2 : decode b_EN_begin 2 = .ok (.putfield 22, 3) := by decide +kernel
theorem d_EN_begin_5 : decode b_EN_begin 5 = .ok (.aload_n 0, 1) := by decide +kernel
theorem d_EN_begin_6 : decode b_EN_begin 6 = .ok (.iload_n 2, 1) := by decide +kernel
theorem d_EN_begin_7 : decode b_EN_begin 7 = .ok (.putfield 26, 3) := by decide +kernel
theorem d_EN_begin_10 : decode b_EN_begin 10 = .ok (.aload_n 0, 1) := by decide +kernel
theorem d_EN_begin_11 : decode b_EN_begin 11 = .ok (.iload_n 3, 1) := by decide +kernel
theorem d_EN_begin_12 : decode b_EN_begin 12 = .ok (.putfield 30, 3) := by decide +kernel
theorem d_EN_begin_15 : decode b_EN_begin 15 = .ok (.aload_n 0, 1) := by decide +kernel
theorem d_EN_begin_16 : decode b_EN_begin 16 = .ok (.getfield 19, 3) := by decide +kernel
theorem d_EN_begin_19 : decode b_EN_begin 19 = .ok (.dconst 0, 1) := by decide +kernel
theorem d_EN_begin_20 : decode b_EN_begin 20 = .ok (.invokestatic 33, 3) := by decide +kernel
theorem d_EN_begin_23 : decode b_EN_begin 23 = .ok (.return_, 1) := by decide +kernel
theorem d_EN_give_0 : decode b_EN_give 0 = .ok (.aload_n 0, 1) := by decide +kernel
theorem d_EN_give_1 : decode b_EN_give 1 = .ok (.getfield 9, 3) := by decide +kernel
theorem d_EN_give_4 : decode b_EN_give 4 = .ok (.iload_n 1, 1) := by decide +kernel
theorem d_EN_give_5 : decode b_EN_give 5 = .ok (.iload_n 2, 1) := by decide +kernel
theorem d_EN_give_6 : decode b_EN_give 6 = .ok (.iastore, 1) := by decide +kernel
theorem d_EN_give_7 : decode b_EN_give 7 = .ok (.aload_n 0, 1) := by decide +kernel
theorem d_EN_give_8 : decode b_EN_give 8 = .ok (.getfield 15, 3) := by decide +kernel
theorem d_EN_give_11 : decode b_EN_give 11 = .ok (.iload_n 1, 1) := by decide +kernel
theorem d_EN_give_12 : decode b_EN_give 12 = .ok (.dload_n 3, 1) := by decide +kernel
theorem d_EN_give_13 : decode b_EN_give 13 = .ok (.dastore, 1) := by decide +kernel
theorem d_EN_give_14 : decode b_EN_give 14 = .ok (.return_, 1) := by decide +kernel
theorem d_EN_hasParameter_0 : decode b_EN_hasParameter 0 = .ok (.aload_n 0, 1) := by decide +kernel
theorem d_EN_hasParameter_1 : decode b_EN_hasParameter 1 = .ok (.getfield 22, 3) := by decide +kernel
theorem d_EN_hasParameter_4 : decode b_EN_hasParameter 4 = .ok (.ifnull 15, 3) := by decide +kernel
theorem d_EN_hasParameter_7 : decode b_EN_hasParameter 7 = .ok (.iload_n 1, 1) := by decide +kernel
theorem d_EN_hasParameter_8 : decode b_EN_hasParameter 8 = .ok (.aload_n 0, 1) := by decide +kernel
theorem d_EN_hasParameter_9 : decode b_EN_hasParameter 9 = .ok (.getfield 26, 3) := by decide +kernel
theorem d_EN_hasParameter_12 : decode b_EN_hasParameter 12 = .ok (.if_icmp .ge 7, 3) := by decide +kernel
theorem d_EN_hasParameter_15 : decode b_EN_hasParameter 15 = .ok (.iconst 1, 1) := by decide +kernel
theorem d_EN_hasParameter_16 : decode b_EN_hasParameter 16 = .ok (.goto 4, 3) := by decide +kernel
theorem d_EN_hasParameter_19 : decode b_EN_hasParameter 19 = .ok (.iconst 0, 1) := by decide +kernel
theorem d_EN_hasParameter_20 : decode b_EN_hasParameter 20 = .ok (.ireturn, 1) := by decide +kernel
theorem d_EN_hasLocals_0 : decode b_EN_hasLocals 0 = .ok (.aload_n 0, 1) := by decide +kernel
theorem d_EN_hasLocals_1 : decode b_EN_hasLocals 1 = .ok (.getfield 22, 3) := by decide +kernel
theorem d_EN_hasLocals_4 : decode b_EN_hasLocals 4 = .ok (.ifnull 7, 3) := by decide +kernel
theorem d_EN_hasLocals_7 : decode b_EN_hasLocals 7 = .ok (.iconst 1, 1) := by decide +kernel
theorem d_EN_hasLocals_8 : decode b_EN_hasLocals 8 = .ok (.goto 4, 3) := by decide +kernel
theorem d_EN_hasLocals_11 : decode b_EN_hasLocals 11 = .ok (.iconst 0, 1) := by decide +kernel
theorem d_EN_hasLocals_12 : decode b_EN_hasLocals 12 = .ok (.ireturn, 1) := by decide +kernel
theorem d_EN_isByName_0 : decode b_EN_isByName 0 = .ok (.aload_n 0, 1) := by decide +kernel
theorem d_EN_isByName_1 : decode b_EN_isByName 1 = .ok (.getfield 30, 3) := by decide +kernel
theorem d_EN_isByName_4 : decode b_EN_isByName 4 = .ok (.iload_n 1, 1) := by decide +kernel
theorem d_EN_isByName_5 : decode b_EN_isByName 5 = .ok (.ishr, 1) := by decide +kernel
theorem d_EN_isByName_6 : decode b_EN_isByName 6 = .ok (.iconst 1, 1) := by decide +kernel
theorem d_EN_isByName_7 : decode b_EN_isByName 7 = .ok (.iand, 1) := by decide +kernel
theorem d_EN_isByName_8 : decode b_EN_isByName 8 = .ok (.iconst 1, 1) := by decide +kernel
theorem d_EN_isByName_9 : decode b_EN_isByName 9 = .ok (.if_icmp .ne 7, 3) := by decide +kernel
theorem d_EN_isByName_12 : decode b_EN_isByName 12 = .ok (.iconst 1, 1) := by decide +kernel
theorem d_EN_isByName_13 : decode b_EN_isByName 13 = .ok (.goto 4, 3) := by decide +kernel
theorem d_EN_isByName_16 : decode b_EN_isByName 16 = .ok (.iconst 0, 1) := by decide +kernel
theorem d_EN_isByName_17 : decode b_EN_isByName 17 = .ok (.ireturn, 1) := by decide +kernel
theorem d_PR_init_0 : decode b_PR_init 0 = .ok (.aload_n 0, 1) := by decide +kernel
theorem d_PR_init_1 : decode b_PR_init 1 = .ok (.invokespecial 3, 3) := by decide +kernel
theorem d_PR_init_4 : decode b_PR_init 4 = .ok (.aload_n 0, 1) := by decide +kernel
theorem d_PR_init_5 : decode b_PR_init 5 = .ok (.bipush 48, 2) := by decide +kernel
theorem d_PR_init_7 : decode b_PR_init 7 = .ok (.newarray .int, 2) := by decide +kernel
theorem d_PR_init_9 : decode b_PR_init 9 = .ok (.putfield 9, 3) := by decide +kernel
theorem d_PR_init_12 : decode b_PR_init 12 = .ok (.aload_n 0, 1) := by decide +kernel
theorem d_PR_init_13 : decode b_PR_init 13 = .ok (.bipush 48, 2) := by decide +kernel
theorem d_PR_init_15 : decode b_PR_init 15 = .ok (.newarray .int, 2) := by decide +kernel
theorem d_PR_init_17 : decode b_PR_init 17 = .ok (.putfield 15, 3) := by decide +kernel
theorem d_PR_init_20 : decode b_PR_init 20 = .ok (.aload_n 0, 1) := by decide +kernel
theorem d_PR_init_21 : decode b_PR_init 21 = .ok (.bipush 48, 2) := by decide +kernel
theorem d_PR_init_23 : decode b_PR_init 23 = .ok (.newarray .int, 2) := by decide +kernel
theorem d_PR_init_25 : decode b_PR_init 25 = .ok (.putfield 18, 3) := by decide +kernel
theorem d_PR_init_28 : decode b_PR_init 28 = .ok (.aload_n 0, 1) := by decide +kernel
theorem d_PR_init_29 : decode b_PR_init 29 = .ok (.bipush 48, 2) := by decide +kernel
theorem d_PR_init_31 : decode b_PR_init 31 = .ok (.newarray .int, 2) := by decide +kernel
theorem d_PR_init_33 : decode b_PR_init 33 = .ok (.putfield 21, 3) := by decide +kernel
theorem d_PR_init_36 : decode b_PR_init 36 = .ok (.aload_n 0, 1) := by decide +kernel
theorem d_PR_init_37 : decode b_PR_init 37 = .ok (.iconst 4, 1) := by decide +kernel
theorem d_PR_init_38 : decode b_PR_init 38 = .ok (.newarray .int, 2) := by decide +kernel
theorem d_PR_init_40 : decode b_PR_init 40 = .ok (.putfield 24, 3) := by decide +kernel
theorem d_PR_init_43 : decode b_PR_init 43 = .ok (.aload_n 0, 1) := by decide +kernel
theorem d_PR_init_44 : decode b_PR_init 44 = .ok (.iconst 4, 1) := by decide +kernel
theorem d_PR_init_45 : decode b_PR_init 45 = .ok (.newarray .int, 2) := by decide +kernel
theorem d_PR_init_47 : decode b_PR_init 47 = .ok (.putfield 27, 3) := by decide +kernel
theorem d_PR_init_50 : decode b_PR_init 50 = .ok (.aload_n 0, 1) := by decide +kernel
theorem d_PR_init_51 : decode b_PR_init 51 = .ok (.iconst 4, 1) := by decide +kernel
theorem d_PR_init_52 : decode b_PR_init 52 = .ok (.newarray .int, 2) := by decide +kernel
theorem d_PR_init_54 : decode b_PR_init 54 = .ok (.putfield 30, 3) := by decide +kernel
theorem d_PR_init_57 : decode b_PR_init 57 = .ok (.aload_n 0, 1) := by decide +kernel
theorem d_PR_init_58 : decode b_PR_init 58 = .ok (.getfield 24, 3) := by decide +kernel
theorem d_PR_init_61 : decode b_PR_init 61 = .ok (.iconst (-1), 1) := by decide +kernel
theorem d_PR_init_62 : decode b_PR_init 62 = .ok (.invokestatic 33, 3) := by decide +kernel
theorem d_PR_init_65 : decode b_PR_init 65 = .ok (.return_, 1) := by decide +kernel
theorem d_PR_has_0 : decode b_PR_has 0 = .ok (.iload_n 1, 1) := by decide +kernel
theorem d_PR_has_1 : decode b_PR_has 1 = .ok (.aload_n 0, 1) := by decide +kernel
theorem d_PR_has_2 : decode b_PR_has 2 = .ok (.getfield 39, 3) := by decide +kernel
theorem d_PR_has_5 : decode b_PR_has 5 = .ok (.invokestatic 43, 3) := by decide +kernel
theorem d_PR_has_8 : decode b_PR_has 8 = .ok (.ireturn, 1) := by decide +kernel
theorem d_PR_takes_0 : decode b_PR_takes 0 = .ok (.iload_n 1, 1) := by decide +kernel
theorem d_PR_takes_1 : decode b_PR_takes 1 = .ok (.bipush 18, 2) := by decide +kernel
theorem d_PR_takes_3 : decode b_PR_takes 3 = .ok (.invokestatic 43, 3) := by decide +kernel
theorem d_PR_takes_6 : decode b_PR_takes 6 = .ok (.ifCond .eq 47, 3) := by decide +kernel
theorem d_PR_takes_9 : decode b_PR_takes 9 = .ok (.aload_n 0, 1) := by decide +kernel
theorem d_PR_takes_10 : decode b_PR_takes 10 = .ok (.iload_n 2, 1) := by decide +kernel
theorem d_PR_takes_11 : decode b_PR_takes 11 = .ok (.getstatic 47, 3) := by decide +kernel
theorem d_PR_takes_14 : decode b_PR_takes 14 = .ok (.iload_n 1, 1) := by decide +kernel
theorem d_PR_takes_15 : decode b_PR_takes 15 = .ok (.iaload, 1) := by decide +kernel
theorem d_PR_takes_16 : decode b_PR_takes 16 = .ok (.invokevirtual 50, 3) := by decide +kernel
theorem d_PR_takes_19 : decode b_PR_takes 19 = .ok (.ifCond .eq 34, 3) := by decide +kernel
theorem d_PR_takes_22 : decode b_PR_takes 22 = .ok (.aload_n 0, 1) := by decide +kernel
theorem d_PR_takes_23 : decode b_PR_takes 23 = .ok (.iload_n 3, 1) := by decide +kernel
theorem d_PR_takes_24 : decode b_PR_takes 24 = .ok (.getstatic 53, 3) := by decide +kernel
theorem d_PR_takes_27 : decode b_PR_takes 27 = .ok (.iload_n 1, 1) := by decide +kernel
theorem d_PR_takes_28 : decode b_PR_takes 28 = .ok (.iaload, 1) := by decide +kernel
theorem d_PR_takes_29 : decode b_PR_takes 29 = .ok (.invokevirtual 50, 3) := by decide +kernel
theorem d_PR_takes_32 : decode b_PR_takes 32 = .ok (.ifCond .eq 21, 3) := by decide +kernel
theorem d_PR_takes_35 : decode b_PR_takes 35 = .ok (.aload_n 0, 1) := by decide +kernel
theorem d_PR_takes_36 : decode b_PR_takes 36 = .ok (.iload 4, 2) := by decide +kernel
theorem d_PR_takes_38 : decode b_PR_takes 38 = .ok (.getstatic 56, 3) := by decide +kernel
theorem d_PR_takes_41 : decode b_PR_takes 41 = .ok (.iload_n 1, 1) := by decide +kernel
theorem d_PR_takes_42 : decode b_PR_takes 42 = .ok (.iaload, 1) := by decide +kernel
theorem d_PR_takes_43 : decode b_PR_takes 43 = .ok (.invokevirtual 50, 3) := by decide +kernel
theorem d_PR_takes_46 : decode b_PR_takes 46 = .ok (.ifCond .eq 7, 3) := by decide +kernel
theorem d_PR_takes_49 : decode b_PR_takes 49 = .ok (.iconst 1, 1) := by decide +kernel
theorem d_PR_takes_50 : decode b_PR_takes 50 = .ok (.goto 4, 3) := by decide +kernel
theorem d_PR_takes_53 : decode b_PR_takes 53 = .ok (.iconst 0, 1) := by decide +kernel
theorem d_PR_takes_54 : decode b_PR_takes 54 = .ok (.ireturn, 1) := by decide +kernel
theorem d_PR_fits_0 : decode b_PR_fits 0 = .ok (.iload_n 2, 1) := by decide +kernel
theorem d_PR_fits_1 : decode b_PR_fits 1 = .ok (.tableswitch 58 (-3) 0 #[39, 33, 31, 31], 31) := by decide +kernel
theorem d_PR_fits_32 : decode b_PR_fits 32 = .ok (.iconst 1, 1) := by decide +kernel
theorem d_PR_fits_33 : decode b_PR_fits 33 = .ok (.ireturn, 1) := by decide +kernel
theorem d_PR_fits_34 : decode b_PR_fits 34 = .ok (.aload_n 0, 1) := by decide +kernel
theorem d_PR_fits_35 : decode b_PR_fits 35 = .ok (.iload_n 1, 1) := by decide +kernel
theorem d_PR_fits_36 : decode b_PR_fits 36 = .ok (.invokevirtual 59, 3) := by decide +kernel
theorem d_PR_fits_39 : decode b_PR_fits 39 = .ok (.ireturn, 1) := by decide +kernel
theorem d_PR_fits_40 : decode b_PR_fits 40 = .ok (.iload_n 1, 1) := by decide +kernel
theorem d_PR_fits_41 : decode b_PR_fits 41 = .ok (.iconst (-1), 1) := by decide +kernel
theorem d_PR_fits_42 : decode b_PR_fits 42 = .ok (.if_icmp .eq 11, 3) := by decide +kernel
theorem d_PR_fits_45 : decode b_PR_fits 45 = .ok (.aload_n 0, 1) := by decide +kernel
theorem d_PR_fits_46 : decode b_PR_fits 46 = .ok (.iload_n 1, 1) := by decide +kernel
theorem d_PR_fits_47 : decode b_PR_fits 47 = .ok (.invokevirtual 59, 3) := by decide +kernel
theorem d_PR_fits_50 : decode b_PR_fits 50 = .ok (.ifCond .eq 7, 3) := by decide +kernel
theorem d_PR_fits_53 : decode b_PR_fits 53 = .ok (.iconst 1, 1) := by decide +kernel
theorem d_PR_fits_54 : decode b_PR_fits 54 = .ok (.goto 4, 3) := by decide +kernel
theorem d_PR_fits_57 : decode b_PR_fits 57 = .ok (.iconst 0, 1) := by decide +kernel
theorem d_PR_fits_58 : decode b_PR_fits 58 = .ok (.ireturn, 1) := by decide +kernel
theorem d_PR_fits_59 : decode b_PR_fits 59 = .ok (.iload_n 1, 1) := by decide +kernel
theorem d_PR_fits_60 : decode b_PR_fits 60 = .ok (.iload_n 2, 1) := by decide +kernel
theorem d_PR_fits_61 : decode b_PR_fits 61 = .ok (.invokestatic 43, 3) := by decide +kernel
theorem d_PR_fits_64 : decode b_PR_fits 64 = .ok (.ireturn, 1) := by decide +kernel
theorem d_PR_add_0 : decode b_PR_add 0 = .ok (.aload_n 0, 1) := by decide +kernel
theorem d_PR_add_1 : decode b_PR_add 1 = .ok (.getfield 9, 3) := by decide +kernel
theorem d_PR_add_4 : decode b_PR_add 4 = .ok (.aload_n 0, 1) := by decide +kernel
theorem d_PR_add_5 : decode b_PR_add 5 = .ok (.getfield 39, 3) := by decide +kernel
theorem d_PR_add_8 : decode b_PR_add 8 = .ok (.iload_n 1, 1) := by decide +kernel
theorem d_PR_add_9 : decode b_PR_add 9 = .ok (.iastore, 1) := by decide +kernel
theorem d_PR_add_10 : decode b_PR_add 10 = .ok (.aload_n 0, 1) := by decide +kernel
theorem d_PR_add_11 : decode b_PR_add 11 = .ok (.getfield 15, 3) := by decide +kernel
theorem d_PR_add_14 : decode b_PR_add 14 = .ok (.aload_n 0, 1) := by decide +kernel
theorem d_PR_add_15 : decode b_PR_add 15 = .ok (.getfield 39, 3) := by decide +kernel
theorem d_PR_add_18 : decode b_PR_add 18 = .ok (.iload_n 2, 1) := by decide +kernel
theorem d_PR_add_19 : decode b_PR_add 19 = .ok (.iastore, 1) := by decide +kernel
theorem d_PR_add_20 : decode b_PR_add 20 = .ok (.aload_n 0, 1) := by decide +kernel
theorem d_PR_add_21 : decode b_PR_add 21 = .ok (.getfield 18, 3) := by decide +kernel
theorem d_PR_add_24 : decode b_PR_add 24 = .ok (.aload_n 0, 1) := by decide +kernel
theorem d_PR_add_25 : decode b_PR_add 25 = .ok (.getfield 39, 3) := by decide +kernel
theorem d_PR_add_28 : decode b_PR_add 28 = .ok (.getstatic 53, 3) := by decide +kernel
theorem d_PR_add_31 : decode b_PR_add 31 = .ok (.iload_n 1, 1) := by decide +kernel
theorem d_PR_add_32 : decode b_PR_add 32 = .ok (.iaload, 1) := by decide +kernel
theorem d_PR_add_33 : decode b_PR_add 33 = .ok (.ifCond .ne 7, 3) := by decide +kernel
theorem d_PR_add_36 : decode b_PR_add 36 = .ok (.iconst (-1), 1) := by decide +kernel
theorem d_PR_add_37 : decode b_PR_add 37 = .ok (.goto 4, 3) := by decide +kernel
theorem d_PR_add_40 : decode b_PR_add 40 = .ok (.iload_n 3, 1) := by decide +kernel
theorem d_PR_add_41 : decode b_PR_add 41 = .ok (.iastore, 1) := by decide +kernel
theorem d_PR_add_42 : decode b_PR_add 42 = .ok (.aload_n 0, 1) := by decide +kernel
theorem d_PR_add_43 : decode b_PR_add 43 = .ok (.getfield 21, 3) := by decide +kernel
theorem d_PR_add_46 : decode b_PR_add 46 = .ok (.aload_n 0, 1) := by decide +kernel
theorem d_PR_add_47 : decode b_PR_add 47 = .ok (.getfield 39, 3) := by decide +kernel
theorem d_PR_add_50 : decode b_PR_add 50 = .ok (.getstatic 56, 3) := by decide +kernel
theorem d_PR_add_53 : decode b_PR_add 53 = .ok (.iload_n 1, 1) := by decide +kernel
theorem d_PR_add_54 : decode b_PR_add 54 = .ok (.iaload, 1) := by decide +kernel
theorem d_PR_add_55 : decode b_PR_add 55 = .ok (.ifCond .ne 7, 3) := by decide +kernel
theorem d_PR_add_58 : decode b_PR_add 58 = .ok (.iconst (-1), 1) := by decide +kernel
theorem d_PR_add_59 : decode b_PR_add 59 = .ok (.goto 5, 3) := by decide +kernel
theorem d_PR_add_62 : decode b_PR_add 62 = .ok (.iload 4, 2) := by decide +kernel
theorem d_PR_add_64 : decode b_PR_add 64 = .ok (.iastore, 1) := by decide +kernel
theorem d_PR_add_65 : decode b_PR_add 65 = .ok (.aload_n 0, 1) := by decide +kernel
theorem d_PR_add_66 : decode b_PR_add 66 = .ok (.dup, 1) := by decide +kernel
theorem d_PR_add_67 : decode b_PR_add 67 = .ok (.getfield 39, 3) := by decide +kernel
theorem d_PR_add_70 : decode b_PR_add 70 = .ok (.iconst 1, 1) := by decide +kernel
theorem d_PR_add_71 : decode b_PR_add 71 = .ok (.iadd, 1) := by decide +kernel
theorem d_PR_add_72 : decode b_PR_add 72 = .ok (.putfield 39, 3) := by decide +kernel
theorem d_PR_add_75 : decode b_PR_add 75 = .ok (.aload_n 0, 1) := by decide +kernel
theorem d_PR_add_76 : decode b_PR_add 76 = .ok (.getfield 39, 3) := by decide +kernel
theorem d_PR_add_79 : decode b_PR_add 79 = .ok (.iconst 1, 1) := by decide +kernel
theorem d_PR_add_80 : decode b_PR_add 80 = .ok (.isub, 1) := by decide +kernel
theorem d_PR_add_81 : decode b_PR_add 81 = .ok (.ireturn, 1) := by decide +kernel
theorem d_PR_define_0 : decode b_PR_define 0 = .ok (.aload_n 0, 1) := by decide +kernel
theorem d_PR_define_1 : decode b_PR_define 1 = .ok (.getfield 24, 3) := by decide +kernel
theorem d_PR_define_4 : decode b_PR_define 4 = .ok (.iload_n 1, 1) := by decide +kernel
theorem d_PR_define_5 : decode b_PR_define 5 = .ok (.iload_n 2, 1) := by decide +kernel
theorem d_PR_define_6 : decode b_PR_define 6 = .ok (.iastore, 1) := by decide +kernel
theorem d_PR_define_7 : decode b_PR_define 7 = .ok (.aload_n 0, 1) := by decide +kernel
theorem d_PR_define_8 : decode b_PR_define 8 = .ok (.getfield 27, 3) := by decide +kernel
theorem d_PR_define_11 : decode b_PR_define 11 = .ok (.iload_n 1, 1) := by decide +kernel
theorem d_PR_define_12 : decode b_PR_define 12 = .ok (.iload_n 3, 1) := by decide +kernel
theorem d_PR_define_13 : decode b_PR_define 13 = .ok (.iastore, 1) := by decide +kernel
theorem d_PR_define_14 : decode b_PR_define 14 = .ok (.aload_n 0, 1) := by decide +kernel
theorem d_PR_define_15 : decode b_PR_define 15 = .ok (.getfield 30, 3) := by decide +kernel
theorem d_PR_define_18 : decode b_PR_define 18 = .ok (.iload_n 1, 1) := by decide +kernel
theorem d_PR_define_19 : decode b_PR_define 19 = .ok (.iload 4, 2) := by decide +kernel
theorem d_PR_define_21 : decode b_PR_define 21 = .ok (.iastore, 1) := by decide +kernel
theorem d_PR_define_22 : decode b_PR_define 22 = .ok (.return_, 1) := by decide +kernel
theorem d_PR_empty_0 : decode b_PR_empty 0 = .ok (.aload_n 0, 1) := by decide +kernel
theorem d_PR_empty_1 : decode b_PR_empty 1 = .ok (.iconst 0, 1) := by decide +kernel
theorem d_PR_empty_2 : decode b_PR_empty 2 = .ok (.putfield 39, 3) := by decide +kernel
theorem d_PR_empty_5 : decode b_PR_empty 5 = .ok (.aload_n 0, 1) := by decide +kernel
theorem d_PR_empty_6 : decode b_PR_empty 6 = .ok (.getfield 24, 3) := by decide +kernel
theorem d_PR_empty_9 : decode b_PR_empty 9 = .ok (.iconst (-1), 1) := by decide +kernel
theorem d_PR_empty_10 : decode b_PR_empty 10 = .ok (.invokestatic 33, 3) := by decide +kernel
theorem d_PR_empty_13 : decode b_PR_empty 13 = .ok (.return_, 1) := by decide +kernel
theorem d_PR_canBeSet_0 : decode b_PR_canBeSet 0 = .ok (.aload_n 0, 1) := by decide +kernel
theorem d_PR_canBeSet_1 : decode b_PR_canBeSet 1 = .ok (.getfield 9, 3) := by decide +kernel
theorem d_PR_canBeSet_4 : decode b_PR_canBeSet 4 = .ok (.iload_n 1, 1) := by decide +kernel
theorem d_PR_canBeSet_5 : decode b_PR_canBeSet 5 = .ok (.iaload, 1) := by decide +kernel
theorem d_PR_canBeSet_6 : decode b_PR_canBeSet 6 = .ok (.istore_n 2, 1) := by decide +kernel
theorem d_PR_canBeSet_7 : decode b_PR_canBeSet 7 = .ok (.iload_n 2, 1) := by decide +kernel
theorem d_PR_canBeSet_8 : decode b_PR_canBeSet 8 = .ok (.iconst 1, 1) := by decide +kernel
theorem d_PR_canBeSet_9 : decode b_PR_canBeSet 9 = .ok (.if_icmp .eq 20, 3) := by decide +kernel
theorem d_PR_canBeSet_12 : decode b_PR_canBeSet 12 = .ok (.iload_n 2, 1) := by decide +kernel
theorem d_PR_canBeSet_13 : decode b_PR_canBeSet 13 = .ok (.iconst 2, 1) := by decide +kernel
theorem d_PR_canBeSet_14 : decode b_PR_canBeSet 14 = .ok (.if_icmp .eq 15, 3) := by decide +kernel
theorem d_PR_canBeSet_17 : decode b_PR_canBeSet 17 = .ok (.iload_n 2, 1) := by decide +kernel
theorem d_PR_canBeSet_18 : decode b_PR_canBeSet 18 = .ok (.bipush 11, 2) := by decide +kernel
theorem d_PR_canBeSet_20 : decode b_PR_canBeSet 20 = .ok (.if_icmp .eq 9, 3) := by decide +kernel
theorem d_PR_canBeSet_23 : decode b_PR_canBeSet 23 = .ok (.iload_n 2, 1) := by decide +kernel
theorem d_PR_canBeSet_24 : decode b_PR_canBeSet 24 = .ok (.bipush 10, 2) := by decide +kernel
theorem d_PR_canBeSet_26 : decode b_PR_canBeSet 26 = .ok (.if_icmp .ne 7, 3) := by decide +kernel
theorem d_PR_canBeSet_29 : decode b_PR_canBeSet 29 = .ok (.iconst 1, 1) := by decide +kernel
theorem d_PR_canBeSet_30 : decode b_PR_canBeSet 30 = .ok (.goto 4, 3) := by decide +kernel
theorem d_PR_canBeSet_33 : decode b_PR_canBeSet 33 = .ok (.iconst 0, 1) := by decide +kernel
theorem d_PR_canBeSet_34 : decode b_PR_canBeSet 34 = .ok (.ireturn, 1) := by decide +kernel
theorem d_PR_canBeCalled_0 : decode b_PR_canBeCalled 0 = .ok (.aload_n 0, 1) := by decide +kernel
theorem d_PR_canBeCalled_1 : decode b_PR_canBeCalled 1 = .ok (.getfield 15, 3) := by decide +kernel
theorem d_PR_canBeCalled_4 : decode b_PR_canBeCalled 4 = .ok (.iload_n 1, 1) := by decide +kernel
theorem d_PR_canBeCalled_5 : decode b_PR_canBeCalled 5 = .ok (.iaload, 1) := by decide +kernel
theorem d_PR_canBeCalled_6 : decode b_PR_canBeCalled 6 = .ok (.istore_n 2, 1) := by decide +kernel
theorem d_PR_canBeCalled_7 : decode b_PR_canBeCalled 7 = .ok (.aload_n 0, 1) := by decide +kernel
theorem d_PR_canBeCalled_8 : decode b_PR_canBeCalled 8 = .ok (.getfield 24, 3) := by decide +kernel
theorem d_PR_canBeCalled_11 : decode b_PR_canBeCalled 11 = .ok (.iload_n 2, 1) := by decide +kernel
theorem d_PR_canBeCalled_12 : decode b_PR_canBeCalled 12 = .ok (.iaload, 1) := by decide +kernel
theorem d_PR_canBeCalled_13 : decode b_PR_canBeCalled 13 = .ok (.iconst (-1), 1) := by decide +kernel
theorem d_PR_canBeCalled_14 : decode b_PR_canBeCalled 14 = .ok (.if_icmp .eq 47, 3) := by decide +kernel
theorem d_PR_canBeCalled_17 : decode b_PR_canBeCalled 17 = .ok (.aload_n 0, 1) := by decide +kernel
theorem d_PR_canBeCalled_18 : decode b_PR_canBeCalled 18 = .ok (.getfield 27, 3) := by decide +kernel
theorem d_PR_canBeCalled_21 : decode b_PR_canBeCalled 21 = .ok (.iload_n 2, 1) := by decide +kernel
theorem d_PR_canBeCalled_22 : decode b_PR_canBeCalled 22 = .ok (.iaload, 1) := by decide +kernel
theorem d_PR_canBeCalled_23 : decode b_PR_canBeCalled 23 = .ok (.iconst 1, 1) := by decide +kernel
theorem d_PR_canBeCalled_24 : decode b_PR_canBeCalled 24 = .ok (.if_icmp .lt 13, 3) := by decide +kernel
theorem d_PR_canBeCalled_27 : decode b_PR_canBeCalled 27 = .ok (.aload_n 0, 1) := by decide +kernel
theorem d_PR_canBeCalled_28 : decode b_PR_canBeCalled 28 = .ok (.getfield 18, 3) := by decide +kernel
theorem d_PR_canBeCalled_31 : decode b_PR_canBeCalled 31 = .ok (.iload_n 1, 1) := by decide +kernel
theorem d_PR_canBeCalled_32 : decode b_PR_canBeCalled 32 = .ok (.iaload, 1) := by decide +kernel
theorem d_PR_canBeCalled_33 : decode b_PR_canBeCalled 33 = .ok (.iconst (-1), 1) := by decide +kernel
theorem d_PR_canBeCalled_34 : decode b_PR_canBeCalled 34 = .ok (.if_icmp .eq 27, 3) := by decide +kernel
theorem d_PR_canBeCalled_37 : decode b_PR_canBeCalled 37 = .ok (.aload_n 0, 1) := by decide +kernel
theorem d_PR_canBeCalled_38 : decode b_PR_canBeCalled 38 = .ok (.getfield 27, 3) := by decide +kernel
theorem d_PR_canBeCalled_41 : decode b_PR_canBeCalled 41 = .ok (.iload_n 2, 1) := by decide +kernel
theorem d_PR_canBeCalled_42 : decode b_PR_canBeCalled 42 = .ok (.iaload, 1) := by decide +kernel
theorem d_PR_canBeCalled_43 : decode b_PR_canBeCalled 43 = .ok (.iconst 2, 1) := by decide +kernel
theorem d_PR_canBeCalled_44 : decode b_PR_canBeCalled 44 = .ok (.if_icmp .lt 13, 3) := by decide +kernel
theorem d_PR_canBeCalled_47 : decode b_PR_canBeCalled 47 = .ok (.aload_n 0, 1) := by decide +kernel
theorem d_PR_canBeCalled_48 : decode b_PR_canBeCalled 48 = .ok (.getfield 21, 3) := by decide +kernel
theorem d_PR_canBeCalled_51 : decode b_PR_canBeCalled 51 = .ok (.iload_n 1, 1) := by decide +kernel
theorem d_PR_canBeCalled_52 : decode b_PR_canBeCalled 52 = .ok (.iaload, 1) := by decide +kernel
theorem d_PR_canBeCalled_53 : decode b_PR_canBeCalled 53 = .ok (.iconst (-1), 1) := by decide +kernel
theorem d_PR_canBeCalled_54 : decode b_PR_canBeCalled 54 = .ok (.if_icmp .eq 7, 3) := by decide +kernel
theorem d_PR_canBeCalled_57 : decode b_PR_canBeCalled 57 = .ok (.iconst 1, 1) := by decide +kernel
theorem d_PR_canBeCalled_58 : decode b_PR_canBeCalled 58 = .ok (.goto 4, 3) := by decide +kernel
theorem d_PR_canBeCalled_61 : decode b_PR_canBeCalled 61 = .ok (.iconst 0, 1) := by decide +kernel
theorem d_PR_canBeCalled_62 : decode b_PR_canBeCalled 62 = .ok (.ireturn, 1) := by decide +kernel
theorem d_PR_isByValue_0 : decode b_PR_isByValue 0 = .ok (.iload_n 2, 1) := by decide +kernel
theorem d_PR_isByValue_1 : decode b_PR_isByValue 1 = .ok (.aload_n 0, 1) := by decide +kernel
theorem d_PR_isByValue_2 : decode b_PR_isByValue 2 = .ok (.getfield 27, 3) := by decide +kernel
theorem d_PR_isByValue_5 : decode b_PR_isByValue 5 = .ok (.iload_n 1, 1) := by decide +kernel
theorem d_PR_isByValue_6 : decode b_PR_isByValue 6 = .ok (.iaload, 1) := by decide +kernel
theorem d_PR_isByValue_7 : decode b_PR_isByValue 7 = .ok (.if_icmp .ge 20, 3) := by decide +kernel
theorem d_PR_isByValue_10 : decode b_PR_isByValue 10 = .ok (.aload_n 0, 1) := by decide +kernel
theorem d_PR_isByValue_11 : decode b_PR_isByValue 11 = .ok (.getfield 30, 3) := by decide +kernel
theorem d_PR_isByValue_14 : decode b_PR_isByValue 14 = .ok (.iload_n 1, 1) := by decide +kernel
theorem d_PR_isByValue_15 : decode b_PR_isByValue 15 = .ok (.iaload, 1) := by decide +kernel
theorem d_PR_isByValue_16 : decode b_PR_isByValue 16 = .ok (.iload_n 2, 1) := by decide +kernel
theorem d_PR_isByValue_17 : decode b_PR_isByValue 17 = .ok (.ishr, 1) := by decide +kernel
theorem d_PR_isByValue_18 : decode b_PR_isByValue 18 = .ok (.iconst 1, 1) := by decide +kernel
theorem d_PR_isByValue_19 : decode b_PR_isByValue 19 = .ok (.iand, 1) := by decide +kernel
theorem d_PR_isByValue_20 : decode b_PR_isByValue 20 = .ok (.ifCond .ne 7, 3) := by decide +kernel
theorem d_PR_isByValue_23 : decode b_PR_isByValue 23 = .ok (.iconst 1, 1) := by decide +kernel
theorem d_PR_isByValue_24 : decode b_PR_isByValue 24 = .ok (.goto 4, 3) := by decide +kernel
theorem d_PR_isByValue_27 : decode b_PR_isByValue 27 = .ok (.iconst 0, 1) := by decide +kernel
theorem d_PR_isByValue_28 : decode b_PR_isByValue 28 = .ok (.ireturn, 1) := by decide +kernel
theorem d_ST_init_0 : decode b_ST_init 0 = .ok (.aload_n 0, 1) := by decide +kernel
theorem d_ST_init_1 : decode b_ST_init 1 = .ok (.invokespecial 3, 3) := by decide +kernel
theorem d_ST_init_4 : decode b_ST_init 4 = .ok (.aload_n 0, 1) := by decide +kernel
theorem d_ST_init_5 : decode b_ST_init 5 = .ok (.bipush 8, 2) := by decide +kernel
theorem d_ST_init_7 : decode b_ST_init 7 = .ok (.newarray .double, 2) := by decide +kernel
theorem d_ST_init_9 : decode b_ST_init 9 = .ok (.putfield 9, 3) := by decide +kernel
theorem d_ST_init_12 : decode b_ST_init 12 = .ok (.aload_n 0, 1) := by decide +kernel
theorem d_ST_init_13 : decode b_ST_init 13 = .ok (.bipush 25, 2) := by decide +kernel
theorem d_ST_init_15 : decode b_ST_init 15 = .ok (.newarray .double, 2) := by decide +kernel
theorem d_ST_init_17 : decode b_ST_init 17 = .ok (.putfield 15, 3) := by decide +kernel
theorem d_ST_init_20 : decode b_ST_init 20 = .ok (.aload_n 0, 1) := by decide +kernel
theorem d_ST_init_21 : decode b_ST_init 21 = .ok (.iconst 1, 1) := by decide +kernel
theorem d_ST_init_22 : decode b_ST_init 22 = .ok (.putfield 18, 3) := by decide +kernel
theorem d_ST_init_25 : decode b_ST_init 25 = .ok (.aload_n 0, 1) := by decide +kernel
theorem d_ST_init_26 : decode b_ST_init 26 = .ok (.iconst 1, 1) := by decide +kernel
theorem d_ST_init_27 : decode b_ST_init 27 = .ok (.putfield 22, 3) := by decide +kernel
theorem d_ST_init_30 : decode b_ST_init 30 = .ok (.aload_n 0, 1) := by decide +kernel
theorem d_ST_init_31 : decode b_ST_init 31 = .ok (.iconst 1, 1) := by decide +kernel
theorem d_ST_init_32 : decode b_ST_init 32 = .ok (.putfield 25, 3) := by decide +kernel
theorem d_ST_init_35 : decode b_ST_init 35 = .ok (.aload_n 0, 1) := by decide +kernel
theorem d_ST_init_36 : decode b_ST_init 36 = .ok (.iconst 1, 1) := by decide +kernel
theorem d_ST_init_37 : decode b_ST_init 37 = .ok (.putfield 28, 3) := by decide +kernel
theorem d_ST_init_40 : decode b_ST_init 40 = .ok (.return_, 1) := by decide +kernel
theorem d_ST_lay_0 : decode b_ST_lay 0 = .ok (.aload_n 0, 1) := by decide +kernel
theorem d_ST_lay_1 : decode b_ST_lay 1 = .ok (.iload_n 1, 1) := by decide +kernel
theorem d_ST_lay_2 : decode b_ST_lay 2 = .ok (.putfield 18, 3) := by decide +kernel
theorem d_ST_lay_5 : decode b_ST_lay 5 = .ok (.aload_n 0, 1) := by decide +kernel
theorem d_ST_lay_6 : decode b_ST_lay 6 = .ok (.iload_n 2, 1) := by decide +kernel
theorem d_ST_lay_7 : decode b_ST_lay 7 = .ok (.putfield 22, 3) := by decide +kernel
theorem d_ST_lay_10 : decode b_ST_lay 10 = .ok (.aload_n 0, 1) := by decide +kernel
theorem d_ST_lay_11 : decode b_ST_lay 11 = .ok (.iload_n 3, 1) := by decide +kernel
theorem d_ST_lay_12 : decode b_ST_lay 12 = .ok (.putfield 25, 3) := by decide +kernel
theorem d_ST_lay_15 : decode b_ST_lay 15 = .ok (.aload_n 0, 1) := by decide +kernel
theorem d_ST_lay_16 : decode b_ST_lay 16 = .ok (.iload 4, 2) := by decide +kernel
theorem d_ST_lay_18 : decode b_ST_lay 18 = .ok (.putfield 28, 3) := by decide +kernel
theorem d_ST_lay_21 : decode b_ST_lay 21 = .ok (.aload_n 0, 1) := by decide +kernel
theorem d_ST_lay_22 : decode b_ST_lay 22 = .ok (.getfield 15, 3) := by decide +kernel
theorem d_ST_lay_25 : decode b_ST_lay 25 = .ok (.dconst 0, 1) := by decide +kernel
theorem d_ST_lay_26 : decode b_ST_lay 26 = .ok (.invokestatic 31, 3) := by decide +kernel
theorem d_ST_lay_29 : decode b_ST_lay 29 = .ok (.return_, 1) := by decide +kernel
theorem d_ST_size_0 : decode b_ST_size 0 = .ok (.aload_n 0, 1) := by decide +kernel
theorem d_ST_size_1 : decode b_ST_size 1 = .ok (.getfield 22, 3) := by decide +kernel
theorem d_ST_size_4 : decode b_ST_size 4 = .ok (.aload_n 0, 1) := by decide +kernel
theorem d_ST_size_5 : decode b_ST_size 5 = .ok (.getfield 18, 3) := by decide +kernel
theorem d_ST_size_8 : decode b_ST_size 8 = .ok (.isub, 1) := by decide +kernel
theorem d_ST_size_9 : decode b_ST_size 9 = .ok (.iconst 1, 1) := by decide +kernel
theorem d_ST_size_10 : decode b_ST_size 10 = .ok (.iadd, 1) := by decide +kernel
theorem d_ST_size_11 : decode b_ST_size 11 = .ok (.aload_n 0, 1) := by decide +kernel
theorem d_ST_size_12 : decode b_ST_size 12 = .ok (.getfield 28, 3) := by decide +kernel
theorem d_ST_size_15 : decode b_ST_size 15 = .ok (.aload_n 0, 1) := by decide +kernel
theorem d_ST_size_16 : decode b_ST_size 16 = .ok (.getfield 25, 3) := by decide +kernel
theorem d_ST_size_19 : decode b_ST_size 19 = .ok (.isub, 1) := by decide +kernel
theorem d_ST_size_20 : decode b_ST_size 20 = .ok (.iconst 1, 1) := by decide +kernel
theorem d_ST_size_21 : decode b_ST_size 21 = .ok (.iadd, 1) := by decide +kernel
theorem d_ST_size_22 : decode b_ST_size 22 = .ok (.imul, 1) := by decide +kernel
theorem d_ST_size_23 : decode b_ST_size 23 = .ok (.ireturn, 1) := by decide +kernel
theorem d_ST_holds_0 : decode b_ST_holds 0 = .ok (.lload_n 1, 1) := by decide +kernel
theorem d_ST_holds_1 : decode b_ST_holds 1 = .ok (.aload_n 0, 1) := by decide +kernel
theorem d_ST_holds_2 : decode b_ST_holds 2 = .ok (.getfield 18, 3) := by decide +kernel
theorem d_ST_holds_5 : decode b_ST_holds 5 = .ok (.i2l, 1) := by decide +kernel
theorem d_ST_holds_6 : decode b_ST_holds 6 = .ok (.lcmp, 1) := by decide +kernel
theorem d_ST_holds_7 : decode b_ST_holds 7 = .ok (.ifCond .lt 37, 3) := by decide +kernel
theorem d_ST_holds_10 : decode b_ST_holds 10 = .ok (.lload_n 1, 1) := by decide +kernel
theorem d_ST_holds_11 : decode b_ST_holds 11 = .ok (.aload_n 0, 1) := by decide +kernel
theorem d_ST_holds_12 : decode b_ST_holds 12 = .ok (.getfield 22, 3) := by decide +kernel
theorem d_ST_holds_15 : decode b_ST_holds 15 = .ok (.i2l, 1) := by decide +kernel
theorem d_ST_holds_16 : decode b_ST_holds 16 = .ok (.lcmp, 1) := by decide +kernel
theorem d_ST_holds_17 : decode b_ST_holds 17 = .ok (.ifCond .gt 27, 3) := by decide +kernel
theorem d_ST_holds_20 : decode b_ST_holds 20 = .ok (.lload_n 3, 1) := by decide +kernel
theorem d_ST_holds_21 : decode b_ST_holds 21 = .ok (.aload_n 0, 1) := by decide +kernel
theorem d_ST_holds_22 : decode b_ST_holds 22 = .ok (.getfield 25, 3) := by decide +kernel
theorem d_ST_holds_25 : decode b_ST_holds 25 = .ok (.i2l, 1) := by decide +kernel
theorem d_ST_holds_26 : decode b_ST_holds 26 = .ok (.lcmp, 1) := by decide +kernel
theorem d_ST_holds_27 : decode b_ST_holds 27 = .ok (.ifCond .lt 17, 3) := by decide +kernel
theorem d_ST_holds_30 : decode b_ST_holds 30 = .ok (.lload_n 3, 1) := by decide +kernel
theorem d_ST_holds_31 : decode b_ST_holds 31 = .ok (.aload_n 0, 1) := by decide +kernel
theorem d_ST_holds_32 : decode b_ST_holds 32 = .ok (.getfield 28, 3) := by decide +kernel
theorem d_ST_holds_35 : decode b_ST_holds 35 = .ok (.i2l, 1) := by decide +kernel
theorem d_ST_holds_36 : decode b_ST_holds 36 = .ok (.lcmp, 1) := by decide +kernel
theorem d_ST_holds_37 : decode b_ST_holds 37 = .ok (.ifCond .gt 7, 3) := by decide +kernel
theorem d_ST_holds_40 : decode b_ST_holds 40 = .ok (.iconst 1, 1) := by decide +kernel
theorem d_ST_holds_41 : decode b_ST_holds 41 = .ok (.goto 4, 3) := by decide +kernel
theorem d_ST_holds_44 : decode b_ST_holds 44 = .ok (.iconst 0, 1) := by decide +kernel
theorem d_ST_holds_45 : decode b_ST_holds 45 = .ok (.ireturn, 1) := by decide +kernel
theorem d_ST_place_0 : decode b_ST_place 0 = .ok (.lload_n 1, 1) := by decide +kernel
theorem d_ST_place_1 : decode b_ST_place 1 = .ok (.aload_n 0, 1) := by decide +kernel
theorem d_ST_place_2 : decode b_ST_place 2 = .ok (.getfield 18, 3) := by decide +kernel
theorem d_ST_place_5 : decode b_ST_place 5 = .ok (.i2l, 1) := by decide +kernel
theorem d_ST_place_6 : decode b_ST_place 6 = .ok (.lsub, 1) := by decide +kernel
theorem d_ST_place_7 : decode b_ST_place 7 = .ok (.l2i, 1) := by decide +kernel
theorem d_ST_place_8 : decode b_ST_place 8 = .ok (.iconst 5, 1) := by decide +kernel
theorem d_ST_place_9 : decode b_ST_place 9 = .ok (.imul, 1) := by decide +kernel
theorem d_ST_place_10 : decode b_ST_place 10 = .ok (.lload_n 3, 1) := by decide +kernel
theorem d_ST_place_11 : decode b_ST_place 11 = .ok (.aload_n 0, 1) := by decide +kernel
theorem d_ST_place_12 : decode b_ST_place 12 = .ok (.getfield 25, 3) := by decide +kernel
theorem d_ST_place_15 : decode b_ST_place 15 = .ok (.i2l, 1) := by decide +kernel
theorem d_ST_place_16 : decode b_ST_place 16 = .ok (.lsub, 1) := by decide +kernel
theorem d_ST_place_17 : decode b_ST_place 17 = .ok (.l2i, 1) := by decide +kernel
theorem d_ST_place_18 : decode b_ST_place 18 = .ok (.iadd, 1) := by decide +kernel
theorem d_ST_place_19 : decode b_ST_place 19 = .ok (.ireturn, 1) := by decide +kernel
theorem d_ST_assign_0 : decode b_ST_assign 0 = .ok (.aload_n 0, 1) := by decide +kernel
theorem d_ST_assign_1 : decode b_ST_assign 1 = .ok (.getfield 9, 3) := by decide +kernel
theorem d_ST_assign_4 : decode b_ST_assign 4 = .ok (.iload_n 1, 1) := by decide +kernel
theorem d_ST_assign_5 : decode b_ST_assign 5 = .ok (.iload_n 1, 1) := by decide +kernel
theorem d_ST_assign_6 : decode b_ST_assign 6 = .ok (.iconst 4, 1) := by decide +kernel
theorem d_ST_assign_7 : decode b_ST_assign 7 = .ok (.if_icmp .ge 11, 3) := by decide +kernel
theorem d_ST_assign_10 : decode b_ST_assign 10 = .ok (.dload_n 2, 1) := by decide +kernel
theorem d_ST_assign_11 : decode b_ST_assign 11 = .ok (.invokestatic 37, 3) := by decide +kernel
theorem d_ST_assign_14 : decode b_ST_assign 14 = .ok (.l2d, 1) := by decide +kernel
theorem d_ST_assign_15 : decode b_ST_assign 15 = .ok (.goto 4, 3) := by decide +kernel
theorem d_ST_assign_18 : decode b_ST_assign 18 = .ok (.dload_n 2, 1) := by decide +kernel
theorem d_ST_assign_19 : decode b_ST_assign 19 = .ok (.dastore, 1) := by decide +kernel
theorem d_ST_assign_20 : decode b_ST_assign 20 = .ok (.aload_n 0, 1) := by decide +kernel
theorem d_ST_assign_21 : decode b_ST_assign 21 = .ok (.getfield 9, 3) := by decide +kernel
theorem d_ST_assign_24 : decode b_ST_assign 24 = .ok (.iload_n 1, 1) := by decide +kernel
theorem d_ST_assign_25 : decode b_ST_assign 25 = .ok (.daload, 1) := by decide +kernel
theorem d_ST_assign_26 : decode b_ST_assign 26 = .ok (.dreturn, 1) := by decide +kernel
theorem d_WK_init_0 : decode b_WK_init 0 = .ok (.aload_n 0, 1) := by decide +kernel
theorem d_WK_init_1 : decode b_WK_init 1 = .ok (.invokespecial 3, 3) := by decide +kernel
theorem d_WK_init_4 : decode b_WK_init 4 = .ok (.aload_n 0, 1) := by decide +kernel
theorem d_WK_init_5 : decode b_WK_init 5 = .ok (.new 9, 3) := by decide +kernel
theorem d_WK_init_8 : decode b_WK_init 8 = .ok (.dup, 1) := by decide +kernel
theorem d_WK_init_9 : decode b_WK_init 9 = .ok (.invokespecial 11, 3) := by decide +kernel
theorem d_WK_init_12 : decode b_WK_init 12 = .ok (.putfield 12, 3) := by decide +kernel
theorem d_WK_init_15 : decode b_WK_init 15 = .ok (.aload_n 0, 1) := by decide +kernel
theorem d_WK_init_16 : decode b_WK_init 16 = .ok (.bipush 8, 2) := by decide +kernel
theorem d_WK_init_18 : decode b_WK_init 18 = .ok (.anewarray 9, 3) := by decide +kernel
theorem d_WK_init_21 : decode b_WK_init 21 = .ok (.putfield 18, 3) := by decide +kernel
theorem d_WK_init_24 : decode b_WK_init 24 = .ok (.aload_n 0, 1) := by decide +kernel
theorem d_WK_init_25 : decode b_WK_init 25 = .ok (.iconst 4, 1) := by decide +kernel
theorem d_WK_init_26 : decode b_WK_init 26 = .ok (.newarray .int, 2) := by decide +kernel
theorem d_WK_init_28 : decode b_WK_init 28 = .ok (.putfield 22, 3) := by decide +kernel
theorem d_WK_init_31 : decode b_WK_init 31 = .ok (.aload_n 0, 1) := by decide +kernel
theorem d_WK_init_32 : decode b_WK_init 32 = .ok (.iconst (-1), 1) := by decide +kernel
theorem d_WK_init_33 : decode b_WK_init 33 = .ok (.putfield 26, 3) := by decide +kernel
theorem d_WK_init_36 : decode b_WK_init 36 = .ok (.aload_n 0, 1) := by decide +kernel
theorem d_WK_init_37 : decode b_WK_init 37 = .ok (.aload_n 1, 1) := by decide +kernel
theorem d_WK_init_38 : decode b_WK_init 38 = .ok (.putfield 30, 3) := by decide +kernel
theorem d_WK_init_41 : decode b_WK_init 41 = .ok (.aload_n 0, 1) := by decide +kernel
theorem d_WK_init_42 : decode b_WK_init 42 = .ok (.aload_n 2, 1) := by decide +kernel
theorem d_WK_init_43 : decode b_WK_init 43 = .ok (.putfield 34, 3) := by decide +kernel
theorem d_WK_init_46 : decode b_WK_init 46 = .ok (.iconst 0, 1) := by decide +kernel
theorem d_WK_init_47 : decode b_WK_init 47 = .ok (.istore_n 3, 1) := by decide +kernel
theorem d_WK_init_48 : decode b_WK_init 48 = .ok (.iload_n 3, 1) := by decide +kernel
theorem d_WK_init_49 : decode b_WK_init 49 = .ok (.bipush 8, 2) := by decide +kernel
theorem d_WK_init_51 : decode b_WK_init 51 = .ok (.if_icmp .ge 22, 3) := by decide +kernel
theorem d_WK_init_54 : decode b_WK_init 54 = .ok (.aload_n 0, 1) := by decide +kernel
theorem d_WK_init_55 : decode b_WK_init 55 = .ok (.getfield 18, 3) := by decide +kernel
theorem d_WK_init_58 : decode b_WK_init 58 = .ok (.iload_n 3, 1) := by decide +kernel
theorem d_WK_init_59 : decode b_WK_init 59 = .ok (.new 9, 3) := by decide +kernel
theorem d_WK_init_62 : decode b_WK_init 62 = .ok (.dup, 1) := by decide +kernel
theorem d_WK_init_63 : decode b_WK_init 63 = .ok (.invokespecial 11, 3) := by decide +kernel
theorem d_WK_init_66 : decode b_WK_init 66 = .ok (.aastore, 1) := by decide +kernel
theorem d_WK_init_67 : decode b_WK_init 67 = .ok (.iinc 3 1, 3) := by decide +kernel
theorem d_WK_init_70 : decode b_WK_init 70 = .ok (.goto (-22), 3) := by decide +kernel
theorem d_WK_init_73 : decode b_WK_init 73 = .ok (.return_, 1) := by decide +kernel
theorem d_WK_start_0 : decode b_WK_start 0 = .ok (.aload_n 0, 1) := by decide +kernel
theorem d_WK_start_1 : decode b_WK_start 1 = .ok (.iconst 0, 1) := by decide +kernel
theorem d_WK_start_2 : decode b_WK_start 2 = .ok (.putfield 38, 3) := by decide +kernel
theorem d_WK_start_5 : decode b_WK_start 5 = .ok (.aload_n 0, 1) := by decide +kernel
theorem d_WK_start_6 : decode b_WK_start 6 = .ok (.iconst 0, 1) := by decide +kernel
theorem d_WK_start_7 : decode b_WK_start 7 = .ok (.putfield 41, 3) := by decide +kernel
theorem d_WK_start_10 : decode b_WK_start 10 = .ok (.aload_n 0, 1) := by decide +kernel
theorem d_WK_start_11 : decode b_WK_start 11 = .ok (.iconst 0, 1) := by decide +kernel
theorem d_WK_start_12 : decode b_WK_start 12 = .ok (.putfield 44, 3) := by decide +kernel
theorem d_WK_start_15 : decode b_WK_start 15 = .ok (.aload_n 0, 1) := by decide +kernel
theorem d_WK_start_16 : decode b_WK_start 16 = .ok (.iconst 0, 1) := by decide +kernel
theorem d_WK_start_17 : decode b_WK_start 17 = .ok (.putfield 47, 3) := by decide +kernel
theorem d_WK_start_20 : decode b_WK_start 20 = .ok (.aload_n 0, 1) := by decide +kernel
theorem d_WK_start_21 : decode b_WK_start 21 = .ok (.iconst 0, 1) := by decide +kernel
theorem d_WK_start_22 : decode b_WK_start 22 = .ok (.putfield 50, 3) := by decide +kernel
theorem d_WK_start_25 : decode b_WK_start 25 = .ok (.aload_n 0, 1) := by decide +kernel
theorem d_WK_start_26 : decode b_WK_start 26 = .ok (.iload_n 1, 1) := by decide +kernel
theorem d_WK_start_27 : decode b_WK_start 27 = .ok (.aload_n 0, 1) := by decide +kernel
theorem d_WK_start_28 : decode b_WK_start 28 = .ok (.getfield 12, 3) := by decide +kernel
theorem d_WK_start_31 : decode b_WK_start 31 = .ok (.iconst 1, 1) := by decide +kernel
theorem d_WK_start_32 : decode b_WK_start 32 = .ok (.invokevirtual 53, 3) := by decide +kernel
theorem d_WK_start_35 : decode b_WK_start 35 = .ok (.dreturn, 1) := by decide +kernel
theorem d_WK_leaving_0 : decode b_WK_leaving 0 = .ok (.aload_n 0, 1) := by decide +kernel
theorem d_WK_leaving_1 : decode b_WK_leaving 1 = .ok (.getfield 41, 3) := by decide +kernel
theorem d_WK_leaving_4 : decode b_WK_leaving 4 = .ok (.ifCond .ne 11, 3) := by decide +kernel
theorem d_WK_leaving_7 : decode b_WK_leaving 7 = .ok (.aload_n 0, 1) := by decide +kernel
theorem d_WK_leaving_8 : decode b_WK_leaving 8 = .ok (.getfield 26, 3) := by decide +kernel
theorem d_WK_leaving_11 : decode b_WK_leaving 11 = .ok (.iconst (-1), 1) := by decide +kernel
theorem d_WK_leaving_12 : decode b_WK_leaving 12 = .ok (.if_icmp .eq 7, 3) := by decide +kernel
theorem d_WK_leaving_15 : decode b_WK_leaving 15 = .ok (.iconst 1, 1) := by decide +kernel
theorem d_WK_leaving_16 : decode b_WK_leaving 16 = .ok (.goto 4, 3) := by decide +kernel
theorem d_WK_leaving_19 : decode b_WK_leaving 19 = .ok (.iconst 0, 1) := by decide +kernel
theorem d_WK_leaving_20 : decode b_WK_leaving 20 = .ok (.ireturn, 1) := by decide +kernel
theorem d_WK_fail_0 : decode b_WK_fail 0 = .ok (.aload_n 0, 1) := by decide +kernel
theorem d_WK_fail_1 : decode b_WK_fail 1 = .ok (.iload_n 1, 1) := by decide +kernel
theorem d_WK_fail_2 : decode b_WK_fail 2 = .ok (.putfield 41, 3) := by decide +kernel
theorem d_WK_fail_5 : decode b_WK_fail 5 = .ok (.dconst 0, 1) := by decide +kernel
theorem d_WK_fail_6 : decode b_WK_fail 6 = .ok (.dreturn, 1) := by decide +kernel
theorem d_WK_mayBegin_0 : decode b_WK_mayBegin 0 = .ok (.iload_n 1, 1) := by decide +kernel
theorem d_WK_mayBegin_1 : decode b_WK_mayBegin 1 = .ok (.bipush 80, 2) := by decide +kernel
theorem d_WK_mayBegin_3 : decode b_WK_mayBegin 3 = .ok (.if_icmp .le 11, 3) := by decide +kernel
theorem d_WK_mayBegin_6 : decode b_WK_mayBegin 6 = .ok (.aload_n 0, 1) := by decide +kernel
theorem d_WK_mayBegin_7 : decode b_WK_mayBegin 7 = .ok (.bipush 7, 2) := by decide +kernel
theorem d_WK_mayBegin_9 : decode b_WK_mayBegin 9 = .ok (.putfield 41, 3) := by decide +kernel
theorem d_WK_mayBegin_12 : decode b_WK_mayBegin 12 = .ok (.iconst 0, 1) := by decide +kernel
theorem d_WK_mayBegin_13 : decode b_WK_mayBegin 13 = .ok (.ireturn, 1) := by decide +kernel
theorem d_WK_mayBegin_14 : decode b_WK_mayBegin 14 = .ok (.aload_n 0, 1) := by decide +kernel
theorem d_WK_mayBegin_15 : decode b_WK_mayBegin 15 = .ok (.getfield 38, 3) := by decide +kernel
theorem d_WK_mayBegin_18 : decode b_WK_mayBegin 18 = .ok (.sipush 300, 3) := by decide +kernel
theorem d_WK_mayBegin_21 : decode b_WK_mayBegin 21 = .ok (.if_icmp .ne 11, 3) := by decide +kernel
theorem d_WK_mayBegin_24 : decode b_WK_mayBegin 24 = .ok (.aload_n 0, 1) := by decide +kernel
theorem d_WK_mayBegin_25 : decode b_WK_mayBegin 25 = .ok (.bipush 8, 2) := by decide +kernel
theorem d_WK_mayBegin_27 : decode b_WK_mayBegin 27 = .ok (.putfield 41, 3) := by decide +kernel
theorem d_WK_mayBegin_30 : decode b_WK_mayBegin 30 = .ok (.iconst 0, 1) := by decide +kernel
theorem d_WK_mayBegin_31 : decode b_WK_mayBegin 31 = .ok (.ireturn, 1) := by decide +kernel
theorem d_WK_mayBegin_32 : decode b_WK_mayBegin 32 = .ok (.aload_n 0, 1) := by decide +kernel
theorem d_WK_mayBegin_33 : decode b_WK_mayBegin 33 = .ok (.dup, 1) := by decide +kernel
theorem d_WK_mayBegin_34 : decode b_WK_mayBegin 34 = .ok (.getfield 38, 3) := by decide +kernel
theorem d_WK_mayBegin_37 : decode b_WK_mayBegin 37 = .ok (.iconst 1, 1) := by decide +kernel
theorem d_WK_mayBegin_38 : decode b_WK_mayBegin 38 = .ok (.iadd, 1) := by decide +kernel
theorem d_WK_mayBegin_39 : decode b_WK_mayBegin 39 = .ok (.putfield 38, 3) := by decide +kernel
theorem d_WK_mayBegin_42 : decode b_WK_mayBegin 42 = .ok (.iconst 1, 1) := by decide +kernel
theorem d_WK_mayBegin_43 : decode b_WK_mayBegin 43 = .ok (.ireturn, 1) := by decide +kernel
theorem d_WK_mayEnter_0 : decode b_WK_mayEnter 0 = .ok (.aload_n 0, 1) := by decide +kernel
theorem d_WK_mayEnter_1 : decode b_WK_mayEnter 1 = .ok (.getfield 57, 3) := by decide +kernel
theorem d_WK_mayEnter_4 : decode b_WK_mayEnter 4 = .ok (.bipush 8, 2) := by decide +kernel
theorem d_WK_mayEnter_6 : decode b_WK_mayEnter 6 = .ok (.if_icmp .ne 11, 3) := by decide +kernel
theorem d_WK_mayEnter_9 : decode b_WK_mayEnter 9 = .ok (.aload_n 0, 1) := by decide +kernel
theorem d_WK_mayEnter_10 : decode b_WK_mayEnter 10 = .ok (.bipush 7, 2) := by decide +kernel
theorem d_WK_mayEnter_12 : decode b_WK_mayEnter 12 = .ok (.putfield 41, 3) := by decide +kernel
theorem d_WK_mayEnter_15 : decode b_WK_mayEnter 15 = .ok (.iconst 0, 1) := by decide +kernel
theorem d_WK_mayEnter_16 : decode b_WK_mayEnter 16 = .ok (.ireturn, 1) := by decide +kernel
theorem d_WK_mayEnter_17 : decode b_WK_mayEnter 17 = .ok (.aload_n 0, 1) := by decide +kernel
theorem d_WK_mayEnter_18 : decode b_WK_mayEnter 18 = .ok (.dup, 1) := by decide +kernel
theorem d_WK_mayEnter_19 : decode b_WK_mayEnter 19 = .ok (.getfield 57, 3) := by decide +kernel
theorem d_WK_mayEnter_22 : decode b_WK_mayEnter 22 = .ok (.iconst 1, 1) := by decide +kernel
theorem d_WK_mayEnter_23 : decode b_WK_mayEnter 23 = .ok (.iadd, 1) := by decide +kernel
theorem d_WK_mayEnter_24 : decode b_WK_mayEnter 24 = .ok (.putfield 57, 3) := by decide +kernel
theorem d_WK_mayEnter_27 : decode b_WK_mayEnter 27 = .ok (.aload_n 0, 1) := by decide +kernel
theorem d_WK_mayEnter_28 : decode b_WK_mayEnter 28 = .ok (.aload_n 0, 1) := by decide +kernel
theorem d_WK_mayEnter_29 : decode b_WK_mayEnter 29 = .ok (.getfield 47, 3) := by decide +kernel
theorem d_WK_mayEnter_32 : decode b_WK_mayEnter 32 = .ok (.aload_n 0, 1) := by decide +kernel
theorem d_WK_mayEnter_33 : decode b_WK_mayEnter 33 = .ok (.getfield 57, 3) := by decide +kernel
theorem d_WK_mayEnter_36 : decode b_WK_mayEnter 36 = .ok (.invokestatic 60, 3) := by decide +kernel
theorem d_WK_mayEnter_39 : decode b_WK_mayEnter 39 = .ok (.putfield 47, 3) := by decide +kernel
theorem d_WK_mayEnter_42 : decode b_WK_mayEnter 42 = .ok (.iconst 1, 1) := by decide +kernel
theorem d_WK_mayEnter_43 : decode b_WK_mayEnter 43 = .ok (.ireturn, 1) := by decide +kernel
theorem d_WK_value_0 : decode b_WK_value 0 = .ok (.aload_n 0, 1) := by decide +kernel
theorem d_WK_value_1 : decode b_WK_value 1 = .ok (.iload_n 3, 1) := by decide +kernel
theorem d_WK_value_2 : decode b_WK_value 2 = .ok (.invokevirtual 66, 3) := by decide +kernel
theorem d_WK_value_5 : decode b_WK_value 5 = .ok (.ifCond .ne 5, 3) := by decide +kernel
theorem d_WK_value_8 : decode b_WK_value 8 = .ok (.dconst 0, 1) := by decide +kernel
theorem d_WK_value_9 : decode b_WK_value 9 = .ok (.dreturn, 1) := by decide +kernel
theorem d_WK_value_10 : decode b_WK_value 10 = .ok (.aload_n 0, 1) := by decide +kernel
theorem d_WK_value_11 : decode b_WK_value 11 = .ok (.getfield 30, 3) := by decide +kernel
theorem d_WK_value_14 : decode b_WK_value 14 = .ok (.getfield 70, 3) := by decide +kernel
theorem d_WK_value_17 : decode b_WK_value 17 = .ok (.iload_n 1, 1) := by decide +kernel
theorem d_WK_value_18 : decode b_WK_value 18 = .ok (.iaload, 1) := by decide +kernel
theorem d_WK_value_19 : decode b_WK_value 19 = .ok (.istore 4, 2) := by decide +kernel
theorem d_WK_value_21 : decode b_WK_value 21 = .ok (.aload_n 0, 1) := by decide +kernel
theorem d_WK_value_22 : decode b_WK_value 22 = .ok (.getfield 30, 3) := by decide +kernel
theorem d_WK_value_25 : decode b_WK_value 25 = .ok (.getfield 75, 3) := by decide +kernel
theorem d_WK_value_28 : decode b_WK_value 28 = .ok (.iload_n 1, 1) := by decide +kernel
theorem d_WK_value_29 : decode b_WK_value 29 = .ok (.iaload, 1) := by decide +kernel
theorem d_WK_value_30 : decode b_WK_value 30 = .ok (.tableswitch 192 0 17 #[86, 94, 192, 192, 192, 192, 192, 192, 192, 105, 113, 122, 145, 153, 161, 169, 177, 184], 86) := by decide +kernel
theorem d_WK_value_116 : decode b_WK_value 116 = .ok (.iload 4, 2) := by decide +kernel
theorem d_WK_value_118 : decode b_WK_value 118 = .ok (.i2d, 1) := by decide +kernel
theorem d_WK_value_119 : decode b_WK_value 119 = .ok (.ldc2_w 78, 3) := by decide +kernel
theorem d_WK_value_122 : decode b_WK_value 122 = .ok (.ddiv, 1) := by decide +kernel
theorem d_WK_value_123 : decode b_WK_value 123 = .ok (.dreturn, 1) := by decide +kernel
theorem d_WK_value_124 : decode b_WK_value 124 = .ok (.aload_n 0, 1) := by decide +kernel
theorem d_WK_value_125 : decode b_WK_value 125 = .ok (.getfield 34, 3) := by decide +kernel
theorem d_WK_value_128 : decode b_WK_value 128 = .ok (.getfield 80, 3) := by decide +kernel
theorem d_WK_value_131 : decode b_WK_value 131 = .ok (.iload 4, 2) := by decide +kernel
theorem d_WK_value_133 : decode b_WK_value 133 = .ok (.daload, 1) := by decide +kernel
theorem d_WK_value_134 : decode b_WK_value 134 = .ok (.dreturn, 1) := by decide +kernel
theorem d_WK_value_135 : decode b_WK_value 135 = .ok (.aload_n 0, 1) := by decide +kernel
theorem d_WK_value_136 : decode b_WK_value 136 = .ok (.iload_n 1, 1) := by decide +kernel
theorem d_WK_value_137 : decode b_WK_value 137 = .ok (.aload_n 2, 1) := by decide +kernel
theorem d_WK_value_138 : decode b_WK_value 138 = .ok (.iload_n 3, 1) := by decide +kernel
theorem d_WK_value_139 : decode b_WK_value 139 = .ok (.invokevirtual 86, 3) := by decide +kernel
theorem d_WK_value_142 : decode b_WK_value 142 = .ok (.dreturn, 1) := by decide +kernel
theorem d_WK_value_143 : decode b_WK_value 143 = .ok (.aload_n 0, 1) := by decide +kernel
theorem d_WK_value_144 : decode b_WK_value 144 = .ok (.iload 4, 2) := by decide +kernel
theorem d_WK_value_146 : decode b_WK_value 146 = .ok (.aload_n 2, 1) := by decide +kernel
theorem d_WK_value_147 : decode b_WK_value 147 = .ok (.iload_n 3, 1) := by decide +kernel
theorem d_WK_value_148 : decode b_WK_value 148 = .ok (.invokevirtual 89, 3) := by decide +kernel
theorem d_WK_value_151 : decode b_WK_value 151 = .ok (.dreturn, 1) := by decide +kernel
theorem d_WK_value_152 : decode b_WK_value 152 = .ok (.aload_n 2, 1) := by decide +kernel
theorem d_WK_value_153 : decode b_WK_value 153 = .ok (.invokevirtual 92, 3) := by decide +kernel
theorem d_WK_value_156 : decode b_WK_value 156 = .ok (.ifCond .eq 13, 3) := by decide +kernel
theorem d_WK_value_159 : decode b_WK_value 159 = .ok (.aload_n 2, 1) := by decide +kernel
theorem d_WK_value_160 : decode b_WK_value 160 = .ok (.getfield 96, 3) := by decide +kernel
theorem d_WK_value_163 : decode b_WK_value 163 = .ok (.iload 4, 2) := by decide +kernel
theorem d_WK_value_165 : decode b_WK_value 165 = .ok (.daload, 1) := by decide +kernel
theorem d_WK_value_166 : decode b_WK_value 166 = .ok (.goto 8, 3) := by decide +kernel
theorem d_WK_value_169 : decode b_WK_value 169 = .ok (.aload_n 0, 1) := by decide +kernel
theorem d_WK_value_170 : decode b_WK_value 170 = .ok (.iconst 4, 1) := by decide +kernel
theorem d_WK_value_171 : decode b_WK_value 171 = .ok (.invokevirtual 99, 3) := by decide +kernel
theorem d_WK_value_174 : decode b_WK_value 174 = .ok (.dreturn, 1) := by decide +kernel
theorem d_WK_value_175 : decode b_WK_value 175 = .ok (.aload_n 0, 1) := by decide +kernel
theorem d_WK_value_176 : decode b_WK_value 176 = .ok (.iload_n 1, 1) := by decide +kernel
theorem d_WK_value_177 : decode b_WK_value 177 = .ok (.aload_n 2, 1) := by decide +kernel
theorem d_WK_value_178 : decode b_WK_value 178 = .ok (.iload_n 3, 1) := by decide +kernel
theorem d_WK_value_179 : decode b_WK_value 179 = .ok (.invokevirtual 103, 3) := by decide +kernel
theorem d_WK_value_182 : decode b_WK_value 182 = .ok (.dreturn, 1) := by decide +kernel
theorem d_WK_value_183 : decode b_WK_value 183 = .ok (.aload_n 0, 1) := by decide +kernel
theorem d_WK_value_184 : decode b_WK_value 184 = .ok (.iload_n 1, 1) := by decide +kernel
theorem d_WK_value_185 : decode b_WK_value 185 = .ok (.aload_n 2, 1) := by decide +kernel
theorem d_WK_value_186 : decode b_WK_value 186 = .ok (.iload_n 3, 1) := by decide +kernel
theorem d_WK_value_187 : decode b_WK_value 187 = .ok (.invokevirtual 106, 3) := by decide +kernel
theorem d_WK_value_190 : decode b_WK_value 190 = .ok (.dreturn, 1) := by decide +kernel
theorem d_WK_value_191 : decode b_WK_value 191 = .ok (.aload_n 0, 1) := by decide +kernel
theorem d_WK_value_192 : decode b_WK_value 192 = .ok (.iload_n 1, 1) := by decide +kernel
theorem d_WK_value_193 : decode b_WK_value 193 = .ok (.aload_n 2, 1) := by decide +kernel
theorem d_WK_value_194 : decode b_WK_value 194 = .ok (.iload_n 3, 1) := by decide +kernel
theorem d_WK_value_195 : decode b_WK_value 195 = .ok (.invokevirtual 109, 3) := by decide +kernel
theorem d_WK_value_198 : decode b_WK_value 198 = .ok (.dreturn, 1) := by decide +kernel
theorem d_WK_value_199 : decode b_WK_value 199 = .ok (.aload_n 0, 1) := by decide +kernel
theorem d_WK_value_200 : decode b_WK_value 200 = .ok (.iload_n 1, 1) := by decide +kernel
theorem d_WK_value_201 : decode b_WK_value 201 = .ok (.aload_n 2, 1) := by decide +kernel
theorem d_WK_value_202 : decode b_WK_value 202 = .ok (.iload_n 3, 1) := by decide +kernel
theorem d_WK_value_203 : decode b_WK_value 203 = .ok (.invokevirtual 112, 3) := by decide +kernel
theorem d_WK_value_206 : decode b_WK_value 206 = .ok (.dreturn, 1) := by decide +kernel
theorem d_WK_value_207 : decode b_WK_value 207 = .ok (.aload_n 0, 1) := by decide +kernel
theorem d_WK_value_208 : decode b_WK_value 208 = .ok (.iload 4, 2) := by decide +kernel
theorem d_WK_value_210 : decode b_WK_value 210 = .ok (.invokevirtual 115, 3) := by decide +kernel
theorem d_WK_value_213 : decode b_WK_value 213 = .ok (.dreturn, 1) := by decide +kernel
theorem d_WK_value_214 : decode b_WK_value 214 = .ok (.aload_n 0, 1) := by decide +kernel
theorem d_WK_value_215 : decode b_WK_value 215 = .ok (.iload_n 1, 1) := by decide +kernel
theorem d_WK_value_216 : decode b_WK_value 216 = .ok (.aload_n 2, 1) := by decide +kernel
theorem d_WK_value_217 : decode b_WK_value 217 = .ok (.iload_n 3, 1) := by decide +kernel
theorem d_WK_value_218 : decode b_WK_value 218 = .ok (.invokevirtual 118, 3) := by decide +kernel
theorem d_WK_value_221 : decode b_WK_value 221 = .ok (.dreturn, 1) := by decide +kernel
theorem d_WK_value_222 : decode b_WK_value 222 = .ok (.aload_n 0, 1) := by decide +kernel
theorem d_WK_value_223 : decode b_WK_value 223 = .ok (.iload_n 1, 1) := by decide +kernel
theorem d_WK_value_224 : decode b_WK_value 224 = .ok (.aload_n 2, 1) := by decide +kernel
theorem d_WK_value_225 : decode b_WK_value 225 = .ok (.iload_n 3, 1) := by decide +kernel
theorem d_WK_value_226 : decode b_WK_value 226 = .ok (.invokevirtual 121, 3) := by decide +kernel
theorem d_WK_value_229 : decode b_WK_value 229 = .ok (.dreturn, 1) := by decide +kernel
theorem d_WK_ofTwo_0 : decode b_WK_ofTwo 0 = .ok (.aload_n 0, 1) := by decide +kernel
theorem d_WK_ofTwo_1 : decode b_WK_ofTwo 1 = .ok (.aload_n 0, 1) := by decide +kernel
theorem d_WK_ofTwo_2 : decode b_WK_ofTwo 2 = .ok (.getfield 30, 3) := by decide +kernel
theorem d_WK_ofTwo_5 : decode b_WK_ofTwo 5 = .ok (.getfield 70, 3) := by decide +kernel
theorem d_WK_ofTwo_8 : decode b_WK_ofTwo 8 = .ok (.iload_n 1, 1) := by decide +kernel
theorem d_WK_ofTwo_9 : decode b_WK_ofTwo 9 = .ok (.iaload, 1) := by decide +kernel
theorem d_WK_ofTwo_10 : decode b_WK_ofTwo 10 = .ok (.aload_n 2, 1) := by decide +kernel
theorem d_WK_ofTwo_11 : decode b_WK_ofTwo 11 = .ok (.iload_n 3, 1) := by decide +kernel
theorem d_WK_ofTwo_12 : decode b_WK_ofTwo 12 = .ok (.iconst 1, 1) := by decide +kernel
theorem d_WK_ofTwo_13 : decode b_WK_ofTwo 13 = .ok (.iadd, 1) := by decide +kernel
theorem d_WK_ofTwo_14 : decode b_WK_ofTwo 14 = .ok (.invokevirtual 53, 3) := by decide +kernel
theorem d_WK_ofTwo_17 : decode b_WK_ofTwo 17 = .ok (.dstore 4, 2) := by decide +kernel
theorem d_WK_ofTwo_19 : decode b_WK_ofTwo 19 = .ok (.aload_n 0, 1) := by decide +kernel
theorem d_WK_ofTwo_20 : decode b_WK_ofTwo 20 = .ok (.invokevirtual 124, 3) := by decide +kernel
theorem d_WK_ofTwo_23 : decode b_WK_ofTwo 23 = .ok (.ifCond .eq 5, 3) := by decide +kernel
theorem d_WK_ofTwo_26 : decode b_WK_ofTwo 26 = .ok (.dconst 0, 1) := by decide +kernel
theorem d_WK_ofTwo_27 : decode b_WK_ofTwo 27 = .ok (.dreturn, 1) := by decide +kernel
theorem d_WK_ofTwo_28 : decode b_WK_ofTwo 28 = .ok (.aload_n 0, 1) := by decide +kernel
theorem d_WK_ofTwo_29 : decode b_WK_ofTwo 29 = .ok (.aload_n 0, 1) := by decide +kernel
theorem d_WK_ofTwo_30 : decode b_WK_ofTwo 30 = .ok (.getfield 30, 3) := by decide +kernel
theorem d_WK_ofTwo_33 : decode b_WK_ofTwo 33 = .ok (.getfield 127, 3) := by decide +kernel
theorem d_WK_ofTwo_36 : decode b_WK_ofTwo 36 = .ok (.iload_n 1, 1) := by decide +kernel
theorem d_WK_ofTwo_37 : decode b_WK_ofTwo 37 = .ok (.iaload, 1) := by decide +kernel
theorem d_WK_ofTwo_38 : decode b_WK_ofTwo 38 = .ok (.aload_n 2, 1) := by decide +kernel
theorem d_WK_ofTwo_39 : decode b_WK_ofTwo 39 = .ok (.iload_n 3, 1) := by decide +kernel
theorem d_WK_ofTwo_40 : decode b_WK_ofTwo 40 = .ok (.iconst 1, 1) := by decide +kernel
theorem d_WK_ofTwo_41 : decode b_WK_ofTwo 41 = .ok (.iadd, 1) := by decide +kernel
theorem d_WK_ofTwo_42 : decode b_WK_ofTwo 42 = .ok (.invokevirtual 53, 3) := by decide +kernel
theorem d_WK_ofTwo_45 : decode b_WK_ofTwo 45 = .ok (.dstore 6, 2) := by decide +kernel
theorem d_WK_ofTwo_47 : decode b_WK_ofTwo 47 = .ok (.aload_n 0, 1) := by decide +kernel
theorem d_WK_ofTwo_48 : decode b_WK_ofTwo 48 = .ok (.invokevirtual 124, 3) := by decide +kernel
theorem d_WK_ofTwo_51 : decode b_WK_ofTwo 51 = .ok (.ifCond .eq 5, 3) := by decide +kernel
theorem d_WK_ofTwo_54 : decode b_WK_ofTwo 54 = .ok (.dconst 0, 1) := by decide +kernel
theorem d_WK_ofTwo_55 : decode b_WK_ofTwo 55 = .ok (.dreturn, 1) := by decide +kernel
theorem d_WK_ofTwo_56 : decode b_WK_ofTwo 56 = .ok (.aload_n 0, 1) := by decide +kernel
theorem d_WK_ofTwo_57 : decode b_WK_ofTwo 57 = .ok (.getfield 30, 3) := by decide +kernel
theorem d_WK_ofTwo_60 : decode b_WK_ofTwo 60 = .ok (.getfield 75, 3) := by decide +kernel
theorem d_WK_ofTwo_63 : decode b_WK_ofTwo 63 = .ok (.iload_n 1, 1) := by decide +kernel
theorem d_WK_ofTwo_64 : decode b_WK_ofTwo 64 = .ok (.iaload, 1) := by decide +kernel
theorem d_WK_ofTwo_65 : decode b_WK_ofTwo 65 = .ok (.tableswitch 124 2 7 #[39, 54, 64, 74, 84, 109], 39) := by decide +kernel
theorem d_WK_ofTwo_104 : decode b_WK_ofTwo 104 = .ok (.aload_n 0, 1) := by decide +kernel
theorem d_WK_ofTwo_105 : decode b_WK_ofTwo 105 = .ok (.dload 4, 2) := by decide +kernel
theorem d_WK_ofTwo_107 : decode b_WK_ofTwo 107 = .ok (.invokestatic 130, 3) := by decide +kernel
theorem d_WK_ofTwo_110 : decode b_WK_ofTwo 110 = .ok (.dload 6, 2) := by decide +kernel
theorem d_WK_ofTwo_112 : decode b_WK_ofTwo 112 = .ok (.invokestatic 130, 3) := by decide +kernel
theorem d_WK_ofTwo_115 : decode b_WK_ofTwo 115 = .ok (.invokevirtual 134, 3) := by decide +kernel
theorem d_WK_ofTwo_118 : decode b_WK_ofTwo 118 = .ok (.dreturn, 1) := by decide +kernel
theorem d_WK_ofTwo_119 : decode b_WK_ofTwo 119 = .ok (.aload_n 0, 1) := by decide +kernel
theorem d_WK_ofTwo_120 : decode b_WK_ofTwo 120 = .ok (.dload 4, 2) := by decide +kernel
theorem d_WK_ofTwo_122 : decode b_WK_ofTwo 122 = .ok (.dload 6, 2) := by decide +kernel
theorem d_WK_ofTwo_124 : decode b_WK_ofTwo 124 = .ok (.dadd, 1) := by decide +kernel
theorem d_WK_ofTwo_125 : decode b_WK_ofTwo 125 = .ok (.invokevirtual 138, 3) := by decide +kernel
theorem d_WK_ofTwo_128 : decode b_WK_ofTwo 128 = .ok (.dreturn, 1) := by decide +kernel
theorem d_WK_ofTwo_129 : decode b_WK_ofTwo 129 = .ok (.aload_n 0, 1) := by decide +kernel
theorem d_WK_ofTwo_130 : decode b_WK_ofTwo 130 = .ok (.dload 4, 2) := by decide +kernel
theorem d_WK_ofTwo_132 : decode b_WK_ofTwo 132 = .ok (.dload 6, 2) := by decide +kernel
theorem d_WK_ofTwo_134 : decode b_WK_ofTwo 134 = .ok (.dsub, 1) := by decide +kernel
theorem d_WK_ofTwo_135 : decode b_WK_ofTwo 135 = .ok (.invokevirtual 138, 3) := by decide +kernel
theorem d_WK_ofTwo_138 : decode b_WK_ofTwo 138 = .ok (.dreturn, 1) := by decide +kernel
theorem d_WK_ofTwo_139 : decode b_WK_ofTwo 139 = .ok (.aload_n 0, 1) := by decide +kernel
theorem d_WK_ofTwo_140 : decode b_WK_ofTwo 140 = .ok (.dload 4, 2) := by decide +kernel
theorem d_WK_ofTwo_142 : decode b_WK_ofTwo 142 = .ok (.dload 6, 2) := by decide +kernel
theorem d_WK_ofTwo_144 : decode b_WK_ofTwo 144 = .ok (.dmul, 1) := by decide +kernel
theorem d_WK_ofTwo_145 : decode b_WK_ofTwo 145 = .ok (.invokevirtual 138, 3) := by decide +kernel
theorem d_WK_ofTwo_148 : decode b_WK_ofTwo 148 = .ok (.dreturn, 1) := by decide +kernel
theorem d_WK_ofTwo_149 : decode b_WK_ofTwo 149 = .ok (.dload 6, 2) := by decide +kernel
theorem d_WK_ofTwo_151 : decode b_WK_ofTwo 151 = .ok (.dconst 0, 1) := by decide +kernel
theorem d_WK_ofTwo_152 : decode b_WK_ofTwo 152 = .ok (.dcmp .l, 1) := by decide +kernel
theorem d_WK_ofTwo_153 : decode b_WK_ofTwo 153 = .ok (.ifCond .ne 11, 3) := by decide +kernel
