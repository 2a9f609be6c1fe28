theorem dX7_init_0 : decode cX7_init 0 = .ok (.aload_n 0, 1) := by decide +kernel
theorem dX7_init_1 : decode cX7_init 1 = .ok (.invokespecial 1, 3) := by decide +kernel
theorem dX7_init_4 : decode cX7_init 4 = .ok (.aload_n 0, 1) := by decide +kernel
theorem dX7_init_5 : decode cX7_init 5 = .ok (.new 7, 3) := by decide +kernel
theorem dX7_init_8 : decode cX7_init 8 = .ok (.dup, 1) := by decide +kernel
theorem dX7_init_9 : decode cX7_init 9 = .ok (.invokespecial 9, 3) := by decide +kernel
theorem dX7_init_12 : decode cX7_init 12 = .ok (.putfield 10, 3) := by decide +kernel
theorem dX7_init_15 : decode cX7_init 15 = .ok (.aload_n 0, 1) := by decide +kernel
theorem dX7_init_16 : decode cX7_init 16 = .ok (.new 16, 3) := by decide +kernel
theorem dX7_init_19 : decode cX7_init 19 = .ok (.dup, 1) := by decide +kernel
theorem dX7_init_20 : decode cX7_init 20 = .ok (.invokespecial 18, 3) := by decide +kernel
theorem dX7_init_23 : decode cX7_init 23 = .ok (.putfield 19, 3) := by decide +kernel
theorem dX7_init_26 : decode cX7_init 26 = .ok (.aload_n 0, 1) := by decide +kernel
theorem dX7_init_27 : decode cX7_init 27 = .ok (.new 23, 3) := by decide +kernel
theorem dX7_init_30 : decode cX7_init 30 = .ok (.dup, 1) := by decide +kernel
theorem dX7_init_31 : decode cX7_init 31 = .ok (.invokespecial 25, 3) := by decide +kernel
theorem dX7_init_34 : decode cX7_init 34 = .ok (.putfield 26, 3) := by decide +kernel
theorem dX7_init_37 : decode cX7_init 37 = .ok (.aload_n 0, 1) := by decide +kernel
theorem dX7_init_38 : decode cX7_init 38 = .ok (.new 30, 3) := by decide +kernel
theorem dX7_init_41 : decode cX7_init 41 = .ok (.dup, 1) := by decide +kernel
theorem dX7_init_42 : decode cX7_init 42 = .ok (.invokespecial 32, 3) := by decide +kernel
theorem dX7_init_45 : decode cX7_init 45 = .ok (.putfield 33, 3) := by decide +kernel
theorem dX7_init_48 : decode cX7_init 48 = .ok (.aload_n 0, 1) := by decide +kernel
theorem dX7_init_49 : decode cX7_init 49 = .ok (.new 30, 3) := by decide +kernel
theorem dX7_init_52 : decode cX7_init 52 = .ok (.dup, 1) := by decide +kernel
theorem dX7_init_53 : decode cX7_init 53 = .ok (.invokespecial 32, 3) := by decide +kernel
theorem dX7_init_56 : decode cX7_init 56 = .ok (.putfield 37, 3) := by decide +kernel
theorem dX7_init_59 : decode cX7_init 59 = .ok (.aload_n 0, 1) := by decide +kernel
theorem dX7_init_60 : decode cX7_init 60 = .ok (.new 40, 3) := by decide +kernel
theorem dX7_init_63 : decode cX7_init 63 = .ok (.dup, 1) := by decide +kernel
theorem dX7_init_64 : decode cX7_init 64 = .ok (.invokespecial 42, 3) := by decide +kernel
theorem dX7_init_67 : decode cX7_init 67 = .ok (.putfield 43, 3) := by decide +kernel
theorem dX7_init_70 : decode cX7_init 70 = .ok (.aload_n 0, 1) := by decide +kernel
theorem dX7_init_71 : decode cX7_init 71 = .ok (.bipush 8, 2) := by decide +kernel
theorem dX7_init_73 : decode cX7_init 73 = .ok (.newarray .int, 2) := by decide +kernel
theorem dX7_init_75 : decode cX7_init 75 = .ok (.putfield 47, 3) := by decide +kernel
theorem dX7_init_78 : decode cX7_init 78 = .ok (.aload_n 0, 1) := by decide +kernel
theorem dX7_init_79 : decode cX7_init 79 = .ok (.bipush 8, 2) := by decide +kernel
theorem dX7_init_81 : decode cX7_init 81 = .ok (.newarray .int, 2) := by decide +kernel
theorem dX7_init_83 : decode cX7_init 83 = .ok (.putfield 51, 3) := by decide +kernel
theorem dX7_init_86 : decode cX7_init 86 = .ok (.aload_n 0, 1) := by decide +kernel
theorem dX7_init_87 : decode cX7_init 87 = .ok (.bipush 48, 2) := by decide +kernel
theorem dX7_init_89 : decode cX7_init 89 = .ok (.newarray .boolean, 2) := by decide +kernel
theorem dX7_init_91 : decode cX7_init 91 = .ok (.putfield 54, 3) := by decide +kernel
theorem dX7_init_94 : decode cX7_init 94 = .ok (.aload_n 0, 1) := by decide +kernel
theorem dX7_init_95 : decode cX7_init 95 = .ok (.bipush 17, 2) := by decide +kernel
theorem dX7_init_97 : decode cX7_init 97 = .ok (.newarray .int, 2) := by decide +kernel
theorem dX7_init_99 : decode cX7_init 99 = .ok (.putfield 58, 3) := by decide +kernel
theorem dX7_init_102 : decode cX7_init 102 = .ok (.aload_n 0, 1) := by decide +kernel
theorem dX7_init_103 : decode cX7_init 103 = .ok (.iconst 0, 1) := by decide +kernel
theorem dX7_init_104 : decode cX7_init 104 = .ok (.putfield 61, 3) := by decide +kernel
theorem dX7_init_107 : decode cX7_init 107 = .ok (.aload_n 0, 1) := by decide +kernel
theorem dX7_init_108 : decode cX7_init 108 = .ok (.iconst (-1), 1) := by decide +kernel
theorem dX7_init_109 : decode cX7_init 109 = .ok (.putfield 65, 3) := by decide +kernel
theorem dX7_init_112 : decode cX7_init 112 = .ok (.return_, 1) := by decide +kernel
theorem dX7_code_0 : decode cX7_code 0 = .ok (.iload_n 1, 1) := by decide +kernel
theorem dX7_code_1 : decode cX7_code 1 = .ok (.iconst 0, 1) := by decide +kernel
theorem dX7_code_2 : decode cX7_code 2 = .ok (.bipush 9, 2) := by decide +kernel
theorem dX7_code_4 : decode cX7_code 4 = .ok (.invokestatic 68, 3) := by decide +kernel
theorem dX7_code_7 : decode cX7_code 7 = .ok (.iload_n 2, 1) := by decide +kernel
theorem dX7_code_8 : decode cX7_code 8 = .ok (.bipush (-99), 2) := by decide +kernel
theorem dX7_code_10 : decode cX7_code 10 = .ok (.bipush 99, 2) := by decide +kernel
theorem dX7_code_12 : decode cX7_code 12 = .ok (.invokestatic 68, 3) := by decide +kernel
theorem dX7_code_15 : decode cX7_code 15 = .ok (.aload_n 0, 1) := by decide +kernel
theorem dX7_code_16 : decode cX7_code 16 = .ok (.getfield 10, 3) := by decide +kernel
theorem dX7_code_19 : decode cX7_code 19 = .ok (.getfield 72, 3) := by decide +kernel
theorem dX7_code_22 : decode cX7_code 22 = .ok (.bipush 16, 2) := by decide +kernel
theorem dX7_code_24 : decode cX7_code 24 = .ok (.if_icmp .lt 13, 3) := by decide +kernel
theorem dX7_code_27 : decode cX7_code 27 = .ok (.new 75, 3) := by decide +kernel
theorem dX7_code_30 : decode cX7_code 30 = .ok (.dup, 1) := by decide +kernel
theorem dX7_code_31 : decode cX7_code 31 = .ok (.ldc 77, 2) := by decide +kernel
theorem dX7_code_33 : decode cX7_code 33 = .ok (.invokespecial 79, 3) := by decide +kernel
theorem dX7_code_36 : decode cX7_code 36 = .ok (.athrow, 1) := by decide +kernel
theorem dX7_code_37 : decode cX7_code 37 = .ok (.aload_n 0, 1) := by decide +kernel
theorem dX7_code_38 : decode cX7_code 38 = .ok (.getfield 10, 3) := by decide +kernel
theorem dX7_code_41 : decode cX7_code 41 = .ok (.iload_n 1, 1) := by decide +kernel
theorem dX7_code_42 : decode cX7_code 42 = .ok (.iload_n 2, 1) := by decide +kernel
theorem dX7_code_43 : decode cX7_code 43 = .ok (.invokevirtual 82, 3) := by decide +kernel
theorem dX7_code_46 : decode cX7_code 46 = .ok (.aload_n 0, 1) := by decide +kernel
theorem dX7_code_47 : decode cX7_code 47 = .ok (.getfield 10, 3) := by decide +kernel
theorem dX7_code_50 : decode cX7_code 50 = .ok (.getfield 72, 3) := by decide +kernel
theorem dX7_code_53 : decode cX7_code 53 = .ok (.ireturn, 1) := by decide +kernel
theorem dX7_input_0 : decode cX7_input 0 = .ok (.iload_n 1, 1) := by decide +kernel
theorem dX7_input_1 : decode cX7_input 1 = .ok (.bipush (-9), 2) := by decide +kernel
theorem dX7_input_3 : decode cX7_input 3 = .ok (.bipush 9, 2) := by decide +kernel
theorem dX7_input_5 : decode cX7_input 5 = .ok (.invokestatic 68, 3) := by decide +kernel
theorem dX7_input_8 : decode cX7_input 8 = .ok (.aload_n 0, 1) := by decide +kernel
theorem dX7_input_9 : decode cX7_input 9 = .ok (.getfield 19, 3) := by decide +kernel
theorem dX7_input_12 : decode cX7_input 12 = .ok (.getfield 86, 3) := by decide +kernel
theorem dX7_input_15 : decode cX7_input 15 = .ok (.iconst 4, 1) := by decide +kernel
theorem dX7_input_16 : decode cX7_input 16 = .ok (.if_icmp .lt 13, 3) := by decide +kernel
theorem dX7_input_19 : decode cX7_input 19 = .ok (.new 75, 3) := by decide +kernel
theorem dX7_input_22 : decode cX7_input 22 = .ok (.dup, 1) := by decide +kernel
theorem dX7_input_23 : decode cX7_input 23 = .ok (.ldc 87, 2) := by decide +kernel
theorem dX7_input_25 : decode cX7_input 25 = .ok (.invokespecial 79, 3) := by decide +kernel
theorem dX7_input_28 : decode cX7_input 28 = .ok (.athrow, 1) := by decide +kernel
theorem dX7_input_29 : decode cX7_input 29 = .ok (.aload_n 0, 1) := by decide +kernel
theorem dX7_input_30 : decode cX7_input 30 = .ok (.getfield 19, 3) := by decide +kernel
theorem dX7_input_33 : decode cX7_input 33 = .ok (.iload_n 1, 1) := by decide +kernel
theorem dX7_input_34 : decode cX7_input 34 = .ok (.invokevirtual 89, 3) := by decide +kernel
theorem dX7_input_37 : decode cX7_input 37 = .ok (.aload_n 0, 1) := by decide +kernel
theorem dX7_input_38 : decode cX7_input 38 = .ok (.getfield 19, 3) := by decide +kernel
theorem dX7_input_41 : decode cX7_input 41 = .ok (.getfield 86, 3) := by decide +kernel
theorem dX7_input_44 : decode cX7_input 44 = .ok (.ireturn, 1) := by decide +kernel
theorem dX7_clear_0 : decode cX7_clear 0 = .ok (.aload_n 0, 1) := by decide +kernel
theorem dX7_clear_1 : decode cX7_clear 1 = .ok (.getfield 10, 3) := by decide +kernel
theorem dX7_clear_4 : decode cX7_clear 4 = .ok (.getfield 72, 3) := by decide +kernel
theorem dX7_clear_7 : decode cX7_clear 7 = .ok (.istore_n 1, 1) := by decide +kernel
theorem dX7_clear_8 : decode cX7_clear 8 = .ok (.aload_n 0, 1) := by decide +kernel
theorem dX7_clear_9 : decode cX7_clear 9 = .ok (.getfield 10, 3) := by decide +kernel
theorem dX7_clear_12 : decode cX7_clear 12 = .ok (.iconst 0, 1) := by decide +kernel
theorem dX7_clear_13 : decode cX7_clear 13 = .ok (.putfield 72, 3) := by decide +kernel
theorem dX7_clear_16 : decode cX7_clear 16 = .ok (.aload_n 0, 1) := by decide +kernel
theorem dX7_clear_17 : decode cX7_clear 17 = .ok (.getfield 19, 3) := by decide +kernel
theorem dX7_clear_20 : decode cX7_clear 20 = .ok (.iconst 0, 1) := by decide +kernel
theorem dX7_clear_21 : decode cX7_clear 21 = .ok (.putfield 86, 3) := by decide +kernel
theorem dX7_clear_24 : decode cX7_clear 24 = .ok (.iload_n 1, 1) := by decide +kernel
theorem dX7_clear_25 : decode cX7_clear 25 = .ok (.ireturn, 1) := by decide +kernel
theorem dX7_run_0 : decode cX7_run 0 = .ok (.iload_n 1, 1) := by decide +kernel
theorem dX7_run_1 : decode cX7_run 1 = .ok (.iconst 1, 1) := by decide +kernel
theorem dX7_run_2 : decode cX7_run 2 = .ok (.sipush 500, 3) := by decide +kernel
theorem dX7_run_5 : decode cX7_run 5 = .ok (.invokestatic 68, 3) := by decide +kernel
theorem dX7_run_8 : decode cX7_run 8 = .ok (.iload_n 2, 1) := by decide +kernel
theorem dX7_run_9 : decode cX7_run 9 = .ok (.iconst 0, 1) := by decide +kernel
theorem dX7_run_10 : decode cX7_run 10 = .ok (.bipush 10, 2) := by decide +kernel
theorem dX7_run_12 : decode cX7_run 12 = .ok (.invokestatic 68, 3) := by decide +kernel
theorem dX7_run_15 : decode cX7_run 15 = .ok (.aload_n 0, 1) := by decide +kernel
theorem dX7_run_16 : decode cX7_run 16 = .ok (.getfield 26, 3) := by decide +kernel
theorem dX7_run_19 : decode cX7_run 19 = .ok (.aload_n 0, 1) := by decide +kernel
theorem dX7_run_20 : decode cX7_run 20 = .ok (.getfield 10, 3) := by decide +kernel
theorem dX7_run_23 : decode cX7_run 23 = .ok (.aload_n 0, 1) := by decide +kernel
theorem dX7_run_24 : decode cX7_run 24 = .ok (.getfield 19, 3) := by decide +kernel
theorem dX7_run_27 : decode cX7_run 27 = .ok (.iload_n 1, 1) := by decide +kernel
theorem dX7_run_28 : decode cX7_run 28 = .ok (.invokevirtual 93, 3) := by decide +kernel
theorem dX7_run_31 : decode cX7_run 31 = .ok (.istore_n 3, 1) := by decide +kernel
theorem dX7_run_32 : decode cX7_run 32 = .ok (.iload_n 2, 1) := by decide +kernel
theorem dX7_run_33 : decode cX7_run 33 = .ok (.tableswitch 48 0 2 #[27, 29, 37], 27) := by decide +kernel
theorem dX7_run_60 : decode cX7_run 60 = .ok (.iload_n 3, 1) := by decide +kernel
theorem dX7_run_61 : decode cX7_run 61 = .ok (.ireturn, 1) := by decide +kernel
theorem dX7_run_62 : decode cX7_run 62 = .ok (.aload_n 0, 1) := by decide +kernel
theorem dX7_run_63 : decode cX7_run 63 = .ok (.getfield 26, 3) := by decide +kernel
theorem dX7_run_66 : decode cX7_run 66 = .ok (.getfield 97, 3) := by decide +kernel
theorem dX7_run_69 : decode cX7_run 69 = .ok (.ireturn, 1) := by decide +kernel
theorem dX7_run_70 : decode cX7_run 70 = .ok (.aload_n 0, 1) := by decide +kernel
theorem dX7_run_71 : decode cX7_run 71 = .ok (.getfield 26, 3) := by decide +kernel
theorem dX7_run_74 : decode cX7_run 74 = .ok (.getfield 100, 3) := by decide +kernel
theorem dX7_run_77 : decode cX7_run 77 = .ok (.getfield 86, 3) := by decide +kernel
theorem dX7_run_80 : decode cX7_run 80 = .ok (.ireturn, 1) := by decide +kernel
theorem dX7_run_81 : decode cX7_run 81 = .ok (.aload_n 0, 1) := by decide +kernel
theorem dX7_run_82 : decode cX7_run 82 = .ok (.getfield 26, 3) := by decide +kernel
theorem dX7_run_85 : decode cX7_run 85 = .ok (.getfield 100, 3) := by decide +kernel
theorem dX7_run_88 : decode cX7_run 88 = .ok (.iload_n 2, 1) := by decide +kernel
theorem dX7_run_89 : decode cX7_run 89 = .ok (.iconst 3, 1) := by decide +kernel
theorem dX7_run_90 : decode cX7_run 90 = .ok (.isub, 1) := by decide +kernel
theorem dX7_run_91 : decode cX7_run 91 = .ok (.invokevirtual 103, 3) := by decide +kernel
theorem dX7_run_94 : decode cX7_run 94 = .ok (.ireturn, 1) := by decide +kernel
theorem dX7_problem_0 : decode cX7_problem 0 = .ok (.iload_n 1, 1) := by decide +kernel
theorem dX7_problem_1 : decode cX7_problem 1 = .ok (.iconst 1, 1) := by decide +kernel
theorem dX7_problem_2 : decode cX7_problem 2 = .ok (.sipush 500, 3) := by decide +kernel
theorem dX7_problem_5 : decode cX7_problem 5 = .ok (.invokestatic 68, 3) := by decide +kernel
theorem dX7_problem_8 : decode cX7_problem 8 = .ok (.iload_n 2, 1) := by decide +kernel
theorem dX7_problem_9 : decode cX7_problem 9 = .ok (.iconst 0, 1) := by decide +kernel
theorem dX7_problem_10 : decode cX7_problem 10 = .ok (.iconst 1, 1) := by decide +kernel
theorem dX7_problem_11 : decode cX7_problem 11 = .ok (.invokestatic 68, 3) := by decide +kernel
theorem dX7_problem_14 : decode cX7_problem 14 = .ok (.aload_n 0, 1) := by decide +kernel
theorem dX7_problem_15 : decode cX7_problem 15 = .ok (.getfield 33, 3) := by decide +kernel
theorem dX7_problem_18 : decode cX7_problem 18 = .ok (.invokevirtual 107, 3) := by decide +kernel
theorem dX7_problem_21 : decode cX7_problem 21 = .ok (.bipush 6, 2) := by decide +kernel
theorem dX7_problem_23 : decode cX7_problem 23 = .ok (.if_icmp .lt 13, 3) := by decide +kernel
theorem dX7_problem_26 : decode cX7_problem 26 = .ok (.new 75, 3) := by decide +kernel
theorem dX7_problem_29 : decode cX7_problem 29 = .ok (.dup, 1) := by decide +kernel
theorem dX7_problem_30 : decode cX7_problem 30 = .ok (.ldc 111, 2) := by decide +kernel
theorem dX7_problem_32 : decode cX7_problem 32 = .ok (.invokespecial 79, 3) := by decide +kernel
theorem dX7_problem_35 : decode cX7_problem 35 = .ok (.athrow, 1) := by decide +kernel
theorem dX7_problem_36 : decode cX7_problem 36 = .ok (.new 113, 3) := by decide +kernel
theorem dX7_problem_39 : decode cX7_problem 39 = .ok (.dup, 1) := by decide +kernel
theorem dX7_problem_40 : decode cX7_problem 40 = .ok (.aload_n 0, 1) := by decide +kernel
theorem dX7_problem_41 : decode cX7_problem 41 = .ok (.getfield 33, 3) := by decide +kernel
theorem dX7_problem_44 : decode cX7_problem 44 = .ok (.invokevirtual 107, 3) := by decide +kernel
theorem dX7_problem_47 : decode cX7_problem 47 = .ok (.iload_n 1, 1) := by decide +kernel
theorem dX7_problem_48 : decode cX7_problem 48 = .ok (.iload_n 2, 1) := by decide +kernel
theorem dX7_problem_49 : decode cX7_problem 49 = .ok (.invokespecial 115, 3) := by decide +kernel
theorem dX7_problem_52 : decode cX7_problem 52 = .ok (.astore_n 3, 1) := by decide +kernel
theorem dX7_problem_53 : decode cX7_problem 53 = .ok (.aload_n 3, 1) := by decide +kernel
theorem dX7_problem_54 : decode cX7_problem 54 = .ok (.getfield 117, 3) := by decide +kernel
theorem dX7_problem_57 : decode cX7_problem 57 = .ok (.aload_n 0, 1) := by decide +kernel
theorem dX7_problem_58 : decode cX7_problem 58 = .ok (.getfield 10, 3) := by decide +kernel
theorem dX7_problem_61 : decode cX7_problem 61 = .ok (.invokevirtual 120, 3) := by decide +kernel
theorem dX7_problem_64 : decode cX7_problem 64 = .ok (.aload_n 0, 1) := by decide +kernel
theorem dX7_problem_65 : decode cX7_problem 65 = .ok (.getfield 33, 3) := by decide +kernel
theorem dX7_problem_68 : decode cX7_problem 68 = .ok (.aload_n 3, 1) := by decide +kernel
theorem dX7_problem_69 : decode cX7_problem 69 = .ok (.invokevirtual 124, 3) := by decide +kernel
theorem dX7_problem_72 : decode cX7_problem 72 = .ok (.pop, 1) := by decide +kernel
theorem dX7_problem_73 : decode cX7_problem 73 = .ok (.aload_n 3, 1) := by decide +kernel
theorem dX7_problem_74 : decode cX7_problem 74 = .ok (.getfield 128, 3) := by decide +kernel
theorem dX7_problem_77 : decode cX7_problem 77 = .ok (.ireturn, 1) := by decide +kernel
theorem dX7_test_0 : decode cX7_test 0 = .ok (.aload_n 0, 1) := by decide +kernel
theorem dX7_test_1 : decode cX7_test 1 = .ok (.iload_n 1, 1) := by decide +kernel
theorem dX7_test_2 : decode cX7_test 2 = .ok (.invokevirtual 131, 3) := by decide +kernel
theorem dX7_test_5 : decode cX7_test 5 = .ok (.astore_n 3, 1) := by decide +kernel
theorem dX7_test_6 : decode cX7_test 6 = .ok (.iload_n 2, 1) := by decide +kernel
theorem dX7_test_7 : decode cX7_test 7 = .ok (.iconst 4, 1) := by decide +kernel
theorem dX7_test_8 : decode cX7_test 8 = .ok (.invokestatic 135, 3) := by decide +kernel
theorem dX7_test_11 : decode cX7_test 11 = .ok (.aload_n 3, 1) := by decide +kernel
theorem dX7_test_12 : decode cX7_test 12 = .ok (.getfield 138, 3) := by decide +kernel
theorem dX7_test_15 : decode cX7_test 15 = .ok (.invokevirtual 107, 3) := by decide +kernel
theorem dX7_test_18 : decode cX7_test 18 = .ok (.bipush 12, 2) := by decide +kernel
theorem dX7_test_20 : decode cX7_test 20 = .ok (.if_icmp .lt 13, 3) := by decide +kernel
theorem dX7_test_23 : decode cX7_test 23 = .ok (.new 75, 3) := by decide +kernel
theorem dX7_test_26 : decode cX7_test 26 = .ok (.dup, 1) := by decide +kernel
theorem dX7_test_27 : decode cX7_test 27 = .ok (.ldc 141, 2) := by decide +kernel
theorem dX7_test_29 : decode cX7_test 29 = .ok (.invokespecial 79, 3) := by decide +kernel
theorem dX7_test_32 : decode cX7_test 32 = .ok (.athrow, 1) := by decide +kernel
theorem dX7_test_33 : decode cX7_test 33 = .ok (.aload_n 0, 1) := by decide +kernel
theorem dX7_test_34 : decode cX7_test 34 = .ok (.aload_n 3, 1) := by decide +kernel
theorem dX7_test_35 : decode cX7_test 35 = .ok (.getfield 117, 3) := by decide +kernel
theorem dX7_test_38 : decode cX7_test 38 = .ok (.aload_n 0, 1) := by decide +kernel
theorem dX7_test_39 : decode cX7_test 39 = .ok (.getfield 19, 3) := by decide +kernel
theorem dX7_test_42 : decode cX7_test 42 = .ok (.invokevirtual 143, 3) := by decide +kernel
theorem dX7_test_45 : decode cX7_test 45 = .ok (.ifCond .ne 13, 3) := by decide +kernel
theorem dX7_test_48 : decode cX7_test 48 = .ok (.new 75, 3) := by decide +kernel
theorem dX7_test_51 : decode cX7_test 51 = .ok (.dup, 1) := by decide +kernel
theorem dX7_test_52 : decode cX7_test 52 = .ok (.ldc 147, 2) := by decide +kernel
theorem dX7_test_54 : decode cX7_test 54 = .ok (.invokespecial 79, 3) := by decide +kernel
theorem dX7_test_57 : decode cX7_test 57 = .ok (.athrow, 1) := by decide +kernel
theorem dX7_test_58 : decode cX7_test 58 = .ok (.aload_n 3, 1) := by decide +kernel
theorem dX7_test_59 : decode cX7_test 59 = .ok (.new 149, 3) := by decide +kernel
theorem dX7_test_62 : decode cX7_test 62 = .ok (.dup, 1) := by decide +kernel
theorem dX7_test_63 : decode cX7_test 63 = .ok (.aload_n 0, 1) := by decide +kernel
theorem dX7_test_64 : decode cX7_test 64 = .ok (.getfield 19, 3) := by decide +kernel
theorem dX7_test_67 : decode cX7_test 67 = .ok (.aload_n 0, 1) := by decide +kernel
theorem dX7_test_68 : decode cX7_test 68 = .ok (.getfield 26, 3) := by decide +kernel
theorem dX7_test_71 : decode cX7_test 71 = .ok (.getfield 100, 3) := by decide +kernel
theorem dX7_test_74 : decode cX7_test 74 = .ok (.iload_n 2, 1) := by decide +kernel
theorem dX7_test_75 : decode cX7_test 75 = .ok (.invokespecial 151, 3) := by decide +kernel
theorem dX7_test_78 : decode cX7_test 78 = .ok (.invokevirtual 154, 3) := by decide +kernel
theorem dX7_test_81 : decode cX7_test 81 = .ok (.aload_n 0, 1) := by decide +kernel
theorem dX7_test_82 : decode cX7_test 82 = .ok (.getfield 19, 3) := by decide +kernel
theorem dX7_test_85 : decode cX7_test 85 = .ok (.iconst 0, 1) := by decide +kernel
theorem dX7_test_86 : decode cX7_test 86 = .ok (.putfield 86, 3) := by decide +kernel
theorem dX7_test_89 : decode cX7_test 89 = .ok (.aload_n 3, 1) := by decide +kernel
theorem dX7_test_90 : decode cX7_test 90 = .ok (.getfield 138, 3) := by decide +kernel
theorem dX7_test_93 : decode cX7_test 93 = .ok (.invokevirtual 107, 3) := by decide +kernel
theorem dX7_test_96 : decode cX7_test 96 = .ok (.iconst 1, 1) := by decide +kernel
theorem dX7_test_97 : decode cX7_test 97 = .ok (.isub, 1) := by decide +kernel
theorem dX7_test_98 : decode cX7_test 98 = .ok (.ireturn, 1) := by decide +kernel
theorem dX7_points_0 : decode cX7_points 0 = .ok (.aload_n 0, 1) := by decide +kernel
theorem dX7_points_1 : decode cX7_points 1 = .ok (.iload_n 1, 1) := by decide +kernel
theorem dX7_points_2 : decode cX7_points 2 = .ok (.invokevirtual 131, 3) := by decide +kernel
theorem dX7_points_5 : decode cX7_points 5 = .ok (.astore 4, 2) := by decide +kernel
theorem dX7_points_7 : decode cX7_points 7 = .ok (.iload_n 2, 1) := by decide +kernel
theorem dX7_points_8 : decode cX7_points 8 = .ok (.iconst 4, 1) := by decide +kernel
theorem dX7_points_9 : decode cX7_points 9 = .ok (.invokestatic 135, 3) := by decide +kernel
theorem dX7_points_12 : decode cX7_points 12 = .ok (.iload_n 3, 1) := by decide +kernel
theorem dX7_points_13 : decode cX7_points 13 = .ok (.iconst 0, 1) := by decide +kernel
theorem dX7_points_14 : decode cX7_points 14 = .ok (.bipush 100, 2) := by decide +kernel
theorem dX7_points_16 : decode cX7_points 16 = .ok (.invokestatic 68, 3) := by decide +kernel
theorem dX7_points_19 : decode cX7_points 19 = .ok (.aload 4, 2) := by decide +kernel
theorem dX7_points_21 : decode cX7_points 21 = .ok (.getfield 158, 3) := by decide +kernel
theorem dX7_points_24 : decode cX7_points 24 = .ok (.iload_n 2, 1) := by decide +kernel
theorem dX7_points_25 : decode cX7_points 25 = .ok (.iaload, 1) := by decide +kernel
theorem dX7_points_26 : decode cX7_points 26 = .ok (.istore 5, 2) := by decide +kernel
theorem dX7_points_28 : decode cX7_points 28 = .ok (.aload 4, 2) := by decide +kernel
theorem dX7_points_30 : decode cX7_points 30 = .ok (.getfield 158, 3) := by decide +kernel
theorem dX7_points_33 : decode cX7_points 33 = .ok (.iload_n 2, 1) := by decide +kernel
theorem dX7_points_34 : decode cX7_points 34 = .ok (.iload_n 3, 1) := by decide +kernel
theorem dX7_points_35 : decode cX7_points 35 = .ok (.iastore, 1) := by decide +kernel
theorem dX7_points_36 : decode cX7_points 36 = .ok (.iload 5, 2) := by decide +kernel
theorem dX7_points_38 : decode cX7_points 38 = .ok (.ireturn, 1) := by decide +kernel
theorem dX7_mend_0 : decode cX7_mend 0 = .ok (.aload_n 0, 1) := by decide +kernel
theorem dX7_mend_1 : decode cX7_mend 1 = .ok (.iload_n 1, 1) := by decide +kernel
theorem dX7_mend_2 : decode cX7_mend 2 = .ok (.invokevirtual 131, 3) := by decide +kernel
theorem dX7_mend_5 : decode cX7_mend 5 = .ok (.astore_n 3, 1) := by decide +kernel
theorem dX7_mend_6 : decode cX7_mend 6 = .ok (.iload_n 2, 1) := by decide +kernel
theorem dX7_mend_7 : decode cX7_mend 7 = .ok (.iconst 0, 1) := by decide +kernel
theorem dX7_mend_8 : decode cX7_mend 8 = .ok (.iconst 1, 1) := by decide +kernel
theorem dX7_mend_9 : decode cX7_mend 9 = .ok (.invokestatic 68, 3) := by decide +kernel
theorem dX7_mend_12 : decode cX7_mend 12 = .ok (.aload_n 0, 1) := by decide +kernel
theorem dX7_mend_13 : decode cX7_mend 13 = .ok (.getfield 10, 3) := by decide +kernel
theorem dX7_mend_16 : decode cX7_mend 16 = .ok (.getfield 72, 3) := by decide +kernel
theorem dX7_mend_19 : decode cX7_mend 19 = .ok (.ifCond .le 41, 3) := by decide +kernel
theorem dX7_mend_22 : decode cX7_mend 22 = .ok (.aload_n 0, 1) := by decide +kernel
theorem dX7_mend_23 : decode cX7_mend 23 = .ok (.aload_n 3, 1) := by decide +kernel
theorem dX7_mend_24 : decode cX7_mend 24 = .ok (.aload_n 0, 1) := by decide +kernel
theorem dX7_mend_25 : decode cX7_mend 25 = .ok (.getfield 10, 3) := by decide +kernel
theorem dX7_mend_28 : decode cX7_mend 28 = .ok (.invokevirtual 161, 3) := by decide +kernel
theorem dX7_mend_31 : decode cX7_mend 31 = .ok (.ifCond .ne 13, 3) := by decide +kernel
theorem dX7_mend_34 : decode cX7_mend 34 = .ok (.new 75, 3) := by decide +kernel
theorem dX7_mend_37 : decode cX7_mend 37 = .ok (.dup, 1) := by decide +kernel
theorem dX7_mend_38 : decode cX7_mend 38 = .ok (.ldc 165, 2) := by decide +kernel
theorem dX7_mend_40 : decode cX7_mend 40 = .ok (.invokespecial 79, 3) := by decide +kernel
theorem dX7_mend_43 : decode cX7_mend 43 = .ok (.athrow, 1) := by decide +kernel
theorem dX7_mend_44 : decode cX7_mend 44 = .ok (.aload_n 3, 1) := by decide +kernel
theorem dX7_mend_45 : decode cX7_mend 45 = .ok (.getfield 117, 3) := by decide +kernel
theorem dX7_mend_48 : decode cX7_mend 48 = .ok (.aload_n 0, 1) := by decide +kernel
theorem dX7_mend_49 : decode cX7_mend 49 = .ok (.getfield 10, 3) := by decide +kernel
theorem dX7_mend_52 : decode cX7_mend 52 = .ok (.invokevirtual 120, 3) := by decide +kernel
theorem dX7_mend_55 : decode cX7_mend 55 = .ok (.aload_n 0, 1) := by decide +kernel
theorem dX7_mend_56 : decode cX7_mend 56 = .ok (.aload_n 3, 1) := by decide +kernel
theorem dX7_mend_57 : decode cX7_mend 57 = .ok (.invokevirtual 167, 3) := by decide +kernel
theorem dX7_mend_60 : decode cX7_mend 60 = .ok (.aload_n 3, 1) := by decide +kernel
theorem dX7_mend_61 : decode cX7_mend 61 = .ok (.iload_n 2, 1) := by decide +kernel
theorem dX7_mend_62 : decode cX7_mend 62 = .ok (.putfield 171, 3) := by decide +kernel
theorem dX7_mend_65 : decode cX7_mend 65 = .ok (.aload_n 3, 1) := by decide +kernel
theorem dX7_mend_66 : decode cX7_mend 66 = .ok (.dup, 1) := by decide +kernel
theorem dX7_mend_67 : decode cX7_mend 67 = .ok (.getfield 174, 3) := by decide +kernel
theorem dX7_mend_70 : decode cX7_mend 70 = .ok (.iconst 1, 1) := by decide +kernel
theorem dX7_mend_71 : decode cX7_mend 71 = .ok (.iadd, 1) := by decide +kernel
theorem dX7_mend_72 : decode cX7_mend 72 = .ok (.putfield 174, 3) := by decide +kernel
theorem dX7_mend_75 : decode cX7_mend 75 = .ok (.aload_n 3, 1) := by decide +kernel
theorem dX7_mend_76 : decode cX7_mend 76 = .ok (.getfield 174, 3) := by decide +kernel
theorem dX7_mend_79 : decode cX7_mend 79 = .ok (.ireturn, 1) := by decide +kernel
theorem dX7_answer_0 : decode cX7_answer 0 = .ok (.aload_n 0, 1) := by decide +kernel
theorem dX7_answer_1 : decode cX7_answer 1 = .ok (.iload_n 1, 1) := by decide +kernel
theorem dX7_answer_2 : decode cX7_answer 2 = .ok (.invokevirtual 131, 3) := by decide +kernel
theorem dX7_answer_5 : decode cX7_answer 5 = .ok (.astore 4, 2) := by decide +kernel
theorem dX7_answer_7 : decode cX7_answer 7 = .ok (.iload_n 2, 1) := by decide +kernel
theorem dX7_answer_8 : decode cX7_answer 8 = .ok (.aload 4, 2) := by decide +kernel
theorem dX7_answer_10 : decode cX7_answer 10 = .ok (.getfield 138, 3) := by decide +kernel
theorem dX7_answer_13 : decode cX7_answer 13 = .ok (.invokevirtual 107, 3) := by decide +kernel
theorem dX7_answer_16 : decode cX7_answer 16 = .ok (.invokestatic 135, 3) := by decide +kernel
theorem dX7_answer_19 : decode cX7_answer 19 = .ok (.iload_n 3, 1) := by decide +kernel
theorem dX7_answer_20 : decode cX7_answer 20 = .ok (.ifCond .ge 13, 3) := by decide +kernel
theorem dX7_answer_23 : decode cX7_answer 23 = .ok (.new 177, 3) := by decide +kernel
theorem dX7_answer_26 : decode cX7_answer 26 = .ok (.dup, 1) := by decide +kernel
theorem dX7_answer_27 : decode cX7_answer 27 = .ok (.ldc 179, 2) := by decide +kernel
theorem dX7_answer_29 : decode cX7_answer 29 = .ok (.invokespecial 181, 3) := by decide +kernel
theorem dX7_answer_32 : decode cX7_answer 32 = .ok (.athrow, 1) := by decide +kernel
theorem dX7_answer_33 : decode cX7_answer 33 = .ok (.aload 4, 2) := by decide +kernel
theorem dX7_answer_35 : decode cX7_answer 35 = .ok (.getfield 138, 3) := by decide +kernel
theorem dX7_answer_38 : decode cX7_answer 38 = .ok (.iload_n 2, 1) := by decide +kernel
theorem dX7_answer_39 : decode cX7_answer 39 = .ok (.invokevirtual 182, 3) := by decide +kernel
theorem dX7_answer_42 : decode cX7_answer 42 = .ok (.checkcast 149, 3) := by decide +kernel
theorem dX7_answer_45 : decode cX7_answer 45 = .ok (.getfield 186, 3) := by decide +kernel
theorem dX7_answer_48 : decode cX7_answer 48 = .ok (.iload_n 3, 1) := by decide +kernel
theorem dX7_answer_49 : decode cX7_answer 49 = .ok (.invokevirtual 103, 3) := by decide +kernel
theorem dX7_answer_52 : decode cX7_answer 52 = .ok (.ireturn, 1) := by decide +kernel
theorem dX7_enter_0 : decode cX7_enter 0 = .ok (.iload_n 1, 1) := by decide +kernel
theorem dX7_enter_1 : decode cX7_enter 1 = .ok (.bipush 8, 2) := by decide +kernel
theorem dX7_enter_3 : decode cX7_enter 3 = .ok (.invokestatic 135, 3) := by decide +kernel
theorem dX7_enter_6 : decode cX7_enter 6 = .ok (.aload_n 0, 1) := by decide +kernel
theorem dX7_enter_7 : decode cX7_enter 7 = .ok (.iload_n 2, 1) := by decide +kernel
theorem dX7_enter_8 : decode cX7_enter 8 = .ok (.invokevirtual 131, 3) := by decide +kernel
theorem dX7_enter_11 : decode cX7_enter 11 = .ok (.astore_n 3, 1) := by decide +kernel
theorem dX7_enter_12 : decode cX7_enter 12 = .ok (.aload_n 0, 1) := by decide +kernel
theorem dX7_enter_13 : decode cX7_enter 13 = .ok (.getfield 37, 3) := by decide +kernel
theorem dX7_enter_16 : decode cX7_enter 16 = .ok (.invokevirtual 107, 3) := by decide +kernel
theorem dX7_enter_19 : decode cX7_enter 19 = .ok (.bipush 60, 2) := by decide +kernel
theorem dX7_enter_21 : decode cX7_enter 21 = .ok (.if_icmp .lt 13, 3) := by decide +kernel
theorem dX7_enter_24 : decode cX7_enter 24 = .ok (.new 75, 3) := by decide +kernel
theorem dX7_enter_27 : decode cX7_enter 27 = .ok (.dup, 1) := by decide +kernel
theorem dX7_enter_28 : decode cX7_enter 28 = .ok (.ldc 189, 2) := by decide +kernel
theorem dX7_enter_30 : decode cX7_enter 30 = .ok (.invokespecial 79, 3) := by decide +kernel
theorem dX7_enter_33 : decode cX7_enter 33 = .ok (.athrow, 1) := by decide +kernel
theorem dX7_enter_34 : decode cX7_enter 34 = .ok (.new 191, 3) := by decide +kernel
theorem dX7_enter_37 : decode cX7_enter 37 = .ok (.dup, 1) := by decide +kernel
theorem dX7_enter_38 : decode cX7_enter 38 = .ok (.iload_n 1, 1) := by decide +kernel
theorem dX7_enter_39 : decode cX7_enter 39 = .ok (.aload_n 3, 1) := by decide +kernel
theorem dX7_enter_40 : decode cX7_enter 40 = .ok (.aload_n 0, 1) := by decide +kernel
theorem dX7_enter_41 : decode cX7_enter 41 = .ok (.getfield 61, 3) := by decide +kernel
theorem dX7_enter_44 : decode cX7_enter 44 = .ok (.invokespecial 193, 3) := by decide +kernel
theorem dX7_enter_47 : decode cX7_enter 47 = .ok (.astore 4, 2) := by decide +kernel
theorem dX7_enter_49 : decode cX7_enter 49 = .ok (.aload 4, 2) := by decide +kernel
theorem dX7_enter_51 : decode cX7_enter 51 = .ok (.getfield 196, 3) := by decide +kernel
theorem dX7_enter_54 : decode cX7_enter 54 = .ok (.aload_n 0, 1) := by decide +kernel
theorem dX7_enter_55 : decode cX7_enter 55 = .ok (.getfield 10, 3) := by decide +kernel
theorem dX7_enter_58 : decode cX7_enter 58 = .ok (.invokevirtual 120, 3) := by decide +kernel
theorem dX7_enter_61 : decode cX7_enter 61 = .ok (.aload_n 0, 1) := by decide +kernel
theorem dX7_enter_62 : decode cX7_enter 62 = .ok (.getfield 37, 3) := by decide +kernel
theorem dX7_enter_65 : decode cX7_enter 65 = .ok (.aload 4, 2) := by decide +kernel
theorem dX7_enter_67 : decode cX7_enter 67 = .ok (.invokevirtual 124, 3) := by decide +kernel
theorem dX7_enter_70 : decode cX7_enter 70 = .ok (.pop, 1) := by decide +kernel
theorem dX7_enter_71 : decode cX7_enter 71 = .ok (.aload_n 0, 1) := by decide +kernel
theorem dX7_enter_72 : decode cX7_enter 72 = .ok (.getfield 37, 3) := by decide +kernel
theorem dX7_enter_75 : decode cX7_enter 75 = .ok (.invokevirtual 107, 3) := by decide +kernel
theorem dX7_enter_78 : decode cX7_enter 78 = .ok (.iconst 1, 1) := by decide +kernel
theorem dX7_enter_79 : decode cX7_enter 79 = .ok (.isub, 1) := by decide +kernel
theorem dX7_enter_80 : decode cX7_enter 80 = .ok (.ireturn, 1) := by decide +kernel
theorem dX7_pass_0 : decode cX7_pass 0 = .ok (.iload_n 1, 1) := by decide +kernel
theorem dX7_pass_1 : decode cX7_pass 1 = .ok (.iconst 1, 1) := by decide +kernel
theorem dX7_pass_2 : decode cX7_pass 2 = .ok (.sipush 300, 3) := by decide +kernel
theorem dX7_pass_5 : decode cX7_pass 5 = .ok (.invokestatic 68, 3) := by decide +kernel
theorem dX7_pass_8 : decode cX7_pass 8 = .ok (.aload_n 0, 1) := by decide +kernel
theorem dX7_pass_9 : decode cX7_pass 9 = .ok (.getfield 61, 3) := by decide +kernel
theorem dX7_pass_12 : decode cX7_pass 12 = .ok (.iload_n 1, 1) := by decide +kernel
theorem dX7_pass_13 : decode cX7_pass 13 = .ok (.iadd, 1) := by decide +kernel
theorem dX7_pass_14 : decode cX7_pass 14 = .ok (.sipush 9999, 3) := by decide +kernel
theorem dX7_pass_17 : decode cX7_pass 17 = .ok (.if_icmp .le 13, 3) := by decide +kernel
theorem dX7_pass_20 : decode cX7_pass 20 = .ok (.new 75, 3) := by decide +kernel
theorem dX7_pass_23 : decode cX7_pass 23 = .ok (.dup, 1) := by decide +kernel
theorem dX7_pass_24 : decode cX7_pass 24 = .ok (.ldc 199, 2) := by decide +kernel
theorem dX7_pass_26 : decode cX7_pass 26 = .ok (.invokespecial 79, 3) := by decide +kernel
theorem dX7_pass_29 : decode cX7_pass 29 = .ok (.athrow, 1) := by decide +kernel
theorem dX7_pass_30 : decode cX7_pass 30 = .ok (.aload_n 0, 1) := by decide +kernel
theorem dX7_pass_31 : decode cX7_pass 31 = .ok (.dup, 1) := by decide +kernel
theorem dX7_pass_32 : decode cX7_pass 32 = .ok (.getfield 61, 3) := by decide +kernel
theorem dX7_pass_35 : decode cX7_pass 35 = .ok (.iload_n 1, 1) := by decide +kernel
theorem dX7_pass_36 : decode cX7_pass 36 = .ok (.iadd, 1) := by decide +kernel
theorem dX7_pass_37 : decode cX7_pass 37 = .ok (.putfield 61, 3) := by decide +kernel
theorem dX7_pass_40 : decode cX7_pass 40 = .ok (.aload_n 0, 1) := by decide +kernel
theorem dX7_pass_41 : decode cX7_pass 41 = .ok (.getfield 61, 3) := by decide +kernel
theorem dX7_pass_44 : decode cX7_pass 44 = .ok (.ireturn, 1) := by decide +kernel
theorem dX7_judge_0 : decode cX7_judge 0 = .ok (.iconst (-1), 1) := by decide +kernel
theorem dX7_judge_1 : decode cX7_judge 1 = .ok (.istore_n 1, 1) := by decide +kernel
theorem dX7_judge_2 : decode cX7_judge 2 = .ok (.iconst 0, 1) := by decide +kernel
theorem dX7_judge_3 : decode cX7_judge 3 = .ok (.istore_n 2, 1) := by decide +kernel
theorem dX7_judge_4 : decode cX7_judge 4 = .ok (.iconst 0, 1) := by decide +kernel
theorem dX7_judge_5 : decode cX7_judge 5 = .ok (.istore_n 3, 1) := by decide +kernel
theorem dX7_judge_6 : decode cX7_judge 6 = .ok (.iload_n 3, 1) := by decide +kernel
theorem dX7_judge_7 : decode cX7_judge 7 = .ok (.aload_n 0, 1) := by decide +kernel
theorem dX7_judge_8 : decode cX7_judge 8 = .ok (.getfield 37, 3) := by decide +kernel
theorem dX7_judge_11 : decode cX7_judge 11 = .ok (.invokevirtual 107, 3) := by decide +kernel
theorem dX7_judge_14 : decode cX7_judge 14 = .ok (.if_icmp .ge 62, 3) := by decide +kernel
theorem dX7_judge_17 : decode cX7_judge 17 = .ok (.aload_n 0, 1) := by decide +kernel
theorem dX7_judge_18 : decode cX7_judge 18 = .ok (.getfield 37, 3) := by decide +kernel
theorem dX7_judge_21 : decode cX7_judge 21 = .ok (.iload_n 3, 1) := by decide +kernel
theorem dX7_judge_22 : decode cX7_judge 22 = .ok (.invokevirtual 182, 3) := by decide +kernel
theorem dX7_judge_25 : decode cX7_judge 25 = .ok (.checkcast 191, 3) := by decide +kernel
theorem dX7_judge_28 : decode cX7_judge 28 = .ok (.astore 4, 2) := by decide +kernel
theorem dX7_judge_30 : decode cX7_judge 30 = .ok (.aload 4, 2) := by decide +kernel
theorem dX7_judge_32 : decode cX7_judge 32 = .ok (.invokevirtual 201, 3) := by decide +kernel
theorem dX7_judge_35 : decode cX7_judge 35 = .ok (.ifCond .eq 35, 3) := by decide +kernel
theorem dX7_judge_38 : decode cX7_judge 38 = .ok (.iload_n 1, 1) := by decide +kernel
theorem dX7_judge_39 : decode cX7_judge 39 = .ok (.iconst (-1), 1) := by decide +kernel
theorem dX7_judge_40 : decode cX7_judge 40 = .ok (.if_icmp .eq 17, 3) := by decide +kernel
theorem dX7_judge_43 : decode cX7_judge 43 = .ok (.aload_n 0, 1) := by decide +kernel
theorem dX7_judge_44 : decode cX7_judge 44 = .ok (.getfield 47, 3) := by decide +kernel
theorem dX7_judge_47 : decode cX7_judge 47 = .ok (.aload 4, 2) := by decide +kernel
theorem dX7_judge_49 : decode cX7_judge 49 = .ok (.getfield 205, 3) := by decide +kernel
theorem dX7_judge_52 : decode cX7_judge 52 = .ok (.iaload, 1) := by decide +kernel
theorem dX7_judge_53 : decode cX7_judge 53 = .ok (.iload_n 2, 1) := by decide +kernel
theorem dX7_judge_54 : decode cX7_judge 54 = .ok (.if_icmp .ge 16, 3) := by decide +kernel
theorem dX7_judge_57 : decode cX7_judge 57 = .ok (.iload_n 3, 1) := by decide +kernel
theorem dX7_judge_58 : decode cX7_judge 58 = .ok (.istore_n 1, 1) := by decide +kernel
theorem dX7_judge_59 : decode cX7_judge 59 = .ok (.aload_n 0, 1) := by decide +kernel
theorem dX7_judge_60 : decode cX7_judge 60 = .ok (.getfield 47, 3) := by decide +kernel
theorem dX7_judge_63 : decode cX7_judge 63 = .ok (.aload 4, 2) := by decide +kernel
theorem dX7_judge_65 : decode cX7_judge 65 = .ok (.getfield 205, 3) := by decide +kernel
theorem dX7_judge_68 : decode cX7_judge 68 = .ok (.iaload, 1) := by decide +kernel
theorem dX7_judge_69 : decode cX7_judge 69 = .ok (.istore_n 2, 1) := by decide +kernel
theorem dX7_judge_70 : decode cX7_judge 70 = .ok (.iinc 3 1, 3) := by decide +kernel
theorem dX7_judge_73 : decode cX7_judge 73 = .ok (.goto (-67), 3) := by decide +kernel
theorem dX7_judge_76 : decode cX7_judge 76 = .ok (.iload_n 1, 1) := by decide +kernel
theorem dX7_judge_77 : decode cX7_judge 77 = .ok (.iconst (-1), 1) := by decide +kernel
theorem dX7_judge_78 : decode cX7_judge 78 = .ok (.if_icmp .eq 18, 3) := by decide +kernel
theorem dX7_judge_81 : decode cX7_judge 81 = .ok (.aload_n 0, 1) := by decide +kernel
theorem dX7_judge_82 : decode cX7_judge 82 = .ok (.aload_n 0, 1) := by decide +kernel
theorem dX7_judge_83 : decode cX7_judge 83 = .ok (.getfield 37, 3) := by decide +kernel
theorem dX7_judge_86 : decode cX7_judge 86 = .ok (.iload_n 1, 1) := by decide +kernel
theorem dX7_judge_87 : decode cX7_judge 87 = .ok (.invokevirtual 182, 3) := by decide +kernel
theorem dX7_judge_90 : decode cX7_judge 90 = .ok (.checkcast 191, 3) := by decide +kernel
theorem dX7_judge_93 : decode cX7_judge 93 = .ok (.invokevirtual 208, 3) := by decide +kernel
theorem dX7_judge_96 : decode cX7_judge 96 = .ok (.iload_n 1, 1) := by decide +kernel
theorem dX7_judge_97 : decode cX7_judge 97 = .ok (.ireturn, 1) := by decide +kernel
theorem dX7_rejudge_0 : decode cX7_rejudge 0 = .ok (.aload_n 0, 1) := by decide +kernel
theorem dX7_rejudge_1 : decode cX7_rejudge 1 = .ok (.iload_n 1, 1) := by decide +kernel
theorem dX7_rejudge_2 : decode cX7_rejudge 2 = .ok (.invokevirtual 131, 3) := by decide +kernel
theorem dX7_rejudge_5 : decode cX7_rejudge 5 = .ok (.astore_n 2, 1) := by decide +kernel
theorem dX7_rejudge_6 : decode cX7_rejudge 6 = .ok (.iconst 0, 1) := by decide +kernel
theorem dX7_rejudge_7 : decode cX7_rejudge 7 = .ok (.istore_n 3, 1) := by decide +kernel
theorem dX7_rejudge_8 : decode cX7_rejudge 8 = .ok (.iconst 0, 1) := by decide +kernel
theorem dX7_rejudge_9 : decode cX7_rejudge 9 = .ok (.istore 4, 2) := by decide +kernel
theorem dX7_rejudge_11 : decode cX7_rejudge 11 = .ok (.iload 4, 2) := by decide +kernel
theorem dX7_rejudge_13 : decode cX7_rejudge 13 = .ok (.aload_n 0, 1) := by decide +kernel
theorem dX7_rejudge_14 : decode cX7_rejudge 14 = .ok (.getfield 37, 3) := by decide +kernel
theorem dX7_rejudge_17 : decode cX7_rejudge 17 = .ok (.invokevirtual 107, 3) := by decide +kernel
theorem dX7_rejudge_20 : decode cX7_rejudge 20 = .ok (.if_icmp .ge 66, 3) := by decide +kernel
theorem dX7_rejudge_23 : decode cX7_rejudge 23 = .ok (.aload_n 0, 1) := by decide +kernel
theorem dX7_rejudge_24 : decode cX7_rejudge 24 = .ok (.getfield 37, 3) := by decide +kernel
theorem dX7_rejudge_27 : decode cX7_rejudge 27 = .ok (.iload 4, 2) := by decide +kernel
theorem dX7_rejudge_29 : decode cX7_rejudge 29 = .ok (.invokevirtual 182, 3) := by decide +kernel
theorem dX7_rejudge_32 : decode cX7_rejudge 32 = .ok (.checkcast 191, 3) := by decide +kernel
theorem dX7_rejudge_35 : decode cX7_rejudge 35 = .ok (.astore 5, 2) := by decide +kernel
theorem dX7_rejudge_37 : decode cX7_rejudge 37 = .ok (.aload 5, 2) := by decide +kernel
theorem dX7_rejudge_39 : decode cX7_rejudge 39 = .ok (.getfield 212, 3) := by decide +kernel
theorem dX7_rejudge_42 : decode cX7_rejudge 42 = .ok (.getfield 128, 3) := by decide +kernel
theorem dX7_rejudge_45 : decode cX7_rejudge 45 = .ok (.aload_n 2, 1) := by decide +kernel
theorem dX7_rejudge_46 : decode cX7_rejudge 46 = .ok (.getfield 128, 3) := by decide +kernel
theorem dX7_rejudge_49 : decode cX7_rejudge 49 = .ok (.if_icmp .ne 31, 3) := by decide +kernel
theorem dX7_rejudge_52 : decode cX7_rejudge 52 = .ok (.aload 5, 2) := by decide +kernel
theorem dX7_rejudge_54 : decode cX7_rejudge 54 = .ok (.invokevirtual 201, 3) := by decide +kernel
theorem dX7_rejudge_57 : decode cX7_rejudge 57 = .ok (.ifCond .ne 23, 3) := by decide +kernel
theorem dX7_rejudge_60 : decode cX7_rejudge 60 = .ok (.aload 5, 2) := by decide +kernel
theorem dX7_rejudge_62 : decode cX7_rejudge 62 = .ok (.getfield 216, 3) := by decide +kernel
theorem dX7_rejudge_65 : decode cX7_rejudge 65 = .ok (.aload_n 2, 1) := by decide +kernel
theorem dX7_rejudge_66 : decode cX7_rejudge 66 = .ok (.getfield 174, 3) := by decide +kernel
theorem dX7_rejudge_69 : decode cX7_rejudge 69 = .ok (.if_icmp .eq 11, 3) := by decide +kernel
theorem dX7_rejudge_72 : decode cX7_rejudge 72 = .ok (.aload 5, 2) := by decide +kernel
theorem dX7_rejudge_74 : decode cX7_rejudge 74 = .ok (.invokevirtual 217, 3) := by decide +kernel
theorem dX7_rejudge_77 : decode cX7_rejudge 77 = .ok (.iinc 3 1, 3) := by decide +kernel
theorem dX7_rejudge_80 : decode cX7_rejudge 80 = .ok (.iinc 4 1, 3) := by decide +kernel
theorem dX7_rejudge_83 : decode cX7_rejudge 83 = .ok (.goto (-72), 3) := by decide +kernel
theorem dX7_rejudge_86 : decode cX7_rejudge 86 = .ok (.iload_n 3, 1) := by decide +kernel
theorem dX7_rejudge_87 : decode cX7_rejudge 87 = .ok (.ireturn, 1) := by decide +kernel
theorem dX7_entry_0 : decode cX7_entry 0 = .ok (.aload_n 0, 1) := by decide +kernel
theorem dX7_entry_1 : decode cX7_entry 1 = .ok (.iload_n 1, 1) := by decide +kernel
theorem dX7_entry_2 : decode cX7_entry 2 = .ok (.invokevirtual 220, 3) := by decide +kernel
theorem dX7_entry_5 : decode cX7_entry 5 = .ok (.astore_n 3, 1) := by decide +kernel
theorem dX7_entry_6 : decode cX7_entry 6 = .ok (.iload_n 2, 1) := by decide +kernel
theorem dX7_entry_7 : decode cX7_entry 7 = .ok (.iconst 0, 1) := by decide +kernel
theorem dX7_entry_8 : decode cX7_entry 8 = .ok (.bipush 6, 2) := by decide +kernel
theorem dX7_entry_10 : decode cX7_entry 10 = .ok (.invokestatic 68, 3) := by decide +kernel
theorem dX7_entry_13 : decode cX7_entry 13 = .ok (.iload_n 2, 1) := by decide +kernel
theorem dX7_entry_14 : decode cX7_entry 14 = .ok (.tableswitch 71 0 5 #[38, 43, 48, 53, 58, 63], 38) := by decide +kernel
theorem dX7_entry_52 : decode cX7_entry 52 = .ok (.aload_n 3, 1) := by decide +kernel
theorem dX7_entry_53 : decode cX7_entry 53 = .ok (.getfield 224, 3) := by decide +kernel
theorem dX7_entry_56 : decode cX7_entry 56 = .ok (.ireturn, 1) := by decide +kernel
theorem dX7_entry_57 : decode cX7_entry 57 = .ok (.aload_n 3, 1) := by decide +kernel
theorem dX7_entry_58 : decode cX7_entry 58 = .ok (.getfield 227, 3) := by decide +kernel
theorem dX7_entry_61 : decode cX7_entry 61 = .ok (.ireturn, 1) := by decide +kernel
theorem dX7_entry_62 : decode cX7_entry 62 = .ok (.aload_n 3, 1) := by decide +kernel
theorem dX7_entry_63 : decode cX7_entry 63 = .ok (.getfield 230, 3) := by decide +kernel
theorem dX7_entry_66 : decode cX7_entry 66 = .ok (.ireturn, 1) := by decide +kernel
theorem dX7_entry_67 : decode cX7_entry 67 = .ok (.aload_n 3, 1) := by decide +kernel
theorem dX7_entry_68 : decode cX7_entry 68 = .ok (.getfield 216, 3) := by decide +kernel
theorem dX7_entry_71 : decode cX7_entry 71 = .ok (.ireturn, 1) := by decide +kernel
theorem dX7_entry_72 : decode cX7_entry 72 = .ok (.aload_n 3, 1) := by decide +kernel
theorem dX7_entry_73 : decode cX7_entry 73 = .ok (.getfield 205, 3) := by decide +kernel
theorem dX7_entry_76 : decode cX7_entry 76 = .ok (.ireturn, 1) := by decide +kernel
theorem dX7_entry_77 : decode cX7_entry 77 = .ok (.aload_n 3, 1) := by decide +kernel
theorem dX7_entry_78 : decode cX7_entry 78 = .ok (.getfield 212, 3) := by decide +kernel
theorem dX7_entry_81 : decode cX7_entry 81 = .ok (.getfield 128, 3) := by decide +kernel
theorem dX7_entry_84 : decode cX7_entry 84 = .ok (.ireturn, 1) := by decide +kernel
theorem dX7_entry_85 : decode cX7_entry 85 = .ok (.aload_n 3, 1) := by decide +kernel
theorem dX7_entry_86 : decode cX7_entry 86 = .ok (.getfield 233, 3) := by decide +kernel
theorem dX7_entry_89 : decode cX7_entry 89 = .ok (.ireturn, 1) := by decide +kernel
theorem dX7_likeness_0 : decode cX7_likeness 0 = .ok (.aload_n 0, 1) := by decide +kernel
theorem dX7_likeness_1 : decode cX7_likeness 1 = .ok (.iload_n 1, 1) := by decide +kernel
theorem dX7_likeness_2 : decode cX7_likeness 2 = .ok (.invokevirtual 220, 3) := by decide +kernel
theorem dX7_likeness_5 : decode cX7_likeness 5 = .ok (.getfield 196, 3) := by decide +kernel
theorem dX7_likeness_8 : decode cX7_likeness 8 = .ok (.astore_n 3, 1) := by decide +kernel
theorem dX7_likeness_9 : decode cX7_likeness 9 = .ok (.aload_n 0, 1) := by decide +kernel
theorem dX7_likeness_10 : decode cX7_likeness 10 = .ok (.iload_n 2, 1) := by decide +kernel
theorem dX7_likeness_11 : decode cX7_likeness 11 = .ok (.invokevirtual 220, 3) := by decide +kernel
theorem dX7_likeness_14 : decode cX7_likeness 14 = .ok (.getfield 196, 3) := by decide +kernel
theorem dX7_likeness_17 : decode cX7_likeness 17 = .ok (.astore 4, 2) := by decide +kernel
theorem dX7_likeness_19 : decode cX7_likeness 19 = .ok (.aload_n 3, 1) := by decide +kernel
theorem dX7_likeness_20 : decode cX7_likeness 20 = .ok (.getfield 72, 3) := by decide +kernel
theorem dX7_likeness_23 : decode cX7_likeness 23 = .ok (.aload 4, 2) := by decide +kernel
theorem dX7_likeness_25 : decode cX7_likeness 25 = .ok (.getfield 72, 3) := by decide +kernel
theorem dX7_likeness_28 : decode cX7_likeness 28 = .ok (.invokestatic 234, 3) := by decide +kernel
theorem dX7_likeness_31 : decode cX7_likeness 31 = .ok (.istore 5, 2) := by decide +kernel
theorem dX7_likeness_33 : decode cX7_likeness 33 = .ok (.iload 5, 2) := by decide +kernel
theorem dX7_likeness_35 : decode cX7_likeness 35 = .ok (.ifCond .gt 6, 3) := by decide +kernel
theorem dX7_likeness_38 : decode cX7_likeness 38 = .ok (.bipush 100, 2) := by decide +kernel
theorem dX7_likeness_40 : decode cX7_likeness 40 = .ok (.ireturn, 1) := by decide +kernel
theorem dX7_likeness_41 : decode cX7_likeness 41 = .ok (.bipush 100, 2) := by decide +kernel
theorem dX7_likeness_43 : decode cX7_likeness 43 = .ok (.aload_n 0, 1) := by decide +kernel
theorem dX7_likeness_44 : decode cX7_likeness 44 = .ok (.aload_n 3, 1) := by decide +kernel
theorem dX7_likeness_45 : decode cX7_likeness 45 = .ok (.aload 4, 2) := by decide +kernel
theorem dX7_likeness_47 : decode cX7_likeness 47 = .ok (.invokevirtual 240, 3) := by decide +kernel
theorem dX7_likeness_50 : decode cX7_likeness 50 = .ok (.imul, 1) := by decide +kernel
theorem dX7_likeness_51 : decode cX7_likeness 51 = .ok (.iload 5, 2) := by decide +kernel
theorem dX7_likeness_53 : decode cX7_likeness 53 = .ok (.idiv, 1) := by decide +kernel
theorem dX7_likeness_54 : decode cX7_likeness 54 = .ok (.ireturn, 1) := by decide +kernel
theorem dX7_freeze_0 : decode cX7_freeze 0 = .ok (.iload_n 1, 1) := by decide +kernel
theorem dX7_freeze_1 : decode cX7_freeze 1 = .ok (.iconst (-1), 1) := by decide +kernel
theorem dX7_freeze_2 : decode cX7_freeze 2 = .ok (.sipush 9999, 3) := by decide +kernel
theorem dX7_freeze_5 : decode cX7_freeze 5 = .ok (.invokestatic 68, 3) := by decide +kernel
theorem dX7_freeze_8 : decode cX7_freeze 8 = .ok (.aload_n 0, 1) := by decide +kernel
theorem dX7_freeze_9 : decode cX7_freeze 9 = .ok (.iload_n 1, 1) := by decide +kernel
theorem dX7_freeze_10 : decode cX7_freeze 10 = .ok (.putfield 65, 3) := by decide +kernel
theorem dX7_freeze_13 : decode cX7_freeze 13 = .ok (.iconst 0, 1) := by decide +kernel
theorem dX7_freeze_14 : decode cX7_freeze 14 = .ok (.istore_n 2, 1) := by decide +kernel
theorem dX7_freeze_15 : decode cX7_freeze 15 = .ok (.iload_n 2, 1) := by decide +kernel
theorem dX7_freeze_16 : decode cX7_freeze 16 = .ok (.aload_n 0, 1) := by decide +kernel
theorem dX7_freeze_17 : decode cX7_freeze 17 = .ok (.getfield 54, 3) := by decide +kernel
theorem dX7_freeze_20 : decode cX7_freeze 20 = .ok (.arraylength, 1) := by decide +kernel
theorem dX7_freeze_21 : decode cX7_freeze 21 = .ok (.if_icmp .ge 16, 3) := by decide +kernel
theorem dX7_freeze_24 : decode cX7_freeze 24 = .ok (.aload_n 0, 1) := by decide +kernel
theorem dX7_freeze_25 : decode cX7_freeze 25 = .ok (.getfield 54, 3) := by decide +kernel
theorem dX7_freeze_28 : decode cX7_freeze 28 = .ok (.iload_n 2, 1) := by decide +kernel
theorem dX7_freeze_29 : decode cX7_freeze 29 = .ok (.iconst 0, 1) := by decide +kernel
theorem dX7_freeze_30 : decode cX7_freeze 30 = .ok (.bastore, 1) := by decide +kernel
theorem dX7_freeze_31 : decode cX7_freeze 31 = .ok (.iinc 2 1, 3) := by decide +kernel
theorem dX7_freeze_34 : decode cX7_freeze 34 = .ok (.goto (-19), 3) := by decide +kernel
theorem dX7_freeze_37 : decode cX7_freeze 37 = .ok (.return_, 1) := by decide +kernel
theorem dX7_reveal_0 : decode cX7_reveal 0 = .ok (.aload_n 0, 1) := by decide +kernel
theorem dX7_reveal_1 : decode cX7_reveal 1 = .ok (.getfield 65, 3) := by decide +kernel
theorem dX7_reveal_4 : decode cX7_reveal 4 = .ok (.iconst (-1), 1) := by decide +kernel
theorem dX7_reveal_5 : decode cX7_reveal 5 = .ok (.if_icmp .ne 5, 3) := by decide +kernel
theorem dX7_reveal_8 : decode cX7_reveal 8 = .ok (.iconst (-1), 1) := by decide +kernel
theorem dX7_reveal_9 : decode cX7_reveal 9 = .ok (.ireturn, 1) := by decide +kernel
theorem dX7_reveal_10 : decode cX7_reveal 10 = .ok (.aload_n 0, 1) := by decide +kernel
theorem dX7_reveal_11 : decode cX7_reveal 11 = .ok (.iconst 1, 1) := by decide +kernel
theorem dX7_reveal_12 : decode cX7_reveal 12 = .ok (.invokevirtual 244, 3) := by decide +kernel
theorem dX7_reveal_15 : decode cX7_reveal 15 = .ok (.iconst (-1), 1) := by decide +kernel
theorem dX7_reveal_16 : decode cX7_reveal 16 = .ok (.istore_n 1, 1) := by decide +kernel
theorem dX7_reveal_17 : decode cX7_reveal 17 = .ok (.iconst 0, 1) := by decide +kernel
theorem dX7_reveal_18 : decode cX7_reveal 18 = .ok (.istore_n 2, 1) := by decide +kernel
theorem dX7_reveal_19 : decode cX7_reveal 19 = .ok (.iload_n 2, 1) := by decide +kernel
theorem dX7_reveal_20 : decode cX7_reveal 20 = .ok (.bipush 8, 2) := by decide +kernel
theorem dX7_reveal_22 : decode cX7_reveal 22 = .ok (.if_icmp .ge 37, 3) := by decide +kernel
theorem dX7_reveal_25 : decode cX7_reveal 25 = .ok (.aload_n 0, 1) := by decide +kernel
theorem dX7_reveal_26 : decode cX7_reveal 26 = .ok (.iload_n 2, 1) := by decide +kernel
theorem dX7_reveal_27 : decode cX7_reveal 27 = .ok (.invokevirtual 248, 3) := by decide +kernel
theorem dX7_reveal_30 : decode cX7_reveal 30 = .ok (.iconst (-1), 1) := by decide +kernel
theorem dX7_reveal_31 : decode cX7_reveal 31 = .ok (.if_icmp .eq 22, 3) := by decide +kernel
theorem dX7_reveal_34 : decode cX7_reveal 34 = .ok (.iload_n 1, 1) := by decide +kernel
theorem dX7_reveal_35 : decode cX7_reveal 35 = .ok (.iconst (-1), 1) := by decide +kernel
theorem dX7_reveal_36 : decode cX7_reveal 36 = .ok (.if_icmp .eq 15, 3) := by decide +kernel
theorem dX7_reveal_39 : decode cX7_reveal 39 = .ok (.aload_n 0, 1) := by decide +kernel
theorem dX7_reveal_40 : decode cX7_reveal 40 = .ok (.getfield 43, 3) := by decide +kernel
theorem dX7_reveal_43 : decode cX7_reveal 43 = .ok (.iload_n 1, 1) := by decide +kernel
theorem dX7_reveal_44 : decode cX7_reveal 44 = .ok (.iload_n 2, 1) := by decide +kernel
theorem dX7_reveal_45 : decode cX7_reveal 45 = .ok (.invokevirtual 251, 3) := by decide +kernel
theorem dX7_reveal_48 : decode cX7_reveal 48 = .ok (.ifCond .eq 5, 3) := by decide +kernel
theorem dX7_reveal_51 : decode cX7_reveal 51 = .ok (.iload_n 2, 1) := by decide +kernel
theorem dX7_reveal_52 : decode cX7_reveal 52 = .ok (.istore_n 1, 1) := by decide +kernel
theorem dX7_reveal_53 : decode cX7_reveal 53 = .ok (.iinc 2 1, 3) := by decide +kernel
theorem dX7_reveal_56 : decode cX7_reveal 56 = .ok (.goto (-37), 3) := by decide +kernel
theorem dX7_reveal_59 : decode cX7_reveal 59 = .ok (.iload_n 1, 1) := by decide +kernel
theorem dX7_reveal_60 : decode cX7_reveal 60 = .ok (.iconst (-1), 1) := by decide +kernel
theorem dX7_reveal_61 : decode cX7_reveal 61 = .ok (.if_icmp .ne 5, 3) := by decide +kernel
theorem dX7_reveal_64 : decode cX7_reveal 64 = .ok (.iconst (-1), 1) := by decide +kernel
theorem dX7_reveal_65 : decode cX7_reveal 65 = .ok (.ireturn, 1) := by decide +kernel
theorem dX7_reveal_66 : decode cX7_reveal 66 = .ok (.aload_n 0, 1) := by decide +kernel
theorem dX7_reveal_67 : decode cX7_reveal 67 = .ok (.iload_n 1, 1) := by decide +kernel
theorem dX7_reveal_68 : decode cX7_reveal 68 = .ok (.invokevirtual 248, 3) := by decide +kernel
theorem dX7_reveal_71 : decode cX7_reveal 71 = .ok (.istore_n 2, 1) := by decide +kernel
theorem dX7_reveal_72 : decode cX7_reveal 72 = .ok (.aload_n 0, 1) := by decide +kernel
theorem dX7_reveal_73 : decode cX7_reveal 73 = .ok (.getfield 54, 3) := by decide +kernel
theorem dX7_reveal_76 : decode cX7_reveal 76 = .ok (.iload_n 1, 1) := by decide +kernel
theorem dX7_reveal_77 : decode cX7_reveal 77 = .ok (.iload_n 2, 1) := by decide +kernel
theorem dX7_reveal_78 : decode cX7_reveal 78 = .ok (.invokestatic 255, 3) := by decide +kernel
theorem dX7_reveal_81 : decode cX7_reveal 81 = .ok (.iconst 1, 1) := by decide +kernel
theorem dX7_reveal_82 : decode cX7_reveal 82 = .ok (.bastore, 1) := by decide +kernel
theorem dX7_reveal_83 : decode cX7_reveal 83 = .ok (.bipush 10, 2) := by decide +kernel
theorem dX7_reveal_85 : decode cX7_reveal 85 = .ok (.iload_n 1, 1) := by decide +kernel
theorem dX7_reveal_86 : decode cX7_reveal 86 = .ok (.imul, 1) := by decide +kernel
theorem dX7_reveal_87 : decode cX7_reveal 87 = .ok (.iload_n 2, 1) := by decide +kernel
theorem dX7_reveal_88 : decode cX7_reveal 88 = .ok (.iadd, 1) := by decide +kernel
theorem dX7_reveal_89 : decode cX7_reveal 89 = .ok (.ireturn, 1) := by decide +kernel
theorem dX7_board_0 : decode cX7_board 0 = .ok (.iload_n 1, 1) := by decide +kernel
theorem dX7_board_1 : decode cX7_board 1 = .ok (.bipush 8, 2) := by decide +kernel
theorem dX7_board_3 : decode cX7_board 3 = .ok (.invokestatic 135, 3) := by decide +kernel
theorem dX7_board_6 : decode cX7_board 6 = .ok (.iload_n 3, 1) := by decide +kernel
theorem dX7_board_7 : decode cX7_board 7 = .ok (.iconst 0, 1) := by decide +kernel
theorem dX7_board_8 : decode cX7_board 8 = .ok (.iconst 4, 1) := by decide +kernel
theorem dX7_board_9 : decode cX7_board 9 = .ok (.invokestatic 68, 3) := by decide +kernel
theorem dX7_board_12 : decode cX7_board 12 = .ok (.iload_n 3, 1) := by decide +kernel
theorem dX7_board_13 : decode cX7_board 13 = .ok (.iconst 4, 1) := by decide +kernel
theorem dX7_board_14 : decode cX7_board 14 = .ok (.if_icmp .ne 10, 3) := by decide +kernel
theorem dX7_board_17 : decode cX7_board 17 = .ok (.aload_n 0, 1) := by decide +kernel
theorem dX7_board_18 : decode cX7_board 18 = .ok (.getfield 51, 3) := by decide +kernel
theorem dX7_board_21 : decode cX7_board 21 = .ok (.iload_n 1, 1) := by decide +kernel
theorem dX7_board_22 : decode cX7_board 22 = .ok (.iaload, 1) := by decide +kernel
theorem dX7_board_23 : decode cX7_board 23 = .ok (.ireturn, 1) := by decide +kernel
theorem dX7_board_24 : decode cX7_board 24 = .ok (.aload_n 0, 1) := by decide +kernel
theorem dX7_board_25 : decode cX7_board 25 = .ok (.iload_n 2, 1) := by decide +kernel
theorem dX7_board_26 : decode cX7_board 26 = .ok (.invokevirtual 244, 3) := by decide +kernel
theorem dX7_board_29 : decode cX7_board 29 = .ok (.iload_n 3, 1) := by decide +kernel
theorem dX7_board_30 : decode cX7_board 30 = .ok (.tableswitch 55 0 2 #[26, 35, 45], 26) := by decide +kernel
theorem dX7_board_56 : decode cX7_board 56 = .ok (.aload_n 0, 1) := by decide +kernel
theorem dX7_board_57 : decode cX7_board 57 = .ok (.getfield 43, 3) := by decide +kernel
theorem dX7_board_60 : decode cX7_board 60 = .ok (.iload_n 1, 1) := by decide +kernel
theorem dX7_board_61 : decode cX7_board 61 = .ok (.invokevirtual 258, 3) := by decide +kernel
theorem dX7_board_64 : decode cX7_board 64 = .ok (.ireturn, 1) := by decide +kernel
theorem dX7_board_65 : decode cX7_board 65 = .ok (.aload_n 0, 1) := by decide +kernel
theorem dX7_board_66 : decode cX7_board 66 = .ok (.getfield 43, 3) := by decide +kernel
theorem dX7_board_69 : decode cX7_board 69 = .ok (.getfield 261, 3) := by decide +kernel
theorem dX7_board_72 : decode cX7_board 72 = .ok (.iload_n 1, 1) := by decide +kernel
theorem dX7_board_73 : decode cX7_board 73 = .ok (.iaload, 1) := by decide +kernel
theorem dX7_board_74 : decode cX7_board 74 = .ok (.ireturn, 1) := by decide +kernel
theorem dX7_board_75 : decode cX7_board 75 = .ok (.aload_n 0, 1) := by decide +kernel
theorem dX7_board_76 : decode cX7_board 76 = .ok (.getfield 43, 3) := by decide +kernel
theorem dX7_board_79 : decode cX7_board 79 = .ok (.getfield 264, 3) := by decide +kernel
theorem dX7_board_82 : decode cX7_board 82 = .ok (.iload_n 1, 1) := by decide +kernel
theorem dX7_board_83 : decode cX7_board 83 = .ok (.iaload, 1) := by decide +kernel
theorem dX7_board_84 : decode cX7_board 84 = .ok (.ireturn, 1) := by decide +kernel
theorem dX7_board_85 : decode cX7_board 85 = .ok (.aload_n 0, 1) := by decide +kernel
theorem dX7_board_86 : decode cX7_board 86 = .ok (.getfield 43, 3) := by decide +kernel
theorem dX7_board_89 : decode cX7_board 89 = .ok (.getfield 267, 3) := by decide +kernel
theorem dX7_board_92 : decode cX7_board 92 = .ok (.iload_n 1, 1) := by decide +kernel
theorem dX7_board_93 : decode cX7_board 93 = .ok (.iaload, 1) := by decide +kernel
theorem dX7_board_94 : decode cX7_board 94 = .ok (.ireturn, 1) := by decide +kernel
theorem dX7_placeAnew_0 : decode cX7_placeAnew 0 = .ok (.iload_n 1, 1) := by decide +kernel
theorem dX7_placeAnew_1 : decode cX7_placeAnew 1 = .ok (.bipush 8, 2) := by decide +kernel
theorem dX7_placeAnew_3 : decode cX7_placeAnew 3 = .ok (.invokestatic 135, 3) := by decide +kernel
theorem dX7_placeAnew_6 : decode cX7_placeAnew 6 = .ok (.aload_n 0, 1) := by decide +kernel
theorem dX7_placeAnew_7 : decode cX7_placeAnew 7 = .ok (.getfield 43, 3) := by decide +kernel
theorem dX7_placeAnew_10 : decode cX7_placeAnew 10 = .ok (.invokevirtual 270, 3) := by decide +kernel
theorem dX7_placeAnew_13 : decode cX7_placeAnew 13 = .ok (.iconst 0, 1) := by decide +kernel
theorem dX7_placeAnew_14 : decode cX7_placeAnew 14 = .ok (.istore_n 2, 1) := by decide +kernel
theorem dX7_placeAnew_15 : decode cX7_placeAnew 15 = .ok (.iload_n 2, 1) := by decide +kernel
theorem dX7_placeAnew_16 : decode cX7_placeAnew 16 = .ok (.aload_n 0, 1) := by decide +kernel
theorem dX7_placeAnew_17 : decode cX7_placeAnew 17 = .ok (.getfield 37, 3) := by decide +kernel
theorem dX7_placeAnew_20 : decode cX7_placeAnew 20 = .ok (.invokevirtual 107, 3) := by decide +kernel
theorem dX7_placeAnew_23 : decode cX7_placeAnew 23 = .ok (.if_icmp .ge 34, 3) := by decide +kernel
theorem dX7_placeAnew_26 : decode cX7_placeAnew 26 = .ok (.aload_n 0, 1) := by decide +kernel
theorem dX7_placeAnew_27 : decode cX7_placeAnew 27 = .ok (.getfield 37, 3) := by decide +kernel
theorem dX7_placeAnew_30 : decode cX7_placeAnew 30 = .ok (.iload_n 2, 1) := by decide +kernel
theorem dX7_placeAnew_31 : decode cX7_placeAnew 31 = .ok (.invokevirtual 182, 3) := by decide +kernel
theorem dX7_placeAnew_34 : decode cX7_placeAnew 34 = .ok (.checkcast 191, 3) := by decide +kernel
theorem dX7_placeAnew_37 : decode cX7_placeAnew 37 = .ok (.astore_n 3, 1) := by decide +kernel
theorem dX7_placeAnew_38 : decode cX7_placeAnew 38 = .ok (.aload_n 0, 1) := by decide +kernel
theorem dX7_placeAnew_39 : decode cX7_placeAnew 39 = .ok (.getfield 43, 3) := by decide +kernel
theorem dX7_placeAnew_42 : decode cX7_placeAnew 42 = .ok (.aload_n 3, 1) := by decide +kernel
theorem dX7_placeAnew_43 : decode cX7_placeAnew 43 = .ok (.aload_n 0, 1) := by decide +kernel
theorem dX7_placeAnew_44 : decode cX7_placeAnew 44 = .ok (.aload_n 3, 1) := by decide +kernel
theorem dX7_placeAnew_45 : decode cX7_placeAnew 45 = .ok (.invokevirtual 273, 3) := by decide +kernel
theorem dX7_placeAnew_48 : decode cX7_placeAnew 48 = .ok (.invokevirtual 277, 3) := by decide +kernel
theorem dX7_placeAnew_51 : decode cX7_placeAnew 51 = .ok (.iinc 2 1, 3) := by decide +kernel
theorem dX7_placeAnew_54 : decode cX7_placeAnew 54 = .ok (.goto (-39), 3) := by decide +kernel
theorem dX7_placeAnew_57 : decode cX7_placeAnew 57 = .ok (.aload_n 0, 1) := by decide +kernel
theorem dX7_placeAnew_58 : decode cX7_placeAnew 58 = .ok (.getfield 43, 3) := by decide +kernel
theorem dX7_placeAnew_61 : decode cX7_placeAnew 61 = .ok (.iload_n 1, 1) := by decide +kernel
theorem dX7_placeAnew_62 : decode cX7_placeAnew 62 = .ok (.invokevirtual 258, 3) := by decide +kernel
theorem dX7_placeAnew_65 : decode cX7_placeAnew 65 = .ok (.ireturn, 1) := by decide +kernel
theorem dX7_hack_0 : decode cX7_hack 0 = .ok (.iload_n 1, 1) := by decide +kernel
theorem dX7_hack_1 : decode cX7_hack 1 = .ok (.bipush 8, 2) := by decide +kernel
theorem dX7_hack_3 : decode cX7_hack 3 = .ok (.invokestatic 135, 3) := by decide +kernel
theorem dX7_hack_6 : decode cX7_hack 6 = .ok (.aload_n 0, 1) := by decide +kernel
theorem dX7_hack_7 : decode cX7_hack 7 = .ok (.iload_n 2, 1) := by decide +kernel
theorem dX7_hack_8 : decode cX7_hack 8 = .ok (.invokevirtual 220, 3) := by decide +kernel
theorem dX7_hack_11 : decode cX7_hack 11 = .ok (.astore_n 3, 1) := by decide +kernel
theorem dX7_hack_12 : decode cX7_hack 12 = .ok (.aload_n 3, 1) := by decide +kernel
theorem dX7_hack_13 : decode cX7_hack 13 = .ok (.getfield 212, 3) := by decide +kernel
theorem dX7_hack_16 : decode cX7_hack 16 = .ok (.astore 4, 2) := by decide +kernel
theorem dX7_hack_18 : decode cX7_hack 18 = .ok (.aload_n 0, 1) := by decide +kernel
theorem dX7_hack_19 : decode cX7_hack 19 = .ok (.iload_n 1, 1) := by decide +kernel
theorem dX7_hack_20 : decode cX7_hack 20 = .ok (.aload 4, 2) := by decide +kernel
theorem dX7_hack_22 : decode cX7_hack 22 = .ok (.invokevirtual 281, 3) := by decide +kernel
theorem dX7_hack_25 : decode cX7_hack 25 = .ok (.ifCond .ne 14, 3) := by decide +kernel
theorem dX7_hack_28 : decode cX7_hack 28 = .ok (.new 75, 3) := by decide +kernel
theorem dX7_hack_31 : decode cX7_hack 31 = .ok (.dup, 1) := by decide +kernel
theorem dX7_hack_32 : decode cX7_hack 32 = .ok (.ldc_w 285, 3) := by decide +kernel
theorem dX7_hack_35 : decode cX7_hack 35 = .ok (.invokespecial 79, 3) := by decide +kernel
theorem dX7_hack_38 : decode cX7_hack 38 = .ok (.athrow, 1) := by decide +kernel
theorem dX7_hack_39 : decode cX7_hack 39 = .ok (.aload_n 3, 1) := by decide +kernel
theorem dX7_hack_40 : decode cX7_hack 40 = .ok (.getfield 205, 3) := by decide +kernel
theorem dX7_hack_43 : decode cX7_hack 43 = .ok (.iload_n 1, 1) := by decide +kernel
theorem dX7_hack_44 : decode cX7_hack 44 = .ok (.if_icmp .eq 10, 3) := by decide +kernel
theorem dX7_hack_47 : decode cX7_hack 47 = .ok (.aload_n 3, 1) := by decide +kernel
theorem dX7_hack_48 : decode cX7_hack 48 = .ok (.getfield 224, 3) := by decide +kernel
theorem dX7_hack_51 : decode cX7_hack 51 = .ok (.ifCond .eq 14, 3) := by decide +kernel
theorem dX7_hack_54 : decode cX7_hack 54 = .ok (.new 75, 3) := by decide +kernel
theorem dX7_hack_57 : decode cX7_hack 57 = .ok (.dup, 1) := by decide +kernel
theorem dX7_hack_58 : decode cX7_hack 58 = .ok (.ldc_w 287, 3) := by decide +kernel
theorem dX7_hack_61 : decode cX7_hack 61 = .ok (.invokespecial 79, 3) := by decide +kernel
theorem dX7_hack_64 : decode cX7_hack 64 = .ok (.athrow, 1) := by decide +kernel
theorem dX7_hack_65 : decode cX7_hack 65 = .ok (.aload 4, 2) := by decide +kernel
theorem dX7_hack_67 : decode cX7_hack 67 = .ok (.getfield 138, 3) := by decide +kernel
theorem dX7_hack_70 : decode cX7_hack 70 = .ok (.invokevirtual 107, 3) := by decide +kernel
theorem dX7_hack_73 : decode cX7_hack 73 = .ok (.bipush 12, 2) := by decide +kernel
theorem dX7_hack_75 : decode cX7_hack 75 = .ok (.if_icmp .ge 19, 3) := by decide +kernel
theorem dX7_hack_78 : decode cX7_hack 78 = .ok (.aload_n 0, 1) := by decide +kernel
theorem dX7_hack_79 : decode cX7_hack 79 = .ok (.aload 4, 2) := by decide +kernel
theorem dX7_hack_81 : decode cX7_hack 81 = .ok (.getfield 117, 3) := by decide +kernel
theorem dX7_hack_84 : decode cX7_hack 84 = .ok (.aload_n 0, 1) := by decide +kernel
theorem dX7_hack_85 : decode cX7_hack 85 = .ok (.getfield 19, 3) := by decide +kernel
theorem dX7_hack_88 : decode cX7_hack 88 = .ok (.invokevirtual 143, 3) := by decide +kernel
theorem dX7_hack_91 : decode cX7_hack 91 = .ok (.ifCond .ne 14, 3) := by decide +kernel
theorem dX7_hack_94 : decode cX7_hack 94 = .ok (.new 75, 3) := by decide +kernel
theorem dX7_hack_97 : decode cX7_hack 97 = .ok (.dup, 1) := by decide +kernel
theorem dX7_hack_98 : decode cX7_hack 98 = .ok (.ldc_w 289, 3) := by decide +kernel
theorem dX7_hack_101 : decode cX7_hack 101 = .ok (.invokespecial 79, 3) := by decide +kernel
theorem dX7_hack_104 : decode cX7_hack 104 = .ok (.athrow, 1) := by decide +kernel
theorem dX7_hack_105 : decode cX7_hack 105 = .ok (.new 149, 3) := by decide +kernel
theorem dX7_hack_108 : decode cX7_hack 108 = .ok (.dup, 1) := by decide +kernel
theorem dX7_hack_109 : decode cX7_hack 109 = .ok (.aload_n 0, 1) := by decide +kernel
theorem dX7_hack_110 : decode cX7_hack 110 = .ok (.getfield 19, 3) := by decide +kernel
theorem dX7_hack_113 : decode cX7_hack 113 = .ok (.aload_n 0, 1) := by decide +kernel
theorem dX7_hack_114 : decode cX7_hack 114 = .ok (.getfield 26, 3) := by decide +kernel
theorem dX7_hack_117 : decode cX7_hack 117 = .ok (.getfield 100, 3) := by decide +kernel
theorem dX7_hack_120 : decode cX7_hack 120 = .ok (.iconst 3, 1) := by decide +kernel
theorem dX7_hack_121 : decode cX7_hack 121 = .ok (.invokespecial 151, 3) := by decide +kernel
theorem dX7_hack_124 : decode cX7_hack 124 = .ok (.astore 5, 2) := by decide +kernel
theorem dX7_hack_126 : decode cX7_hack 126 = .ok (.aload_n 0, 1) := by decide +kernel
theorem dX7_hack_127 : decode cX7_hack 127 = .ok (.getfield 19, 3) := by decide +kernel
theorem dX7_hack_130 : decode cX7_hack 130 = .ok (.iconst 0, 1) := by decide +kernel
theorem dX7_hack_131 : decode cX7_hack 131 = .ok (.putfield 86, 3) := by decide +kernel
theorem dX7_hack_134 : decode cX7_hack 134 = .ok (.aload_n 0, 1) := by decide +kernel
theorem dX7_hack_135 : decode cX7_hack 135 = .ok (.aload_n 3, 1) := by decide +kernel
theorem dX7_hack_136 : decode cX7_hack 136 = .ok (.aload 5, 2) := by decide +kernel
theorem dX7_hack_138 : decode cX7_hack 138 = .ok (.invokevirtual 291, 3) := by decide +kernel
theorem dX7_hack_141 : decode cX7_hack 141 = .ok (.ifCond .ne 15, 3) := by decide +kernel
theorem dX7_hack_144 : decode cX7_hack 144 = .ok (.aload_n 0, 1) := by decide +kernel
theorem dX7_hack_145 : decode cX7_hack 145 = .ok (.getfield 51, 3) := by decide +kernel
theorem dX7_hack_148 : decode cX7_hack 148 = .ok (.iload_n 1, 1) := by decide +kernel
theorem dX7_hack_149 : decode cX7_hack 149 = .ok (.dup2, 1) := by decide +kernel
theorem dX7_hack_150 : decode cX7_hack 150 = .ok (.iaload, 1) := by decide +kernel
theorem dX7_hack_151 : decode cX7_hack 151 = .ok (.iconst 1, 1) := by decide +kernel
theorem dX7_hack_152 : decode cX7_hack 152 = .ok (.isub, 1) := by decide +kernel
theorem dX7_hack_153 : decode cX7_hack 153 = .ok (.iastore, 1) := by decide +kernel
theorem dX7_hack_154 : decode cX7_hack 154 = .ok (.iconst 0, 1) := by decide +kernel
theorem dX7_hack_155 : decode cX7_hack 155 = .ok (.ireturn, 1) := by decide +kernel
theorem dX7_hack_156 : decode cX7_hack 156 = .ok (.aload 4, 2) := by decide +kernel
theorem dX7_hack_158 : decode cX7_hack 158 = .ok (.aload 5, 2) := by decide +kernel
theorem dX7_hack_160 : decode cX7_hack 160 = .ok (.invokevirtual 154, 3) := by decide +kernel
theorem dX7_hack_163 : decode cX7_hack 163 = .ok (.aload_n 0, 1) := by decide +kernel
theorem dX7_hack_164 : decode cX7_hack 164 = .ok (.aload_n 3, 1) := by decide +kernel
theorem dX7_hack_165 : decode cX7_hack 165 = .ok (.invokevirtual 208, 3) := by decide +kernel
theorem dX7_hack_168 : decode cX7_hack 168 = .ok (.aload_n 0, 1) := by decide +kernel
theorem dX7_hack_169 : decode cX7_hack 169 = .ok (.getfield 51, 3) := by decide +kernel
theorem dX7_hack_172 : decode cX7_hack 172 = .ok (.iload_n 1, 1) := by decide +kernel
theorem dX7_hack_173 : decode cX7_hack 173 = .ok (.dup2, 1) := by decide +kernel
theorem dX7_hack_174 : decode cX7_hack 174 = .ok (.iaload, 1) := by decide +kernel
theorem dX7_hack_175 : decode cX7_hack 175 = .ok (.iconst 1, 1) := by decide +kernel
theorem dX7_hack_176 : decode cX7_hack 176 = .ok (.iadd, 1) := by decide +kernel
theorem dX7_hack_177 : decode cX7_hack 177 = .ok (.iastore, 1) := by decide +kernel
theorem dX7_hack_178 : decode cX7_hack 178 = .ok (.iconst 1, 1) := by decide +kernel
theorem dX7_hack_179 : decode cX7_hack 179 = .ok (.ireturn, 1) := by decide +kernel
theorem dX7_needRange_0 : decode cX7_needRange 0 = .ok (.iload_n 0, 1) := by decide +kernel
theorem dX7_needRange_1 : decode cX7_needRange 1 = .ok (.iload_n 1, 1) := by decide +kernel
theorem dX7_needRange_2 : decode cX7_needRange 2 = .ok (.if_icmp .lt 8, 3) := by decide +kernel
theorem dX7_needRange_5 : decode cX7_needRange 5 = .ok (.iload_n 0, 1) := by decide +kernel
theorem dX7_needRange_6 : decode cX7_needRange 6 = .ok (.iload_n 2, 1) := by decide +kernel
theorem dX7_needRange_7 : decode cX7_needRange 7 = .ok (.if_icmp .le 14, 3) := by decide +kernel
theorem dX7_needRange_10 : decode cX7_needRange 10 = .ok (.new 295, 3) := by decide +kernel
theorem dX7_needRange_13 : decode cX7_needRange 13 = .ok (.dup, 1) := by decide +kernel
theorem dX7_needRange_14 : decode cX7_needRange 14 = .ok (.ldc_w 297, 3) := by decide +kernel
theorem dX7_needRange_17 : decode cX7_needRange 17 = .ok (.invokespecial 299, 3) := by decide +kernel
theorem dX7_needRange_20 : decode cX7_needRange 20 = .ok (.athrow, 1) := by decide +kernel
theorem dX7_needRange_21 : decode cX7_needRange 21 = .ok (.return_, 1) := by decide +kernel
theorem dX7_needIndex_0 : decode cX7_needIndex 0 = .ok (.iload_n 0, 1) := by decide +kernel
theorem dX7_needIndex_1 : decode cX7_needIndex 1 = .ok (.ifCond .lt 8, 3) := by decide +kernel
theorem dX7_needIndex_4 : decode cX7_needIndex 4 = .ok (.iload_n 0, 1) := by decide +kernel
theorem dX7_needIndex_5 : decode cX7_needIndex 5 = .ok (.iload_n 1, 1) := by decide +kernel
theorem dX7_needIndex_6 : decode cX7_needIndex 6 = .ok (.if_icmp .lt 14, 3) := by decide +kernel
theorem dX7_needIndex_9 : decode cX7_needIndex 9 = .ok (.new 177, 3) := by decide +kernel
theorem dX7_needIndex_12 : decode cX7_needIndex 12 = .ok (.dup, 1) := by decide +kernel
theorem dX7_needIndex_13 : decode cX7_needIndex 13 = .ok (.ldc_w 300, 3) := by decide +kernel
theorem dX7_needIndex_16 : decode cX7_needIndex 16 = .ok (.invokespecial 181, 3) := by decide +kernel
theorem dX7_needIndex_19 : decode cX7_needIndex 19 = .ok (.athrow, 1) := by decide +kernel
theorem dX7_needIndex_20 : decode cX7_needIndex 20 = .ok (.return_, 1) := by decide +kernel
theorem dX7_problemAt_0 : decode cX7_problemAt 0 = .ok (.iload_n 1, 1) := by decide +kernel
theorem dX7_problemAt_1 : decode cX7_problemAt 1 = .ok (.aload_n 0, 1) := by decide +kernel
theorem dX7_problemAt_2 : decode cX7_problemAt 2 = .ok (.getfield 33, 3) := by decide +kernel
theorem dX7_problemAt_5 : decode cX7_problemAt 5 = .ok (.invokevirtual 107, 3) := by decide +kernel
theorem dX7_problemAt_8 : decode cX7_problemAt 8 = .ok (.invokestatic 135, 3) := by decide +kernel
theorem dX7_problemAt_11 : decode cX7_problemAt 11 = .ok (.aload_n 0, 1) := by decide +kernel
theorem dX7_problemAt_12 : decode cX7_problemAt 12 = .ok (.getfield 33, 3) := by decide +kernel
theorem dX7_problemAt_15 : decode cX7_problemAt 15 = .ok (.iload_n 1, 1) := by decide +kernel
theorem dX7_problemAt_16 : decode cX7_problemAt 16 = .ok (.invokevirtual 182, 3) := by decide +kernel
theorem dX7_problemAt_19 : decode cX7_problemAt 19 = .ok (.checkcast 113, 3) := by decide +kernel
theorem dX7_problemAt_22 : decode cX7_problemAt 22 = .ok (.areturn, 1) := by decide +kernel
theorem dX7_entryAt_0 : decode cX7_entryAt 0 = .ok (.iload_n 1, 1) := by decide +kernel
theorem dX7_entryAt_1 : decode cX7_entryAt 1 = .ok (.aload_n 0, 1) := by decide +kernel
theorem dX7_entryAt_2 : decode cX7_entryAt 2 = .ok (.getfield 37, 3) := by decide +kernel
theorem dX7_entryAt_5 : decode cX7_entryAt 5 = .ok (.invokevirtual 107, 3) := by decide +kernel
theorem dX7_entryAt_8 : decode cX7_entryAt 8 = .ok (.invokestatic 135, 3) := by decide +kernel
theorem dX7_entryAt_11 : decode cX7_entryAt 11 = .ok (.aload_n 0, 1) := by decide +kernel
theorem dX7_entryAt_12 : decode cX7_entryAt 12 = .ok (.getfield 37, 3) := by decide +kernel
theorem dX7_entryAt_15 : decode cX7_entryAt 15 = .ok (.iload_n 1, 1) := by decide +kernel
theorem dX7_entryAt_16 : decode cX7_entryAt 16 = .ok (.invokevirtual 182, 3) := by decide +kernel
theorem dX7_entryAt_19 : decode cX7_entryAt 19 = .ok (.checkcast 191, 3) := by decide +kernel
theorem dX7_entryAt_22 : decode cX7_entryAt 22 = .ok (.areturn, 1) := by decide +kernel
theorem dX7_findsAnswer_0 : decode cX7_findsAnswer 0 = .ok (.aload_n 0, 1) := by decide +kernel
theorem dX7_findsAnswer_1 : decode cX7_findsAnswer 1 = .ok (.getfield 26, 3) := by decide +kernel
theorem dX7_findsAnswer_4 : decode cX7_findsAnswer 4 = .ok (.aload_n 1, 1) := by decide +kernel
theorem dX7_findsAnswer_5 : decode cX7_findsAnswer 5 = .ok (.aload_n 2, 1) := by decide +kernel
theorem dX7_findsAnswer_6 : decode cX7_findsAnswer 6 = .ok (.sipush 500, 3) := by decide +kernel
theorem dX7_findsAnswer_9 : decode cX7_findsAnswer 9 = .ok (.invokevirtual 93, 3) := by decide +kernel
theorem dX7_findsAnswer_12 : decode cX7_findsAnswer 12 = .ok (.ifCond .ne 7, 3) := by decide +kernel
theorem dX7_findsAnswer_15 : decode cX7_findsAnswer 15 = .ok (.iconst 1, 1) := by decide +kernel
theorem dX7_findsAnswer_16 : decode cX7_findsAnswer 16 = .ok (.goto 4, 3) := by decide +kernel
theorem dX7_findsAnswer_19 : decode cX7_findsAnswer 19 = .ok (.iconst 0, 1) := by decide +kernel
theorem dX7_findsAnswer_20 : decode cX7_findsAnswer 20 = .ok (.ireturn, 1) := by decide +kernel
theorem dX7_findsAllAnswers_0 : decode cX7_findsAllAnswers 0 = .ok (.iconst 0, 1) := by decide +kernel
theorem dX7_findsAllAnswers_1 : decode cX7_findsAllAnswers 1 = .ok (.istore_n 3, 1) := by decide +kernel
theorem dX7_findsAllAnswers_2 : decode cX7_findsAllAnswers 2 = .ok (.iload_n 3, 1) := by decide +kernel
theorem dX7_findsAllAnswers_3 : decode cX7_findsAllAnswers 3 = .ok (.aload_n 1, 1) := by decide +kernel
theorem dX7_findsAllAnswers_4 : decode cX7_findsAllAnswers 4 = .ok (.getfield 138, 3) := by decide +kernel
theorem dX7_findsAllAnswers_7 : decode cX7_findsAllAnswers 7 = .ok (.invokevirtual 107, 3) := by decide +kernel
theorem dX7_findsAllAnswers_10 : decode cX7_findsAllAnswers 10 = .ok (.if_icmp .ge 33, 3) := by decide +kernel
theorem dX7_findsAllAnswers_13 : decode cX7_findsAllAnswers 13 = .ok (.aload_n 0, 1) := by decide +kernel
theorem dX7_findsAllAnswers_14 : decode cX7_findsAllAnswers 14 = .ok (.aload_n 2, 1) := by decide +kernel
theorem dX7_findsAllAnswers_15 : decode cX7_findsAllAnswers 15 = .ok (.aload_n 1, 1) := by decide +kernel
theorem dX7_findsAllAnswers_16 : decode cX7_findsAllAnswers 16 = .ok (.getfield 138, 3) := by decide +kernel
theorem dX7_findsAllAnswers_19 : decode cX7_findsAllAnswers 19 = .ok (.iload_n 3, 1) := by decide +kernel
theorem dX7_findsAllAnswers_20 : decode cX7_findsAllAnswers 20 = .ok (.invokevirtual 182, 3) := by decide +kernel
theorem dX7_findsAllAnswers_23 : decode cX7_findsAllAnswers 23 = .ok (.checkcast 149, 3) := by decide +kernel
theorem dX7_findsAllAnswers_26 : decode cX7_findsAllAnswers 26 = .ok (.getfield 302, 3) := by decide +kernel
theorem dX7_findsAllAnswers_29 : decode cX7_findsAllAnswers 29 = .ok (.invokevirtual 143, 3) := by decide +kernel
theorem dX7_findsAllAnswers_32 : decode cX7_findsAllAnswers 32 = .ok (.ifCond .ne 5, 3) := by decide +kernel
theorem dX7_findsAllAnswers_35 : decode cX7_findsAllAnswers 35 = .ok (.iconst 0, 1) := by decide +kernel
theorem dX7_findsAllAnswers_36 : decode cX7_findsAllAnswers 36 = .ok (.ireturn, 1) := by decide +kernel
theorem dX7_findsAllAnswers_37 : decode cX7_findsAllAnswers 37 = .ok (.iinc 3 1, 3) := by decide +kernel
theorem dX7_findsAllAnswers_40 : decode cX7_findsAllAnswers 40 = .ok (.goto (-38), 3) := by decide +kernel
theorem dX7_findsAllAnswers_43 : decode cX7_findsAllAnswers 43 = .ok (.iconst 1, 1) := by decide +kernel
theorem dX7_findsAllAnswers_44 : decode cX7_findsAllAnswers 44 = .ok (.ireturn, 1) := by decide +kernel
theorem dX7_renewAnswers_0 : decode cX7_renewAnswers 0 = .ok (.iconst 0, 1) := by decide +kernel
theorem dX7_renewAnswers_1 : decode cX7_renewAnswers 1 = .ok (.istore_n 2, 1) := by decide +kernel
theorem dX7_renewAnswers_2 : decode cX7_renewAnswers 2 = .ok (.iload_n 2, 1) := by decide +kernel
theorem dX7_renewAnswers_3 : decode cX7_renewAnswers 3 = .ok (.aload_n 1, 1) := by decide +kernel
theorem dX7_renewAnswers_4 : decode cX7_renewAnswers 4 = .ok (.getfield 138, 3) := by decide +kernel
theorem dX7_renewAnswers_7 : decode cX7_renewAnswers 7 = .ok (.invokevirtual 107, 3) := by decide +kernel
theorem dX7_renewAnswers_10 : decode cX7_renewAnswers 10 = .ok (.if_icmp .ge 50, 3) := by decide +kernel
theorem dX7_renewAnswers_13 : decode cX7_renewAnswers 13 = .ok (.aload_n 1, 1) := by decide +kernel
theorem dX7_renewAnswers_14 : decode cX7_renewAnswers 14 = .ok (.getfield 138, 3) := by decide +kernel
theorem dX7_renewAnswers_17 : decode cX7_renewAnswers 17 = .ok (.iload_n 2, 1) := by decide +kernel
theorem dX7_renewAnswers_18 : decode cX7_renewAnswers 18 = .ok (.invokevirtual 182, 3) := by decide +kernel
theorem dX7_renewAnswers_21 : decode cX7_renewAnswers 21 = .ok (.checkcast 149, 3) := by decide +kernel
theorem dX7_renewAnswers_24 : decode cX7_renewAnswers 24 = .ok (.astore_n 3, 1) := by decide +kernel
theorem dX7_renewAnswers_25 : decode cX7_renewAnswers 25 = .ok (.aload_n 0, 1) := by decide +kernel
theorem dX7_renewAnswers_26 : decode cX7_renewAnswers 26 = .ok (.aload_n 1, 1) := by decide +kernel
theorem dX7_renewAnswers_27 : decode cX7_renewAnswers 27 = .ok (.getfield 117, 3) := by decide +kernel
theorem dX7_renewAnswers_30 : decode cX7_renewAnswers 30 = .ok (.aload_n 3, 1) := by decide +kernel
theorem dX7_renewAnswers_31 : decode cX7_renewAnswers 31 = .ok (.getfield 302, 3) := by decide +kernel
theorem dX7_renewAnswers_34 : decode cX7_renewAnswers 34 = .ok (.invokevirtual 143, 3) := by decide +kernel
theorem dX7_renewAnswers_37 : decode cX7_renewAnswers 37 = .ok (.ifCond .eq 17, 3) := by decide +kernel
theorem dX7_renewAnswers_40 : decode cX7_renewAnswers 40 = .ok (.aload_n 3, 1) := by decide +kernel
theorem dX7_renewAnswers_41 : decode cX7_renewAnswers 41 = .ok (.getfield 186, 3) := by decide +kernel
theorem dX7_renewAnswers_44 : decode cX7_renewAnswers 44 = .ok (.aload_n 0, 1) := by decide +kernel
theorem dX7_renewAnswers_45 : decode cX7_renewAnswers 45 = .ok (.getfield 26, 3) := by decide +kernel
theorem dX7_renewAnswers_48 : decode cX7_renewAnswers 48 = .ok (.getfield 100, 3) := by decide +kernel
theorem dX7_renewAnswers_51 : decode cX7_renewAnswers 51 = .ok (.invokevirtual 305, 3) := by decide +kernel
theorem dX7_renewAnswers_54 : decode cX7_renewAnswers 54 = .ok (.iinc 2 1, 3) := by decide +kernel
theorem dX7_renewAnswers_57 : decode cX7_renewAnswers 57 = .ok (.goto (-55), 3) := by decide +kernel
theorem dX7_renewAnswers_60 : decode cX7_renewAnswers 60 = .ok (.return_, 1) := by decide +kernel
theorem dX7_tryOut_0 : decode cX7_tryOut 0 = .ok (.aload_n 0, 1) := by decide +kernel
theorem dX7_tryOut_1 : decode cX7_tryOut 1 = .ok (.getfield 26, 3) := by decide +kernel
theorem dX7_tryOut_4 : decode cX7_tryOut 4 = .ok (.aload_n 1, 1) := by decide +kernel
theorem dX7_tryOut_5 : decode cX7_tryOut 5 = .ok (.getfield 196, 3) := by decide +kernel
theorem dX7_tryOut_8 : decode cX7_tryOut 8 = .ok (.aload_n 2, 1) := by decide +kernel
theorem dX7_tryOut_9 : decode cX7_tryOut 9 = .ok (.getfield 302, 3) := by decide +kernel
theorem dX7_tryOut_12 : decode cX7_tryOut 12 = .ok (.aload_n 1, 1) := by decide +kernel
theorem dX7_tryOut_13 : decode cX7_tryOut 13 = .ok (.getfield 212, 3) := by decide +kernel
theorem dX7_tryOut_16 : decode cX7_tryOut 16 = .ok (.getfield 309, 3) := by decide +kernel
theorem dX7_tryOut_19 : decode cX7_tryOut 19 = .ok (.invokevirtual 93, 3) := by decide +kernel
theorem dX7_tryOut_22 : decode cX7_tryOut 22 = .ok (.istore_n 3, 1) := by decide +kernel
theorem dX7_tryOut_23 : decode cX7_tryOut 23 = .ok (.iload_n 3, 1) := by decide +kernel
theorem dX7_tryOut_24 : decode cX7_tryOut 24 = .ok (.ifCond .eq 5, 3) := by decide +kernel
theorem dX7_tryOut_27 : decode cX7_tryOut 27 = .ok (.iload_n 3, 1) := by decide +kernel
theorem dX7_tryOut_28 : decode cX7_tryOut 28 = .ok (.ireturn, 1) := by decide +kernel
theorem dX7_tryOut_29 : decode cX7_tryOut 29 = .ok (.aload_n 1, 1) := by decide +kernel
theorem dX7_tryOut_30 : decode cX7_tryOut 30 = .ok (.getfield 212, 3) := by decide +kernel
theorem dX7_tryOut_33 : decode cX7_tryOut 33 = .ok (.getfield 171, 3) := by decide +kernel
theorem dX7_tryOut_36 : decode cX7_tryOut 36 = .ok (.iconst 1, 1) := by decide +kernel
theorem dX7_tryOut_37 : decode cX7_tryOut 37 = .ok (.if_icmp .ne 7, 3) := by decide +kernel
theorem dX7_tryOut_40 : decode cX7_tryOut 40 = .ok (.iconst 1, 1) := by decide +kernel
theorem dX7_tryOut_41 : decode cX7_tryOut 41 = .ok (.goto 4, 3) := by decide +kernel
theorem dX7_tryOut_44 : decode cX7_tryOut 44 = .ok (.iconst 0, 1) := by decide +kernel
theorem dX7_tryOut_45 : decode cX7_tryOut 45 = .ok (.istore 4, 2) := by decide +kernel
theorem dX7_tryOut_47 : decode cX7_tryOut 47 = .ok (.aload_n 0, 1) := by decide +kernel
theorem dX7_tryOut_48 : decode cX7_tryOut 48 = .ok (.getfield 26, 3) := by decide +kernel
theorem dX7_tryOut_51 : decode cX7_tryOut 51 = .ok (.getfield 100, 3) := by decide +kernel
theorem dX7_tryOut_54 : decode cX7_tryOut 54 = .ok (.iload 4, 2) := by decide +kernel
theorem dX7_tryOut_56 : decode cX7_tryOut 56 = .ok (.aload_n 2, 1) := by decide +kernel
theorem dX7_tryOut_57 : decode cX7_tryOut 57 = .ok (.getfield 186, 3) := by decide +kernel
theorem dX7_tryOut_60 : decode cX7_tryOut 60 = .ok (.invokevirtual 312, 3) := by decide +kernel
theorem dX7_tryOut_63 : decode cX7_tryOut 63 = .ok (.ifCond .eq 5, 3) := by decide +kernel
theorem dX7_tryOut_66 : decode cX7_tryOut 66 = .ok (.iconst 0, 1) := by decide +kernel
theorem dX7_tryOut_67 : decode cX7_tryOut 67 = .ok (.ireturn, 1) := by decide +kernel
theorem dX7_tryOut_68 : decode cX7_tryOut 68 = .ok (.aload_n 0, 1) := by decide +kernel
theorem dX7_tryOut_69 : decode cX7_tryOut 69 = .ok (.getfield 26, 3) := by decide +kernel
theorem dX7_tryOut_72 : decode cX7_tryOut 72 = .ok (.getfield 100, 3) := by decide +kernel
theorem dX7_tryOut_75 : decode cX7_tryOut 75 = .ok (.getfield 86, 3) := by decide +kernel
theorem dX7_tryOut_78 : decode cX7_tryOut 78 = .ok (.ifCond .ne 17, 3) := by decide +kernel
theorem dX7_tryOut_81 : decode cX7_tryOut 81 = .ok (.aload_n 2, 1) := by decide +kernel
theorem dX7_tryOut_82 : decode cX7_tryOut 82 = .ok (.getfield 186, 3) := by decide +kernel
theorem dX7_tryOut_85 : decode cX7_tryOut 85 = .ok (.getfield 86, 3) := by decide +kernel
theorem dX7_tryOut_88 : decode cX7_tryOut 88 = .ok (.ifCond .le 7, 3) := by decide +kernel
theorem dX7_tryOut_91 : decode cX7_tryOut 91 = .ok (.iconst 5, 1) := by decide +kernel
theorem dX7_tryOut_92 : decode cX7_tryOut 92 = .ok (.goto 4, 3) := by decide +kernel
theorem dX7_tryOut_95 : decode cX7_tryOut 95 = .ok (.iconst 1, 1) := by decide +kernel
theorem dX7_tryOut_96 : decode cX7_tryOut 96 = .ok (.ireturn, 1) := by decide +kernel
theorem dX7_passesAll_0 : decode cX7_passesAll 0 = .ok (.aload_n 1, 1) := by decide +kernel
theorem dX7_passesAll_1 : decode cX7_passesAll 1 = .ok (.getfield 212, 3) := by decide +kernel
theorem dX7_passesAll_4 : decode cX7_passesAll 4 = .ok (.getfield 138, 3) := by decide +kernel
theorem dX7_passesAll_7 : decode cX7_passesAll 7 = .ok (.astore_n 2, 1) := by decide +kernel
theorem dX7_passesAll_8 : decode cX7_passesAll 8 = .ok (.iconst 0, 1) := by decide +kernel
theorem dX7_passesAll_9 : decode cX7_passesAll 9 = .ok (.istore_n 3, 1) := by decide +kernel
theorem dX7_passesAll_10 : decode cX7_passesAll 10 = .ok (.iload_n 3, 1) := by decide +kernel
theorem dX7_passesAll_11 : decode cX7_passesAll 11 = .ok (.aload_n 2, 1) := by decide +kernel
theorem dX7_passesAll_12 : decode cX7_passesAll 12 = .ok (.invokevirtual 107, 3) := by decide +kernel
theorem dX7_passesAll_15 : decode cX7_passesAll 15 = .ok (.if_icmp .ge 27, 3) := by decide +kernel
theorem dX7_passesAll_18 : decode cX7_passesAll 18 = .ok (.aload_n 0, 1) := by decide +kernel
theorem dX7_passesAll_19 : decode cX7_passesAll 19 = .ok (.aload_n 1, 1) := by decide +kernel
theorem dX7_passesAll_20 : decode cX7_passesAll 20 = .ok (.aload_n 2, 1) := by decide +kernel
theorem dX7_passesAll_21 : decode cX7_passesAll 21 = .ok (.iload_n 3, 1) := by decide +kernel
theorem dX7_passesAll_22 : decode cX7_passesAll 22 = .ok (.invokevirtual 182, 3) := by decide +kernel
theorem dX7_passesAll_25 : decode cX7_passesAll 25 = .ok (.checkcast 149, 3) := by decide +kernel
theorem dX7_passesAll_28 : decode cX7_passesAll 28 = .ok (.invokevirtual 291, 3) := by decide +kernel
theorem dX7_passesAll_31 : decode cX7_passesAll 31 = .ok (.ifCond .eq 5, 3) := by decide +kernel
theorem dX7_passesAll_34 : decode cX7_passesAll 34 = .ok (.iconst 0, 1) := by decide +kernel
theorem dX7_passesAll_35 : decode cX7_passesAll 35 = .ok (.ireturn, 1) := by decide +kernel
theorem dX7_passesAll_36 : decode cX7_passesAll 36 = .ok (.iinc 3 1, 3) := by decide +kernel
theorem dX7_passesAll_39 : decode cX7_passesAll 39 = .ok (.goto (-29), 3) := by decide +kernel
theorem dX7_passesAll_42 : decode cX7_passesAll 42 = .ok (.iconst 1, 1) := by decide +kernel
theorem dX7_passesAll_43 : decode cX7_passesAll 43 = .ok (.ireturn, 1) := by decide +kernel
theorem dX7_giveVerdict_0 : decode cX7_giveVerdict 0 = .ok (.aload_n 1, 1) := by decide +kernel
theorem dX7_giveVerdict_1 : decode cX7_giveVerdict 1 = .ok (.getfield 212, 3) := by decide +kernel
theorem dX7_giveVerdict_4 : decode cX7_giveVerdict 4 = .ok (.getfield 138, 3) := by decide +kernel
theorem dX7_giveVerdict_7 : decode cX7_giveVerdict 7 = .ok (.astore_n 2, 1) := by decide +kernel
theorem dX7_giveVerdict_8 : decode cX7_giveVerdict 8 = .ok (.iconst 0, 1) := by decide +kernel
theorem dX7_giveVerdict_9 : decode cX7_giveVerdict 9 = .ok (.istore_n 3, 1) := by decide +kernel
theorem dX7_giveVerdict_10 : decode cX7_giveVerdict 10 = .ok (.iconst 0, 1) := by decide +kernel
theorem dX7_giveVerdict_11 : decode cX7_giveVerdict 11 = .ok (.istore 4, 2) := by decide +kernel
theorem dX7_giveVerdict_13 : decode cX7_giveVerdict 13 = .ok (.aload_n 1, 1) := by decide +kernel
theorem dX7_giveVerdict_14 : decode cX7_giveVerdict 14 = .ok (.iconst 0, 1) := by decide +kernel
theorem dX7_giveVerdict_15 : decode cX7_giveVerdict 15 = .ok (.putfield 224, 3) := by decide +kernel
theorem dX7_giveVerdict_18 : decode cX7_giveVerdict 18 = .ok (.aload_n 1, 1) := by decide +kernel
theorem dX7_giveVerdict_19 : decode cX7_giveVerdict 19 = .ok (.iconst (-1), 1) := by decide +kernel
theorem dX7_giveVerdict_20 : decode cX7_giveVerdict 20 = .ok (.putfield 227, 3) := by decide +kernel
theorem dX7_giveVerdict_23 : decode cX7_giveVerdict 23 = .ok (.iconst 0, 1) := by decide +kernel
theorem dX7_giveVerdict_24 : decode cX7_giveVerdict 24 = .ok (.istore 5, 2) := by decide +kernel
theorem dX7_giveVerdict_26 : decode cX7_giveVerdict 26 = .ok (.iload 5, 2) := by decide +kernel
theorem dX7_giveVerdict_28 : decode cX7_giveVerdict 28 = .ok (.aload_n 2, 1) := by decide +kernel
theorem dX7_giveVerdict_29 : decode cX7_giveVerdict 29 = .ok (.invokevirtual 107, 3) := by decide +kernel
theorem dX7_giveVerdict_32 : decode cX7_giveVerdict 32 = .ok (.if_icmp .ge 76, 3) := by decide +kernel
theorem dX7_giveVerdict_35 : decode cX7_giveVerdict 35 = .ok (.aload_n 2, 1) := by decide +kernel
theorem dX7_giveVerdict_36 : decode cX7_giveVerdict 36 = .ok (.iload 5, 2) := by decide +kernel
theorem dX7_giveVerdict_38 : decode cX7_giveVerdict 38 = .ok (.invokevirtual 182, 3) := by decide +kernel
theorem dX7_giveVerdict_41 : decode cX7_giveVerdict 41 = .ok (.checkcast 149, 3) := by decide +kernel
theorem dX7_giveVerdict_44 : decode cX7_giveVerdict 44 = .ok (.astore 6, 2) := by decide +kernel
theorem dX7_giveVerdict_46 : decode cX7_giveVerdict 46 = .ok (.aload_n 0, 1) := by decide +kernel
theorem dX7_giveVerdict_47 : decode cX7_giveVerdict 47 = .ok (.aload_n 1, 1) := by decide +kernel
theorem dX7_giveVerdict_48 : decode cX7_giveVerdict 48 = .ok (.aload 6, 2) := by decide +kernel
theorem dX7_giveVerdict_50 : decode cX7_giveVerdict 50 = .ok (.invokevirtual 291, 3) := by decide +kernel
theorem dX7_giveVerdict_53 : decode cX7_giveVerdict 53 = .ok (.istore 7, 2) := by decide +kernel
theorem dX7_giveVerdict_55 : decode cX7_giveVerdict 55 = .ok (.iload_n 3, 1) := by decide +kernel
theorem dX7_giveVerdict_56 : decode cX7_giveVerdict 56 = .ok (.iconst 1, 1) := by decide +kernel
theorem dX7_giveVerdict_57 : decode cX7_giveVerdict 57 = .ok (.aload 6, 2) := by decide +kernel
theorem dX7_giveVerdict_59 : decode cX7_giveVerdict 59 = .ok (.getfield 316, 3) := by decide +kernel
theorem dX7_giveVerdict_62 : decode cX7_giveVerdict 62 = .ok (.ishl, 1) := by decide +kernel
theorem dX7_giveVerdict_63 : decode cX7_giveVerdict 63 = .ok (.ior, 1) := by decide +kernel
theorem dX7_giveVerdict_64 : decode cX7_giveVerdict 64 = .ok (.istore_n 3, 1) := by decide +kernel
theorem dX7_giveVerdict_65 : decode cX7_giveVerdict 65 = .ok (.iload 7, 2) := by decide +kernel
theorem dX7_giveVerdict_67 : decode cX7_giveVerdict 67 = .ok (.ifCond .eq 35, 3) := by decide +kernel
theorem dX7_giveVerdict_70 : decode cX7_giveVerdict 70 = .ok (.iload 4, 2) := by decide +kernel
theorem dX7_giveVerdict_72 : decode cX7_giveVerdict 72 = .ok (.iconst 1, 1) := by decide +kernel
theorem dX7_giveVerdict_73 : decode cX7_giveVerdict 73 = .ok (.aload 6, 2) := by decide +kernel
theorem dX7_giveVerdict_75 : decode cX7_giveVerdict 75 = .ok (.getfield 316, 3) := by decide +kernel
theorem dX7_giveVerdict_78 : decode cX7_giveVerdict 78 = .ok (.ishl, 1) := by decide +kernel
theorem dX7_giveVerdict_79 : decode cX7_giveVerdict 79 = .ok (.ior, 1) := by decide +kernel
theorem dX7_giveVerdict_80 : decode cX7_giveVerdict 80 = .ok (.istore 4, 2) := by decide +kernel
theorem dX7_giveVerdict_82 : decode cX7_giveVerdict 82 = .ok (.aload_n 1, 1) := by decide +kernel
theorem dX7_giveVerdict_83 : decode cX7_giveVerdict 83 = .ok (.getfield 227, 3) := by decide +kernel
theorem dX7_giveVerdict_86 : decode cX7_giveVerdict 86 = .ok (.iconst (-1), 1) := by decide +kernel
theorem dX7_giveVerdict_87 : decode cX7_giveVerdict 87 = .ok (.if_icmp .ne 15, 3) := by decide +kernel
theorem dX7_giveVerdict_90 : decode cX7_giveVerdict 90 = .ok (.aload_n 1, 1) := by decide +kernel
theorem dX7_giveVerdict_91 : decode cX7_giveVerdict 91 = .ok (.iload 7, 2) := by decide +kernel
theorem dX7_giveVerdict_93 : decode cX7_giveVerdict 93 = .ok (.putfield 224, 3) := by decide +kernel
theorem dX7_giveVerdict_96 : decode cX7_giveVerdict 96 = .ok (.aload_n 1, 1) := by decide +kernel
theorem dX7_giveVerdict_97 : decode cX7_giveVerdict 97 = .ok (.iload 5, 2) := by decide +kernel
theorem dX7_giveVerdict_99 : decode cX7_giveVerdict 99 = .ok (.putfield 227, 3) := by decide +kernel
theorem dX7_giveVerdict_102 : decode cX7_giveVerdict 102 = .ok (.iinc 5 1, 3) := by decide +kernel
theorem dX7_giveVerdict_105 : decode cX7_giveVerdict 105 = .ok (.goto (-79), 3) := by decide +kernel
theorem dX7_giveVerdict_108 : decode cX7_giveVerdict 108 = .ok (.aload_n 1, 1) := by decide +kernel
theorem dX7_giveVerdict_109 : decode cX7_giveVerdict 109 = .ok (.aload_n 1, 1) := by decide +kernel
theorem dX7_giveVerdict_110 : decode cX7_giveVerdict 110 = .ok (.getfield 212, 3) := by decide +kernel
theorem dX7_giveVerdict_113 : decode cX7_giveVerdict 113 = .ok (.iload_n 3, 1) := by decide +kernel
theorem dX7_giveVerdict_114 : decode cX7_giveVerdict 114 = .ok (.iload 4, 2) := by decide +kernel
theorem dX7_giveVerdict_116 : decode cX7_giveVerdict 116 = .ok (.iconst (-1), 1) := by decide +kernel
theorem dX7_giveVerdict_117 : decode cX7_giveVerdict 117 = .ok (.ixor, 1) := by decide +kernel
theorem dX7_giveVerdict_118 : decode cX7_giveVerdict 118 = .ok (.iand, 1) := by decide +kernel
theorem dX7_giveVerdict_119 : decode cX7_giveVerdict 119 = .ok (.invokevirtual 319, 3) := by decide +kernel
theorem dX7_giveVerdict_122 : decode cX7_giveVerdict 122 = .ok (.putfield 230, 3) := by decide +kernel
theorem dX7_giveVerdict_125 : decode cX7_giveVerdict 125 = .ok (.aload_n 1, 1) := by decide +kernel
theorem dX7_giveVerdict_126 : decode cX7_giveVerdict 126 = .ok (.aload_n 1, 1) := by decide +kernel
theorem dX7_giveVerdict_127 : decode cX7_giveVerdict 127 = .ok (.getfield 212, 3) := by decide +kernel
theorem dX7_giveVerdict_130 : decode cX7_giveVerdict 130 = .ok (.getfield 174, 3) := by decide +kernel
theorem dX7_giveVerdict_133 : decode cX7_giveVerdict 133 = .ok (.putfield 216, 3) := by decide +kernel
theorem dX7_giveVerdict_136 : decode cX7_giveVerdict 136 = .ok (.aload_n 0, 1) := by decide +kernel
theorem dX7_giveVerdict_137 : decode cX7_giveVerdict 137 = .ok (.getfield 47, 3) := by decide +kernel
theorem dX7_giveVerdict_140 : decode cX7_giveVerdict 140 = .ok (.aload_n 1, 1) := by decide +kernel
theorem dX7_giveVerdict_141 : decode cX7_giveVerdict 141 = .ok (.getfield 205, 3) := by decide +kernel
theorem dX7_giveVerdict_144 : decode cX7_giveVerdict 144 = .ok (.dup2, 1) := by decide +kernel
theorem dX7_giveVerdict_145 : decode cX7_giveVerdict 145 = .ok (.iaload, 1) := by decide +kernel
theorem dX7_giveVerdict_146 : decode cX7_giveVerdict 146 = .ok (.iconst 1, 1) := by decide +kernel
theorem dX7_giveVerdict_147 : decode cX7_giveVerdict 147 = .ok (.iadd, 1) := by decide +kernel
theorem dX7_giveVerdict_148 : decode cX7_giveVerdict 148 = .ok (.iastore, 1) := by decide +kernel
theorem dX7_giveVerdict_149 : decode cX7_giveVerdict 149 = .ok (.return_, 1) := by decide +kernel
theorem dX7_hasSolved_0 : decode cX7_hasSolved 0 = .ok (.iconst 0, 1) := by decide +kernel
theorem dX7_hasSolved_1 : decode cX7_hasSolved 1 = .ok (.istore_n 3, 1) := by decide +kernel
theorem dX7_hasSolved_2 : decode cX7_hasSolved 2 = .ok (.iload_n 3, 1) := by decide +kernel
theorem dX7_hasSolved_3 : decode cX7_hasSolved 3 = .ok (.aload_n 0, 1) := by decide +kernel
theorem dX7_hasSolved_4 : decode cX7_hasSolved 4 = .ok (.getfield 37, 3) := by decide +kernel
theorem dX7_hasSolved_7 : decode cX7_hasSolved 7 = .ok (.invokevirtual 107, 3) := by decide +kernel
theorem dX7_hasSolved_10 : decode cX7_hasSolved 10 = .ok (.if_icmp .ge 56, 3) := by decide +kernel
theorem dX7_hasSolved_13 : decode cX7_hasSolved 13 = .ok (.aload_n 0, 1) := by decide +kernel
theorem dX7_hasSolved_14 : decode cX7_hasSolved 14 = .ok (.getfield 37, 3) := by decide +kernel
theorem dX7_hasSolved_17 : decode cX7_hasSolved 17 = .ok (.iload_n 3, 1) := by decide +kernel
theorem dX7_hasSolved_18 : decode cX7_hasSolved 18 = .ok (.invokevirtual 182, 3) := by decide +kernel
theorem dX7_hasSolved_21 : decode cX7_hasSolved 21 = .ok (.checkcast 191, 3) := by decide +kernel
theorem dX7_hasSolved_24 : decode cX7_hasSolved 24 = .ok (.astore 4, 2) := by decide +kernel
theorem dX7_hasSolved_26 : decode cX7_hasSolved 26 = .ok (.aload 4, 2) := by decide +kernel
theorem dX7_hasSolved_28 : decode cX7_hasSolved 28 = .ok (.getfield 205, 3) := by decide +kernel
theorem dX7_hasSolved_31 : decode cX7_hasSolved 31 = .ok (.iload_n 1, 1) := by decide +kernel
theorem dX7_hasSolved_32 : decode cX7_hasSolved 32 = .ok (.if_icmp .ne 28, 3) := by decide +kernel
theorem dX7_hasSolved_35 : decode cX7_hasSolved 35 = .ok (.aload 4, 2) := by decide +kernel
theorem dX7_hasSolved_37 : decode cX7_hasSolved 37 = .ok (.getfield 212, 3) := by decide +kernel
theorem dX7_hasSolved_40 : decode cX7_hasSolved 40 = .ok (.getfield 128, 3) := by decide +kernel
theorem dX7_hasSolved_43 : decode cX7_hasSolved 43 = .ok (.aload_n 2, 1) := by decide +kernel
theorem dX7_hasSolved_44 : decode cX7_hasSolved 44 = .ok (.getfield 128, 3) := by decide +kernel
theorem dX7_hasSolved_47 : decode cX7_hasSolved 47 = .ok (.if_icmp .ne 13, 3) := by decide +kernel
theorem dX7_hasSolved_50 : decode cX7_hasSolved 50 = .ok (.aload 4, 2) := by decide +kernel
theorem dX7_hasSolved_52 : decode cX7_hasSolved 52 = .ok (.getfield 224, 3) := by decide +kernel
theorem dX7_hasSolved_55 : decode cX7_hasSolved 55 = .ok (.ifCond .ne 5, 3) := by decide +kernel
theorem dX7_hasSolved_58 : decode cX7_hasSolved 58 = .ok (.iconst 1, 1) := by decide +kernel
theorem dX7_hasSolved_59 : decode cX7_hasSolved 59 = .ok (.ireturn, 1) := by decide +kernel
theorem dX7_hasSolved_60 : decode cX7_hasSolved 60 = .ok (.iinc 3 1, 3) := by decide +kernel
theorem dX7_hasSolved_63 : decode cX7_hasSolved 63 = .ok (.goto (-61), 3) := by decide +kernel
theorem dX7_hasSolved_66 : decode cX7_hasSolved 66 = .ok (.iconst 0, 1) := by decide +kernel
theorem dX7_hasSolved_67 : decode cX7_hasSolved 67 = .ok (.ireturn, 1) := by decide +kernel
theorem dX7_longestCommon_0 : decode cX7_longestCommon 0 = .ok (.aload_n 0, 1) := by decide +kernel
theorem dX7_longestCommon_1 : decode cX7_longestCommon 1 = .ok (.getfield 58, 3) := by decide +kernel
theorem dX7_longestCommon_4 : decode cX7_longestCommon 4 = .ok (.iconst 0, 1) := by decide +kernel
theorem dX7_longestCommon_5 : decode cX7_longestCommon 5 = .ok (.invokestatic 322, 3) := by decide +kernel
theorem dX7_longestCommon_8 : decode cX7_longestCommon 8 = .ok (.iconst 0, 1) := by decide +kernel
theorem dX7_longestCommon_9 : decode cX7_longestCommon 9 = .ok (.istore_n 3, 1) := by decide +kernel
theorem dX7_longestCommon_10 : decode cX7_longestCommon 10 = .ok (.iload_n 3, 1) := by decide +kernel
theorem dX7_longestCommon_11 : decode cX7_longestCommon 11 = .ok (.aload_n 1, 1) := by decide +kernel
theorem dX7_longestCommon_12 : decode cX7_longestCommon 12 = .ok (.getfield 72, 3) := by decide +kernel
theorem dX7_longestCommon_15 : decode cX7_longestCommon 15 = .ok (.if_icmp .ge 105, 3) := by decide +kernel
theorem dX7_longestCommon_18 : decode cX7_longestCommon 18 = .ok (.iconst 0, 1) := by decide +kernel
theorem dX7_longestCommon_19 : decode cX7_longestCommon 19 = .ok (.istore 4, 2) := by decide +kernel
theorem dX7_longestCommon_21 : decode cX7_longestCommon 21 = .ok (.iconst 0, 1) := by decide +kernel
theorem dX7_longestCommon_22 : decode cX7_longestCommon 22 = .ok (.istore 5, 2) := by decide +kernel
theorem dX7_longestCommon_24 : decode cX7_longestCommon 24 = .ok (.iload 5, 2) := by decide +kernel
theorem dX7_longestCommon_26 : decode cX7_longestCommon 26 = .ok (.aload_n 2, 1) := by decide +kernel
theorem dX7_longestCommon_27 : decode cX7_longestCommon 27 = .ok (.getfield 72, 3) := by decide +kernel
theorem dX7_longestCommon_30 : decode cX7_longestCommon 30 = .ok (.if_icmp .ge 84, 3) := by decide +kernel
theorem dX7_longestCommon_33 : decode cX7_longestCommon 33 = .ok (.iload 5, 2) := by decide +kernel
theorem dX7_longestCommon_35 : decode cX7_longestCommon 35 = .ok (.iconst 1, 1) := by decide +kernel
theorem dX7_longestCommon_36 : decode cX7_longestCommon 36 = .ok (.iadd, 1) := by decide +kernel
theorem dX7_longestCommon_37 : decode cX7_longestCommon 37 = .ok (.aload_n 0, 1) := by decide +kernel
theorem dX7_longestCommon_38 : decode cX7_longestCommon 38 = .ok (.getfield 58, 3) := by decide +kernel
theorem dX7_longestCommon_41 : decode cX7_longestCommon 41 = .ok (.arraylength, 1) := by decide +kernel
theorem dX7_longestCommon_42 : decode cX7_longestCommon 42 = .ok (.if_icmp .ge 72, 3) := by decide +kernel
theorem dX7_longestCommon_45 : decode cX7_longestCommon 45 = .ok (.aload_n 0, 1) := by decide +kernel
theorem dX7_longestCommon_46 : decode cX7_longestCommon 46 = .ok (.getfield 58, 3) := by decide +kernel
theorem dX7_longestCommon_49 : decode cX7_longestCommon 49 = .ok (.iload 5, 2) := by decide +kernel
theorem dX7_longestCommon_51 : decode cX7_longestCommon 51 = .ok (.iconst 1, 1) := by decide +kernel
theorem dX7_longestCommon_52 : decode cX7_longestCommon 52 = .ok (.iadd, 1) := by decide +kernel
theorem dX7_longestCommon_53 : decode cX7_longestCommon 53 = .ok (.iaload, 1) := by decide +kernel
theorem dX7_longestCommon_54 : decode cX7_longestCommon 54 = .ok (.istore 6, 2) := by decide +kernel
theorem dX7_longestCommon_56 : decode cX7_longestCommon 56 = .ok (.aload_n 1, 1) := by decide +kernel
theorem dX7_longestCommon_57 : decode cX7_longestCommon 57 = .ok (.iload_n 3, 1) := by decide +kernel
theorem dX7_longestCommon_58 : decode cX7_longestCommon 58 = .ok (.aload_n 2, 1) := by decide +kernel
theorem dX7_longestCommon_59 : decode cX7_longestCommon 59 = .ok (.iload 5, 2) := by decide +kernel
theorem dX7_longestCommon_61 : decode cX7_longestCommon 61 = .ok (.invokevirtual 328, 3) := by decide +kernel
theorem dX7_longestCommon_64 : decode cX7_longestCommon 64 = .ok (.ifCond .eq 19, 3) := by decide +kernel
theorem dX7_longestCommon_67 : decode cX7_longestCommon 67 = .ok (.aload_n 0, 1) := by decide +kernel
theorem dX7_longestCommon_68 : decode cX7_longestCommon 68 = .ok (.getfield 58, 3) := by decide +kernel
theorem dX7_longestCommon_71 : decode cX7_longestCommon 71 = .ok (.iload 5, 2) := by decide +kernel
theorem dX7_longestCommon_73 : decode cX7_longestCommon 73 = .ok (.iconst 1, 1) := by decide +kernel
theorem dX7_longestCommon_74 : decode cX7_longestCommon 74 = .ok (.iadd, 1) := by decide +kernel
theorem dX7_longestCommon_75 : decode cX7_longestCommon 75 = .ok (.iload 4, 2) := by decide +kernel
theorem dX7_longestCommon_77 : decode cX7_longestCommon 77 = .ok (.iconst 1, 1) := by decide +kernel
theorem dX7_longestCommon_78 : decode cX7_longestCommon 78 = .ok (.iadd, 1) := by decide +kernel
theorem dX7_longestCommon_79 : decode cX7_longestCommon 79 = .ok (.iastore, 1) := by decide +kernel
theorem dX7_longestCommon_80 : decode cX7_longestCommon 80 = .ok (.goto 24, 3) := by decide +kernel
theorem dX7_longestCommon_83 : decode cX7_longestCommon 83 = .ok (.aload_n 0, 1) := by decide +kernel
theorem dX7_longestCommon_84 : decode cX7_longestCommon 84 = .ok (.getfield 58, 3) := by decide +kernel
theorem dX7_longestCommon_87 : decode cX7_longestCommon 87 = .ok (.iload 5, 2) := by decide +kernel
theorem dX7_longestCommon_89 : decode cX7_longestCommon 89 = .ok (.iconst 1, 1) := by decide +kernel
theorem dX7_longestCommon_90 : decode cX7_longestCommon 90 = .ok (.iadd, 1) := by decide +kernel
theorem dX7_longestCommon_91 : decode cX7_longestCommon 91 = .ok (.iload 6, 2) := by decide +kernel
theorem dX7_longestCommon_93 : decode cX7_longestCommon 93 = .ok (.aload_n 0, 1) := by decide +kernel
theorem dX7_longestCommon_94 : decode cX7_longestCommon 94 = .ok (.getfield 58, 3) := by decide +kernel
theorem dX7_longestCommon_97 : decode cX7_longestCommon 97 = .ok (.iload 5, 2) := by decide +kernel
theorem dX7_longestCommon_99 : decode cX7_longestCommon 99 = .ok (.iaload, 1) := by decide +kernel
theorem dX7_longestCommon_100 : decode cX7_longestCommon 100 = .ok (.invokestatic 234, 3) := by decide +kernel
theorem dX7_longestCommon_103 : decode cX7_longestCommon 103 = .ok (.iastore, 1) := by decide +kernel
theorem dX7_longestCommon_104 : decode cX7_longestCommon 104 = .ok (.iload 6, 2) := by decide +kernel
theorem dX7_longestCommon_106 : decode cX7_longestCommon 106 = .ok (.istore 4, 2) := by decide +kernel
theorem dX7_longestCommon_108 : decode cX7_longestCommon 108 = .ok (.iinc 5 1, 3) := by decide +kernel
theorem dX7_longestCommon_111 : decode cX7_longestCommon 111 = .ok (.goto (-87), 3) := by decide +kernel
theorem dX7_longestCommon_114 : decode cX7_longestCommon 114 = .ok (.iinc 3 1, 3) := by decide +kernel
theorem dX7_longestCommon_117 : decode cX7_longestCommon 117 = .ok (.goto (-107), 3) := by decide +kernel
theorem dX7_longestCommon_120 : decode cX7_longestCommon 120 = .ok (.aload_n 0, 1) := by decide +kernel
theorem dX7_longestCommon_121 : decode cX7_longestCommon 121 = .ok (.getfield 58, 3) := by decide +kernel
theorem dX7_longestCommon_124 : decode cX7_longestCommon 124 = .ok (.aload_n 2, 1) := by decide +kernel
theorem dX7_longestCommon_125 : decode cX7_longestCommon 125 = .ok (.getfield 72, 3) := by decide +kernel
theorem dX7_longestCommon_128 : decode cX7_longestCommon 128 = .ok (.bipush 16, 2) := by decide +kernel
theorem dX7_longestCommon_130 : decode cX7_longestCommon 130 = .ok (.invokestatic 332, 3) := by decide +kernel
theorem dX7_longestCommon_133 : decode cX7_longestCommon 133 = .ok (.iaload, 1) := by decide +kernel
theorem dX7_longestCommon_134 : decode cX7_longestCommon 134 = .ok (.ireturn, 1) := by decide +kernel
theorem dX7_pairOf_0 : decode cX7_pairOf 0 = .ok (.iload_n 0, 1) := by decide +kernel
theorem dX7_pairOf_1 : decode cX7_pairOf 1 = .ok (.bipush 6, 2) := by decide +kernel
theorem dX7_pairOf_3 : decode cX7_pairOf 3 = .ok (.imul, 1) := by decide +kernel
theorem dX7_pairOf_4 : decode cX7_pairOf 4 = .ok (.iload_n 1, 1) := by decide +kernel
theorem dX7_pairOf_5 : decode cX7_pairOf 5 = .ok (.iadd, 1) := by decide +kernel
theorem dX7_pairOf_6 : decode cX7_pairOf 6 = .ok (.ireturn, 1) := by decide +kernel
theorem dX7_isLate_0 : decode cX7_isLate 0 = .ok (.aload_n 0, 1) := by decide +kernel
theorem dX7_isLate_1 : decode cX7_isLate 1 = .ok (.getfield 65, 3) := by decide +kernel
theorem dX7_isLate_4 : decode cX7_isLate 4 = .ok (.iconst (-1), 1) := by decide +kernel
theorem dX7_isLate_5 : decode cX7_isLate 5 = .ok (.if_icmp .eq 18, 3) := by decide +kernel
theorem dX7_isLate_8 : decode cX7_isLate 8 = .ok (.aload_n 1, 1) := by decide +kernel
theorem dX7_isLate_9 : decode cX7_isLate 9 = .ok (.getfield 233, 3) := by decide +kernel
theorem dX7_isLate_12 : decode cX7_isLate 12 = .ok (.aload_n 0, 1) := by decide +kernel
theorem dX7_isLate_13 : decode cX7_isLate 13 = .ok (.getfield 65, 3) := by decide +kernel
theorem dX7_isLate_16 : decode cX7_isLate 16 = .ok (.if_icmp .lt 7, 3) := by decide +kernel
theorem dX7_isLate_19 : decode cX7_isLate 19 = .ok (.iconst 1, 1) := by decide +kernel
theorem dX7_isLate_20 : decode cX7_isLate 20 = .ok (.goto 4, 3) := by decide +kernel
theorem dX7_isLate_23 : decode cX7_isLate 23 = .ok (.iconst 0, 1) := by decide +kernel
theorem dX7_isLate_24 : decode cX7_isLate 24 = .ok (.ireturn, 1) := by decide +kernel
theorem dX7_isHidden_0 : decode cX7_isHidden 0 = .ok (.aload_n 0, 1) := by decide +kernel
theorem dX7_isHidden_1 : decode cX7_isHidden 1 = .ok (.aload_n 1, 1) := by decide +kernel
theorem dX7_isHidden_2 : decode cX7_isHidden 2 = .ok (.invokevirtual 335, 3) := by decide +kernel
theorem dX7_isHidden_5 : decode cX7_isHidden 5 = .ok (.ifCond .eq 29, 3) := by decide +kernel
theorem dX7_isHidden_8 : decode cX7_isHidden 8 = .ok (.aload_n 0, 1) := by decide +kernel
theorem dX7_isHidden_9 : decode cX7_isHidden 9 = .ok (.getfield 54, 3) := by decide +kernel
theorem dX7_isHidden_12 : decode cX7_isHidden 12 = .ok (.aload_n 1, 1) := by decide +kernel
theorem dX7_isHidden_13 : decode cX7_isHidden 13 = .ok (.getfield 205, 3) := by decide +kernel
theorem dX7_isHidden_16 : decode cX7_isHidden 16 = .ok (.aload_n 1, 1) := by decide +kernel
theorem dX7_isHidden_17 : decode cX7_isHidden 17 = .ok (.getfield 212, 3) := by decide +kernel
theorem dX7_isHidden_20 : decode cX7_isHidden 20 = .ok (.getfield 128, 3) := by decide +kernel
theorem dX7_isHidden_23 : decode cX7_isHidden 23 = .ok (.invokestatic 255, 3) := by decide +kernel
theorem dX7_isHidden_26 : decode cX7_isHidden 26 = .ok (.baload, 1) := by decide +kernel
theorem dX7_isHidden_27 : decode cX7_isHidden 27 = .ok (.ifCond .ne 7, 3) := by decide +kernel
theorem dX7_isHidden_30 : decode cX7_isHidden 30 = .ok (.iconst 1, 1) := by decide +kernel
theorem dX7_isHidden_31 : decode cX7_isHidden 31 = .ok (.goto 4, 3) := by decide +kernel
theorem dX7_isHidden_34 : decode cX7_isHidden 34 = .ok (.iconst 0, 1) := by decide +kernel
theorem dX7_isHidden_35 : decode cX7_isHidden 35 = .ok (.ireturn, 1) := by decide +kernel
theorem dX7_countVerdicts_0 : decode cX7_countVerdicts 0 = .ok (.aload_n 0, 1) := by decide +kernel
theorem dX7_countVerdicts_1 : decode cX7_countVerdicts 1 = .ok (.getfield 43, 3) := by decide +kernel
theorem dX7_countVerdicts_4 : decode cX7_countVerdicts 4 = .ok (.invokevirtual 270, 3) := by decide +kernel
theorem dX7_countVerdicts_7 : decode cX7_countVerdicts 7 = .ok (.iconst 0, 1) := by decide +kernel
theorem dX7_countVerdicts_8 : decode cX7_countVerdicts 8 = .ok (.istore_n 2, 1) := by decide +kernel
theorem dX7_countVerdicts_9 : decode cX7_countVerdicts 9 = .ok (.iload_n 2, 1) := by decide +kernel
theorem dX7_countVerdicts_10 : decode cX7_countVerdicts 10 = .ok (.aload_n 0, 1) := by decide +kernel
theorem dX7_countVerdicts_11 : decode cX7_countVerdicts 11 = .ok (.getfield 37, 3) := by decide +kernel
theorem dX7_countVerdicts_14 : decode cX7_countVerdicts 14 = .ok (.invokevirtual 107, 3) := by decide +kernel
theorem dX7_countVerdicts_17 : decode cX7_countVerdicts 17 = .ok (.if_icmp .ge 60, 3) := by decide +kernel
theorem dX7_countVerdicts_20 : decode cX7_countVerdicts 20 = .ok (.aload_n 0, 1) := by decide +kernel
theorem dX7_countVerdicts_21 : decode cX7_countVerdicts 21 = .ok (.getfield 37, 3) := by decide +kernel
theorem dX7_countVerdicts_24 : decode cX7_countVerdicts 24 = .ok (.iload_n 2, 1) := by decide +kernel
theorem dX7_countVerdicts_25 : decode cX7_countVerdicts 25 = .ok (.invokevirtual 182, 3) := by decide +kernel
theorem dX7_countVerdicts_28 : decode cX7_countVerdicts 28 = .ok (.checkcast 191, 3) := by decide +kernel
theorem dX7_countVerdicts_31 : decode cX7_countVerdicts 31 = .ok (.astore_n 3, 1) := by decide +kernel
theorem dX7_countVerdicts_32 : decode cX7_countVerdicts 32 = .ok (.aload_n 3, 1) := by decide +kernel
theorem dX7_countVerdicts_33 : decode cX7_countVerdicts 33 = .ok (.invokevirtual 201, 3) := by decide +kernel
theorem dX7_countVerdicts_36 : decode cX7_countVerdicts 36 = .ok (.ifCond .ne 35, 3) := by decide +kernel
theorem dX7_countVerdicts_39 : decode cX7_countVerdicts 39 = .ok (.iload_n 1, 1) := by decide +kernel
theorem dX7_countVerdicts_40 : decode cX7_countVerdicts 40 = .ok (.ifCond .eq 11, 3) := by decide +kernel
theorem dX7_countVerdicts_43 : decode cX7_countVerdicts 43 = .ok (.aload_n 0, 1) := by decide +kernel
theorem dX7_countVerdicts_44 : decode cX7_countVerdicts 44 = .ok (.aload_n 3, 1) := by decide +kernel
theorem dX7_countVerdicts_45 : decode cX7_countVerdicts 45 = .ok (.invokevirtual 338, 3) := by decide +kernel
theorem dX7_countVerdicts_48 : decode cX7_countVerdicts 48 = .ok (.ifCond .ne 23, 3) := by decide +kernel
theorem dX7_countVerdicts_51 : decode cX7_countVerdicts 51 = .ok (.aload_n 0, 1) := by decide +kernel
theorem dX7_countVerdicts_52 : decode cX7_countVerdicts 52 = .ok (.getfield 43, 3) := by decide +kernel
theorem dX7_countVerdicts_55 : decode cX7_countVerdicts 55 = .ok (.aload_n 3, 1) := by decide +kernel
theorem dX7_countVerdicts_56 : decode cX7_countVerdicts 56 = .ok (.aload_n 3, 1) := by decide +kernel
theorem dX7_countVerdicts_57 : decode cX7_countVerdicts 57 = .ok (.getfield 224, 3) := by decide +kernel
theorem dX7_countVerdicts_60 : decode cX7_countVerdicts 60 = .ok (.ifCond .ne 7, 3) := by decide +kernel
theorem dX7_countVerdicts_63 : decode cX7_countVerdicts 63 = .ok (.iconst 1, 1) := by decide +kernel
theorem dX7_countVerdicts_64 : decode cX7_countVerdicts 64 = .ok (.goto 4, 3) := by decide +kernel
theorem dX7_countVerdicts_67 : decode cX7_countVerdicts 67 = .ok (.iconst 0, 1) := by decide +kernel
theorem dX7_countVerdicts_68 : decode cX7_countVerdicts 68 = .ok (.invokevirtual 277, 3) := by decide +kernel
theorem dX7_countVerdicts_71 : decode cX7_countVerdicts 71 = .ok (.iinc 2 1, 3) := by decide +kernel
theorem dX7_countVerdicts_74 : decode cX7_countVerdicts 74 = .ok (.goto (-65), 3) := by decide +kernel
theorem dX7_countVerdicts_77 : decode cX7_countVerdicts 77 = .ok (.return_, 1) := by decide +kernel
theorem dX7_lowestHidden_0 : decode cX7_lowestHidden 0 = .ok (.iconst (-1), 1) := by decide +kernel
theorem dX7_lowestHidden_1 : decode cX7_lowestHidden 1 = .ok (.istore_n 2, 1) := by decide +kernel
theorem dX7_lowestHidden_2 : decode cX7_lowestHidden 2 = .ok (.iconst 0, 1) := by decide +kernel
theorem dX7_lowestHidden_3 : decode cX7_lowestHidden 3 = .ok (.istore_n 3, 1) := by decide +kernel
theorem dX7_lowestHidden_4 : decode cX7_lowestHidden 4 = .ok (.iload_n 3, 1) := by decide +kernel
theorem dX7_lowestHidden_5 : decode cX7_lowestHidden 5 = .ok (.aload_n 0, 1) := by decide +kernel
theorem dX7_lowestHidden_6 : decode cX7_lowestHidden 6 = .ok (.getfield 37, 3) := by decide +kernel
theorem dX7_lowestHidden_9 : decode cX7_lowestHidden 9 = .ok (.invokevirtual 107, 3) := by decide +kernel
theorem dX7_lowestHidden_12 : decode cX7_lowestHidden 12 = .ok (.if_icmp .ge 75, 3) := by decide +kernel
theorem dX7_lowestHidden_15 : decode cX7_lowestHidden 15 = .ok (.aload_n 0, 1) := by decide +kernel
theorem dX7_lowestHidden_16 : decode cX7_lowestHidden 16 = .ok (.getfield 37, 3) := by decide +kernel
theorem dX7_lowestHidden_19 : decode cX7_lowestHidden 19 = .ok (.iload_n 3, 1) := by decide +kernel
theorem dX7_lowestHidden_20 : decode cX7_lowestHidden 20 = .ok (.invokevirtual 182, 3) := by decide +kernel
theorem dX7_lowestHidden_23 : decode cX7_lowestHidden 23 = .ok (.checkcast 191, 3) := by decide +kernel
theorem dX7_lowestHidden_26 : decode cX7_lowestHidden 26 = .ok (.astore 4, 2) := by decide +kernel
theorem dX7_lowestHidden_28 : decode cX7_lowestHidden 28 = .ok (.aload 4, 2) := by decide +kernel
theorem dX7_lowestHidden_30 : decode cX7_lowestHidden 30 = .ok (.getfield 205, 3) := by decide +kernel
theorem dX7_lowestHidden_33 : decode cX7_lowestHidden 33 = .ok (.iload_n 1, 1) := by decide +kernel
theorem dX7_lowestHidden_34 : decode cX7_lowestHidden 34 = .ok (.if_icmp .ne 47, 3) := by decide +kernel
theorem dX7_lowestHidden_37 : decode cX7_lowestHidden 37 = .ok (.aload 4, 2) := by decide +kernel
theorem dX7_lowestHidden_39 : decode cX7_lowestHidden 39 = .ok (.invokevirtual 201, 3) := by decide +kernel
theorem dX7_lowestHidden_42 : decode cX7_lowestHidden 42 = .ok (.ifCond .ne 39, 3) := by decide +kernel
theorem dX7_lowestHidden_45 : decode cX7_lowestHidden 45 = .ok (.aload_n 0, 1) := by decide +kernel
theorem dX7_lowestHidden_46 : decode cX7_lowestHidden 46 = .ok (.aload 4, 2) := by decide +kernel
theorem dX7_lowestHidden_48 : decode cX7_lowestHidden 48 = .ok (.invokevirtual 338, 3) := by decide +kernel
theorem dX7_lowestHidden_51 : decode cX7_lowestHidden 51 = .ok (.ifCond .eq 30, 3) := by decide +kernel
theorem dX7_lowestHidden_54 : decode cX7_lowestHidden 54 = .ok (.aload 4, 2) := by decide +kernel
theorem dX7_lowestHidden_56 : decode cX7_lowestHidden 56 = .ok (.getfield 212, 3) := by decide +kernel
theorem dX7_lowestHidden_59 : decode cX7_lowestHidden 59 = .ok (.getfield 128, 3) := by decide +kernel
theorem dX7_lowestHidden_62 : decode cX7_lowestHidden 62 = .ok (.istore 5, 2) := by decide +kernel
theorem dX7_lowestHidden_64 : decode cX7_lowestHidden 64 = .ok (.iload_n 2, 1) := by decide +kernel
theorem dX7_lowestHidden_65 : decode cX7_lowestHidden 65 = .ok (.iconst (-1), 1) := by decide +kernel
theorem dX7_lowestHidden_66 : decode cX7_lowestHidden 66 = .ok (.if_icmp .ne 8, 3) := by decide +kernel
theorem dX7_lowestHidden_69 : decode cX7_lowestHidden 69 = .ok (.iload 5, 2) := by decide +kernel
theorem dX7_lowestHidden_71 : decode cX7_lowestHidden 71 = .ok (.goto 9, 3) := by decide +kernel
theorem dX7_lowestHidden_74 : decode cX7_lowestHidden 74 = .ok (.iload_n 2, 1) := by decide +kernel
theorem dX7_lowestHidden_75 : decode cX7_lowestHidden 75 = .ok (.iload 5, 2) := by decide +kernel
theorem dX7_lowestHidden_77 : decode cX7_lowestHidden 77 = .ok (.invokestatic 332, 3) := by decide +kernel
theorem dX7_lowestHidden_80 : decode cX7_lowestHidden 80 = .ok (.istore_n 2, 1) := by decide +kernel
theorem dX7_lowestHidden_81 : decode cX7_lowestHidden 81 = .ok (.iinc 3 1, 3) := by decide +kernel
theorem dX7_lowestHidden_84 : decode cX7_lowestHidden 84 = .ok (.goto (-80), 3) := by decide +kernel
theorem dX7_lowestHidden_87 : decode cX7_lowestHidden 87 = .ok (.iload_n 2, 1) := by decide +kernel
theorem dX7_lowestHidden_88 : decode cX7_lowestHidden 88 = .ok (.ireturn, 1) := by decide +kernel
