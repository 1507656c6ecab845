theorem d_X9_init_0 : decode c_X9_init 0 = .ok (.aload_n 0, 1) := by decide +kernel
theorem d_X9_init_1 : decode c_X9_init 1 = .ok (.invokespecial 1, 3) := by decide +kernel
theorem d_X9_init_4 : decode c_X9_init 4 = .ok (.aload_n 0, 1) := by decide +kernel
theorem d_X9_init_5 : decode c_X9_init 5 = .ok (.new 7, 3) := by decide +kernel
theorem d_X9_init_8 : decode c_X9_init 8 = .ok (.dup, 1) := by decide +kernel
theorem d_X9_init_9 : decode c_X9_init 9 = .ok (.invokespecial 9, 3) := by decide +kernel
theorem d_X9_init_12 : decode c_X9_init 12 = .ok (.putfield 10, 3) := by decide +kernel
theorem d_X9_init_15 : decode c_X9_init 15 = .ok (.aload_n 0, 1) := by decide +kernel
theorem d_X9_init_16 : decode c_X9_init 16 = .ok (.bipush 8, 2) := by decide +kernel
theorem d_X9_init_18 : decode c_X9_init 18 = .ok (.anewarray 16, 3) := by decide +kernel
theorem d_X9_init_21 : decode c_X9_init 21 = .ok (.putfield 18, 3) := by decide +kernel
theorem d_X9_init_24 : decode c_X9_init 24 = .ok (.iconst 0, 1) := by decide +kernel
theorem d_X9_init_25 : decode c_X9_init 25 = .ok (.istore_n 1, 1) := by decide +kernel
theorem d_X9_init_26 : decode c_X9_init 26 = .ok (.iload_n 1, 1) := by decide +kernel
theorem d_X9_init_27 : decode c_X9_init 27 = .ok (.bipush 8, 2) := by decide +kernel
theorem d_X9_init_29 : decode c_X9_init 29 = .ok (.if_icmp .ge 22, 3) := by decide +kernel
theorem d_X9_init_32 : decode c_X9_init 32 = .ok (.aload_n 0, 1) := by decide +kernel
theorem d_X9_init_33 : decode c_X9_init 33 = .ok (.getfield 18, 3) := by decide +kernel
theorem d_X9_init_36 : decode c_X9_init 36 = .ok (.iload_n 1, 1) := by decide +kernel
theorem d_X9_init_37 : decode c_X9_init 37 = .ok (.new 16, 3) := by decide +kernel
theorem d_X9_init_40 : decode c_X9_init 40 = .ok (.dup, 1) := by decide +kernel
theorem d_X9_init_41 : decode c_X9_init 41 = .ok (.invokespecial 22, 3) := by decide +kernel
theorem d_X9_init_44 : decode c_X9_init 44 = .ok (.aastore, 1) := by decide +kernel
theorem d_X9_init_45 : decode c_X9_init 45 = .ok (.iinc 1 1, 3) := by decide +kernel
theorem d_X9_init_48 : decode c_X9_init 48 = .ok (.goto (-22), 3) := by decide +kernel
theorem d_X9_init_51 : decode c_X9_init 51 = .ok (.aload_n 0, 1) := by decide +kernel
theorem d_X9_init_52 : decode c_X9_init 52 = .ok (.iconst 4, 1) := by decide +kernel
theorem d_X9_init_53 : decode c_X9_init 53 = .ok (.anewarray 23, 3) := by decide +kernel
theorem d_X9_init_56 : decode c_X9_init 56 = .ok (.putfield 25, 3) := by decide +kernel
theorem d_X9_init_59 : decode c_X9_init 59 = .ok (.iconst 0, 1) := by decide +kernel
theorem d_X9_init_60 : decode c_X9_init 60 = .ok (.istore_n 1, 1) := by decide +kernel
theorem d_X9_init_61 : decode c_X9_init 61 = .ok (.iload_n 1, 1) := by decide +kernel
theorem d_X9_init_62 : decode c_X9_init 62 = .ok (.iconst 4, 1) := by decide +kernel
theorem d_X9_init_63 : decode c_X9_init 63 = .ok (.if_icmp .ge 22, 3) := by decide +kernel
theorem d_X9_init_66 : decode c_X9_init 66 = .ok (.aload_n 0, 1) := by decide +kernel
theorem d_X9_init_67 : decode c_X9_init 67 = .ok (.getfield 25, 3) := by decide +kernel
theorem d_X9_init_70 : decode c_X9_init 70 = .ok (.iload_n 1, 1) := by decide +kernel
theorem d_X9_init_71 : decode c_X9_init 71 = .ok (.new 23, 3) := by decide +kernel
theorem d_X9_init_74 : decode c_X9_init 74 = .ok (.dup, 1) := by decide +kernel
theorem d_X9_init_75 : decode c_X9_init 75 = .ok (.invokespecial 29, 3) := by decide +kernel
theorem d_X9_init_78 : decode c_X9_init 78 = .ok (.aastore, 1) := by decide +kernel
theorem d_X9_init_79 : decode c_X9_init 79 = .ok (.iinc 1 1, 3) := by decide +kernel
theorem d_X9_init_82 : decode c_X9_init 82 = .ok (.goto (-21), 3) := by decide +kernel
theorem d_X9_init_85 : decode c_X9_init 85 = .ok (.aload_n 0, 1) := by decide +kernel
theorem d_X9_init_86 : decode c_X9_init 86 = .ok (.iconst 4, 1) := by decide +kernel
theorem d_X9_init_87 : decode c_X9_init 87 = .ok (.anewarray 30, 3) := by decide +kernel
theorem d_X9_init_90 : decode c_X9_init 90 = .ok (.putfield 32, 3) := by decide +kernel
theorem d_X9_init_93 : decode c_X9_init 93 = .ok (.iconst 0, 1) := by decide +kernel
theorem d_X9_init_94 : decode c_X9_init 94 = .ok (.istore_n 1, 1) := by decide +kernel
theorem d_X9_init_95 : decode c_X9_init 95 = .ok (.iload_n 1, 1) := by decide +kernel
theorem d_X9_init_96 : decode c_X9_init 96 = .ok (.iconst 4, 1) := by decide +kernel
theorem d_X9_init_97 : decode c_X9_init 97 = .ok (.if_icmp .ge 22, 3) := by decide +kernel
theorem d_X9_init_100 : decode c_X9_init 100 = .ok (.aload_n 0, 1) := by decide +kernel
theorem d_X9_init_101 : decode c_X9_init 101 = .ok (.getfield 32, 3) := by decide +kernel
theorem d_X9_init_104 : decode c_X9_init 104 = .ok (.iload_n 1, 1) := by decide +kernel
theorem d_X9_init_105 : decode c_X9_init 105 = .ok (.new 30, 3) := by decide +kernel
theorem d_X9_init_108 : decode c_X9_init 108 = .ok (.dup, 1) := by decide +kernel
theorem d_X9_init_109 : decode c_X9_init 109 = .ok (.invokespecial 36, 3) := by decide +kernel
theorem d_X9_init_112 : decode c_X9_init 112 = .ok (.aastore, 1) := by decide +kernel
theorem d_X9_init_113 : decode c_X9_init 113 = .ok (.iinc 1 1, 3) := by decide +kernel
theorem d_X9_init_116 : decode c_X9_init 116 = .ok (.goto (-21), 3) := by decide +kernel
theorem d_X9_init_119 : decode c_X9_init 119 = .ok (.aload_n 0, 1) := by decide +kernel
theorem d_X9_init_120 : decode c_X9_init 120 = .ok (.new 37, 3) := by decide +kernel
theorem d_X9_init_123 : decode c_X9_init 123 = .ok (.dup, 1) := by decide +kernel
theorem d_X9_init_124 : decode c_X9_init 124 = .ok (.invokespecial 39, 3) := by decide +kernel
theorem d_X9_init_127 : decode c_X9_init 127 = .ok (.putfield 40, 3) := by decide +kernel
theorem d_X9_init_130 : decode c_X9_init 130 = .ok (.aload_n 0, 1) := by decide +kernel
theorem d_X9_init_131 : decode c_X9_init 131 = .ok (.new 37, 3) := by decide +kernel
theorem d_X9_init_134 : decode c_X9_init 134 = .ok (.dup, 1) := by decide +kernel
theorem d_X9_init_135 : decode c_X9_init 135 = .ok (.invokespecial 39, 3) := by decide +kernel
theorem d_X9_init_138 : decode c_X9_init 138 = .ok (.putfield 44, 3) := by decide +kernel
theorem d_X9_init_141 : decode c_X9_init 141 = .ok (.aload_n 0, 1) := by decide +kernel
theorem d_X9_init_142 : decode c_X9_init 142 = .ok (.new 47, 3) := by decide +kernel
theorem d_X9_init_145 : decode c_X9_init 145 = .ok (.dup, 1) := by decide +kernel
theorem d_X9_init_146 : decode c_X9_init 146 = .ok (.invokespecial 49, 3) := by decide +kernel
theorem d_X9_init_149 : decode c_X9_init 149 = .ok (.putfield 50, 3) := by decide +kernel
theorem d_X9_init_152 : decode c_X9_init 152 = .ok (.aload_n 0, 1) := by decide +kernel
theorem d_X9_init_153 : decode c_X9_init 153 = .ok (.new 54, 3) := by decide +kernel
theorem d_X9_init_156 : decode c_X9_init 156 = .ok (.dup, 1) := by decide +kernel
theorem d_X9_init_157 : decode c_X9_init 157 = .ok (.invokespecial 56, 3) := by decide +kernel
theorem d_X9_init_160 : decode c_X9_init 160 = .ok (.putfield 57, 3) := by decide +kernel
theorem d_X9_init_163 : decode c_X9_init 163 = .ok (.return_, 1) := by decide +kernel
theorem d_X9_clear_0 : decode c_X9_clear 0 = .ok (.aload_n 0, 1) := by decide +kernel
theorem d_X9_clear_1 : decode c_X9_clear 1 = .ok (.getfield 10, 3) := by decide +kernel
theorem d_X9_clear_4 : decode c_X9_clear 4 = .ok (.invokevirtual 61, 3) := by decide +kernel
theorem d_X9_clear_7 : decode c_X9_clear 7 = .ok (.aload_n 0, 1) := by decide +kernel
theorem d_X9_clear_8 : decode c_X9_clear 8 = .ok (.iconst 0, 1) := by decide +kernel
theorem d_X9_clear_9 : decode c_X9_clear 9 = .ok (.putfield 64, 3) := by decide +kernel
theorem d_X9_clear_12 : decode c_X9_clear 12 = .ok (.aload_n 0, 1) := by decide +kernel
theorem d_X9_clear_13 : decode c_X9_clear 13 = .ok (.iconst 0, 1) := by decide +kernel
theorem d_X9_clear_14 : decode c_X9_clear 14 = .ok (.putfield 68, 3) := by decide +kernel
theorem d_X9_clear_17 : decode c_X9_clear 17 = .ok (.aload_n 0, 1) := by decide +kernel
theorem d_X9_clear_18 : decode c_X9_clear 18 = .ok (.iconst 0, 1) := by decide +kernel
theorem d_X9_clear_19 : decode c_X9_clear 19 = .ok (.putfield 71, 3) := by decide +kernel
theorem d_X9_clear_22 : decode c_X9_clear 22 = .ok (.aload_n 0, 1) := by decide +kernel
theorem d_X9_clear_23 : decode c_X9_clear 23 = .ok (.iconst 0, 1) := by decide +kernel
theorem d_X9_clear_24 : decode c_X9_clear 24 = .ok (.putfield 74, 3) := by decide +kernel
theorem d_X9_clear_27 : decode c_X9_clear 27 = .ok (.aload_n 0, 1) := by decide +kernel
theorem d_X9_clear_28 : decode c_X9_clear 28 = .ok (.getfield 57, 3) := by decide +kernel
theorem d_X9_clear_31 : decode c_X9_clear 31 = .ok (.invokevirtual 78, 3) := by decide +kernel
theorem d_X9_clear_34 : decode c_X9_clear 34 = .ok (.return_, 1) := by decide +kernel
theorem d_X9_binding_0 : decode c_X9_binding 0 = .ok (.aload_n 0, 1) := by decide +kernel
theorem d_X9_binding_1 : decode c_X9_binding 1 = .ok (.getfield 74, 3) := by decide +kernel
theorem d_X9_binding_4 : decode c_X9_binding 4 = .ok (.ifCond .eq 6, 3) := by decide +kernel
theorem d_X9_binding_7 : decode c_X9_binding 7 = .ok (.bipush (-2), 2) := by decide +kernel
theorem d_X9_binding_9 : decode c_X9_binding 9 = .ok (.ireturn, 1) := by decide +kernel
theorem d_X9_binding_10 : decode c_X9_binding 10 = .ok (.aload_n 0, 1) := by decide +kernel
theorem d_X9_binding_11 : decode c_X9_binding 11 = .ok (.getfield 10, 3) := by decide +kernel
theorem d_X9_binding_14 : decode c_X9_binding 14 = .ok (.getfield 79, 3) := by decide +kernel
theorem d_X9_binding_17 : decode c_X9_binding 17 = .ok (.bipush 8, 2) := by decide +kernel
theorem d_X9_binding_19 : decode c_X9_binding 19 = .ok (.if_icmp .ne 6, 3) := by decide +kernel
theorem d_X9_binding_22 : decode c_X9_binding 22 = .ok (.bipush (-5), 2) := by decide +kernel
theorem d_X9_binding_24 : decode c_X9_binding 24 = .ok (.ireturn, 1) := by decide +kernel
theorem d_X9_binding_25 : decode c_X9_binding 25 = .ok (.aload_n 0, 1) := by decide +kernel
theorem d_X9_binding_26 : decode c_X9_binding 26 = .ok (.getfield 10, 3) := by decide +kernel
theorem d_X9_binding_29 : decode c_X9_binding 29 = .ok (.iload_n 1, 1) := by decide +kernel
theorem d_X9_binding_30 : decode c_X9_binding 30 = .ok (.invokevirtual 82, 3) := by decide +kernel
theorem d_X9_binding_33 : decode c_X9_binding 33 = .ok (.ireturn, 1) := by decide +kernel
theorem d_X9_carry_0 : decode c_X9_carry 0 = .ok (.aload_n 0, 1) := by decide +kernel
theorem d_X9_carry_1 : decode c_X9_carry 1 = .ok (.getfield 74, 3) := by decide +kernel
theorem d_X9_carry_4 : decode c_X9_carry 4 = .ok (.ifCond .eq 6, 3) := by decide +kernel
theorem d_X9_carry_7 : decode c_X9_carry 7 = .ok (.bipush (-2), 2) := by decide +kernel
theorem d_X9_carry_9 : decode c_X9_carry 9 = .ok (.ireturn, 1) := by decide +kernel
theorem d_X9_carry_10 : decode c_X9_carry 10 = .ok (.aload_n 0, 1) := by decide +kernel
theorem d_X9_carry_11 : decode c_X9_carry 11 = .ok (.getfield 10, 3) := by decide +kernel
theorem d_X9_carry_14 : decode c_X9_carry 14 = .ok (.iload_n 1, 1) := by decide +kernel
theorem d_X9_carry_15 : decode c_X9_carry 15 = .ok (.invokevirtual 86, 3) := by decide +kernel
theorem d_X9_carry_18 : decode c_X9_carry 18 = .ok (.ifCond .eq 14, 3) := by decide +kernel
theorem d_X9_carry_21 : decode c_X9_carry 21 = .ok (.aload_n 0, 1) := by decide +kernel
theorem d_X9_carry_22 : decode c_X9_carry 22 = .ok (.getfield 10, 3) := by decide +kernel
theorem d_X9_carry_25 : decode c_X9_carry 25 = .ok (.iload_n 2, 1) := by decide +kernel
theorem d_X9_carry_26 : decode c_X9_carry 26 = .ok (.invokevirtual 86, 3) := by decide +kernel
theorem d_X9_carry_29 : decode c_X9_carry 29 = .ok (.ifCond .ne 6, 3) := by decide +kernel
theorem d_X9_carry_32 : decode c_X9_carry 32 = .ok (.bipush (-3), 2) := by decide +kernel
theorem d_X9_carry_34 : decode c_X9_carry 34 = .ok (.ireturn, 1) := by decide +kernel
theorem d_X9_carry_35 : decode c_X9_carry 35 = .ok (.aload_n 0, 1) := by decide +kernel
theorem d_X9_carry_36 : decode c_X9_carry 36 = .ok (.getfield 10, 3) := by decide +kernel
theorem d_X9_carry_39 : decode c_X9_carry 39 = .ok (.getfield 90, 3) := by decide +kernel
theorem d_X9_carry_42 : decode c_X9_carry 42 = .ok (.invokevirtual 94, 3) := by decide +kernel
theorem d_X9_carry_45 : decode c_X9_carry 45 = .ok (.ifCond .eq 6, 3) := by decide +kernel
theorem d_X9_carry_48 : decode c_X9_carry 48 = .ok (.bipush (-5), 2) := by decide +kernel
theorem d_X9_carry_50 : decode c_X9_carry 50 = .ok (.ireturn, 1) := by decide +kernel
theorem d_X9_carry_51 : decode c_X9_carry 51 = .ok (.aload_n 0, 1) := by decide +kernel
theorem d_X9_carry_52 : decode c_X9_carry 52 = .ok (.getfield 10, 3) := by decide +kernel
theorem d_X9_carry_55 : decode c_X9_carry 55 = .ok (.iload_n 1, 1) := by decide +kernel
theorem d_X9_carry_56 : decode c_X9_carry 56 = .ok (.iload_n 2, 1) := by decide +kernel
theorem d_X9_carry_57 : decode c_X9_carry 57 = .ok (.iload_n 3, 1) := by decide +kernel
theorem d_X9_carry_58 : decode c_X9_carry 58 = .ok (.invokevirtual 100, 3) := by decide +kernel
theorem d_X9_carry_61 : decode c_X9_carry 61 = .ok (.iconst 0, 1) := by decide +kernel
theorem d_X9_carry_62 : decode c_X9_carry 62 = .ok (.ireturn, 1) := by decide +kernel
theorem d_X9_interceptor_0 : decode c_X9_interceptor 0 = .ok (.aload_n 0, 1) := by decide +kernel
theorem d_X9_interceptor_1 : decode c_X9_interceptor 1 = .ok (.getfield 74, 3) := by decide +kernel
theorem d_X9_interceptor_4 : decode c_X9_interceptor 4 = .ok (.ifCond .eq 6, 3) := by decide +kernel
theorem d_X9_interceptor_7 : decode c_X9_interceptor 7 = .ok (.bipush (-2), 2) := by decide +kernel
theorem d_X9_interceptor_9 : decode c_X9_interceptor 9 = .ok (.ireturn, 1) := by decide +kernel
theorem d_X9_interceptor_10 : decode c_X9_interceptor 10 = .ok (.iload_n 1, 1) := by decide +kernel
theorem d_X9_interceptor_11 : decode c_X9_interceptor 11 = .ok (.bipush 9, 2) := by decide +kernel
theorem d_X9_interceptor_13 : decode c_X9_interceptor 13 = .ok (.invokestatic 104, 3) := by decide +kernel
theorem d_X9_interceptor_16 : decode c_X9_interceptor 16 = .ok (.ifCond .eq 20, 3) := by decide +kernel
theorem d_X9_interceptor_19 : decode c_X9_interceptor 19 = .ok (.iload_n 2, 1) := by decide +kernel
theorem d_X9_interceptor_20 : decode c_X9_interceptor 20 = .ok (.bipush 15, 2) := by decide +kernel
theorem d_X9_interceptor_22 : decode c_X9_interceptor 22 = .ok (.invokestatic 104, 3) := by decide +kernel
theorem d_X9_interceptor_25 : decode c_X9_interceptor 25 = .ok (.ifCond .eq 11, 3) := by decide +kernel
theorem d_X9_interceptor_28 : decode c_X9_interceptor 28 = .ok (.iload_n 3, 1) := by decide +kernel
theorem d_X9_interceptor_29 : decode c_X9_interceptor 29 = .ok (.iconst 5, 1) := by decide +kernel
theorem d_X9_interceptor_30 : decode c_X9_interceptor 30 = .ok (.invokestatic 104, 3) := by decide +kernel
theorem d_X9_interceptor_33 : decode c_X9_interceptor 33 = .ok (.ifCond .ne 6, 3) := by decide +kernel
theorem d_X9_interceptor_36 : decode c_X9_interceptor 36 = .ok (.bipush (-4), 2) := by decide +kernel
theorem d_X9_interceptor_38 : decode c_X9_interceptor 38 = .ok (.ireturn, 1) := by decide +kernel
theorem d_X9_interceptor_39 : decode c_X9_interceptor 39 = .ok (.aload_n 0, 1) := by decide +kernel
theorem d_X9_interceptor_40 : decode c_X9_interceptor 40 = .ok (.getfield 64, 3) := by decide +kernel
theorem d_X9_interceptor_43 : decode c_X9_interceptor 43 = .ok (.bipush 8, 2) := by decide +kernel
theorem d_X9_interceptor_45 : decode c_X9_interceptor 45 = .ok (.if_icmp .ne 6, 3) := by decide +kernel
theorem d_X9_interceptor_48 : decode c_X9_interceptor 48 = .ok (.bipush (-5), 2) := by decide +kernel
theorem d_X9_interceptor_50 : decode c_X9_interceptor 50 = .ok (.ireturn, 1) := by decide +kernel
theorem d_X9_interceptor_51 : decode c_X9_interceptor 51 = .ok (.aload_n 0, 1) := by decide +kernel
theorem d_X9_interceptor_52 : decode c_X9_interceptor 52 = .ok (.getfield 18, 3) := by decide +kernel
theorem d_X9_interceptor_55 : decode c_X9_interceptor 55 = .ok (.aload_n 0, 1) := by decide +kernel
theorem d_X9_interceptor_56 : decode c_X9_interceptor 56 = .ok (.getfield 64, 3) := by decide +kernel
theorem d_X9_interceptor_59 : decode c_X9_interceptor 59 = .ok (.aaload, 1) := by decide +kernel
theorem d_X9_interceptor_60 : decode c_X9_interceptor 60 = .ok (.iload_n 1, 1) := by decide +kernel
theorem d_X9_interceptor_61 : decode c_X9_interceptor 61 = .ok (.iload_n 2, 1) := by decide +kernel
theorem d_X9_interceptor_62 : decode c_X9_interceptor 62 = .ok (.iload_n 3, 1) := by decide +kernel
theorem d_X9_interceptor_63 : decode c_X9_interceptor 63 = .ok (.invokevirtual 108, 3) := by decide +kernel
theorem d_X9_interceptor_66 : decode c_X9_interceptor 66 = .ok (.aload_n 0, 1) := by decide +kernel
theorem d_X9_interceptor_67 : decode c_X9_interceptor 67 = .ok (.dup, 1) := by decide +kernel
theorem d_X9_interceptor_68 : decode c_X9_interceptor 68 = .ok (.getfield 64, 3) := by decide +kernel
theorem d_X9_interceptor_71 : decode c_X9_interceptor 71 = .ok (.iconst 1, 1) := by decide +kernel
theorem d_X9_interceptor_72 : decode c_X9_interceptor 72 = .ok (.iadd, 1) := by decide +kernel
theorem d_X9_interceptor_73 : decode c_X9_interceptor 73 = .ok (.putfield 64, 3) := by decide +kernel
theorem d_X9_interceptor_76 : decode c_X9_interceptor 76 = .ok (.aload_n 0, 1) := by decide +kernel
theorem d_X9_interceptor_77 : decode c_X9_interceptor 77 = .ok (.getfield 64, 3) := by decide +kernel
theorem d_X9_interceptor_80 : decode c_X9_interceptor 80 = .ok (.iconst 1, 1) := by decide +kernel
theorem d_X9_interceptor_81 : decode c_X9_interceptor 81 = .ok (.isub, 1) := by decide +kernel
theorem d_X9_interceptor_82 : decode c_X9_interceptor 82 = .ok (.ireturn, 1) := by decide +kernel
theorem d_X9_decorator_0 : decode c_X9_decorator 0 = .ok (.aload_n 0, 1) := by decide +kernel
theorem d_X9_decorator_1 : decode c_X9_decorator 1 = .ok (.getfield 74, 3) := by decide +kernel
theorem d_X9_decorator_4 : decode c_X9_decorator 4 = .ok (.ifCond .eq 6, 3) := by decide +kernel
theorem d_X9_decorator_7 : decode c_X9_decorator 7 = .ok (.bipush (-2), 2) := by decide +kernel
theorem d_X9_decorator_9 : decode c_X9_decorator 9 = .ok (.ireturn, 1) := by decide +kernel
theorem d_X9_decorator_10 : decode c_X9_decorator 10 = .ok (.iload_n 1, 1) := by decide +kernel
theorem d_X9_decorator_11 : decode c_X9_decorator 11 = .ok (.bipush 9, 2) := by decide +kernel
theorem d_X9_decorator_13 : decode c_X9_decorator 13 = .ok (.invokestatic 104, 3) := by decide +kernel
theorem d_X9_decorator_16 : decode c_X9_decorator 16 = .ok (.ifCond .eq 30, 3) := by decide +kernel
theorem d_X9_decorator_19 : decode c_X9_decorator 19 = .ok (.iload_n 2, 1) := by decide +kernel
theorem d_X9_decorator_20 : decode c_X9_decorator 20 = .ok (.bipush 7, 2) := by decide +kernel
theorem d_X9_decorator_22 : decode c_X9_decorator 22 = .ok (.invokestatic 104, 3) := by decide +kernel
theorem d_X9_decorator_25 : decode c_X9_decorator 25 = .ok (.ifCond .eq 21, 3) := by decide +kernel
theorem d_X9_decorator_28 : decode c_X9_decorator 28 = .ok (.iload_n 3, 1) := by decide +kernel
theorem d_X9_decorator_29 : decode c_X9_decorator 29 = .ok (.bipush 15, 2) := by decide +kernel
theorem d_X9_decorator_31 : decode c_X9_decorator 31 = .ok (.invokestatic 104, 3) := by decide +kernel
theorem d_X9_decorator_34 : decode c_X9_decorator 34 = .ok (.ifCond .eq 12, 3) := by decide +kernel
theorem d_X9_decorator_37 : decode c_X9_decorator 37 = .ok (.iload 4, 2) := by decide +kernel
theorem d_X9_decorator_39 : decode c_X9_decorator 39 = .ok (.iconst 5, 1) := by decide +kernel
theorem d_X9_decorator_40 : decode c_X9_decorator 40 = .ok (.invokestatic 104, 3) := by decide +kernel
theorem d_X9_decorator_43 : decode c_X9_decorator 43 = .ok (.ifCond .ne 6, 3) := by decide +kernel
theorem d_X9_decorator_46 : decode c_X9_decorator 46 = .ok (.bipush (-4), 2) := by decide +kernel
theorem d_X9_decorator_48 : decode c_X9_decorator 48 = .ok (.ireturn, 1) := by decide +kernel
theorem d_X9_decorator_49 : decode c_X9_decorator 49 = .ok (.aload_n 0, 1) := by decide +kernel
theorem d_X9_decorator_50 : decode c_X9_decorator 50 = .ok (.getfield 68, 3) := by decide +kernel
theorem d_X9_decorator_53 : decode c_X9_decorator 53 = .ok (.iconst 4, 1) := by decide +kernel
theorem d_X9_decorator_54 : decode c_X9_decorator 54 = .ok (.if_icmp .ne 6, 3) := by decide +kernel
theorem d_X9_decorator_57 : decode c_X9_decorator 57 = .ok (.bipush (-5), 2) := by decide +kernel
theorem d_X9_decorator_59 : decode c_X9_decorator 59 = .ok (.ireturn, 1) := by decide +kernel
theorem d_X9_decorator_60 : decode c_X9_decorator 60 = .ok (.aload_n 0, 1) := by decide +kernel
theorem d_X9_decorator_61 : decode c_X9_decorator 61 = .ok (.getfield 25, 3) := by decide +kernel
theorem d_X9_decorator_64 : decode c_X9_decorator 64 = .ok (.aload_n 0, 1) := by decide +kernel
theorem d_X9_decorator_65 : decode c_X9_decorator 65 = .ok (.getfield 68, 3) := by decide +kernel
theorem d_X9_decorator_68 : decode c_X9_decorator 68 = .ok (.aaload, 1) := by decide +kernel
theorem d_X9_decorator_69 : decode c_X9_decorator 69 = .ok (.iload_n 1, 1) := by decide +kernel
theorem d_X9_decorator_70 : decode c_X9_decorator 70 = .ok (.iload_n 2, 1) := by decide +kernel
theorem d_X9_decorator_71 : decode c_X9_decorator 71 = .ok (.iload_n 3, 1) := by decide +kernel
theorem d_X9_decorator_72 : decode c_X9_decorator 72 = .ok (.iload 4, 2) := by decide +kernel
theorem d_X9_decorator_74 : decode c_X9_decorator 74 = .ok (.invokevirtual 110, 3) := by decide +kernel
theorem d_X9_decorator_77 : decode c_X9_decorator 77 = .ok (.aload_n 0, 1) := by decide +kernel
theorem d_X9_decorator_78 : decode c_X9_decorator 78 = .ok (.dup, 1) := by decide +kernel
theorem d_X9_decorator_79 : decode c_X9_decorator 79 = .ok (.getfield 68, 3) := by decide +kernel
theorem d_X9_decorator_82 : decode c_X9_decorator 82 = .ok (.iconst 1, 1) := by decide +kernel
theorem d_X9_decorator_83 : decode c_X9_decorator 83 = .ok (.iadd, 1) := by decide +kernel
theorem d_X9_decorator_84 : decode c_X9_decorator 84 = .ok (.putfield 68, 3) := by decide +kernel
theorem d_X9_decorator_87 : decode c_X9_decorator 87 = .ok (.aload_n 0, 1) := by decide +kernel
theorem d_X9_decorator_88 : decode c_X9_decorator 88 = .ok (.getfield 68, 3) := by decide +kernel
theorem d_X9_decorator_91 : decode c_X9_decorator 91 = .ok (.iconst 1, 1) := by decide +kernel
theorem d_X9_decorator_92 : decode c_X9_decorator 92 = .ok (.isub, 1) := by decide +kernel
theorem d_X9_decorator_93 : decode c_X9_decorator 93 = .ok (.ireturn, 1) := by decide +kernel
theorem d_X9_component_0 : decode c_X9_component 0 = .ok (.aload_n 0, 1) := by decide +kernel
theorem d_X9_component_1 : decode c_X9_component 1 = .ok (.getfield 74, 3) := by decide +kernel
theorem d_X9_component_4 : decode c_X9_component 4 = .ok (.ifCond .eq 6, 3) := by decide +kernel
theorem d_X9_component_7 : decode c_X9_component 7 = .ok (.bipush (-2), 2) := by decide +kernel
theorem d_X9_component_9 : decode c_X9_component 9 = .ok (.ireturn, 1) := by decide +kernel
theorem d_X9_component_10 : decode c_X9_component 10 = .ok (.iload_n 1, 1) := by decide +kernel
theorem d_X9_component_11 : decode c_X9_component 11 = .ok (.sipush 255, 3) := by decide +kernel
theorem d_X9_component_14 : decode c_X9_component 14 = .ok (.invokestatic 104, 3) := by decide +kernel
theorem d_X9_component_17 : decode c_X9_component 17 = .ok (.ifCond .ne 6, 3) := by decide +kernel
theorem d_X9_component_20 : decode c_X9_component 20 = .ok (.bipush (-4), 2) := by decide +kernel
theorem d_X9_component_22 : decode c_X9_component 22 = .ok (.ireturn, 1) := by decide +kernel
theorem d_X9_component_23 : decode c_X9_component 23 = .ok (.aload_n 0, 1) := by decide +kernel
theorem d_X9_component_24 : decode c_X9_component 24 = .ok (.getfield 71, 3) := by decide +kernel
theorem d_X9_component_27 : decode c_X9_component 27 = .ok (.iconst 4, 1) := by decide +kernel
theorem d_X9_component_28 : decode c_X9_component 28 = .ok (.if_icmp .ne 6, 3) := by decide +kernel
theorem d_X9_component_31 : decode c_X9_component 31 = .ok (.bipush (-5), 2) := by decide +kernel
theorem d_X9_component_33 : decode c_X9_component 33 = .ok (.ireturn, 1) := by decide +kernel
theorem d_X9_component_34 : decode c_X9_component 34 = .ok (.aload_n 0, 1) := by decide +kernel
theorem d_X9_component_35 : decode c_X9_component 35 = .ok (.getfield 32, 3) := by decide +kernel
theorem d_X9_component_38 : decode c_X9_component 38 = .ok (.aload_n 0, 1) := by decide +kernel
theorem d_X9_component_39 : decode c_X9_component 39 = .ok (.getfield 71, 3) := by decide +kernel
theorem d_X9_component_42 : decode c_X9_component 42 = .ok (.aaload, 1) := by decide +kernel
theorem d_X9_component_43 : decode c_X9_component 43 = .ok (.iload_n 1, 1) := by decide +kernel
theorem d_X9_component_44 : decode c_X9_component 44 = .ok (.invokevirtual 113, 3) := by decide +kernel
theorem d_X9_component_47 : decode c_X9_component 47 = .ok (.aload_n 0, 1) := by decide +kernel
theorem d_X9_component_48 : decode c_X9_component 48 = .ok (.dup, 1) := by decide +kernel
theorem d_X9_component_49 : decode c_X9_component 49 = .ok (.getfield 71, 3) := by decide +kernel
theorem d_X9_component_52 : decode c_X9_component 52 = .ok (.iconst 1, 1) := by decide +kernel
theorem d_X9_component_53 : decode c_X9_component 53 = .ok (.iadd, 1) := by decide +kernel
theorem d_X9_component_54 : decode c_X9_component 54 = .ok (.putfield 71, 3) := by decide +kernel
theorem d_X9_component_57 : decode c_X9_component 57 = .ok (.aload_n 0, 1) := by decide +kernel
theorem d_X9_component_58 : decode c_X9_component 58 = .ok (.getfield 71, 3) := by decide +kernel
theorem d_X9_component_61 : decode c_X9_component 61 = .ok (.iconst 1, 1) := by decide +kernel
theorem d_X9_component_62 : decode c_X9_component 62 = .ok (.isub, 1) := by decide +kernel
theorem d_X9_component_63 : decode c_X9_component 63 = .ok (.ireturn, 1) := by decide +kernel
theorem d_X9_bindInterceptor_0 : decode c_X9_bindInterceptor 0 = .ok (.aload_n 0, 1) := by decide +kernel
theorem d_X9_bindInterceptor_1 : decode c_X9_bindInterceptor 1 = .ok (.getfield 74, 3) := by decide +kernel
theorem d_X9_bindInterceptor_4 : decode c_X9_bindInterceptor 4 = .ok (.ifCond .eq 6, 3) := by decide +kernel
theorem d_X9_bindInterceptor_7 : decode c_X9_bindInterceptor 7 = .ok (.bipush (-2), 2) := by decide +kernel
theorem d_X9_bindInterceptor_9 : decode c_X9_bindInterceptor 9 = .ok (.ireturn, 1) := by decide +kernel
theorem d_X9_bindInterceptor_10 : decode c_X9_bindInterceptor 10 = .ok (.aload_n 0, 1) := by decide +kernel
theorem d_X9_bindInterceptor_11 : decode c_X9_bindInterceptor 11 = .ok (.iload_n 1, 1) := by decide +kernel
theorem d_X9_bindInterceptor_12 : decode c_X9_bindInterceptor 12 = .ok (.invokevirtual 116, 3) := by decide +kernel
theorem d_X9_bindInterceptor_15 : decode c_X9_bindInterceptor 15 = .ok (.ifCond .eq 14, 3) := by decide +kernel
theorem d_X9_bindInterceptor_18 : decode c_X9_bindInterceptor 18 = .ok (.aload_n 0, 1) := by decide +kernel
theorem d_X9_bindInterceptor_19 : decode c_X9_bindInterceptor 19 = .ok (.getfield 10, 3) := by decide +kernel
theorem d_X9_bindInterceptor_22 : decode c_X9_bindInterceptor 22 = .ok (.iload_n 2, 1) := by decide +kernel
theorem d_X9_bindInterceptor_23 : decode c_X9_bindInterceptor 23 = .ok (.invokevirtual 86, 3) := by decide +kernel
theorem d_X9_bindInterceptor_26 : decode c_X9_bindInterceptor 26 = .ok (.ifCond .ne 6, 3) := by decide +kernel
theorem d_X9_bindInterceptor_29 : decode c_X9_bindInterceptor 29 = .ok (.bipush (-3), 2) := by decide +kernel
theorem d_X9_bindInterceptor_31 : decode c_X9_bindInterceptor 31 = .ok (.ireturn, 1) := by decide +kernel
theorem d_X9_bindInterceptor_32 : decode c_X9_bindInterceptor 32 = .ok (.aload_n 0, 1) := by decide +kernel
theorem d_X9_bindInterceptor_33 : decode c_X9_bindInterceptor 33 = .ok (.aload_n 0, 1) := by decide +kernel
theorem d_X9_bindInterceptor_34 : decode c_X9_bindInterceptor 34 = .ok (.getfield 18, 3) := by decide +kernel
theorem d_X9_bindInterceptor_37 : decode c_X9_bindInterceptor 37 = .ok (.iload_n 1, 1) := by decide +kernel
theorem d_X9_bindInterceptor_38 : decode c_X9_bindInterceptor 38 = .ok (.aaload, 1) := by decide +kernel
theorem d_X9_bindInterceptor_39 : decode c_X9_bindInterceptor 39 = .ok (.getfield 119, 3) := by decide +kernel
theorem d_X9_bindInterceptor_42 : decode c_X9_bindInterceptor 42 = .ok (.iload_n 2, 1) := by decide +kernel
theorem d_X9_bindInterceptor_43 : decode c_X9_bindInterceptor 43 = .ok (.iload_n 3, 1) := by decide +kernel
theorem d_X9_bindInterceptor_44 : decode c_X9_bindInterceptor 44 = .ok (.invokevirtual 122, 3) := by decide +kernel
theorem d_X9_bindInterceptor_47 : decode c_X9_bindInterceptor 47 = .ok (.ireturn, 1) := by decide +kernel
theorem d_X9_bind_0 : decode c_X9_bind 0 = .ok (.aload_n 0, 1) := by decide +kernel
theorem d_X9_bind_1 : decode c_X9_bind 1 = .ok (.getfield 74, 3) := by decide +kernel
theorem d_X9_bind_4 : decode c_X9_bind 4 = .ok (.ifCond .eq 6, 3) := by decide +kernel
theorem d_X9_bind_7 : decode c_X9_bind 7 = .ok (.bipush (-2), 2) := by decide +kernel
theorem d_X9_bind_9 : decode c_X9_bind 9 = .ok (.ireturn, 1) := by decide +kernel
theorem d_X9_bind_10 : decode c_X9_bind 10 = .ok (.aload_n 0, 1) := by decide +kernel
theorem d_X9_bind_11 : decode c_X9_bind 11 = .ok (.iload_n 1, 1) := by decide +kernel
theorem d_X9_bind_12 : decode c_X9_bind 12 = .ok (.iload_n 2, 1) := by decide +kernel
theorem d_X9_bind_13 : decode c_X9_bind 13 = .ok (.invokevirtual 126, 3) := by decide +kernel
theorem d_X9_bind_16 : decode c_X9_bind 16 = .ok (.ifCond .eq 14, 3) := by decide +kernel
theorem d_X9_bind_19 : decode c_X9_bind 19 = .ok (.aload_n 0, 1) := by decide +kernel
theorem d_X9_bind_20 : decode c_X9_bind 20 = .ok (.getfield 10, 3) := by decide +kernel
theorem d_X9_bind_23 : decode c_X9_bind 23 = .ok (.iload_n 3, 1) := by decide +kernel
theorem d_X9_bind_24 : decode c_X9_bind 24 = .ok (.invokevirtual 86, 3) := by decide +kernel
theorem d_X9_bind_27 : decode c_X9_bind 27 = .ok (.ifCond .ne 6, 3) := by decide +kernel
theorem d_X9_bind_30 : decode c_X9_bind 30 = .ok (.bipush (-3), 2) := by decide +kernel
theorem d_X9_bind_32 : decode c_X9_bind 32 = .ok (.ireturn, 1) := by decide +kernel
theorem d_X9_bind_33 : decode c_X9_bind 33 = .ok (.aload_n 0, 1) := by decide +kernel
theorem d_X9_bind_34 : decode c_X9_bind 34 = .ok (.aload_n 0, 1) := by decide +kernel
theorem d_X9_bind_35 : decode c_X9_bind 35 = .ok (.getfield 32, 3) := by decide +kernel
theorem d_X9_bind_38 : decode c_X9_bind 38 = .ok (.iload_n 1, 1) := by decide +kernel
theorem d_X9_bind_39 : decode c_X9_bind 39 = .ok (.aaload, 1) := by decide +kernel
theorem d_X9_bind_40 : decode c_X9_bind 40 = .ok (.iload_n 2, 1) := by decide +kernel
theorem d_X9_bind_41 : decode c_X9_bind 41 = .ok (.invokevirtual 129, 3) := by decide +kernel
theorem d_X9_bind_44 : decode c_X9_bind 44 = .ok (.getfield 133, 3) := by decide +kernel
theorem d_X9_bind_47 : decode c_X9_bind 47 = .ok (.iload_n 3, 1) := by decide +kernel
theorem d_X9_bind_48 : decode c_X9_bind 48 = .ok (.iload 4, 2) := by decide +kernel
theorem d_X9_bind_50 : decode c_X9_bind 50 = .ok (.invokevirtual 122, 3) := by decide +kernel
theorem d_X9_bind_53 : decode c_X9_bind 53 = .ok (.ireturn, 1) := by decide +kernel
theorem d_X9_list_0 : decode c_X9_list 0 = .ok (.aload_n 0, 1) := by decide +kernel
theorem d_X9_list_1 : decode c_X9_list 1 = .ok (.getfield 74, 3) := by decide +kernel
theorem d_X9_list_4 : decode c_X9_list 4 = .ok (.ifCond .eq 6, 3) := by decide +kernel
theorem d_X9_list_7 : decode c_X9_list 7 = .ok (.bipush (-2), 2) := by decide +kernel
theorem d_X9_list_9 : decode c_X9_list 9 = .ok (.ireturn, 1) := by decide +kernel
theorem d_X9_list_10 : decode c_X9_list 10 = .ok (.aload_n 0, 1) := by decide +kernel
theorem d_X9_list_11 : decode c_X9_list 11 = .ok (.iload_n 1, 1) := by decide +kernel
theorem d_X9_list_12 : decode c_X9_list 12 = .ok (.iload_n 2, 1) := by decide +kernel
theorem d_X9_list_13 : decode c_X9_list 13 = .ok (.invokevirtual 126, 3) := by decide +kernel
theorem d_X9_list_16 : decode c_X9_list 16 = .ok (.ifCond .eq 11, 3) := by decide +kernel
theorem d_X9_list_19 : decode c_X9_list 19 = .ok (.aload_n 0, 1) := by decide +kernel
theorem d_X9_list_20 : decode c_X9_list 20 = .ok (.iload_n 3, 1) := by decide +kernel
theorem d_X9_list_21 : decode c_X9_list 21 = .ok (.invokevirtual 116, 3) := by decide +kernel
theorem d_X9_list_24 : decode c_X9_list 24 = .ok (.ifCond .ne 6, 3) := by decide +kernel
theorem d_X9_list_27 : decode c_X9_list 27 = .ok (.bipush (-3), 2) := by decide +kernel
theorem d_X9_list_29 : decode c_X9_list 29 = .ok (.ireturn, 1) := by decide +kernel
theorem d_X9_list_30 : decode c_X9_list 30 = .ok (.aload_n 0, 1) := by decide +kernel
theorem d_X9_list_31 : decode c_X9_list 31 = .ok (.getfield 32, 3) := by decide +kernel
theorem d_X9_list_34 : decode c_X9_list 34 = .ok (.iload_n 1, 1) := by decide +kernel
theorem d_X9_list_35 : decode c_X9_list 35 = .ok (.aaload, 1) := by decide +kernel
theorem d_X9_list_36 : decode c_X9_list 36 = .ok (.iload_n 2, 1) := by decide +kernel
theorem d_X9_list_37 : decode c_X9_list 37 = .ok (.invokevirtual 129, 3) := by decide +kernel
theorem d_X9_list_40 : decode c_X9_list 40 = .ok (.astore 4, 2) := by decide +kernel
theorem d_X9_list_42 : decode c_X9_list 42 = .ok (.aload 4, 2) := by decide +kernel
theorem d_X9_list_44 : decode c_X9_list 44 = .ok (.getfield 136, 3) := by decide +kernel
theorem d_X9_list_47 : decode c_X9_list 47 = .ok (.iconst 4, 1) := by decide +kernel
theorem d_X9_list_48 : decode c_X9_list 48 = .ok (.if_icmp .ne 6, 3) := by decide +kernel
theorem d_X9_list_51 : decode c_X9_list 51 = .ok (.bipush (-5), 2) := by decide +kernel
theorem d_X9_list_53 : decode c_X9_list 53 = .ok (.ireturn, 1) := by decide +kernel
theorem d_X9_list_54 : decode c_X9_list 54 = .ok (.aload 4, 2) := by decide +kernel
theorem d_X9_list_56 : decode c_X9_list 56 = .ok (.iload_n 3, 1) := by decide +kernel
theorem d_X9_list_57 : decode c_X9_list 57 = .ok (.invokevirtual 139, 3) := by decide +kernel
theorem d_X9_list_60 : decode c_X9_list 60 = .ok (.iconst 0, 1) := by decide +kernel
theorem d_X9_list_61 : decode c_X9_list 61 = .ok (.ireturn, 1) := by decide +kernel
theorem d_X9_flags_0 : decode c_X9_flags 0 = .ok (.aload_n 0, 1) := by decide +kernel
theorem d_X9_flags_1 : decode c_X9_flags 1 = .ok (.getfield 74, 3) := by decide +kernel
theorem d_X9_flags_4 : decode c_X9_flags 4 = .ok (.ifCond .eq 6, 3) := by decide +kernel
theorem d_X9_flags_7 : decode c_X9_flags 7 = .ok (.bipush (-2), 2) := by decide +kernel
theorem d_X9_flags_9 : decode c_X9_flags 9 = .ok (.ireturn, 1) := by decide +kernel
theorem d_X9_flags_10 : decode c_X9_flags 10 = .ok (.aload_n 0, 1) := by decide +kernel
theorem d_X9_flags_11 : decode c_X9_flags 11 = .ok (.iload_n 1, 1) := by decide +kernel
theorem d_X9_flags_12 : decode c_X9_flags 12 = .ok (.iload_n 2, 1) := by decide +kernel
theorem d_X9_flags_13 : decode c_X9_flags 13 = .ok (.invokevirtual 126, 3) := by decide +kernel
theorem d_X9_flags_16 : decode c_X9_flags 16 = .ok (.ifCond .eq 8, 3) := by decide +kernel
theorem d_X9_flags_19 : decode c_X9_flags 19 = .ok (.iload_n 2, 1) := by decide +kernel
theorem d_X9_flags_20 : decode c_X9_flags 20 = .ok (.iconst (-1), 1) := by decide +kernel
theorem d_X9_flags_21 : decode c_X9_flags 21 = .ok (.if_icmp .ne 6, 3) := by decide +kernel
theorem d_X9_flags_24 : decode c_X9_flags 24 = .ok (.bipush (-3), 2) := by decide +kernel
theorem d_X9_flags_26 : decode c_X9_flags 26 = .ok (.ireturn, 1) := by decide +kernel
theorem d_X9_flags_27 : decode c_X9_flags 27 = .ok (.iload_n 3, 1) := by decide +kernel
theorem d_X9_flags_28 : decode c_X9_flags 28 = .ok (.bipush 7, 2) := by decide +kernel
theorem d_X9_flags_30 : decode c_X9_flags 30 = .ok (.invokestatic 104, 3) := by decide +kernel
theorem d_X9_flags_33 : decode c_X9_flags 33 = .ok (.ifCond .ne 6, 3) := by decide +kernel
theorem d_X9_flags_36 : decode c_X9_flags 36 = .ok (.bipush (-4), 2) := by decide +kernel
theorem d_X9_flags_38 : decode c_X9_flags 38 = .ok (.ireturn, 1) := by decide +kernel
theorem d_X9_flags_39 : decode c_X9_flags 39 = .ok (.aload_n 0, 1) := by decide +kernel
theorem d_X9_flags_40 : decode c_X9_flags 40 = .ok (.getfield 32, 3) := by decide +kernel
theorem d_X9_flags_43 : decode c_X9_flags 43 = .ok (.iload_n 1, 1) := by decide +kernel
theorem d_X9_flags_44 : decode c_X9_flags 44 = .ok (.aaload, 1) := by decide +kernel
theorem d_X9_flags_45 : decode c_X9_flags 45 = .ok (.iload_n 2, 1) := by decide +kernel
theorem d_X9_flags_46 : decode c_X9_flags 46 = .ok (.invokevirtual 129, 3) := by decide +kernel
theorem d_X9_flags_49 : decode c_X9_flags 49 = .ok (.iload_n 3, 1) := by decide +kernel
theorem d_X9_flags_50 : decode c_X9_flags 50 = .ok (.putfield 142, 3) := by decide +kernel
theorem d_X9_flags_53 : decode c_X9_flags 53 = .ok (.iconst 0, 1) := by decide +kernel
theorem d_X9_flags_54 : decode c_X9_flags 54 = .ok (.ireturn, 1) := by decide +kernel
theorem d_X9_deploy_0 : decode c_X9_deploy 0 = .ok (.aload_n 0, 1) := by decide +kernel
theorem d_X9_deploy_1 : decode c_X9_deploy 1 = .ok (.getfield 74, 3) := by decide +kernel
theorem d_X9_deploy_4 : decode c_X9_deploy 4 = .ok (.ifCond .eq 6, 3) := by decide +kernel
theorem d_X9_deploy_7 : decode c_X9_deploy 7 = .ok (.bipush (-2), 2) := by decide +kernel
theorem d_X9_deploy_9 : decode c_X9_deploy 9 = .ok (.ireturn, 1) := by decide +kernel
theorem d_X9_deploy_10 : decode c_X9_deploy 10 = .ok (.aload_n 0, 1) := by decide +kernel
theorem d_X9_deploy_11 : decode c_X9_deploy 11 = .ok (.invokevirtual 145, 3) := by decide +kernel
theorem d_X9_deploy_14 : decode c_X9_deploy 14 = .ok (.istore_n 1, 1) := by decide +kernel
theorem d_X9_deploy_15 : decode c_X9_deploy 15 = .ok (.iload_n 1, 1) := by decide +kernel
theorem d_X9_deploy_16 : decode c_X9_deploy 16 = .ok (.ifCond .ne 8, 3) := by decide +kernel
theorem d_X9_deploy_19 : decode c_X9_deploy 19 = .ok (.aload_n 0, 1) := by decide +kernel
theorem d_X9_deploy_20 : decode c_X9_deploy 20 = .ok (.invokevirtual 149, 3) := by decide +kernel
theorem d_X9_deploy_23 : decode c_X9_deploy 23 = .ok (.istore_n 1, 1) := by decide +kernel
theorem d_X9_deploy_24 : decode c_X9_deploy 24 = .ok (.iload_n 1, 1) := by decide +kernel
theorem d_X9_deploy_25 : decode c_X9_deploy 25 = .ok (.ifCond .ne 8, 3) := by decide +kernel
theorem d_X9_deploy_28 : decode c_X9_deploy 28 = .ok (.aload_n 0, 1) := by decide +kernel
theorem d_X9_deploy_29 : decode c_X9_deploy 29 = .ok (.invokevirtual 152, 3) := by decide +kernel
theorem d_X9_deploy_32 : decode c_X9_deploy 32 = .ok (.istore_n 1, 1) := by decide +kernel
theorem d_X9_deploy_33 : decode c_X9_deploy 33 = .ok (.aload_n 0, 1) := by decide +kernel
theorem d_X9_deploy_34 : decode c_X9_deploy 34 = .ok (.iload_n 1, 1) := by decide +kernel
theorem d_X9_deploy_35 : decode c_X9_deploy 35 = .ok (.ifCond .ne 7, 3) := by decide +kernel
theorem d_X9_deploy_38 : decode c_X9_deploy 38 = .ok (.iconst 1, 1) := by decide +kernel
theorem d_X9_deploy_39 : decode c_X9_deploy 39 = .ok (.goto 4, 3) := by decide +kernel
theorem d_X9_deploy_42 : decode c_X9_deploy 42 = .ok (.iconst 0, 1) := by decide +kernel
theorem d_X9_deploy_43 : decode c_X9_deploy 43 = .ok (.putfield 74, 3) := by decide +kernel
theorem d_X9_deploy_46 : decode c_X9_deploy 46 = .ok (.iload_n 1, 1) := by decide +kernel
theorem d_X9_deploy_47 : decode c_X9_deploy 47 = .ok (.ireturn, 1) := by decide +kernel
theorem d_X9_length_0 : decode c_X9_length 0 = .ok (.aload_n 0, 1) := by decide +kernel
theorem d_X9_length_1 : decode c_X9_length 1 = .ok (.getfield 74, 3) := by decide +kernel
theorem d_X9_length_4 : decode c_X9_length 4 = .ok (.ifCond .ne 6, 3) := by decide +kernel
theorem d_X9_length_7 : decode c_X9_length 7 = .ok (.bipush (-6), 2) := by decide +kernel
theorem d_X9_length_9 : decode c_X9_length 9 = .ok (.ireturn, 1) := by decide +kernel
theorem d_X9_length_10 : decode c_X9_length 10 = .ok (.aload_n 0, 1) := by decide +kernel
theorem d_X9_length_11 : decode c_X9_length 11 = .ok (.iload_n 1, 1) := by decide +kernel
theorem d_X9_length_12 : decode c_X9_length 12 = .ok (.iload_n 2, 1) := by decide +kernel
theorem d_X9_length_13 : decode c_X9_length 13 = .ok (.invokevirtual 155, 3) := by decide +kernel
theorem d_X9_length_16 : decode c_X9_length 16 = .ok (.ifCond .ne 6, 3) := by decide +kernel
theorem d_X9_length_19 : decode c_X9_length 19 = .ok (.bipush (-3), 2) := by decide +kernel
theorem d_X9_length_21 : decode c_X9_length 21 = .ok (.ireturn, 1) := by decide +kernel
theorem d_X9_length_22 : decode c_X9_length 22 = .ok (.aload_n 0, 1) := by decide +kernel
theorem d_X9_length_23 : decode c_X9_length 23 = .ok (.aload_n 0, 1) := by decide +kernel
theorem d_X9_length_24 : decode c_X9_length 24 = .ok (.getfield 32, 3) := by decide +kernel
theorem d_X9_length_27 : decode c_X9_length 27 = .ok (.iload_n 1, 1) := by decide +kernel
theorem d_X9_length_28 : decode c_X9_length 28 = .ok (.aaload, 1) := by decide +kernel
theorem d_X9_length_29 : decode c_X9_length 29 = .ok (.iload_n 2, 1) := by decide +kernel
theorem d_X9_length_30 : decode c_X9_length 30 = .ok (.invokevirtual 158, 3) := by decide +kernel
theorem d_X9_length_33 : decode c_X9_length 33 = .ok (.aload_n 0, 1) := by decide +kernel
theorem d_X9_length_34 : decode c_X9_length 34 = .ok (.getfield 50, 3) := by decide +kernel
theorem d_X9_length_37 : decode c_X9_length 37 = .ok (.getfield 162, 3) := by decide +kernel
theorem d_X9_length_40 : decode c_X9_length 40 = .ok (.ireturn, 1) := by decide +kernel
theorem d_X9_element_0 : decode c_X9_element 0 = .ok (.aload_n 0, 1) := by decide +kernel
theorem d_X9_element_1 : decode c_X9_element 1 = .ok (.getfield 74, 3) := by decide +kernel
theorem d_X9_element_4 : decode c_X9_element 4 = .ok (.ifCond .ne 6, 3) := by decide +kernel
theorem d_X9_element_7 : decode c_X9_element 7 = .ok (.bipush (-6), 2) := by decide +kernel
theorem d_X9_element_9 : decode c_X9_element 9 = .ok (.ireturn, 1) := by decide +kernel
theorem d_X9_element_10 : decode c_X9_element 10 = .ok (.aload_n 0, 1) := by decide +kernel
theorem d_X9_element_11 : decode c_X9_element 11 = .ok (.iload_n 1, 1) := by decide +kernel
theorem d_X9_element_12 : decode c_X9_element 12 = .ok (.iload_n 2, 1) := by decide +kernel
theorem d_X9_element_13 : decode c_X9_element 13 = .ok (.invokevirtual 155, 3) := by decide +kernel
theorem d_X9_element_16 : decode c_X9_element 16 = .ok (.ifCond .ne 6, 3) := by decide +kernel
theorem d_X9_element_19 : decode c_X9_element 19 = .ok (.bipush (-3), 2) := by decide +kernel
theorem d_X9_element_21 : decode c_X9_element 21 = .ok (.ireturn, 1) := by decide +kernel
theorem d_X9_element_22 : decode c_X9_element 22 = .ok (.aload_n 0, 1) := by decide +kernel
theorem d_X9_element_23 : decode c_X9_element 23 = .ok (.aload_n 0, 1) := by decide +kernel
theorem d_X9_element_24 : decode c_X9_element 24 = .ok (.getfield 32, 3) := by decide +kernel
theorem d_X9_element_27 : decode c_X9_element 27 = .ok (.iload_n 1, 1) := by decide +kernel
theorem d_X9_element_28 : decode c_X9_element 28 = .ok (.aaload, 1) := by decide +kernel
theorem d_X9_element_29 : decode c_X9_element 29 = .ok (.iload_n 2, 1) := by decide +kernel
theorem d_X9_element_30 : decode c_X9_element 30 = .ok (.invokevirtual 158, 3) := by decide +kernel
theorem d_X9_element_33 : decode c_X9_element 33 = .ok (.iload_n 3, 1) := by decide +kernel
theorem d_X9_element_34 : decode c_X9_element 34 = .ok (.ifCond .lt 14, 3) := by decide +kernel
theorem d_X9_element_37 : decode c_X9_element 37 = .ok (.iload_n 3, 1) := by decide +kernel
theorem d_X9_element_38 : decode c_X9_element 38 = .ok (.aload_n 0, 1) := by decide +kernel
theorem d_X9_element_39 : decode c_X9_element 39 = .ok (.getfield 50, 3) := by decide +kernel
theorem d_X9_element_42 : decode c_X9_element 42 = .ok (.getfield 162, 3) := by decide +kernel
theorem d_X9_element_45 : decode c_X9_element 45 = .ok (.if_icmp .lt 6, 3) := by decide +kernel
theorem d_X9_element_48 : decode c_X9_element 48 = .ok (.bipush (-3), 2) := by decide +kernel
theorem d_X9_element_50 : decode c_X9_element 50 = .ok (.ireturn, 1) := by decide +kernel
theorem d_X9_element_51 : decode c_X9_element 51 = .ok (.aload_n 0, 1) := by decide +kernel
theorem d_X9_element_52 : decode c_X9_element 52 = .ok (.getfield 50, 3) := by decide +kernel
theorem d_X9_element_55 : decode c_X9_element 55 = .ok (.getfield 163, 3) := by decide +kernel
theorem d_X9_element_58 : decode c_X9_element 58 = .ok (.iload_n 3, 1) := by decide +kernel
theorem d_X9_element_59 : decode c_X9_element 59 = .ok (.iaload, 1) := by decide +kernel
theorem d_X9_element_60 : decode c_X9_element 60 = .ok (.ireturn, 1) := by decide +kernel
theorem d_X9_invoke_0 : decode c_X9_invoke 0 = .ok (.aload_n 0, 1) := by decide +kernel
theorem d_X9_invoke_1 : decode c_X9_invoke 1 = .ok (.getfield 74, 3) := by decide +kernel
theorem d_X9_invoke_4 : decode c_X9_invoke 4 = .ok (.ifCond .ne 6, 3) := by decide +kernel
theorem d_X9_invoke_7 : decode c_X9_invoke 7 = .ok (.bipush (-6), 2) := by decide +kernel
theorem d_X9_invoke_9 : decode c_X9_invoke 9 = .ok (.ireturn, 1) := by decide +kernel
theorem d_X9_invoke_10 : decode c_X9_invoke 10 = .ok (.aload_n 0, 1) := by decide +kernel
theorem d_X9_invoke_11 : decode c_X9_invoke 11 = .ok (.iload_n 1, 1) := by decide +kernel
theorem d_X9_invoke_12 : decode c_X9_invoke 12 = .ok (.iload_n 2, 1) := by decide +kernel
theorem d_X9_invoke_13 : decode c_X9_invoke 13 = .ok (.invokevirtual 155, 3) := by decide +kernel
theorem d_X9_invoke_16 : decode c_X9_invoke 16 = .ok (.ifCond .ne 6, 3) := by decide +kernel
theorem d_X9_invoke_19 : decode c_X9_invoke 19 = .ok (.bipush (-3), 2) := by decide +kernel
theorem d_X9_invoke_21 : decode c_X9_invoke 21 = .ok (.ireturn, 1) := by decide +kernel
theorem d_X9_invoke_22 : decode c_X9_invoke 22 = .ok (.aload_n 0, 1) := by decide +kernel
theorem d_X9_invoke_23 : decode c_X9_invoke 23 = .ok (.aload_n 0, 1) := by decide +kernel
theorem d_X9_invoke_24 : decode c_X9_invoke 24 = .ok (.getfield 32, 3) := by decide +kernel
theorem d_X9_invoke_27 : decode c_X9_invoke 27 = .ok (.iload_n 1, 1) := by decide +kernel
theorem d_X9_invoke_28 : decode c_X9_invoke 28 = .ok (.aaload, 1) := by decide +kernel
theorem d_X9_invoke_29 : decode c_X9_invoke 29 = .ok (.iload_n 2, 1) := by decide +kernel
theorem d_X9_invoke_30 : decode c_X9_invoke 30 = .ok (.invokevirtual 158, 3) := by decide +kernel
theorem d_X9_invoke_33 : decode c_X9_invoke 33 = .ok (.iload_n 2, 1) := by decide +kernel
theorem d_X9_invoke_34 : decode c_X9_invoke 34 = .ok (.iconst 4, 1) := by decide +kernel
theorem d_X9_invoke_35 : decode c_X9_invoke 35 = .ok (.if_icmp .lt 20, 3) := by decide +kernel
theorem d_X9_invoke_38 : decode c_X9_invoke 38 = .ok (.aload_n 0, 1) := by decide +kernel
theorem d_X9_invoke_39 : decode c_X9_invoke 39 = .ok (.getfield 57, 3) := by decide +kernel
theorem d_X9_invoke_42 : decode c_X9_invoke 42 = .ok (.aload_n 0, 1) := by decide +kernel
theorem d_X9_invoke_43 : decode c_X9_invoke 43 = .ok (.getfield 50, 3) := by decide +kernel
theorem d_X9_invoke_46 : decode c_X9_invoke 46 = .ok (.iload_n 2, 1) := by decide +kernel
theorem d_X9_invoke_47 : decode c_X9_invoke 47 = .ok (.iconst 0, 1) := by decide +kernel
theorem d_X9_invoke_48 : decode c_X9_invoke 48 = .ok (.iconst 0, 1) := by decide +kernel
theorem d_X9_invoke_49 : decode c_X9_invoke 49 = .ok (.invokevirtual 167, 3) := by decide +kernel
theorem d_X9_invoke_52 : decode c_X9_invoke 52 = .ok (.goto 30, 3) := by decide +kernel
theorem d_X9_invoke_55 : decode c_X9_invoke 55 = .ok (.aload_n 0, 1) := by decide +kernel
theorem d_X9_invoke_56 : decode c_X9_invoke 56 = .ok (.getfield 57, 3) := by decide +kernel
theorem d_X9_invoke_59 : decode c_X9_invoke 59 = .ok (.aload_n 0, 1) := by decide +kernel
theorem d_X9_invoke_60 : decode c_X9_invoke 60 = .ok (.getfield 50, 3) := by decide +kernel
theorem d_X9_invoke_63 : decode c_X9_invoke 63 = .ok (.iload_n 2, 1) := by decide +kernel
theorem d_X9_invoke_64 : decode c_X9_invoke 64 = .ok (.iload_n 3, 1) := by decide +kernel
theorem d_X9_invoke_65 : decode c_X9_invoke 65 = .ok (.aload_n 0, 1) := by decide +kernel
theorem d_X9_invoke_66 : decode c_X9_invoke 66 = .ok (.getfield 32, 3) := by decide +kernel
theorem d_X9_invoke_69 : decode c_X9_invoke 69 = .ok (.iload_n 1, 1) := by decide +kernel
theorem d_X9_invoke_70 : decode c_X9_invoke 70 = .ok (.aaload, 1) := by decide +kernel
theorem d_X9_invoke_71 : decode c_X9_invoke 71 = .ok (.iload_n 2, 1) := by decide +kernel
theorem d_X9_invoke_72 : decode c_X9_invoke 72 = .ok (.invokevirtual 129, 3) := by decide +kernel
theorem d_X9_invoke_75 : decode c_X9_invoke 75 = .ok (.iconst 4, 1) := by decide +kernel
theorem d_X9_invoke_76 : decode c_X9_invoke 76 = .ok (.invokevirtual 171, 3) := by decide +kernel
theorem d_X9_invoke_79 : decode c_X9_invoke 79 = .ok (.invokevirtual 167, 3) := by decide +kernel
theorem d_X9_invoke_82 : decode c_X9_invoke 82 = .ok (.aload_n 0, 1) := by decide +kernel
theorem d_X9_invoke_83 : decode c_X9_invoke 83 = .ok (.getfield 57, 3) := by decide +kernel
theorem d_X9_invoke_86 : decode c_X9_invoke 86 = .ok (.getfield 172, 3) := by decide +kernel
theorem d_X9_invoke_89 : decode c_X9_invoke 89 = .ok (.ireturn, 1) := by decide +kernel
theorem d_X9_result_0 : decode c_X9_result 0 = .ok (.aload_n 0, 1) := by decide +kernel
theorem d_X9_result_1 : decode c_X9_result 1 = .ok (.getfield 57, 3) := by decide +kernel
theorem d_X9_result_4 : decode c_X9_result 4 = .ok (.getfield 175, 3) := by decide +kernel
theorem d_X9_result_7 : decode c_X9_result 7 = .ok (.ireturn, 1) := by decide +kernel
theorem d_X9_error_0 : decode c_X9_error 0 = .ok (.aload_n 0, 1) := by decide +kernel
theorem d_X9_error_1 : decode c_X9_error 1 = .ok (.getfield 57, 3) := by decide +kernel
theorem d_X9_error_4 : decode c_X9_error 4 = .ok (.getfield 178, 3) := by decide +kernel
theorem d_X9_error_7 : decode c_X9_error 7 = .ok (.ireturn, 1) := by decide +kernel
theorem d_X9_log_0 : decode c_X9_log 0 = .ok (.iload_n 1, 1) := by decide +kernel
theorem d_X9_log_1 : decode c_X9_log 1 = .ok (.ifCond .lt 14, 3) := by decide +kernel
theorem d_X9_log_4 : decode c_X9_log 4 = .ok (.iload_n 1, 1) := by decide +kernel
theorem d_X9_log_5 : decode c_X9_log 5 = .ok (.aload_n 0, 1) := by decide +kernel
theorem d_X9_log_6 : decode c_X9_log 6 = .ok (.getfield 57, 3) := by decide +kernel
theorem d_X9_log_9 : decode c_X9_log 9 = .ok (.getfield 172, 3) := by decide +kernel
theorem d_X9_log_12 : decode c_X9_log 12 = .ok (.if_icmp .lt 6, 3) := by decide +kernel
theorem d_X9_log_15 : decode c_X9_log 15 = .ok (.bipush (-3), 2) := by decide +kernel
theorem d_X9_log_17 : decode c_X9_log 17 = .ok (.ireturn, 1) := by decide +kernel
theorem d_X9_log_18 : decode c_X9_log 18 = .ok (.aload_n 0, 1) := by decide +kernel
theorem d_X9_log_19 : decode c_X9_log 19 = .ok (.getfield 57, 3) := by decide +kernel
theorem d_X9_log_22 : decode c_X9_log 22 = .ok (.getfield 181, 3) := by decide +kernel
theorem d_X9_log_25 : decode c_X9_log 25 = .ok (.iload_n 1, 1) := by decide +kernel
theorem d_X9_log_26 : decode c_X9_log 26 = .ok (.iaload, 1) := by decide +kernel
theorem d_X9_log_27 : decode c_X9_log 27 = .ok (.ireturn, 1) := by decide +kernel
theorem d_X9_isWithin_0 : decode c_X9_isWithin 0 = .ok (.iload_n 0, 1) := by decide +kernel
theorem d_X9_isWithin_1 : decode c_X9_isWithin 1 = .ok (.ifCond .lt 12, 3) := by decide +kernel
theorem d_X9_isWithin_4 : decode c_X9_isWithin 4 = .ok (.iload_n 0, 1) := by decide +kernel
theorem d_X9_isWithin_5 : decode c_X9_isWithin 5 = .ok (.iload_n 1, 1) := by decide +kernel
theorem d_X9_isWithin_6 : decode c_X9_isWithin 6 = .ok (.if_icmp .gt 7, 3) := by decide +kernel
theorem d_X9_isWithin_9 : decode c_X9_isWithin 9 = .ok (.iconst 1, 1) := by decide +kernel
theorem d_X9_isWithin_10 : decode c_X9_isWithin 10 = .ok (.goto 4, 3) := by decide +kernel
theorem d_X9_isWithin_13 : decode c_X9_isWithin 13 = .ok (.iconst 0, 1) := by decide +kernel
theorem d_X9_isWithin_14 : decode c_X9_isWithin 14 = .ok (.ireturn, 1) := by decide +kernel
theorem d_X9_isInterceptor_0 : decode c_X9_isInterceptor 0 = .ok (.iload_n 1, 1) := by decide +kernel
theorem d_X9_isInterceptor_1 : decode c_X9_isInterceptor 1 = .ok (.ifCond .lt 15, 3) := by decide +kernel
theorem d_X9_isInterceptor_4 : decode c_X9_isInterceptor 4 = .ok (.iload_n 1, 1) := by decide +kernel
theorem d_X9_isInterceptor_5 : decode c_X9_isInterceptor 5 = .ok (.aload_n 0, 1) := by decide +kernel
theorem d_X9_isInterceptor_6 : decode c_X9_isInterceptor 6 = .ok (.getfield 64, 3) := by decide +kernel
theorem d_X9_isInterceptor_9 : decode c_X9_isInterceptor 9 = .ok (.if_icmp .ge 7, 3) := by decide +kernel
theorem d_X9_isInterceptor_12 : decode c_X9_isInterceptor 12 = .ok (.iconst 1, 1) := by decide +kernel
theorem d_X9_isInterceptor_13 : decode c_X9_isInterceptor 13 = .ok (.goto 4, 3) := by decide +kernel
theorem d_X9_isInterceptor_16 : decode c_X9_isInterceptor 16 = .ok (.iconst 0, 1) := by decide +kernel
theorem d_X9_isInterceptor_17 : decode c_X9_isInterceptor 17 = .ok (.ireturn, 1) := by decide +kernel
theorem d_X9_isComponent_0 : decode c_X9_isComponent 0 = .ok (.iload_n 1, 1) := by decide +kernel
theorem d_X9_isComponent_1 : decode c_X9_isComponent 1 = .ok (.ifCond .lt 15, 3) := by decide +kernel
theorem d_X9_isComponent_4 : decode c_X9_isComponent 4 = .ok (.iload_n 1, 1) := by decide +kernel
theorem d_X9_isComponent_5 : decode c_X9_isComponent 5 = .ok (.aload_n 0, 1) := by decide +kernel
theorem d_X9_isComponent_6 : decode c_X9_isComponent 6 = .ok (.getfield 71, 3) := by decide +kernel
theorem d_X9_isComponent_9 : decode c_X9_isComponent 9 = .ok (.if_icmp .ge 7, 3) := by decide +kernel
theorem d_X9_isComponent_12 : decode c_X9_isComponent 12 = .ok (.iconst 1, 1) := by decide +kernel
theorem d_X9_isComponent_13 : decode c_X9_isComponent 13 = .ok (.goto 4, 3) := by decide +kernel
theorem d_X9_isComponent_16 : decode c_X9_isComponent 16 = .ok (.iconst 0, 1) := by decide +kernel
theorem d_X9_isComponent_17 : decode c_X9_isComponent 17 = .ok (.ireturn, 1) := by decide +kernel
theorem d_X9_isPlace_0 : decode c_X9_isPlace 0 = .ok (.aload_n 0, 1) := by decide +kernel
theorem d_X9_isPlace_1 : decode c_X9_isPlace 1 = .ok (.iload_n 1, 1) := by decide +kernel
theorem d_X9_isPlace_2 : decode c_X9_isPlace 2 = .ok (.invokevirtual 184, 3) := by decide +kernel
theorem d_X9_isPlace_5 : decode c_X9_isPlace 5 = .ok (.ifCond .eq 17, 3) := by decide +kernel
theorem d_X9_isPlace_8 : decode c_X9_isPlace 8 = .ok (.iload_n 2, 1) := by decide +kernel
theorem d_X9_isPlace_9 : decode c_X9_isPlace 9 = .ok (.iconst (-1), 1) := by decide +kernel
theorem d_X9_isPlace_10 : decode c_X9_isPlace 10 = .ok (.if_icmp .lt 12, 3) := by decide +kernel
theorem d_X9_isPlace_13 : decode c_X9_isPlace 13 = .ok (.iload_n 2, 1) := by decide +kernel
theorem d_X9_isPlace_14 : decode c_X9_isPlace 14 = .ok (.iconst 4, 1) := by decide +kernel
theorem d_X9_isPlace_15 : decode c_X9_isPlace 15 = .ok (.if_icmp .ge 7, 3) := by decide +kernel
theorem d_X9_isPlace_18 : decode c_X9_isPlace 18 = .ok (.iconst 1, 1) := by decide +kernel
theorem d_X9_isPlace_19 : decode c_X9_isPlace 19 = .ok (.goto 4, 3) := by decide +kernel
theorem d_X9_isPlace_22 : decode c_X9_isPlace 22 = .ok (.iconst 0, 1) := by decide +kernel
theorem d_X9_isPlace_23 : decode c_X9_isPlace 23 = .ok (.ireturn, 1) := by decide +kernel
theorem d_X9_hasChain_0 : decode c_X9_hasChain 0 = .ok (.aload_n 0, 1) := by decide +kernel
theorem d_X9_hasChain_1 : decode c_X9_hasChain 1 = .ok (.iload_n 1, 1) := by decide +kernel
theorem d_X9_hasChain_2 : decode c_X9_hasChain 2 = .ok (.invokevirtual 184, 3) := by decide +kernel
theorem d_X9_hasChain_5 : decode c_X9_hasChain 5 = .ok (.ifCond .eq 17, 3) := by decide +kernel
theorem d_X9_hasChain_8 : decode c_X9_hasChain 8 = .ok (.iload_n 2, 1) := by decide +kernel
theorem d_X9_hasChain_9 : decode c_X9_hasChain 9 = .ok (.ifCond .lt 13, 3) := by decide +kernel
theorem d_X9_hasChain_12 : decode c_X9_hasChain 12 = .ok (.iload_n 2, 1) := by decide +kernel
theorem d_X9_hasChain_13 : decode c_X9_hasChain 13 = .ok (.bipush 7, 2) := by decide +kernel
theorem d_X9_hasChain_15 : decode c_X9_hasChain 15 = .ok (.if_icmp .ge 7, 3) := by decide +kernel
theorem d_X9_hasChain_18 : decode c_X9_hasChain 18 = .ok (.iconst 1, 1) := by decide +kernel
theorem d_X9_hasChain_19 : decode c_X9_hasChain 19 = .ok (.goto 4, 3) := by decide +kernel
theorem d_X9_hasChain_22 : decode c_X9_hasChain 22 = .ok (.iconst 0, 1) := by decide +kernel
theorem d_X9_hasChain_23 : decode c_X9_hasChain 23 = .ok (.ireturn, 1) := by decide +kernel
theorem d_X9_addBinding_0 : decode c_X9_addBinding 0 = .ok (.aload_n 1, 1) := by decide +kernel
theorem d_X9_addBinding_1 : decode c_X9_addBinding 1 = .ok (.invokevirtual 94, 3) := by decide +kernel
theorem d_X9_addBinding_4 : decode c_X9_addBinding 4 = .ok (.ifCond .eq 6, 3) := by decide +kernel
theorem d_X9_addBinding_7 : decode c_X9_addBinding 7 = .ok (.bipush (-5), 2) := by decide +kernel
theorem d_X9_addBinding_9 : decode c_X9_addBinding 9 = .ok (.ireturn, 1) := by decide +kernel
theorem d_X9_addBinding_10 : decode c_X9_addBinding 10 = .ok (.aload_n 1, 1) := by decide +kernel
theorem d_X9_addBinding_11 : decode c_X9_addBinding 11 = .ok (.iload_n 2, 1) := by decide +kernel
theorem d_X9_addBinding_12 : decode c_X9_addBinding 12 = .ok (.aload_n 0, 1) := by decide +kernel
theorem d_X9_addBinding_13 : decode c_X9_addBinding 13 = .ok (.getfield 10, 3) := by decide +kernel
theorem d_X9_addBinding_16 : decode c_X9_addBinding 16 = .ok (.iload_n 2, 1) := by decide +kernel
theorem d_X9_addBinding_17 : decode c_X9_addBinding 17 = .ok (.iload_n 3, 1) := by decide +kernel
theorem d_X9_addBinding_18 : decode c_X9_addBinding 18 = .ok (.invokevirtual 187, 3) := by decide +kernel
theorem d_X9_addBinding_21 : decode c_X9_addBinding 21 = .ok (.invokevirtual 191, 3) := by decide +kernel
theorem d_X9_addBinding_24 : decode c_X9_addBinding 24 = .ok (.iconst 0, 1) := by decide +kernel
theorem d_X9_addBinding_25 : decode c_X9_addBinding 25 = .ok (.ireturn, 1) := by decide +kernel
theorem d_X9_findConflictOfInterceptor_0 : decode c_X9_findConflictOfInterceptor 0 = .ok (.iconst 0, 1) := by decide +kernel
theorem d_X9_findConflictOfInterceptor_1 : decode c_X9_findConflictOfInterceptor 1 = .ok (.istore_n 1, 1) := by decide +kernel
theorem d_X9_findConflictOfInterceptor_2 : decode c_X9_findConflictOfInterceptor 2 = .ok (.iload_n 1, 1) := by decide +kernel
theorem d_X9_findConflictOfInterceptor_3 : decode c_X9_findConflictOfInterceptor 3 = .ok (.aload_n 0, 1) := by decide +kernel
theorem d_X9_findConflictOfInterceptor_4 : decode c_X9_findConflictOfInterceptor 4 = .ok (.getfield 64, 3) := by decide +kernel
theorem d_X9_findConflictOfInterceptor_7 : decode c_X9_findConflictOfInterceptor 7 = .ok (.if_icmp .ge 30, 3) := by decide +kernel
theorem d_X9_findConflictOfInterceptor_10 : decode c_X9_findConflictOfInterceptor 10 = .ok (.aload_n 0, 1) := by decide +kernel
theorem d_X9_findConflictOfInterceptor_11 : decode c_X9_findConflictOfInterceptor 11 = .ok (.aload_n 0, 1) := by decide +kernel
theorem d_X9_findConflictOfInterceptor_12 : decode c_X9_findConflictOfInterceptor 12 = .ok (.getfield 18, 3) := by decide +kernel
theorem d_X9_findConflictOfInterceptor_15 : decode c_X9_findConflictOfInterceptor 15 = .ok (.iload_n 1, 1) := by decide +kernel
theorem d_X9_findConflictOfInterceptor_16 : decode c_X9_findConflictOfInterceptor 16 = .ok (.aaload, 1) := by decide +kernel
theorem d_X9_findConflictOfInterceptor_17 : decode c_X9_findConflictOfInterceptor 17 = .ok (.getfield 119, 3) := by decide +kernel
theorem d_X9_findConflictOfInterceptor_20 : decode c_X9_findConflictOfInterceptor 20 = .ok (.invokevirtual 195, 3) := by decide +kernel
theorem d_X9_findConflictOfInterceptor_23 : decode c_X9_findConflictOfInterceptor 23 = .ok (.ifCond .eq 8, 3) := by decide +kernel
theorem d_X9_findConflictOfInterceptor_26 : decode c_X9_findConflictOfInterceptor 26 = .ok (.bipush 100, 2) := by decide +kernel
theorem d_X9_findConflictOfInterceptor_28 : decode c_X9_findConflictOfInterceptor 28 = .ok (.iload_n 1, 1) := by decide +kernel
theorem d_X9_findConflictOfInterceptor_29 : decode c_X9_findConflictOfInterceptor 29 = .ok (.iadd, 1) := by decide +kernel
theorem d_X9_findConflictOfInterceptor_30 : decode c_X9_findConflictOfInterceptor 30 = .ok (.ireturn, 1) := by decide +kernel
theorem d_X9_findConflictOfInterceptor_31 : decode c_X9_findConflictOfInterceptor 31 = .ok (.iinc 1 1, 3) := by decide +kernel
theorem d_X9_findConflictOfInterceptor_34 : decode c_X9_findConflictOfInterceptor 34 = .ok (.goto (-32), 3) := by decide +kernel
theorem d_X9_findConflictOfInterceptor_37 : decode c_X9_findConflictOfInterceptor 37 = .ok (.iconst 0, 1) := by decide +kernel
theorem d_X9_findConflictOfInterceptor_38 : decode c_X9_findConflictOfInterceptor 38 = .ok (.ireturn, 1) := by decide +kernel
theorem d_X9_findConflictOfComponent_0 : decode c_X9_findConflictOfComponent 0 = .ok (.iconst 0, 1) := by decide +kernel
theorem d_X9_findConflictOfComponent_1 : decode c_X9_findConflictOfComponent 1 = .ok (.istore_n 1, 1) := by decide +kernel
theorem d_X9_findConflictOfComponent_2 : decode c_X9_findConflictOfComponent 2 = .ok (.iload_n 1, 1) := by decide +kernel
theorem d_X9_findConflictOfComponent_3 : decode c_X9_findConflictOfComponent 3 = .ok (.aload_n 0, 1) := by decide +kernel
theorem d_X9_findConflictOfComponent_4 : decode c_X9_findConflictOfComponent 4 = .ok (.getfield 71, 3) := by decide +kernel
theorem d_X9_findConflictOfComponent_7 : decode c_X9_findConflictOfComponent 7 = .ok (.if_icmp .ge 81, 3) := by decide +kernel
theorem d_X9_findConflictOfComponent_10 : decode c_X9_findConflictOfComponent 10 = .ok (.aload_n 0, 1) := by decide +kernel
theorem d_X9_findConflictOfComponent_11 : decode c_X9_findConflictOfComponent 11 = .ok (.aload_n 0, 1) := by decide +kernel
theorem d_X9_findConflictOfComponent_12 : decode c_X9_findConflictOfComponent 12 = .ok (.getfield 32, 3) := by decide +kernel
theorem d_X9_findConflictOfComponent_15 : decode c_X9_findConflictOfComponent 15 = .ok (.iload_n 1, 1) := by decide +kernel
theorem d_X9_findConflictOfComponent_16 : decode c_X9_findConflictOfComponent 16 = .ok (.aaload, 1) := by decide +kernel
theorem d_X9_findConflictOfComponent_17 : decode c_X9_findConflictOfComponent 17 = .ok (.getfield 199, 3) := by decide +kernel
theorem d_X9_findConflictOfComponent_20 : decode c_X9_findConflictOfComponent 20 = .ok (.getfield 133, 3) := by decide +kernel
theorem d_X9_findConflictOfComponent_23 : decode c_X9_findConflictOfComponent 23 = .ok (.invokevirtual 195, 3) := by decide +kernel
theorem d_X9_findConflictOfComponent_26 : decode c_X9_findConflictOfComponent 26 = .ok (.ifCond .eq 12, 3) := by decide +kernel
theorem d_X9_findConflictOfComponent_29 : decode c_X9_findConflictOfComponent 29 = .ok (.sipush 200, 3) := by decide +kernel
theorem d_X9_findConflictOfComponent_32 : decode c_X9_findConflictOfComponent 32 = .ok (.bipush 8, 2) := by decide +kernel
theorem d_X9_findConflictOfComponent_34 : decode c_X9_findConflictOfComponent 34 = .ok (.iload_n 1, 1) := by decide +kernel
theorem d_X9_findConflictOfComponent_35 : decode c_X9_findConflictOfComponent 35 = .ok (.imul, 1) := by decide +kernel
theorem d_X9_findConflictOfComponent_36 : decode c_X9_findConflictOfComponent 36 = .ok (.iadd, 1) := by decide +kernel
theorem d_X9_findConflictOfComponent_37 : decode c_X9_findConflictOfComponent 37 = .ok (.ireturn, 1) := by decide +kernel
theorem d_X9_findConflictOfComponent_38 : decode c_X9_findConflictOfComponent 38 = .ok (.iconst 0, 1) := by decide +kernel
theorem d_X9_findConflictOfComponent_39 : decode c_X9_findConflictOfComponent 39 = .ok (.istore_n 2, 1) := by decide +kernel
theorem d_X9_findConflictOfComponent_40 : decode c_X9_findConflictOfComponent 40 = .ok (.iload_n 2, 1) := by decide +kernel
theorem d_X9_findConflictOfComponent_41 : decode c_X9_findConflictOfComponent 41 = .ok (.iconst 4, 1) := by decide +kernel
theorem d_X9_findConflictOfComponent_42 : decode c_X9_findConflictOfComponent 42 = .ok (.if_icmp .ge 40, 3) := by decide +kernel
theorem d_X9_findConflictOfComponent_45 : decode c_X9_findConflictOfComponent 45 = .ok (.aload_n 0, 1) := by decide +kernel
theorem d_X9_findConflictOfComponent_46 : decode c_X9_findConflictOfComponent 46 = .ok (.aload_n 0, 1) := by decide +kernel
theorem d_X9_findConflictOfComponent_47 : decode c_X9_findConflictOfComponent 47 = .ok (.getfield 32, 3) := by decide +kernel
theorem d_X9_findConflictOfComponent_50 : decode c_X9_findConflictOfComponent 50 = .ok (.iload_n 1, 1) := by decide +kernel
theorem d_X9_findConflictOfComponent_51 : decode c_X9_findConflictOfComponent 51 = .ok (.aaload, 1) := by decide +kernel
theorem d_X9_findConflictOfComponent_52 : decode c_X9_findConflictOfComponent 52 = .ok (.iload_n 2, 1) := by decide +kernel
theorem d_X9_findConflictOfComponent_53 : decode c_X9_findConflictOfComponent 53 = .ok (.invokevirtual 129, 3) := by decide +kernel
theorem d_X9_findConflictOfComponent_56 : decode c_X9_findConflictOfComponent 56 = .ok (.getfield 133, 3) := by decide +kernel
theorem d_X9_findConflictOfComponent_59 : decode c_X9_findConflictOfComponent 59 = .ok (.invokevirtual 195, 3) := by decide +kernel
theorem d_X9_findConflictOfComponent_62 : decode c_X9_findConflictOfComponent 62 = .ok (.ifCond .eq 14, 3) := by decide +kernel
theorem d_X9_findConflictOfComponent_65 : decode c_X9_findConflictOfComponent 65 = .ok (.sipush 201, 3) := by decide +kernel
theorem d_X9_findConflictOfComponent_68 : decode c_X9_findConflictOfComponent 68 = .ok (.bipush 8, 2) := by decide +kernel
theorem d_X9_findConflictOfComponent_70 : decode c_X9_findConflictOfComponent 70 = .ok (.iload_n 1, 1) := by decide +kernel
theorem d_X9_findConflictOfComponent_71 : decode c_X9_findConflictOfComponent 71 = .ok (.imul, 1) := by decide +kernel
theorem d_X9_findConflictOfComponent_72 : decode c_X9_findConflictOfComponent 72 = .ok (.iadd, 1) := by decide +kernel
theorem d_X9_findConflictOfComponent_73 : decode c_X9_findConflictOfComponent 73 = .ok (.iload_n 2, 1) := by decide +kernel
theorem d_X9_findConflictOfComponent_74 : decode c_X9_findConflictOfComponent 74 = .ok (.iadd, 1) := by decide +kernel
theorem d_X9_findConflictOfComponent_75 : decode c_X9_findConflictOfComponent 75 = .ok (.ireturn, 1) := by decide +kernel
theorem d_X9_findConflictOfComponent_76 : decode c_X9_findConflictOfComponent 76 = .ok (.iinc 2 1, 3) := by decide +kernel
theorem d_X9_findConflictOfComponent_79 : decode c_X9_findConflictOfComponent 79 = .ok (.goto (-39), 3) := by decide +kernel
theorem d_X9_findConflictOfComponent_82 : decode c_X9_findConflictOfComponent 82 = .ok (.iinc 1 1, 3) := by decide +kernel
theorem d_X9_findConflictOfComponent_85 : decode c_X9_findConflictOfComponent 85 = .ok (.goto (-83), 3) := by decide +kernel
theorem d_X9_findConflictOfComponent_88 : decode c_X9_findConflictOfComponent 88 = .ok (.iconst 0, 1) := by decide +kernel
theorem d_X9_findConflictOfComponent_89 : decode c_X9_findConflictOfComponent 89 = .ok (.ireturn, 1) := by decide +kernel
theorem d_X9_hasConflict_0 : decode c_X9_hasConflict 0 = .ok (.aload_n 0, 1) := by decide +kernel
theorem d_X9_hasConflict_1 : decode c_X9_hasConflict 1 = .ok (.getfield 10, 3) := by decide +kernel
theorem d_X9_hasConflict_4 : decode c_X9_hasConflict 4 = .ok (.aload_n 1, 1) := by decide +kernel
theorem d_X9_hasConflict_5 : decode c_X9_hasConflict 5 = .ok (.aload_n 0, 1) := by decide +kernel
theorem d_X9_hasConflict_6 : decode c_X9_hasConflict 6 = .ok (.getfield 44, 3) := by decide +kernel
theorem d_X9_hasConflict_9 : decode c_X9_hasConflict 9 = .ok (.invokevirtual 203, 3) := by decide +kernel
theorem d_X9_hasConflict_12 : decode c_X9_hasConflict 12 = .ok (.aload_n 0, 1) := by decide +kernel
theorem d_X9_hasConflict_13 : decode c_X9_hasConflict 13 = .ok (.getfield 44, 3) := by decide +kernel
theorem d_X9_hasConflict_16 : decode c_X9_hasConflict 16 = .ok (.getfield 207, 3) := by decide +kernel
theorem d_X9_hasConflict_19 : decode c_X9_hasConflict 19 = .ok (.ireturn, 1) := by decide +kernel
theorem d_X9_findFinalWithChain_0 : decode c_X9_findFinalWithChain 0 = .ok (.iconst 0, 1) := by decide +kernel
theorem d_X9_findFinalWithChain_1 : decode c_X9_findFinalWithChain 1 = .ok (.istore_n 1, 1) := by decide +kernel
theorem d_X9_findFinalWithChain_2 : decode c_X9_findFinalWithChain 2 = .ok (.iload_n 1, 1) := by decide +kernel
theorem d_X9_findFinalWithChain_3 : decode c_X9_findFinalWithChain 3 = .ok (.aload_n 0, 1) := by decide +kernel
theorem d_X9_findFinalWithChain_4 : decode c_X9_findFinalWithChain 4 = .ok (.getfield 71, 3) := by decide +kernel
theorem d_X9_findFinalWithChain_7 : decode c_X9_findFinalWithChain 7 = .ok (.if_icmp .ge 71, 3) := by decide +kernel
theorem d_X9_findFinalWithChain_10 : decode c_X9_findFinalWithChain 10 = .ok (.iconst 0, 1) := by decide +kernel
theorem d_X9_findFinalWithChain_11 : decode c_X9_findFinalWithChain 11 = .ok (.istore_n 2, 1) := by decide +kernel
theorem d_X9_findFinalWithChain_12 : decode c_X9_findFinalWithChain 12 = .ok (.iload_n 2, 1) := by decide +kernel
theorem d_X9_findFinalWithChain_13 : decode c_X9_findFinalWithChain 13 = .ok (.iconst 4, 1) := by decide +kernel
theorem d_X9_findFinalWithChain_14 : decode c_X9_findFinalWithChain 14 = .ok (.if_icmp .ge 58, 3) := by decide +kernel
theorem d_X9_findFinalWithChain_17 : decode c_X9_findFinalWithChain 17 = .ok (.aload_n 0, 1) := by decide +kernel
theorem d_X9_findFinalWithChain_18 : decode c_X9_findFinalWithChain 18 = .ok (.getfield 32, 3) := by decide +kernel
theorem d_X9_findFinalWithChain_21 : decode c_X9_findFinalWithChain 21 = .ok (.iload_n 1, 1) := by decide +kernel
theorem d_X9_findFinalWithChain_22 : decode c_X9_findFinalWithChain 22 = .ok (.aaload, 1) := by decide +kernel
theorem d_X9_findFinalWithChain_23 : decode c_X9_findFinalWithChain 23 = .ok (.iload_n 2, 1) := by decide +kernel
theorem d_X9_findFinalWithChain_24 : decode c_X9_findFinalWithChain 24 = .ok (.invokevirtual 129, 3) := by decide +kernel
theorem d_X9_findFinalWithChain_27 : decode c_X9_findFinalWithChain 27 = .ok (.iconst 1, 1) := by decide +kernel
theorem d_X9_findFinalWithChain_28 : decode c_X9_findFinalWithChain 28 = .ok (.invokevirtual 171, 3) := by decide +kernel
theorem d_X9_findFinalWithChain_31 : decode c_X9_findFinalWithChain 31 = .ok (.ifCond .eq 35, 3) := by decide +kernel
theorem d_X9_findFinalWithChain_34 : decode c_X9_findFinalWithChain 34 = .ok (.aload_n 0, 1) := by decide +kernel
theorem d_X9_findFinalWithChain_35 : decode c_X9_findFinalWithChain 35 = .ok (.aload_n 0, 1) := by decide +kernel
theorem d_X9_findFinalWithChain_36 : decode c_X9_findFinalWithChain 36 = .ok (.getfield 32, 3) := by decide +kernel
theorem d_X9_findFinalWithChain_39 : decode c_X9_findFinalWithChain 39 = .ok (.iload_n 1, 1) := by decide +kernel
theorem d_X9_findFinalWithChain_40 : decode c_X9_findFinalWithChain 40 = .ok (.aaload, 1) := by decide +kernel
theorem d_X9_findFinalWithChain_41 : decode c_X9_findFinalWithChain 41 = .ok (.iload_n 2, 1) := by decide +kernel
theorem d_X9_findFinalWithChain_42 : decode c_X9_findFinalWithChain 42 = .ok (.invokevirtual 158, 3) := by decide +kernel
theorem d_X9_findFinalWithChain_45 : decode c_X9_findFinalWithChain 45 = .ok (.aload_n 0, 1) := by decide +kernel
theorem d_X9_findFinalWithChain_46 : decode c_X9_findFinalWithChain 46 = .ok (.getfield 50, 3) := by decide +kernel
theorem d_X9_findFinalWithChain_49 : decode c_X9_findFinalWithChain 49 = .ok (.getfield 162, 3) := by decide +kernel
theorem d_X9_findFinalWithChain_52 : decode c_X9_findFinalWithChain 52 = .ok (.iconst 1, 1) := by decide +kernel
theorem d_X9_findFinalWithChain_53 : decode c_X9_findFinalWithChain 53 = .ok (.if_icmp .le 13, 3) := by decide +kernel
theorem d_X9_findFinalWithChain_56 : decode c_X9_findFinalWithChain 56 = .ok (.sipush 300, 3) := by decide +kernel
theorem d_X9_findFinalWithChain_59 : decode c_X9_findFinalWithChain 59 = .ok (.iconst 4, 1) := by decide +kernel
theorem d_X9_findFinalWithChain_60 : decode c_X9_findFinalWithChain 60 = .ok (.iload_n 1, 1) := by decide +kernel
theorem d_X9_findFinalWithChain_61 : decode c_X9_findFinalWithChain 61 = .ok (.imul, 1) := by decide +kernel
theorem d_X9_findFinalWithChain_62 : decode c_X9_findFinalWithChain 62 = .ok (.iadd, 1) := by decide +kernel
theorem d_X9_findFinalWithChain_63 : decode c_X9_findFinalWithChain 63 = .ok (.iload_n 2, 1) := by decide +kernel
theorem d_X9_findFinalWithChain_64 : decode c_X9_findFinalWithChain 64 = .ok (.iadd, 1) := by decide +kernel
theorem d_X9_findFinalWithChain_65 : decode c_X9_findFinalWithChain 65 = .ok (.ireturn, 1) := by decide +kernel
theorem d_X9_findFinalWithChain_66 : decode c_X9_findFinalWithChain 66 = .ok (.iinc 2 1, 3) := by decide +kernel
theorem d_X9_findFinalWithChain_69 : decode c_X9_findFinalWithChain 69 = .ok (.goto (-57), 3) := by decide +kernel
theorem d_X9_findFinalWithChain_72 : decode c_X9_findFinalWithChain 72 = .ok (.iinc 1 1, 3) := by decide +kernel
theorem d_X9_findFinalWithChain_75 : decode c_X9_findFinalWithChain 75 = .ok (.goto (-73), 3) := by decide +kernel
theorem d_X9_findFinalWithChain_78 : decode c_X9_findFinalWithChain 78 = .ok (.iconst 0, 1) := by decide +kernel
theorem d_X9_findFinalWithChain_79 : decode c_X9_findFinalWithChain 79 = .ok (.ireturn, 1) := by decide +kernel
theorem d_X9_buildChain_0 : decode c_X9_buildChain 0 = .ok (.aload_n 0, 1) := by decide +kernel
theorem d_X9_buildChain_1 : decode c_X9_buildChain 1 = .ok (.getfield 50, 3) := by decide +kernel
theorem d_X9_buildChain_4 : decode c_X9_buildChain 4 = .ok (.iconst 0, 1) := by decide +kernel
theorem d_X9_buildChain_5 : decode c_X9_buildChain 5 = .ok (.putfield 162, 3) := by decide +kernel
theorem d_X9_buildChain_8 : decode c_X9_buildChain 8 = .ok (.iload_n 2, 1) := by decide +kernel
theorem d_X9_buildChain_9 : decode c_X9_buildChain 9 = .ok (.iconst 4, 1) := by decide +kernel
theorem d_X9_buildChain_10 : decode c_X9_buildChain 10 = .ok (.if_icmp .lt 44, 3) := by decide +kernel
theorem d_X9_buildChain_13 : decode c_X9_buildChain 13 = .ok (.iconst 2, 1) := by decide +kernel
theorem d_X9_buildChain_14 : decode c_X9_buildChain 14 = .ok (.iload_n 2, 1) := by decide +kernel
theorem d_X9_buildChain_15 : decode c_X9_buildChain 15 = .ok (.iconst 4, 1) := by decide +kernel
theorem d_X9_buildChain_16 : decode c_X9_buildChain 16 = .ok (.isub, 1) := by decide +kernel
theorem d_X9_buildChain_17 : decode c_X9_buildChain 17 = .ok (.ishl, 1) := by decide +kernel
theorem d_X9_buildChain_18 : decode c_X9_buildChain 18 = .ok (.istore_n 3, 1) := by decide +kernel
theorem d_X9_buildChain_19 : decode c_X9_buildChain 19 = .ok (.aload_n 0, 1) := by decide +kernel
theorem d_X9_buildChain_20 : decode c_X9_buildChain 20 = .ok (.getfield 10, 3) := by decide +kernel
theorem d_X9_buildChain_23 : decode c_X9_buildChain 23 = .ok (.aload_n 1, 1) := by decide +kernel
theorem d_X9_buildChain_24 : decode c_X9_buildChain 24 = .ok (.getfield 199, 3) := by decide +kernel
theorem d_X9_buildChain_27 : decode c_X9_buildChain 27 = .ok (.getfield 133, 3) := by decide +kernel
theorem d_X9_buildChain_30 : decode c_X9_buildChain 30 = .ok (.aload_n 0, 1) := by decide +kernel
theorem d_X9_buildChain_31 : decode c_X9_buildChain 31 = .ok (.getfield 40, 3) := by decide +kernel
theorem d_X9_buildChain_34 : decode c_X9_buildChain 34 = .ok (.invokevirtual 203, 3) := by decide +kernel
theorem d_X9_buildChain_37 : decode c_X9_buildChain 37 = .ok (.aload_n 0, 1) := by decide +kernel
theorem d_X9_buildChain_38 : decode c_X9_buildChain 38 = .ok (.aload_n 1, 1) := by decide +kernel
theorem d_X9_buildChain_39 : decode c_X9_buildChain 39 = .ok (.getfield 199, 3) := by decide +kernel
theorem d_X9_buildChain_42 : decode c_X9_buildChain 42 = .ok (.iload_n 3, 1) := by decide +kernel
theorem d_X9_buildChain_43 : decode c_X9_buildChain 43 = .ok (.invokevirtual 210, 3) := by decide +kernel
theorem d_X9_buildChain_46 : decode c_X9_buildChain 46 = .ok (.aload_n 0, 1) := by decide +kernel
theorem d_X9_buildChain_47 : decode c_X9_buildChain 47 = .ok (.iload_n 3, 1) := by decide +kernel
theorem d_X9_buildChain_48 : decode c_X9_buildChain 48 = .ok (.invokevirtual 214, 3) := by decide +kernel
theorem d_X9_buildChain_51 : decode c_X9_buildChain 51 = .ok (.goto 52, 3) := by decide +kernel
theorem d_X9_buildChain_54 : decode c_X9_buildChain 54 = .ok (.aload_n 1, 1) := by decide +kernel
theorem d_X9_buildChain_55 : decode c_X9_buildChain 55 = .ok (.iload_n 2, 1) := by decide +kernel
theorem d_X9_buildChain_56 : decode c_X9_buildChain 56 = .ok (.invokevirtual 129, 3) := by decide +kernel
theorem d_X9_buildChain_59 : decode c_X9_buildChain 59 = .ok (.astore_n 3, 1) := by decide +kernel
theorem d_X9_buildChain_60 : decode c_X9_buildChain 60 = .ok (.aload_n 0, 1) := by decide +kernel
theorem d_X9_buildChain_61 : decode c_X9_buildChain 61 = .ok (.aload_n 1, 1) := by decide +kernel
theorem d_X9_buildChain_62 : decode c_X9_buildChain 62 = .ok (.aload_n 3, 1) := by decide +kernel
theorem d_X9_buildChain_63 : decode c_X9_buildChain 63 = .ok (.invokevirtual 217, 3) := by decide +kernel
theorem d_X9_buildChain_66 : decode c_X9_buildChain 66 = .ok (.aload_n 3, 1) := by decide +kernel
theorem d_X9_buildChain_67 : decode c_X9_buildChain 67 = .ok (.iconst 2, 1) := by decide +kernel
theorem d_X9_buildChain_68 : decode c_X9_buildChain 68 = .ok (.invokevirtual 171, 3) := by decide +kernel
theorem d_X9_buildChain_71 : decode c_X9_buildChain 71 = .ok (.ifCond .ne 12, 3) := by decide +kernel
theorem d_X9_buildChain_74 : decode c_X9_buildChain 74 = .ok (.aload_n 0, 1) := by decide +kernel
theorem d_X9_buildChain_75 : decode c_X9_buildChain 75 = .ok (.aload_n 1, 1) := by decide +kernel
theorem d_X9_buildChain_76 : decode c_X9_buildChain 76 = .ok (.getfield 199, 3) := by decide +kernel
theorem d_X9_buildChain_79 : decode c_X9_buildChain 79 = .ok (.iconst 1, 1) := by decide +kernel
theorem d_X9_buildChain_80 : decode c_X9_buildChain 80 = .ok (.invokevirtual 210, 3) := by decide +kernel
theorem d_X9_buildChain_83 : decode c_X9_buildChain 83 = .ok (.aload_n 0, 1) := by decide +kernel
theorem d_X9_buildChain_84 : decode c_X9_buildChain 84 = .ok (.aload_n 3, 1) := by decide +kernel
theorem d_X9_buildChain_85 : decode c_X9_buildChain 85 = .ok (.iconst 1, 1) := by decide +kernel
theorem d_X9_buildChain_86 : decode c_X9_buildChain 86 = .ok (.invokevirtual 210, 3) := by decide +kernel
theorem d_X9_buildChain_89 : decode c_X9_buildChain 89 = .ok (.aload_n 0, 1) := by decide +kernel
theorem d_X9_buildChain_90 : decode c_X9_buildChain 90 = .ok (.iconst 1, 1) := by decide +kernel
theorem d_X9_buildChain_91 : decode c_X9_buildChain 91 = .ok (.invokevirtual 214, 3) := by decide +kernel
theorem d_X9_buildChain_94 : decode c_X9_buildChain 94 = .ok (.aload_n 0, 1) := by decide +kernel
theorem d_X9_buildChain_95 : decode c_X9_buildChain 95 = .ok (.aload_n 1, 1) := by decide +kernel
theorem d_X9_buildChain_96 : decode c_X9_buildChain 96 = .ok (.getfield 221, 3) := by decide +kernel
theorem d_X9_buildChain_99 : decode c_X9_buildChain 99 = .ok (.iload_n 2, 1) := by decide +kernel
theorem d_X9_buildChain_100 : decode c_X9_buildChain 100 = .ok (.invokevirtual 223, 3) := by decide +kernel
theorem d_X9_buildChain_103 : decode c_X9_buildChain 103 = .ok (.aload_n 0, 1) := by decide +kernel
theorem d_X9_buildChain_104 : decode c_X9_buildChain 104 = .ok (.getfield 50, 3) := by decide +kernel
theorem d_X9_buildChain_107 : decode c_X9_buildChain 107 = .ok (.bipush 32, 2) := by decide +kernel
theorem d_X9_buildChain_109 : decode c_X9_buildChain 109 = .ok (.iconst 0, 1) := by decide +kernel
theorem d_X9_buildChain_110 : decode c_X9_buildChain 110 = .ok (.invokevirtual 226, 3) := by decide +kernel
theorem d_X9_buildChain_113 : decode c_X9_buildChain 113 = .ok (.return_, 1) := by decide +kernel
theorem d_X9_findInForceForMethod_0 : decode c_X9_findInForceForMethod 0 = .ok (.aload_n 0, 1) := by decide +kernel
theorem d_X9_findInForceForMethod_1 : decode c_X9_findInForceForMethod 1 = .ok (.getfield 10, 3) := by decide +kernel
theorem d_X9_findInForceForMethod_4 : decode c_X9_findInForceForMethod 4 = .ok (.aload_n 2, 1) := by decide +kernel
theorem d_X9_findInForceForMethod_5 : decode c_X9_findInForceForMethod 5 = .ok (.getfield 133, 3) := by decide +kernel
theorem d_X9_findInForceForMethod_8 : decode c_X9_findInForceForMethod 8 = .ok (.aload_n 0, 1) := by decide +kernel
theorem d_X9_findInForceForMethod_9 : decode c_X9_findInForceForMethod 9 = .ok (.getfield 40, 3) := by decide +kernel
theorem d_X9_findInForceForMethod_12 : decode c_X9_findInForceForMethod 12 = .ok (.invokevirtual 203, 3) := by decide +kernel
theorem d_X9_findInForceForMethod_15 : decode c_X9_findInForceForMethod 15 = .ok (.aload_n 0, 1) := by decide +kernel
theorem d_X9_findInForceForMethod_16 : decode c_X9_findInForceForMethod 16 = .ok (.getfield 10, 3) := by decide +kernel
theorem d_X9_findInForceForMethod_19 : decode c_X9_findInForceForMethod 19 = .ok (.aload_n 1, 1) := by decide +kernel
theorem d_X9_findInForceForMethod_20 : decode c_X9_findInForceForMethod 20 = .ok (.getfield 199, 3) := by decide +kernel
theorem d_X9_findInForceForMethod_23 : decode c_X9_findInForceForMethod 23 = .ok (.getfield 133, 3) := by decide +kernel
theorem d_X9_findInForceForMethod_26 : decode c_X9_findInForceForMethod 26 = .ok (.aload_n 0, 1) := by decide +kernel
theorem d_X9_findInForceForMethod_27 : decode c_X9_findInForceForMethod 27 = .ok (.getfield 44, 3) := by decide +kernel
theorem d_X9_findInForceForMethod_30 : decode c_X9_findInForceForMethod 30 = .ok (.invokevirtual 203, 3) := by decide +kernel
theorem d_X9_findInForceForMethod_33 : decode c_X9_findInForceForMethod 33 = .ok (.aload_n 0, 1) := by decide +kernel
theorem d_X9_findInForceForMethod_34 : decode c_X9_findInForceForMethod 34 = .ok (.getfield 40, 3) := by decide +kernel
theorem d_X9_findInForceForMethod_37 : decode c_X9_findInForceForMethod 37 = .ok (.aload_n 0, 1) := by decide +kernel
theorem d_X9_findInForceForMethod_38 : decode c_X9_findInForceForMethod 38 = .ok (.getfield 44, 3) := by decide +kernel
theorem d_X9_findInForceForMethod_41 : decode c_X9_findInForceForMethod 41 = .ok (.invokevirtual 227, 3) := by decide +kernel
theorem d_X9_findInForceForMethod_44 : decode c_X9_findInForceForMethod 44 = .ok (.return_, 1) := by decide +kernel
theorem d_X9_appendListed_0 : decode c_X9_appendListed 0 = .ok (.iconst 0, 1) := by decide +kernel
theorem d_X9_appendListed_1 : decode c_X9_appendListed 1 = .ok (.istore_n 3, 1) := by decide +kernel
theorem d_X9_appendListed_2 : decode c_X9_appendListed 2 = .ok (.iload_n 3, 1) := by decide +kernel
theorem d_X9_appendListed_3 : decode c_X9_appendListed 3 = .ok (.aload_n 1, 1) := by decide +kernel
theorem d_X9_appendListed_4 : decode c_X9_appendListed 4 = .ok (.getfield 136, 3) := by decide +kernel
theorem d_X9_appendListed_7 : decode c_X9_appendListed 7 = .ok (.if_icmp .ge 50, 3) := by decide +kernel
theorem d_X9_appendListed_10 : decode c_X9_appendListed 10 = .ok (.aload_n 1, 1) := by decide +kernel
theorem d_X9_appendListed_11 : decode c_X9_appendListed 11 = .ok (.getfield 231, 3) := by decide +kernel
theorem d_X9_appendListed_14 : decode c_X9_appendListed 14 = .ok (.iload_n 3, 1) := by decide +kernel
theorem d_X9_appendListed_15 : decode c_X9_appendListed 15 = .ok (.iaload, 1) := by decide +kernel
theorem d_X9_appendListed_16 : decode c_X9_appendListed 16 = .ok (.istore 4, 2) := by decide +kernel
theorem d_X9_appendListed_18 : decode c_X9_appendListed 18 = .ok (.aload_n 0, 1) := by decide +kernel
theorem d_X9_appendListed_19 : decode c_X9_appendListed 19 = .ok (.getfield 18, 3) := by decide +kernel
theorem d_X9_appendListed_22 : decode c_X9_appendListed 22 = .ok (.iload 4, 2) := by decide +kernel
theorem d_X9_appendListed_24 : decode c_X9_appendListed 24 = .ok (.aaload, 1) := by decide +kernel
theorem d_X9_appendListed_25 : decode c_X9_appendListed 25 = .ok (.iload_n 2, 1) := by decide +kernel
theorem d_X9_appendListed_26 : decode c_X9_appendListed 26 = .ok (.invokevirtual 234, 3) := by decide +kernel
theorem d_X9_appendListed_29 : decode c_X9_appendListed 29 = .ok (.ifCond .eq 22, 3) := by decide +kernel
theorem d_X9_appendListed_32 : decode c_X9_appendListed 32 = .ok (.aload_n 0, 1) := by decide +kernel
theorem d_X9_appendListed_33 : decode c_X9_appendListed 33 = .ok (.getfield 50, 3) := by decide +kernel
theorem d_X9_appendListed_36 : decode c_X9_appendListed 36 = .ok (.iload 4, 2) := by decide +kernel
theorem d_X9_appendListed_38 : decode c_X9_appendListed 38 = .ok (.aload_n 0, 1) := by decide +kernel
theorem d_X9_appendListed_39 : decode c_X9_appendListed 39 = .ok (.getfield 18, 3) := by decide +kernel
theorem d_X9_appendListed_42 : decode c_X9_appendListed 42 = .ok (.iload 4, 2) := by decide +kernel
theorem d_X9_appendListed_44 : decode c_X9_appendListed 44 = .ok (.aaload, 1) := by decide +kernel
theorem d_X9_appendListed_45 : decode c_X9_appendListed 45 = .ok (.getfield 237, 3) := by decide +kernel
theorem d_X9_appendListed_48 : decode c_X9_appendListed 48 = .ok (.invokevirtual 226, 3) := by decide +kernel
theorem d_X9_appendListed_51 : decode c_X9_appendListed 51 = .ok (.iinc 3 1, 3) := by decide +kernel
theorem d_X9_appendListed_54 : decode c_X9_appendListed 54 = .ok (.goto (-52), 3) := by decide +kernel
theorem d_X9_appendListed_57 : decode c_X9_appendListed 57 = .ok (.return_, 1) := by decide +kernel
theorem d_X9_appendBound_0 : decode c_X9_appendBound 0 = .ok (.iconst 1, 1) := by decide +kernel
theorem d_X9_appendBound_1 : decode c_X9_appendBound 1 = .ok (.istore_n 2, 1) := by decide +kernel
theorem d_X9_appendBound_2 : decode c_X9_appendBound 2 = .ok (.iload_n 2, 1) := by decide +kernel
theorem d_X9_appendBound_3 : decode c_X9_appendBound 3 = .ok (.bipush 9, 2) := by decide +kernel
theorem d_X9_appendBound_5 : decode c_X9_appendBound 5 = .ok (.if_icmp .gt 76, 3) := by decide +kernel
theorem d_X9_appendBound_8 : decode c_X9_appendBound 8 = .ok (.iconst 0, 1) := by decide +kernel
theorem d_X9_appendBound_9 : decode c_X9_appendBound 9 = .ok (.istore_n 3, 1) := by decide +kernel
theorem d_X9_appendBound_10 : decode c_X9_appendBound 10 = .ok (.iload_n 3, 1) := by decide +kernel
theorem d_X9_appendBound_11 : decode c_X9_appendBound 11 = .ok (.aload_n 0, 1) := by decide +kernel
theorem d_X9_appendBound_12 : decode c_X9_appendBound 12 = .ok (.getfield 64, 3) := by decide +kernel
theorem d_X9_appendBound_15 : decode c_X9_appendBound 15 = .ok (.if_icmp .ge 60, 3) := by decide +kernel
theorem d_X9_appendBound_18 : decode c_X9_appendBound 18 = .ok (.aload_n 0, 1) := by decide +kernel
theorem d_X9_appendBound_19 : decode c_X9_appendBound 19 = .ok (.getfield 18, 3) := by decide +kernel
theorem d_X9_appendBound_22 : decode c_X9_appendBound 22 = .ok (.iload_n 3, 1) := by decide +kernel
theorem d_X9_appendBound_23 : decode c_X9_appendBound 23 = .ok (.aaload, 1) := by decide +kernel
theorem d_X9_appendBound_24 : decode c_X9_appendBound 24 = .ok (.astore 4, 2) := by decide +kernel
theorem d_X9_appendBound_26 : decode c_X9_appendBound 26 = .ok (.aload 4, 2) := by decide +kernel
theorem d_X9_appendBound_28 : decode c_X9_appendBound 28 = .ok (.getfield 240, 3) := by decide +kernel
theorem d_X9_appendBound_31 : decode c_X9_appendBound 31 = .ok (.iload_n 2, 1) := by decide +kernel
theorem d_X9_appendBound_32 : decode c_X9_appendBound 32 = .ok (.if_icmp .ne 37, 3) := by decide +kernel
theorem d_X9_appendBound_35 : decode c_X9_appendBound 35 = .ok (.aload 4, 2) := by decide +kernel
theorem d_X9_appendBound_37 : decode c_X9_appendBound 37 = .ok (.iload_n 1, 1) := by decide +kernel
theorem d_X9_appendBound_38 : decode c_X9_appendBound 38 = .ok (.invokevirtual 234, 3) := by decide +kernel
theorem d_X9_appendBound_41 : decode c_X9_appendBound 41 = .ok (.ifCond .eq 28, 3) := by decide +kernel
theorem d_X9_appendBound_44 : decode c_X9_appendBound 44 = .ok (.aload_n 0, 1) := by decide +kernel
theorem d_X9_appendBound_45 : decode c_X9_appendBound 45 = .ok (.aload 4, 2) := by decide +kernel
theorem d_X9_appendBound_47 : decode c_X9_appendBound 47 = .ok (.getfield 119, 3) := by decide +kernel
theorem d_X9_appendBound_50 : decode c_X9_appendBound 50 = .ok (.invokevirtual 243, 3) := by decide +kernel
theorem d_X9_appendBound_53 : decode c_X9_appendBound 53 = .ok (.ifCond .eq 16, 3) := by decide +kernel
theorem d_X9_appendBound_56 : decode c_X9_appendBound 56 = .ok (.aload_n 0, 1) := by decide +kernel
theorem d_X9_appendBound_57 : decode c_X9_appendBound 57 = .ok (.getfield 50, 3) := by decide +kernel
theorem d_X9_appendBound_60 : decode c_X9_appendBound 60 = .ok (.iload_n 3, 1) := by decide +kernel
theorem d_X9_appendBound_61 : decode c_X9_appendBound 61 = .ok (.aload 4, 2) := by decide +kernel
theorem d_X9_appendBound_63 : decode c_X9_appendBound 63 = .ok (.getfield 237, 3) := by decide +kernel
theorem d_X9_appendBound_66 : decode c_X9_appendBound 66 = .ok (.invokevirtual 226, 3) := by decide +kernel
theorem d_X9_appendBound_69 : decode c_X9_appendBound 69 = .ok (.iinc 3 1, 3) := by decide +kernel
theorem d_X9_appendBound_72 : decode c_X9_appendBound 72 = .ok (.goto (-62), 3) := by decide +kernel
theorem d_X9_appendBound_75 : decode c_X9_appendBound 75 = .ok (.iinc 2 1, 3) := by decide +kernel
theorem d_X9_appendBound_78 : decode c_X9_appendBound 78 = .ok (.goto (-76), 3) := by decide +kernel
theorem d_X9_appendBound_81 : decode c_X9_appendBound 81 = .ok (.return_, 1) := by decide +kernel
theorem d_X9_isInForce_0 : decode c_X9_isInForce 0 = .ok (.aload_n 0, 1) := by decide +kernel
theorem d_X9_isInForce_1 : decode c_X9_isInForce 1 = .ok (.getfield 10, 3) := by decide +kernel
theorem d_X9_isInForce_4 : decode c_X9_isInForce 4 = .ok (.aload_n 1, 1) := by decide +kernel
theorem d_X9_isInForce_5 : decode c_X9_isInForce 5 = .ok (.aload_n 0, 1) := by decide +kernel
theorem d_X9_isInForce_6 : decode c_X9_isInForce 6 = .ok (.getfield 44, 3) := by decide +kernel
theorem d_X9_isInForce_9 : decode c_X9_isInForce 9 = .ok (.invokevirtual 203, 3) := by decide +kernel
theorem d_X9_isInForce_12 : decode c_X9_isInForce 12 = .ok (.aload_n 1, 1) := by decide +kernel
theorem d_X9_isInForce_13 : decode c_X9_isInForce 13 = .ok (.getfield 246, 3) := by decide +kernel
theorem d_X9_isInForce_16 : decode c_X9_isInForce 16 = .ok (.ifCond .le 21, 3) := by decide +kernel
theorem d_X9_isInForce_19 : decode c_X9_isInForce 19 = .ok (.aload_n 0, 1) := by decide +kernel
theorem d_X9_isInForce_20 : decode c_X9_isInForce 20 = .ok (.getfield 44, 3) := by decide +kernel
theorem d_X9_isInForce_23 : decode c_X9_isInForce 23 = .ok (.aload_n 0, 1) := by decide +kernel
theorem d_X9_isInForce_24 : decode c_X9_isInForce 24 = .ok (.getfield 40, 3) := by decide +kernel
theorem d_X9_isInForce_27 : decode c_X9_isInForce 27 = .ok (.invokevirtual 247, 3) := by decide +kernel
theorem d_X9_isInForce_30 : decode c_X9_isInForce 30 = .ok (.ifCond .eq 7, 3) := by decide +kernel
theorem d_X9_isInForce_33 : decode c_X9_isInForce 33 = .ok (.iconst 1, 1) := by decide +kernel
theorem d_X9_isInForce_34 : decode c_X9_isInForce 34 = .ok (.goto 4, 3) := by decide +kernel
theorem d_X9_isInForce_37 : decode c_X9_isInForce 37 = .ok (.iconst 0, 1) := by decide +kernel
theorem d_X9_isInForce_38 : decode c_X9_isInForce 38 = .ok (.ireturn, 1) := by decide +kernel
theorem d_X9_appendDecorators_0 : decode c_X9_appendDecorators 0 = .ok (.iconst 1, 1) := by decide +kernel
theorem d_X9_appendDecorators_1 : decode c_X9_appendDecorators 1 = .ok (.istore_n 3, 1) := by decide +kernel
theorem d_X9_appendDecorators_2 : decode c_X9_appendDecorators 2 = .ok (.iload_n 3, 1) := by decide +kernel
theorem d_X9_appendDecorators_3 : decode c_X9_appendDecorators 3 = .ok (.bipush 9, 2) := by decide +kernel
theorem d_X9_appendDecorators_5 : decode c_X9_appendDecorators 5 = .ok (.if_icmp .gt 78, 3) := by decide +kernel
theorem d_X9_appendDecorators_8 : decode c_X9_appendDecorators 8 = .ok (.iconst 0, 1) := by decide +kernel
theorem d_X9_appendDecorators_9 : decode c_X9_appendDecorators 9 = .ok (.istore 4, 2) := by decide +kernel
theorem d_X9_appendDecorators_11 : decode c_X9_appendDecorators 11 = .ok (.iload 4, 2) := by decide +kernel
theorem d_X9_appendDecorators_13 : decode c_X9_appendDecorators 13 = .ok (.aload_n 0, 1) := by decide +kernel
theorem d_X9_appendDecorators_14 : decode c_X9_appendDecorators 14 = .ok (.getfield 68, 3) := by decide +kernel
theorem d_X9_appendDecorators_17 : decode c_X9_appendDecorators 17 = .ok (.if_icmp .ge 60, 3) := by decide +kernel
theorem d_X9_appendDecorators_20 : decode c_X9_appendDecorators 20 = .ok (.aload_n 0, 1) := by decide +kernel
theorem d_X9_appendDecorators_21 : decode c_X9_appendDecorators 21 = .ok (.getfield 25, 3) := by decide +kernel
theorem d_X9_appendDecorators_24 : decode c_X9_appendDecorators 24 = .ok (.iload 4, 2) := by decide +kernel
theorem d_X9_appendDecorators_26 : decode c_X9_appendDecorators 26 = .ok (.aaload, 1) := by decide +kernel
theorem d_X9_appendDecorators_27 : decode c_X9_appendDecorators 27 = .ok (.getfield 251, 3) := by decide +kernel
theorem d_X9_appendDecorators_30 : decode c_X9_appendDecorators 30 = .ok (.iload_n 3, 1) := by decide +kernel
theorem d_X9_appendDecorators_31 : decode c_X9_appendDecorators 31 = .ok (.if_icmp .ne 40, 3) := by decide +kernel
theorem d_X9_appendDecorators_34 : decode c_X9_appendDecorators 34 = .ok (.aload_n 0, 1) := by decide +kernel
theorem d_X9_appendDecorators_35 : decode c_X9_appendDecorators 35 = .ok (.getfield 25, 3) := by decide +kernel
theorem d_X9_appendDecorators_38 : decode c_X9_appendDecorators 38 = .ok (.iload 4, 2) := by decide +kernel
theorem d_X9_appendDecorators_40 : decode c_X9_appendDecorators 40 = .ok (.aaload, 1) := by decide +kernel
theorem d_X9_appendDecorators_41 : decode c_X9_appendDecorators 41 = .ok (.iload_n 1, 1) := by decide +kernel
theorem d_X9_appendDecorators_42 : decode c_X9_appendDecorators 42 = .ok (.iload_n 2, 1) := by decide +kernel
theorem d_X9_appendDecorators_43 : decode c_X9_appendDecorators 43 = .ok (.invokevirtual 252, 3) := by decide +kernel
theorem d_X9_appendDecorators_46 : decode c_X9_appendDecorators 46 = .ok (.ifCond .eq 25, 3) := by decide +kernel
theorem d_X9_appendDecorators_49 : decode c_X9_appendDecorators 49 = .ok (.aload_n 0, 1) := by decide +kernel
theorem d_X9_appendDecorators_50 : decode c_X9_appendDecorators 50 = .ok (.getfield 50, 3) := by decide +kernel
theorem d_X9_appendDecorators_53 : decode c_X9_appendDecorators 53 = .ok (.bipush 16, 2) := by decide +kernel
theorem d_X9_appendDecorators_55 : decode c_X9_appendDecorators 55 = .ok (.iload 4, 2) := by decide +kernel
theorem d_X9_appendDecorators_57 : decode c_X9_appendDecorators 57 = .ok (.iadd, 1) := by decide +kernel
theorem d_X9_appendDecorators_58 : decode c_X9_appendDecorators 58 = .ok (.aload_n 0, 1) := by decide +kernel
theorem d_X9_appendDecorators_59 : decode c_X9_appendDecorators 59 = .ok (.getfield 25, 3) := by decide +kernel
theorem d_X9_appendDecorators_62 : decode c_X9_appendDecorators 62 = .ok (.iload 4, 2) := by decide +kernel
theorem d_X9_appendDecorators_64 : decode c_X9_appendDecorators 64 = .ok (.aaload, 1) := by decide +kernel
theorem d_X9_appendDecorators_65 : decode c_X9_appendDecorators 65 = .ok (.getfield 255, 3) := by decide +kernel
theorem d_X9_appendDecorators_68 : decode c_X9_appendDecorators 68 = .ok (.invokevirtual 226, 3) := by decide +kernel
theorem d_X9_appendDecorators_71 : decode c_X9_appendDecorators 71 = .ok (.iinc 4 1, 3) := by decide +kernel
theorem d_X9_appendDecorators_74 : decode c_X9_appendDecorators 74 = .ok (.goto (-63), 3) := by decide +kernel
theorem d_X9_appendDecorators_77 : decode c_X9_appendDecorators 77 = .ok (.iinc 3 1, 3) := by decide +kernel
theorem d_X9_appendDecorators_80 : decode c_X9_appendDecorators 80 = .ok (.goto (-78), 3) := by decide +kernel
theorem d_X9_appendDecorators_83 : decode c_X9_appendDecorators 83 = .ok (.return_, 1) := by decide +kernel
