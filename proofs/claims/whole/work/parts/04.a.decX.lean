theorem d_X0_init_0 : decode c_X0_init 0 = .ok (.aload_n 0, 1) := by decide +kernel
theorem d_X0_init_1 : decode c_X0_init 1 = .ok (.invokespecial 3, 3) := by decide +kernel
theorem d_X0_init_4 : decode c_X0_init 4 = .ok (.aload_n 0, 1) := by decide +kernel
theorem d_X0_init_5 : decode c_X0_init 5 = .ok (.bipush 8, 2) := by decide +kernel
theorem d_X0_init_7 : decode c_X0_init 7 = .ok (.newarray .boolean, 2) := by decide +kernel
theorem d_X0_init_9 : decode c_X0_init 9 = .ok (.putfield 9, 3) := by decide +kernel
theorem d_X0_init_12 : decode c_X0_init 12 = .ok (.aload_n 0, 1) := by decide +kernel
theorem d_X0_init_13 : decode c_X0_init 13 = .ok (.bipush 16, 2) := by decide +kernel
theorem d_X0_init_15 : decode c_X0_init 15 = .ok (.newarray .int, 2) := by decide +kernel
theorem d_X0_init_17 : decode c_X0_init 17 = .ok (.putfield 15, 3) := by decide +kernel
theorem d_X0_init_20 : decode c_X0_init 20 = .ok (.aload_n 0, 1) := by decide +kernel
theorem d_X0_init_21 : decode c_X0_init 21 = .ok (.new 19, 3) := by decide +kernel
theorem d_X0_init_24 : decode c_X0_init 24 = .ok (.dup, 1) := by decide +kernel
theorem d_X0_init_25 : decode c_X0_init 25 = .ok (.bipush 16, 2) := by decide +kernel
theorem d_X0_init_27 : decode c_X0_init 27 = .ok (.invokespecial 21, 3) := by decide +kernel
theorem d_X0_init_30 : decode c_X0_init 30 = .ok (.putfield 24, 3) := by decide +kernel
theorem d_X0_init_33 : decode c_X0_init 33 = .ok (.return_, 1) := by decide +kernel
theorem d_X0_forget_0 : decode c_X0_forget 0 = .ok (.aload_n 0, 1) := by decide +kernel
theorem d_X0_forget_1 : decode c_X0_forget 1 = .ok (.iconst 0, 1) := by decide +kernel
theorem d_X0_forget_2 : decode c_X0_forget 2 = .ok (.putfield 28, 3) := by decide +kernel
theorem d_X0_forget_5 : decode c_X0_forget 5 = .ok (.aload_n 0, 1) := by decide +kernel
theorem d_X0_forget_6 : decode c_X0_forget 6 = .ok (.getfield 24, 3) := by decide +kernel
theorem d_X0_forget_9 : decode c_X0_forget 9 = .ok (.iconst 0, 1) := by decide +kernel
theorem d_X0_forget_10 : decode c_X0_forget 10 = .ok (.putfield 32, 3) := by decide +kernel
theorem d_X0_forget_13 : decode c_X0_forget 13 = .ok (.return_, 1) := by decide +kernel
theorem d_X0_has_0 : decode c_X0_has 0 = .ok (.iload_n 1, 1) := by decide +kernel
theorem d_X0_has_1 : decode c_X0_has 1 = .ok (.ifCond .lt 15, 3) := by decide +kernel
theorem d_X0_has_4 : decode c_X0_has 4 = .ok (.iload_n 1, 1) := by decide +kernel
theorem d_X0_has_5 : decode c_X0_has 5 = .ok (.aload_n 0, 1) := by decide +kernel
theorem d_X0_has_6 : decode c_X0_has 6 = .ok (.getfield 28, 3) := by decide +kernel
theorem d_X0_has_9 : decode c_X0_has 9 = .ok (.if_icmp .ge 7, 3) := by decide +kernel
theorem d_X0_has_12 : decode c_X0_has 12 = .ok (.iconst 1, 1) := by decide +kernel
theorem d_X0_has_13 : decode c_X0_has 13 = .ok (.goto 4, 3) := by decide +kernel
theorem d_X0_has_16 : decode c_X0_has 16 = .ok (.iconst 0, 1) := by decide +kernel
theorem d_X0_has_17 : decode c_X0_has 17 = .ok (.ireturn, 1) := by decide +kernel
theorem d_X0_declare_0 : decode c_X0_declare 0 = .ok (.aload_n 0, 1) := by decide +kernel
theorem d_X0_declare_1 : decode c_X0_declare 1 = .ok (.getfield 9, 3) := by decide +kernel
theorem d_X0_declare_4 : decode c_X0_declare 4 = .ok (.aload_n 0, 1) := by decide +kernel
theorem d_X0_declare_5 : decode c_X0_declare 5 = .ok (.getfield 28, 3) := by decide +kernel
theorem d_X0_declare_8 : decode c_X0_declare 8 = .ok (.iload_n 1, 1) := by decide +kernel
theorem d_X0_declare_9 : decode c_X0_declare 9 = .ok (.bastore, 1) := by decide +kernel
theorem d_X0_declare_10 : decode c_X0_declare 10 = .ok (.aload_n 0, 1) := by decide +kernel
theorem d_X0_declare_11 : decode c_X0_declare 11 = .ok (.dup, 1) := by decide +kernel
theorem d_X0_declare_12 : decode c_X0_declare 12 = .ok (.getfield 28, 3) := by decide +kernel
theorem d_X0_declare_15 : decode c_X0_declare 15 = .ok (.iconst 1, 1) := by decide +kernel
theorem d_X0_declare_16 : decode c_X0_declare 16 = .ok (.iadd, 1) := by decide +kernel
theorem d_X0_declare_17 : decode c_X0_declare 17 = .ok (.putfield 28, 3) := by decide +kernel
theorem d_X0_declare_20 : decode c_X0_declare 20 = .ok (.aload_n 0, 1) := by decide +kernel
theorem d_X0_declare_21 : decode c_X0_declare 21 = .ok (.getfield 28, 3) := by decide +kernel
theorem d_X0_declare_24 : decode c_X0_declare 24 = .ok (.iconst 1, 1) := by decide +kernel
theorem d_X0_declare_25 : decode c_X0_declare 25 = .ok (.isub, 1) := by decide +kernel
theorem d_X0_declare_26 : decode c_X0_declare 26 = .ok (.ireturn, 1) := by decide +kernel
theorem d_X0_valueThatMatters_0 : decode c_X0_valueThatMatters 0 = .ok (.aload_n 0, 1) := by decide +kernel
theorem d_X0_valueThatMatters_1 : decode c_X0_valueThatMatters 1 = .ok (.getfield 9, 3) := by decide +kernel
theorem d_X0_valueThatMatters_4 : decode c_X0_valueThatMatters 4 = .ok (.iload_n 1, 1) := by decide +kernel
theorem d_X0_valueThatMatters_5 : decode c_X0_valueThatMatters 5 = .ok (.baload, 1) := by decide +kernel
theorem d_X0_valueThatMatters_6 : decode c_X0_valueThatMatters 6 = .ok (.ifCond .eq 7, 3) := by decide +kernel
theorem d_X0_valueThatMatters_9 : decode c_X0_valueThatMatters 9 = .ok (.iload_n 2, 1) := by decide +kernel
theorem d_X0_valueThatMatters_10 : decode c_X0_valueThatMatters 10 = .ok (.goto 4, 3) := by decide +kernel
theorem d_X0_valueThatMatters_13 : decode c_X0_valueThatMatters 13 = .ok (.iconst 0, 1) := by decide +kernel
theorem d_X0_valueThatMatters_14 : decode c_X0_valueThatMatters 14 = .ok (.ireturn, 1) := by decide +kernel
theorem d_X0_addCarried_0 : decode c_X0_addCarried 0 = .ok (.aload_n 0, 1) := by decide +kernel
theorem d_X0_addCarried_1 : decode c_X0_addCarried 1 = .ok (.getfield 15, 3) := by decide +kernel
theorem d_X0_addCarried_4 : decode c_X0_addCarried 4 = .ok (.aload_n 0, 1) := by decide +kernel
theorem d_X0_addCarried_5 : decode c_X0_addCarried 5 = .ok (.getfield 24, 3) := by decide +kernel
theorem d_X0_addCarried_8 : decode c_X0_addCarried 8 = .ok (.getfield 32, 3) := by decide +kernel
theorem d_X0_addCarried_11 : decode c_X0_addCarried 11 = .ok (.iload_n 1, 1) := by decide +kernel
theorem d_X0_addCarried_12 : decode c_X0_addCarried 12 = .ok (.iastore, 1) := by decide +kernel
theorem d_X0_addCarried_13 : decode c_X0_addCarried 13 = .ok (.aload_n 0, 1) := by decide +kernel
theorem d_X0_addCarried_14 : decode c_X0_addCarried 14 = .ok (.getfield 24, 3) := by decide +kernel
theorem d_X0_addCarried_17 : decode c_X0_addCarried 17 = .ok (.iload_n 2, 1) := by decide +kernel
theorem d_X0_addCarried_18 : decode c_X0_addCarried 18 = .ok (.aload_n 0, 1) := by decide +kernel
theorem d_X0_addCarried_19 : decode c_X0_addCarried 19 = .ok (.iload_n 2, 1) := by decide +kernel
theorem d_X0_addCarried_20 : decode c_X0_addCarried 20 = .ok (.iload_n 3, 1) := by decide +kernel
theorem d_X0_addCarried_21 : decode c_X0_addCarried 21 = .ok (.invokevirtual 33, 3) := by decide +kernel
theorem d_X0_addCarried_24 : decode c_X0_addCarried 24 = .ok (.invokevirtual 37, 3) := by decide +kernel
theorem d_X0_addCarried_27 : decode c_X0_addCarried 27 = .ok (.return_, 1) := by decide +kernel
theorem d_X0_close_0 : decode c_X0_close 0 = .ok (.aload_n 2, 1) := by decide +kernel
theorem d_X0_close_1 : decode c_X0_close 1 = .ok (.invokevirtual 41, 3) := by decide +kernel
theorem d_X0_close_4 : decode c_X0_close 4 = .ok (.iconst 0, 1) := by decide +kernel
theorem d_X0_close_5 : decode c_X0_close 5 = .ok (.istore_n 3, 1) := by decide +kernel
theorem d_X0_close_6 : decode c_X0_close 6 = .ok (.iload_n 3, 1) := by decide +kernel
theorem d_X0_close_7 : decode c_X0_close 7 = .ok (.aload_n 1, 1) := by decide +kernel
theorem d_X0_close_8 : decode c_X0_close 8 = .ok (.getfield 32, 3) := by decide +kernel
theorem d_X0_close_11 : decode c_X0_close 11 = .ok (.if_icmp .ge 25, 3) := by decide +kernel
theorem d_X0_close_14 : decode c_X0_close 14 = .ok (.aload_n 2, 1) := by decide +kernel
theorem d_X0_close_15 : decode c_X0_close 15 = .ok (.aload_n 1, 1) := by decide +kernel
theorem d_X0_close_16 : decode c_X0_close 16 = .ok (.getfield 46, 3) := by decide +kernel
theorem d_X0_close_19 : decode c_X0_close 19 = .ok (.iload_n 3, 1) := by decide +kernel
theorem d_X0_close_20 : decode c_X0_close 20 = .ok (.iaload, 1) := by decide +kernel
theorem d_X0_close_21 : decode c_X0_close 21 = .ok (.aload_n 1, 1) := by decide +kernel
theorem d_X0_close_22 : decode c_X0_close 22 = .ok (.getfield 49, 3) := by decide +kernel
theorem d_X0_close_25 : decode c_X0_close 25 = .ok (.iload_n 3, 1) := by decide +kernel
theorem d_X0_close_26 : decode c_X0_close 26 = .ok (.iaload, 1) := by decide +kernel
theorem d_X0_close_27 : decode c_X0_close 27 = .ok (.invokevirtual 52, 3) := by decide +kernel
theorem d_X0_close_30 : decode c_X0_close 30 = .ok (.iinc 3 1, 3) := by decide +kernel
theorem d_X0_close_33 : decode c_X0_close 33 = .ok (.goto (-27), 3) := by decide +kernel
theorem d_X0_close_36 : decode c_X0_close 36 = .ok (.iconst 0, 1) := by decide +kernel
theorem d_X0_close_37 : decode c_X0_close 37 = .ok (.istore_n 3, 1) := by decide +kernel
theorem d_X0_close_38 : decode c_X0_close 38 = .ok (.iload_n 3, 1) := by decide +kernel
theorem d_X0_close_39 : decode c_X0_close 39 = .ok (.aload_n 0, 1) := by decide +kernel
theorem d_X0_close_40 : decode c_X0_close 40 = .ok (.getfield 28, 3) := by decide +kernel
theorem d_X0_close_43 : decode c_X0_close 43 = .ok (.if_icmp .ge 69, 3) := by decide +kernel
theorem d_X0_close_46 : decode c_X0_close 46 = .ok (.iconst 0, 1) := by decide +kernel
theorem d_X0_close_47 : decode c_X0_close 47 = .ok (.istore 4, 2) := by decide +kernel
theorem d_X0_close_49 : decode c_X0_close 49 = .ok (.iload 4, 2) := by decide +kernel
theorem d_X0_close_51 : decode c_X0_close 51 = .ok (.aload_n 0, 1) := by decide +kernel
theorem d_X0_close_52 : decode c_X0_close 52 = .ok (.getfield 24, 3) := by decide +kernel
theorem d_X0_close_55 : decode c_X0_close 55 = .ok (.getfield 32, 3) := by decide +kernel
theorem d_X0_close_58 : decode c_X0_close 58 = .ok (.if_icmp .ge 48, 3) := by decide +kernel
theorem d_X0_close_61 : decode c_X0_close 61 = .ok (.aload_n 2, 1) := by decide +kernel
theorem d_X0_close_62 : decode c_X0_close 62 = .ok (.getfield 55, 3) := by decide +kernel
theorem d_X0_close_65 : decode c_X0_close 65 = .ok (.aload_n 0, 1) := by decide +kernel
theorem d_X0_close_66 : decode c_X0_close 66 = .ok (.getfield 15, 3) := by decide +kernel
theorem d_X0_close_69 : decode c_X0_close 69 = .ok (.iload 4, 2) := by decide +kernel
theorem d_X0_close_71 : decode c_X0_close 71 = .ok (.iaload, 1) := by decide +kernel
theorem d_X0_close_72 : decode c_X0_close 72 = .ok (.baload, 1) := by decide +kernel
theorem d_X0_close_73 : decode c_X0_close 73 = .ok (.ifCond .eq 27, 3) := by decide +kernel
theorem d_X0_close_76 : decode c_X0_close 76 = .ok (.aload_n 2, 1) := by decide +kernel
theorem d_X0_close_77 : decode c_X0_close 77 = .ok (.aload_n 0, 1) := by decide +kernel
theorem d_X0_close_78 : decode c_X0_close 78 = .ok (.getfield 24, 3) := by decide +kernel
theorem d_X0_close_81 : decode c_X0_close 81 = .ok (.getfield 46, 3) := by decide +kernel
theorem d_X0_close_84 : decode c_X0_close 84 = .ok (.iload 4, 2) := by decide +kernel
theorem d_X0_close_86 : decode c_X0_close 86 = .ok (.iaload, 1) := by decide +kernel
theorem d_X0_close_87 : decode c_X0_close 87 = .ok (.aload_n 0, 1) := by decide +kernel
theorem d_X0_close_88 : decode c_X0_close 88 = .ok (.getfield 24, 3) := by decide +kernel
theorem d_X0_close_91 : decode c_X0_close 91 = .ok (.getfield 49, 3) := by decide +kernel
theorem d_X0_close_94 : decode c_X0_close 94 = .ok (.iload 4, 2) := by decide +kernel
theorem d_X0_close_96 : decode c_X0_close 96 = .ok (.iaload, 1) := by decide +kernel
theorem d_X0_close_97 : decode c_X0_close 97 = .ok (.invokevirtual 52, 3) := by decide +kernel
theorem d_X0_close_100 : decode c_X0_close 100 = .ok (.iinc 4 1, 3) := by decide +kernel
theorem d_X0_close_103 : decode c_X0_close 103 = .ok (.goto (-54), 3) := by decide +kernel
theorem d_X0_close_106 : decode c_X0_close 106 = .ok (.iinc 3 1, 3) := by decide +kernel
theorem d_X0_close_109 : decode c_X0_close 109 = .ok (.goto (-71), 3) := by decide +kernel
theorem d_X0_close_112 : decode c_X0_close 112 = .ok (.return_, 1) := by decide +kernel
theorem d_X1_init_0 : decode c_X1_init 0 = .ok (.aload_n 0, 1) := by decide +kernel
theorem d_X1_init_1 : decode c_X1_init 1 = .ok (.invokespecial 1, 3) := by decide +kernel
theorem d_X1_init_4 : decode c_X1_init 4 = .ok (.aload_n 0, 1) := by decide +kernel
theorem d_X1_init_5 : decode c_X1_init 5 = .ok (.iload_n 1, 1) := by decide +kernel
theorem d_X1_init_6 : decode c_X1_init 6 = .ok (.newarray .int, 2) := by decide +kernel
theorem d_X1_init_8 : decode c_X1_init 8 = .ok (.putfield 7, 3) := by decide +kernel
theorem d_X1_init_11 : decode c_X1_init 11 = .ok (.aload_n 0, 1) := by decide +kernel
theorem d_X1_init_12 : decode c_X1_init 12 = .ok (.iload_n 1, 1) := by decide +kernel
theorem d_X1_init_13 : decode c_X1_init 13 = .ok (.newarray .int, 2) := by decide +kernel
theorem d_X1_init_15 : decode c_X1_init 15 = .ok (.putfield 13, 3) := by decide +kernel
theorem d_X1_init_18 : decode c_X1_init 18 = .ok (.return_, 1) := by decide +kernel
theorem d_X1_isFull_0 : decode c_X1_isFull 0 = .ok (.aload_n 0, 1) := by decide +kernel
theorem d_X1_isFull_1 : decode c_X1_isFull 1 = .ok (.getfield 16, 3) := by decide +kernel
theorem d_X1_isFull_4 : decode c_X1_isFull 4 = .ok (.aload_n 0, 1) := by decide +kernel
theorem d_X1_isFull_5 : decode c_X1_isFull 5 = .ok (.getfield 7, 3) := by decide +kernel
theorem d_X1_isFull_8 : decode c_X1_isFull 8 = .ok (.arraylength, 1) := by decide +kernel
theorem d_X1_isFull_9 : decode c_X1_isFull 9 = .ok (.if_icmp .lt 7, 3) := by decide +kernel
theorem d_X1_isFull_12 : decode c_X1_isFull 12 = .ok (.iconst 1, 1) := by decide +kernel
theorem d_X1_isFull_13 : decode c_X1_isFull 13 = .ok (.goto 4, 3) := by decide +kernel
theorem d_X1_isFull_16 : decode c_X1_isFull 16 = .ok (.iconst 0, 1) := by decide +kernel
theorem d_X1_isFull_17 : decode c_X1_isFull 17 = .ok (.ireturn, 1) := by decide +kernel
theorem d_X1_add_0 : decode c_X1_add 0 = .ok (.aload_n 0, 1) := by decide +kernel
theorem d_X1_add_1 : decode c_X1_add 1 = .ok (.invokevirtual 20, 3) := by decide +kernel
theorem d_X1_add_4 : decode c_X1_add 4 = .ok (.ifCond .eq 4, 3) := by decide +kernel
theorem d_X1_add_7 : decode c_X1_add 7 = .ok (.return_, 1) := by decide +kernel
theorem d_X1_add_8 : decode c_X1_add 8 = .ok (.aload_n 0, 1) := by decide +kernel
theorem d_X1_add_9 : decode c_X1_add 9 = .ok (.getfield 7, 3) := by decide +kernel
theorem d_X1_add_12 : decode c_X1_add 12 = .ok (.aload_n 0, 1) := by decide +kernel
theorem d_X1_add_13 : decode c_X1_add 13 = .ok (.getfield 16, 3) := by decide +kernel
theorem d_X1_add_16 : decode c_X1_add 16 = .ok (.iload_n 1, 1) := by decide +kernel
theorem d_X1_add_17 : decode c_X1_add 17 = .ok (.iastore, 1) := by decide +kernel
theorem d_X1_add_18 : decode c_X1_add 18 = .ok (.aload_n 0, 1) := by decide +kernel
theorem d_X1_add_19 : decode c_X1_add 19 = .ok (.getfield 13, 3) := by decide +kernel
theorem d_X1_add_22 : decode c_X1_add 22 = .ok (.aload_n 0, 1) := by decide +kernel
theorem d_X1_add_23 : decode c_X1_add 23 = .ok (.getfield 16, 3) := by decide +kernel
theorem d_X1_add_26 : decode c_X1_add 26 = .ok (.iload_n 2, 1) := by decide +kernel
theorem d_X1_add_27 : decode c_X1_add 27 = .ok (.iastore, 1) := by decide +kernel
theorem d_X1_add_28 : decode c_X1_add 28 = .ok (.aload_n 0, 1) := by decide +kernel
theorem d_X1_add_29 : decode c_X1_add 29 = .ok (.dup, 1) := by decide +kernel
theorem d_X1_add_30 : decode c_X1_add 30 = .ok (.getfield 16, 3) := by decide +kernel
theorem d_X1_add_33 : decode c_X1_add 33 = .ok (.iconst 1, 1) := by decide +kernel
theorem d_X1_add_34 : decode c_X1_add 34 = .ok (.iadd, 1) := by decide +kernel
theorem d_X1_add_35 : decode c_X1_add 35 = .ok (.putfield 16, 3) := by decide +kernel
theorem d_X1_add_38 : decode c_X1_add 38 = .ok (.return_, 1) := by decide +kernel
theorem d_X2_init_0 : decode c_X2_init 0 = .ok (.aload_n 0, 1) := by decide +kernel
theorem d_X2_init_1 : decode c_X2_init 1 = .ok (.invokespecial 3, 3) := by decide +kernel
theorem d_X2_init_4 : decode c_X2_init 4 = .ok (.aload_n 0, 1) := by decide +kernel
theorem d_X2_init_5 : decode c_X2_init 5 = .ok (.bipush 21, 2) := by decide +kernel
theorem d_X2_init_7 : decode c_X2_init 7 = .ok (.newarray .int, 2) := by decide +kernel
theorem d_X2_init_9 : decode c_X2_init 9 = .ok (.putfield 9, 3) := by decide +kernel
theorem d_X2_init_12 : decode c_X2_init 12 = .ok (.aload_n 0, 1) := by decide +kernel
theorem d_X2_init_13 : decode c_X2_init 13 = .ok (.bipush 21, 2) := by decide +kernel
theorem d_X2_init_15 : decode c_X2_init 15 = .ok (.newarray .int, 2) := by decide +kernel
theorem d_X2_init_17 : decode c_X2_init 17 = .ok (.putfield 15, 3) := by decide +kernel
theorem d_X2_init_20 : decode c_X2_init 20 = .ok (.return_, 1) := by decide +kernel
theorem d_X2_add_0 : decode c_X2_add 0 = .ok (.aload_n 0, 1) := by decide +kernel
theorem d_X2_add_1 : decode c_X2_add 1 = .ok (.getfield 18, 3) := by decide +kernel
theorem d_X2_add_4 : decode c_X2_add 4 = .ok (.bipush 21, 2) := by decide +kernel
theorem d_X2_add_6 : decode c_X2_add 6 = .ok (.if_icmp .lt 4, 3) := by decide +kernel
theorem d_X2_add_9 : decode c_X2_add 9 = .ok (.return_, 1) := by decide +kernel
theorem d_X2_add_10 : decode c_X2_add 10 = .ok (.aload_n 0, 1) := by decide +kernel
theorem d_X2_add_11 : decode c_X2_add 11 = .ok (.getfield 9, 3) := by decide +kernel
theorem d_X2_add_14 : decode c_X2_add 14 = .ok (.aload_n 0, 1) := by decide +kernel
theorem d_X2_add_15 : decode c_X2_add 15 = .ok (.getfield 18, 3) := by decide +kernel
theorem d_X2_add_18 : decode c_X2_add 18 = .ok (.iload_n 1, 1) := by decide +kernel
theorem d_X2_add_19 : decode c_X2_add 19 = .ok (.iastore, 1) := by decide +kernel
theorem d_X2_add_20 : decode c_X2_add 20 = .ok (.aload_n 0, 1) := by decide +kernel
theorem d_X2_add_21 : decode c_X2_add 21 = .ok (.getfield 15, 3) := by decide +kernel
theorem d_X2_add_24 : decode c_X2_add 24 = .ok (.aload_n 0, 1) := by decide +kernel
theorem d_X2_add_25 : decode c_X2_add 25 = .ok (.getfield 18, 3) := by decide +kernel
theorem d_X2_add_28 : decode c_X2_add 28 = .ok (.iload_n 2, 1) := by decide +kernel
theorem d_X2_add_29 : decode c_X2_add 29 = .ok (.iastore, 1) := by decide +kernel
theorem d_X2_add_30 : decode c_X2_add 30 = .ok (.aload_n 0, 1) := by decide +kernel
theorem d_X2_add_31 : decode c_X2_add 31 = .ok (.dup, 1) := by decide +kernel
theorem d_X2_add_32 : decode c_X2_add 32 = .ok (.getfield 18, 3) := by decide +kernel
theorem d_X2_add_35 : decode c_X2_add 35 = .ok (.iconst 1, 1) := by decide +kernel
theorem d_X2_add_36 : decode c_X2_add 36 = .ok (.iadd, 1) := by decide +kernel
theorem d_X2_add_37 : decode c_X2_add 37 = .ok (.putfield 18, 3) := by decide +kernel
theorem d_X2_add_40 : decode c_X2_add 40 = .ok (.return_, 1) := by decide +kernel
theorem d_X3_init_0 : decode c_X3_init 0 = .ok (.aload_n 0, 1) := by decide +kernel
theorem d_X3_init_1 : decode c_X3_init 1 = .ok (.invokespecial 3, 3) := by decide +kernel
theorem d_X3_init_4 : decode c_X3_init 4 = .ok (.aload_n 0, 1) := by decide +kernel
theorem d_X3_init_5 : decode c_X3_init 5 = .ok (.bipush 8, 2) := by decide +kernel
theorem d_X3_init_7 : decode c_X3_init 7 = .ok (.newarray .boolean, 2) := by decide +kernel
theorem d_X3_init_9 : decode c_X3_init 9 = .ok (.putfield 9, 3) := by decide +kernel
theorem d_X3_init_12 : decode c_X3_init 12 = .ok (.aload_n 0, 1) := by decide +kernel
theorem d_X3_init_13 : decode c_X3_init 13 = .ok (.bipush 8, 2) := by decide +kernel
theorem d_X3_init_15 : decode c_X3_init 15 = .ok (.newarray .int, 2) := by decide +kernel
theorem d_X3_init_17 : decode c_X3_init 17 = .ok (.putfield 15, 3) := by decide +kernel
theorem d_X3_init_20 : decode c_X3_init 20 = .ok (.return_, 1) := by decide +kernel
theorem d_X3_forget_0 : decode c_X3_forget 0 = .ok (.iconst 0, 1) := by decide +kernel
theorem d_X3_forget_1 : decode c_X3_forget 1 = .ok (.istore_n 1, 1) := by decide +kernel
theorem d_X3_forget_2 : decode c_X3_forget 2 = .ok (.iload_n 1, 1) := by decide +kernel
theorem d_X3_forget_3 : decode c_X3_forget 3 = .ok (.bipush 8, 2) := by decide +kernel
theorem d_X3_forget_5 : decode c_X3_forget 5 = .ok (.if_icmp .ge 16, 3) := by decide +kernel
theorem d_X3_forget_8 : decode c_X3_forget 8 = .ok (.aload_n 0, 1) := by decide +kernel
theorem d_X3_forget_9 : decode c_X3_forget 9 = .ok (.getfield 9, 3) := by decide +kernel
theorem d_X3_forget_12 : decode c_X3_forget 12 = .ok (.iload_n 1, 1) := by decide +kernel
theorem d_X3_forget_13 : decode c_X3_forget 13 = .ok (.iconst 0, 1) := by decide +kernel
theorem d_X3_forget_14 : decode c_X3_forget 14 = .ok (.bastore, 1) := by decide +kernel
theorem d_X3_forget_15 : decode c_X3_forget 15 = .ok (.iinc 1 1, 3) := by decide +kernel
theorem d_X3_forget_18 : decode c_X3_forget 18 = .ok (.goto (-16), 3) := by decide +kernel
theorem d_X3_forget_21 : decode c_X3_forget 21 = .ok (.aload_n 0, 1) := by decide +kernel
theorem d_X3_forget_22 : decode c_X3_forget 22 = .ok (.iconst 0, 1) := by decide +kernel
theorem d_X3_forget_23 : decode c_X3_forget 23 = .ok (.putfield 19, 3) := by decide +kernel
theorem d_X3_forget_26 : decode c_X3_forget 26 = .ok (.return_, 1) := by decide +kernel
theorem d_X3_put_0 : decode c_X3_put 0 = .ok (.aload_n 0, 1) := by decide +kernel
theorem d_X3_put_1 : decode c_X3_put 1 = .ok (.getfield 9, 3) := by decide +kernel
theorem d_X3_put_4 : decode c_X3_put 4 = .ok (.iload_n 1, 1) := by decide +kernel
theorem d_X3_put_5 : decode c_X3_put 5 = .ok (.baload, 1) := by decide +kernel
theorem d_X3_put_6 : decode c_X3_put 6 = .ok (.ifCond .ne 20, 3) := by decide +kernel
theorem d_X3_put_9 : decode c_X3_put 9 = .ok (.aload_n 0, 1) := by decide +kernel
theorem d_X3_put_10 : decode c_X3_put 10 = .ok (.getfield 9, 3) := by decide +kernel
theorem d_X3_put_13 : decode c_X3_put 13 = .ok (.iload_n 1, 1) := by decide +kernel
theorem d_X3_put_14 : decode c_X3_put 14 = .ok (.iconst 1, 1) := by decide +kernel
theorem d_X3_put_15 : decode c_X3_put 15 = .ok (.bastore, 1) := by decide +kernel
theorem d_X3_put_16 : decode c_X3_put 16 = .ok (.aload_n 0, 1) := by decide +kernel
theorem d_X3_put_17 : decode c_X3_put 17 = .ok (.getfield 15, 3) := by decide +kernel
theorem d_X3_put_20 : decode c_X3_put 20 = .ok (.iload_n 1, 1) := by decide +kernel
theorem d_X3_put_21 : decode c_X3_put 21 = .ok (.iload_n 2, 1) := by decide +kernel
theorem d_X3_put_22 : decode c_X3_put 22 = .ok (.iastore, 1) := by decide +kernel
theorem d_X3_put_23 : decode c_X3_put 23 = .ok (.goto 18, 3) := by decide +kernel
theorem d_X3_put_26 : decode c_X3_put 26 = .ok (.aload_n 0, 1) := by decide +kernel
theorem d_X3_put_27 : decode c_X3_put 27 = .ok (.getfield 15, 3) := by decide +kernel
theorem d_X3_put_30 : decode c_X3_put 30 = .ok (.iload_n 1, 1) := by decide +kernel
theorem d_X3_put_31 : decode c_X3_put 31 = .ok (.iaload, 1) := by decide +kernel
theorem d_X3_put_32 : decode c_X3_put 32 = .ok (.iload_n 2, 1) := by decide +kernel
theorem d_X3_put_33 : decode c_X3_put 33 = .ok (.if_icmp .eq 8, 3) := by decide +kernel
theorem d_X3_put_36 : decode c_X3_put 36 = .ok (.aload_n 0, 1) := by decide +kernel
theorem d_X3_put_37 : decode c_X3_put 37 = .ok (.iconst 1, 1) := by decide +kernel
theorem d_X3_put_38 : decode c_X3_put 38 = .ok (.putfield 19, 3) := by decide +kernel
theorem d_X3_put_41 : decode c_X3_put 41 = .ok (.return_, 1) := by decide +kernel
theorem d_X3_addMissingTypes_0 : decode c_X3_addMissingTypes 0 = .ok (.iconst 0, 1) := by decide +kernel
theorem d_X3_addMissingTypes_1 : decode c_X3_addMissingTypes 1 = .ok (.istore_n 2, 1) := by decide +kernel
theorem d_X3_addMissingTypes_2 : decode c_X3_addMissingTypes 2 = .ok (.iload_n 2, 1) := by decide +kernel
theorem d_X3_addMissingTypes_3 : decode c_X3_addMissingTypes 3 = .ok (.bipush 8, 2) := by decide +kernel
theorem d_X3_addMissingTypes_5 : decode c_X3_addMissingTypes 5 = .ok (.if_icmp .ge 38, 3) := by decide +kernel
theorem d_X3_addMissingTypes_8 : decode c_X3_addMissingTypes 8 = .ok (.aload_n 1, 1) := by decide +kernel
theorem d_X3_addMissingTypes_9 : decode c_X3_addMissingTypes 9 = .ok (.getfield 9, 3) := by decide +kernel
theorem d_X3_addMissingTypes_12 : decode c_X3_addMissingTypes 12 = .ok (.iload_n 2, 1) := by decide +kernel
theorem d_X3_addMissingTypes_13 : decode c_X3_addMissingTypes 13 = .ok (.baload, 1) := by decide +kernel
theorem d_X3_addMissingTypes_14 : decode c_X3_addMissingTypes 14 = .ok (.ifCond .eq 23, 3) := by decide +kernel
theorem d_X3_addMissingTypes_17 : decode c_X3_addMissingTypes 17 = .ok (.aload_n 0, 1) := by decide +kernel
theorem d_X3_addMissingTypes_18 : decode c_X3_addMissingTypes 18 = .ok (.getfield 9, 3) := by decide +kernel
theorem d_X3_addMissingTypes_21 : decode c_X3_addMissingTypes 21 = .ok (.iload_n 2, 1) := by decide +kernel
theorem d_X3_addMissingTypes_22 : decode c_X3_addMissingTypes 22 = .ok (.baload, 1) := by decide +kernel
theorem d_X3_addMissingTypes_23 : decode c_X3_addMissingTypes 23 = .ok (.ifCond .ne 14, 3) := by decide +kernel
theorem d_X3_addMissingTypes_26 : decode c_X3_addMissingTypes 26 = .ok (.aload_n 0, 1) := by decide +kernel
theorem d_X3_addMissingTypes_27 : decode c_X3_addMissingTypes 27 = .ok (.iload_n 2, 1) := by decide +kernel
theorem d_X3_addMissingTypes_28 : decode c_X3_addMissingTypes 28 = .ok (.aload_n 1, 1) := by decide +kernel
theorem d_X3_addMissingTypes_29 : decode c_X3_addMissingTypes 29 = .ok (.getfield 15, 3) := by decide +kernel
theorem d_X3_addMissingTypes_32 : decode c_X3_addMissingTypes 32 = .ok (.iload_n 2, 1) := by decide +kernel
theorem d_X3_addMissingTypes_33 : decode c_X3_addMissingTypes 33 = .ok (.iaload, 1) := by decide +kernel
theorem d_X3_addMissingTypes_34 : decode c_X3_addMissingTypes 34 = .ok (.invokevirtual 23, 3) := by decide +kernel
theorem d_X3_addMissingTypes_37 : decode c_X3_addMissingTypes 37 = .ok (.iinc 2 1, 3) := by decide +kernel
theorem d_X3_addMissingTypes_40 : decode c_X3_addMissingTypes 40 = .ok (.goto (-38), 3) := by decide +kernel
theorem d_X3_addMissingTypes_43 : decode c_X3_addMissingTypes 43 = .ok (.return_, 1) := by decide +kernel
theorem d_X3_isAmong_0 : decode c_X3_isAmong 0 = .ok (.iconst 0, 1) := by decide +kernel
theorem d_X3_isAmong_1 : decode c_X3_isAmong 1 = .ok (.istore_n 2, 1) := by decide +kernel
theorem d_X3_isAmong_2 : decode c_X3_isAmong 2 = .ok (.iload_n 2, 1) := by decide +kernel
theorem d_X3_isAmong_3 : decode c_X3_isAmong 3 = .ok (.bipush 8, 2) := by decide +kernel
theorem d_X3_isAmong_5 : decode c_X3_isAmong 5 = .ok (.if_icmp .ge 44, 3) := by decide +kernel
theorem d_X3_isAmong_8 : decode c_X3_isAmong 8 = .ok (.aload_n 0, 1) := by decide +kernel
theorem d_X3_isAmong_9 : decode c_X3_isAmong 9 = .ok (.getfield 9, 3) := by decide +kernel
theorem d_X3_isAmong_12 : decode c_X3_isAmong 12 = .ok (.iload_n 2, 1) := by decide +kernel
theorem d_X3_isAmong_13 : decode c_X3_isAmong 13 = .ok (.baload, 1) := by decide +kernel
theorem d_X3_isAmong_14 : decode c_X3_isAmong 14 = .ok (.ifCond .eq 29, 3) := by decide +kernel
theorem d_X3_isAmong_17 : decode c_X3_isAmong 17 = .ok (.aload_n 1, 1) := by decide +kernel
theorem d_X3_isAmong_18 : decode c_X3_isAmong 18 = .ok (.getfield 9, 3) := by decide +kernel
theorem d_X3_isAmong_21 : decode c_X3_isAmong 21 = .ok (.iload_n 2, 1) := by decide +kernel
theorem d_X3_isAmong_22 : decode c_X3_isAmong 22 = .ok (.baload, 1) := by decide +kernel
theorem d_X3_isAmong_23 : decode c_X3_isAmong 23 = .ok (.ifCond .eq 18, 3) := by decide +kernel
theorem d_X3_isAmong_26 : decode c_X3_isAmong 26 = .ok (.aload_n 1, 1) := by decide +kernel
theorem d_X3_isAmong_27 : decode c_X3_isAmong 27 = .ok (.getfield 15, 3) := by decide +kernel
theorem d_X3_isAmong_30 : decode c_X3_isAmong 30 = .ok (.iload_n 2, 1) := by decide +kernel
theorem d_X3_isAmong_31 : decode c_X3_isAmong 31 = .ok (.iaload, 1) := by decide +kernel
theorem d_X3_isAmong_32 : decode c_X3_isAmong 32 = .ok (.aload_n 0, 1) := by decide +kernel
theorem d_X3_isAmong_33 : decode c_X3_isAmong 33 = .ok (.getfield 15, 3) := by decide +kernel
theorem d_X3_isAmong_36 : decode c_X3_isAmong 36 = .ok (.iload_n 2, 1) := by decide +kernel
theorem d_X3_isAmong_37 : decode c_X3_isAmong 37 = .ok (.iaload, 1) := by decide +kernel
theorem d_X3_isAmong_38 : decode c_X3_isAmong 38 = .ok (.if_icmp .eq 5, 3) := by decide +kernel
theorem d_X3_isAmong_41 : decode c_X3_isAmong 41 = .ok (.iconst 0, 1) := by decide +kernel
theorem d_X3_isAmong_42 : decode c_X3_isAmong 42 = .ok (.ireturn, 1) := by decide +kernel
theorem d_X3_isAmong_43 : decode c_X3_isAmong 43 = .ok (.iinc 2 1, 3) := by decide +kernel
theorem d_X3_isAmong_46 : decode c_X3_isAmong 46 = .ok (.goto (-44), 3) := by decide +kernel
theorem d_X3_isAmong_49 : decode c_X3_isAmong 49 = .ok (.iconst 1, 1) := by decide +kernel
theorem d_X3_isAmong_50 : decode c_X3_isAmong 50 = .ok (.ireturn, 1) := by decide +kernel
theorem d_X4_init_0 : decode c_X4_init 0 = .ok (.aload_n 0, 1) := by decide +kernel
theorem d_X4_init_1 : decode c_X4_init 1 = .ok (.invokespecial 3, 3) := by decide +kernel
theorem d_X4_init_4 : decode c_X4_init 4 = .ok (.aload_n 0, 1) := by decide +kernel
theorem d_X4_init_5 : decode c_X4_init 5 = .ok (.new 9, 3) := by decide +kernel
theorem d_X4_init_8 : decode c_X4_init 8 = .ok (.dup, 1) := by decide +kernel
theorem d_X4_init_9 : decode c_X4_init 9 = .ok (.invokespecial 11, 3) := by decide +kernel
theorem d_X4_init_12 : decode c_X4_init 12 = .ok (.putfield 12, 3) := by decide +kernel
theorem d_X4_init_15 : decode c_X4_init 15 = .ok (.aload_n 0, 1) := by decide +kernel
theorem d_X4_init_16 : decode c_X4_init 16 = .ok (.iconst 4, 1) := by decide +kernel
theorem d_X4_init_17 : decode c_X4_init 17 = .ok (.anewarray 9, 3) := by decide +kernel
theorem d_X4_init_20 : decode c_X4_init 20 = .ok (.putfield 18, 3) := by decide +kernel
theorem d_X4_init_23 : decode c_X4_init 23 = .ok (.iconst 0, 1) := by decide +kernel
theorem d_X4_init_24 : decode c_X4_init 24 = .ok (.istore_n 1, 1) := by decide +kernel
theorem d_X4_init_25 : decode c_X4_init 25 = .ok (.iload_n 1, 1) := by decide +kernel
theorem d_X4_init_26 : decode c_X4_init 26 = .ok (.iconst 4, 1) := by decide +kernel
theorem d_X4_init_27 : decode c_X4_init 27 = .ok (.if_icmp .ge 22, 3) := by decide +kernel
theorem d_X4_init_30 : decode c_X4_init 30 = .ok (.aload_n 0, 1) := by decide +kernel
theorem d_X4_init_31 : decode c_X4_init 31 = .ok (.getfield 18, 3) := by decide +kernel
theorem d_X4_init_34 : decode c_X4_init 34 = .ok (.iload_n 1, 1) := by decide +kernel
theorem d_X4_init_35 : decode c_X4_init 35 = .ok (.new 9, 3) := by decide +kernel
theorem d_X4_init_38 : decode c_X4_init 38 = .ok (.dup, 1) := by decide +kernel
theorem d_X4_init_39 : decode c_X4_init 39 = .ok (.invokespecial 11, 3) := by decide +kernel
theorem d_X4_init_42 : decode c_X4_init 42 = .ok (.aastore, 1) := by decide +kernel
theorem d_X4_init_43 : decode c_X4_init 43 = .ok (.iinc 1 1, 3) := by decide +kernel
theorem d_X4_init_46 : decode c_X4_init 46 = .ok (.goto (-21), 3) := by decide +kernel
theorem d_X4_init_49 : decode c_X4_init 49 = .ok (.return_, 1) := by decide +kernel
theorem d_X4_declare_0 : decode c_X4_declare 0 = .ok (.aload_n 0, 1) := by decide +kernel
theorem d_X4_declare_1 : decode c_X4_declare 1 = .ok (.iload_n 1, 1) := by decide +kernel
theorem d_X4_declare_2 : decode c_X4_declare 2 = .ok (.putfield 22, 3) := by decide +kernel
theorem d_X4_declare_5 : decode c_X4_declare 5 = .ok (.aload_n 0, 1) := by decide +kernel
theorem d_X4_declare_6 : decode c_X4_declare 6 = .ok (.getfield 12, 3) := by decide +kernel
theorem d_X4_declare_9 : decode c_X4_declare 9 = .ok (.invokevirtual 26, 3) := by decide +kernel
theorem d_X4_declare_12 : decode c_X4_declare 12 = .ok (.iconst 0, 1) := by decide +kernel
theorem d_X4_declare_13 : decode c_X4_declare 13 = .ok (.istore_n 2, 1) := by decide +kernel
theorem d_X4_declare_14 : decode c_X4_declare 14 = .ok (.iload_n 2, 1) := by decide +kernel
theorem d_X4_declare_15 : decode c_X4_declare 15 = .ok (.iconst 4, 1) := by decide +kernel
theorem d_X4_declare_16 : decode c_X4_declare 16 = .ok (.if_icmp .ge 18, 3) := by decide +kernel
theorem d_X4_declare_19 : decode c_X4_declare 19 = .ok (.aload_n 0, 1) := by decide +kernel
theorem d_X4_declare_20 : decode c_X4_declare 20 = .ok (.getfield 18, 3) := by decide +kernel
theorem d_X4_declare_23 : decode c_X4_declare 23 = .ok (.iload_n 2, 1) := by decide +kernel
theorem d_X4_declare_24 : decode c_X4_declare 24 = .ok (.aaload, 1) := by decide +kernel
theorem d_X4_declare_25 : decode c_X4_declare 25 = .ok (.invokevirtual 26, 3) := by decide +kernel
theorem d_X4_declare_28 : decode c_X4_declare 28 = .ok (.iinc 2 1, 3) := by decide +kernel
theorem d_X4_declare_31 : decode c_X4_declare 31 = .ok (.goto (-17), 3) := by decide +kernel
theorem d_X4_declare_34 : decode c_X4_declare 34 = .ok (.return_, 1) := by decide +kernel
theorem d_X4_place_0 : decode c_X4_place 0 = .ok (.iload_n 1, 1) := by decide +kernel
theorem d_X4_place_1 : decode c_X4_place 1 = .ok (.ifCond .lt 8, 3) := by decide +kernel
theorem d_X4_place_4 : decode c_X4_place 4 = .ok (.iload_n 1, 1) := by decide +kernel
theorem d_X4_place_5 : decode c_X4_place 5 = .ok (.iconst 4, 1) := by decide +kernel
theorem d_X4_place_6 : decode c_X4_place 6 = .ok (.if_icmp .lt 10, 3) := by decide +kernel
theorem d_X4_place_9 : decode c_X4_place 9 = .ok (.aload_n 0, 1) := by decide +kernel
theorem d_X4_place_10 : decode c_X4_place 10 = .ok (.getfield 12, 3) := by decide +kernel
theorem d_X4_place_13 : decode c_X4_place 13 = .ok (.goto 9, 3) := by decide +kernel
theorem d_X4_place_16 : decode c_X4_place 16 = .ok (.aload_n 0, 1) := by decide +kernel
theorem d_X4_place_17 : decode c_X4_place 17 = .ok (.getfield 18, 3) := by decide +kernel
theorem d_X4_place_20 : decode c_X4_place 20 = .ok (.iload_n 1, 1) := by decide +kernel
theorem d_X4_place_21 : decode c_X4_place 21 = .ok (.aaload, 1) := by decide +kernel
theorem d_X4_place_22 : decode c_X4_place 22 = .ok (.areturn, 1) := by decide +kernel
theorem d_X5_init_0 : decode c_X5_init 0 = .ok (.aload_n 0, 1) := by decide +kernel
theorem d_X5_init_1 : decode c_X5_init 1 = .ok (.invokespecial 1, 3) := by decide +kernel
theorem d_X5_init_4 : decode c_X5_init 4 = .ok (.return_, 1) := by decide +kernel
theorem d_X5_declare_0 : decode c_X5_declare 0 = .ok (.aload_n 0, 1) := by decide +kernel
theorem d_X5_declare_1 : decode c_X5_declare 1 = .ok (.iload_n 1, 1) := by decide +kernel
theorem d_X5_declare_2 : decode c_X5_declare 2 = .ok (.putfield 7, 3) := by decide +kernel
theorem d_X5_declare_5 : decode c_X5_declare 5 = .ok (.aload_n 0, 1) := by decide +kernel
theorem d_X5_declare_6 : decode c_X5_declare 6 = .ok (.iload_n 2, 1) := by decide +kernel
theorem d_X5_declare_7 : decode c_X5_declare 7 = .ok (.putfield 13, 3) := by decide +kernel
theorem d_X5_declare_10 : decode c_X5_declare 10 = .ok (.aload_n 0, 1) := by decide +kernel
theorem d_X5_declare_11 : decode c_X5_declare 11 = .ok (.iload_n 3, 1) := by decide +kernel
theorem d_X5_declare_12 : decode c_X5_declare 12 = .ok (.putfield 16, 3) := by decide +kernel
theorem d_X5_declare_15 : decode c_X5_declare 15 = .ok (.aload_n 0, 1) := by decide +kernel
theorem d_X5_declare_16 : decode c_X5_declare 16 = .ok (.iload 4, 2) := by decide +kernel
theorem d_X5_declare_18 : decode c_X5_declare 18 = .ok (.putfield 19, 3) := by decide +kernel
theorem d_X5_declare_21 : decode c_X5_declare 21 = .ok (.return_, 1) := by decide +kernel
theorem d_X5_decorates_0 : decode c_X5_decorates 0 = .ok (.iload_n 1, 1) := by decide +kernel
theorem d_X5_decorates_1 : decode c_X5_decorates 1 = .ok (.aload_n 0, 1) := by decide +kernel
theorem d_X5_decorates_2 : decode c_X5_decorates 2 = .ok (.getfield 13, 3) := by decide +kernel
theorem d_X5_decorates_5 : decode c_X5_decorates 5 = .ok (.ishr, 1) := by decide +kernel
theorem d_X5_decorates_6 : decode c_X5_decorates 6 = .ok (.iconst 1, 1) := by decide +kernel
theorem d_X5_decorates_7 : decode c_X5_decorates 7 = .ok (.iand, 1) := by decide +kernel
theorem d_X5_decorates_8 : decode c_X5_decorates 8 = .ok (.ifCond .eq 18, 3) := by decide +kernel
theorem d_X5_decorates_11 : decode c_X5_decorates 11 = .ok (.aload_n 0, 1) := by decide +kernel
theorem d_X5_decorates_12 : decode c_X5_decorates 12 = .ok (.getfield 16, 3) := by decide +kernel
theorem d_X5_decorates_15 : decode c_X5_decorates 15 = .ok (.iload_n 2, 1) := by decide +kernel
theorem d_X5_decorates_16 : decode c_X5_decorates 16 = .ok (.ishr, 1) := by decide +kernel
theorem d_X5_decorates_17 : decode c_X5_decorates 17 = .ok (.iconst 1, 1) := by decide +kernel
theorem d_X5_decorates_18 : decode c_X5_decorates 18 = .ok (.iand, 1) := by decide +kernel
theorem d_X5_decorates_19 : decode c_X5_decorates 19 = .ok (.ifCond .eq 7, 3) := by decide +kernel
theorem d_X5_decorates_22 : decode c_X5_decorates 22 = .ok (.iconst 1, 1) := by decide +kernel
theorem d_X5_decorates_23 : decode c_X5_decorates 23 = .ok (.goto 4, 3) := by decide +kernel
theorem d_X5_decorates_26 : decode c_X5_decorates 26 = .ok (.iconst 0, 1) := by decide +kernel
theorem d_X5_decorates_27 : decode c_X5_decorates 27 = .ok (.ireturn, 1) := by decide +kernel
theorem d_X6_init_0 : decode c_X6_init 0 = .ok (.aload_n 0, 1) := by decide +kernel
theorem d_X6_init_1 : decode c_X6_init 1 = .ok (.invokespecial 3, 3) := by decide +kernel
theorem d_X6_init_4 : decode c_X6_init 4 = .ok (.aload_n 0, 1) := by decide +kernel
theorem d_X6_init_5 : decode c_X6_init 5 = .ok (.new 9, 3) := by decide +kernel
theorem d_X6_init_8 : decode c_X6_init 8 = .ok (.dup, 1) := by decide +kernel
theorem d_X6_init_9 : decode c_X6_init 9 = .ok (.iconst 4, 1) := by decide +kernel
theorem d_X6_init_10 : decode c_X6_init 10 = .ok (.invokespecial 11, 3) := by decide +kernel
theorem d_X6_init_13 : decode c_X6_init 13 = .ok (.putfield 14, 3) := by decide +kernel
theorem d_X6_init_16 : decode c_X6_init 16 = .ok (.return_, 1) := by decide +kernel
theorem d_X6_declare_0 : decode c_X6_declare 0 = .ok (.aload_n 0, 1) := by decide +kernel
theorem d_X6_declare_1 : decode c_X6_declare 1 = .ok (.iload_n 1, 1) := by decide +kernel
theorem d_X6_declare_2 : decode c_X6_declare 2 = .ok (.putfield 20, 3) := by decide +kernel
theorem d_X6_declare_5 : decode c_X6_declare 5 = .ok (.aload_n 0, 1) := by decide +kernel
theorem d_X6_declare_6 : decode c_X6_declare 6 = .ok (.iload_n 2, 1) := by decide +kernel
theorem d_X6_declare_7 : decode c_X6_declare 7 = .ok (.putfield 24, 3) := by decide +kernel
theorem d_X6_declare_10 : decode c_X6_declare 10 = .ok (.aload_n 0, 1) := by decide +kernel
theorem d_X6_declare_11 : decode c_X6_declare 11 = .ok (.iload_n 3, 1) := by decide +kernel
theorem d_X6_declare_12 : decode c_X6_declare 12 = .ok (.putfield 27, 3) := by decide +kernel
theorem d_X6_declare_15 : decode c_X6_declare 15 = .ok (.aload_n 0, 1) := by decide +kernel
theorem d_X6_declare_16 : decode c_X6_declare 16 = .ok (.getfield 14, 3) := by decide +kernel
theorem d_X6_declare_19 : decode c_X6_declare 19 = .ok (.iconst 0, 1) := by decide +kernel
theorem d_X6_declare_20 : decode c_X6_declare 20 = .ok (.putfield 30, 3) := by decide +kernel
theorem d_X6_declare_23 : decode c_X6_declare 23 = .ok (.return_, 1) := by decide +kernel
theorem d_X6_takesPartIn_0 : decode c_X6_takesPartIn 0 = .ok (.aload_n 0, 1) := by decide +kernel
theorem d_X6_takesPartIn_1 : decode c_X6_takesPartIn 1 = .ok (.getfield 24, 3) := by decide +kernel
theorem d_X6_takesPartIn_4 : decode c_X6_takesPartIn 4 = .ok (.iload_n 1, 1) := by decide +kernel
theorem d_X6_takesPartIn_5 : decode c_X6_takesPartIn 5 = .ok (.iand, 1) := by decide +kernel
theorem d_X6_takesPartIn_6 : decode c_X6_takesPartIn 6 = .ok (.ifCond .eq 7, 3) := by decide +kernel
theorem d_X6_takesPartIn_9 : decode c_X6_takesPartIn 9 = .ok (.iconst 1, 1) := by decide +kernel
theorem d_X6_takesPartIn_10 : decode c_X6_takesPartIn 10 = .ok (.goto 4, 3) := by decide +kernel
theorem d_X6_takesPartIn_13 : decode c_X6_takesPartIn 13 = .ok (.iconst 0, 1) := by decide +kernel
theorem d_X6_takesPartIn_14 : decode c_X6_takesPartIn 14 = .ok (.ireturn, 1) := by decide +kernel
theorem d_X7_init_0 : decode c_X7_init 0 = .ok (.aload_n 0, 1) := by decide +kernel
theorem d_X7_init_1 : decode c_X7_init 1 = .ok (.invokespecial 3, 3) := by decide +kernel
theorem d_X7_init_4 : decode c_X7_init 4 = .ok (.aload_n 0, 1) := by decide +kernel
theorem d_X7_init_5 : decode c_X7_init 5 = .ok (.bipush 64, 2) := by decide +kernel
theorem d_X7_init_7 : decode c_X7_init 7 = .ok (.newarray .int, 2) := by decide +kernel
theorem d_X7_init_9 : decode c_X7_init 9 = .ok (.putfield 9, 3) := by decide +kernel
theorem d_X7_init_12 : decode c_X7_init 12 = .ok (.return_, 1) := by decide +kernel
theorem d_X7_forget_0 : decode c_X7_forget 0 = .ok (.aload_n 0, 1) := by decide +kernel
theorem d_X7_forget_1 : decode c_X7_forget 1 = .ok (.iconst 0, 1) := by decide +kernel
theorem d_X7_forget_2 : decode c_X7_forget 2 = .ok (.putfield 15, 3) := by decide +kernel
theorem d_X7_forget_5 : decode c_X7_forget 5 = .ok (.aload_n 0, 1) := by decide +kernel
theorem d_X7_forget_6 : decode c_X7_forget 6 = .ok (.iconst 0, 1) := by decide +kernel
theorem d_X7_forget_7 : decode c_X7_forget 7 = .ok (.putfield 19, 3) := by decide +kernel
theorem d_X7_forget_10 : decode c_X7_forget 10 = .ok (.aload_n 0, 1) := by decide +kernel
theorem d_X7_forget_11 : decode c_X7_forget 11 = .ok (.iconst 0, 1) := by decide +kernel
theorem d_X7_forget_12 : decode c_X7_forget 12 = .ok (.putfield 22, 3) := by decide +kernel
theorem d_X7_forget_15 : decode c_X7_forget 15 = .ok (.return_, 1) := by decide +kernel
theorem d_X7_run_0 : decode c_X7_run 0 = .ok (.aload_n 0, 1) := by decide +kernel
theorem d_X7_run_1 : decode c_X7_run 1 = .ok (.invokevirtual 25, 3) := by decide +kernel
theorem d_X7_run_4 : decode c_X7_run 4 = .ok (.aload_n 0, 1) := by decide +kernel
theorem d_X7_run_5 : decode c_X7_run 5 = .ok (.iload_n 2, 1) := by decide +kernel
theorem d_X7_run_6 : decode c_X7_run 6 = .ok (.putfield 28, 3) := by decide +kernel
theorem d_X7_run_9 : decode c_X7_run 9 = .ok (.aload_n 0, 1) := by decide +kernel
theorem d_X7_run_10 : decode c_X7_run 10 = .ok (.iload 4, 2) := by decide +kernel
theorem d_X7_run_12 : decode c_X7_run 12 = .ok (.putfield 31, 3) := by decide +kernel
theorem d_X7_run_15 : decode c_X7_run 15 = .ok (.aload_n 0, 1) := by decide +kernel
theorem d_X7_run_16 : decode c_X7_run 16 = .ok (.iload_n 3, 1) := by decide +kernel
theorem d_X7_run_17 : decode c_X7_run 17 = .ok (.putfield 35, 3) := by decide +kernel
theorem d_X7_run_20 : decode c_X7_run 20 = .ok (.aload_n 0, 1) := by decide +kernel
theorem d_X7_run_21 : decode c_X7_run 21 = .ok (.aload_n 1, 1) := by decide +kernel
theorem d_X7_run_22 : decode c_X7_run 22 = .ok (.iconst 0, 1) := by decide +kernel
theorem d_X7_run_23 : decode c_X7_run 23 = .ok (.iload_n 3, 1) := by decide +kernel
theorem d_X7_run_24 : decode c_X7_run 24 = .ok (.invokevirtual 38, 3) := by decide +kernel
theorem d_X7_run_27 : decode c_X7_run 27 = .ok (.istore 5, 2) := by decide +kernel
theorem d_X7_run_29 : decode c_X7_run 29 = .ok (.aload_n 0, 1) := by decide +kernel
theorem d_X7_run_30 : decode c_X7_run 30 = .ok (.aload_n 0, 1) := by decide +kernel
theorem d_X7_run_31 : decode c_X7_run 31 = .ok (.getfield 22, 3) := by decide +kernel
theorem d_X7_run_34 : decode c_X7_run 34 = .ok (.ifCond .ne 8, 3) := by decide +kernel
theorem d_X7_run_37 : decode c_X7_run 37 = .ok (.iload 5, 2) := by decide +kernel
theorem d_X7_run_39 : decode c_X7_run 39 = .ok (.goto 4, 3) := by decide +kernel
theorem d_X7_run_42 : decode c_X7_run 42 = .ok (.iconst 0, 1) := by decide +kernel
theorem d_X7_run_43 : decode c_X7_run 43 = .ok (.putfield 19, 3) := by decide +kernel
theorem d_X7_run_46 : decode c_X7_run 46 = .ok (.return_, 1) := by decide +kernel
theorem d_X7_enter_0 : decode c_X7_enter 0 = .ok (.iload_n 2, 1) := by decide +kernel
theorem d_X7_enter_1 : decode c_X7_enter 1 = .ok (.ifCond .lt 11, 3) := by decide +kernel
theorem d_X7_enter_4 : decode c_X7_enter 4 = .ok (.iload_n 2, 1) := by decide +kernel
theorem d_X7_enter_5 : decode c_X7_enter 5 = .ok (.aload_n 1, 1) := by decide +kernel
theorem d_X7_enter_6 : decode c_X7_enter 6 = .ok (.getfield 42, 3) := by decide +kernel
theorem d_X7_enter_9 : decode c_X7_enter 9 = .ok (.if_icmp .lt 5, 3) := by decide +kernel
theorem d_X7_enter_12 : decode c_X7_enter 12 = .ok (.iconst 0, 1) := by decide +kernel
theorem d_X7_enter_13 : decode c_X7_enter 13 = .ok (.ireturn, 1) := by decide +kernel
theorem d_X7_enter_14 : decode c_X7_enter 14 = .ok (.aload_n 0, 1) := by decide +kernel
theorem d_X7_enter_15 : decode c_X7_enter 15 = .ok (.getfield 15, 3) := by decide +kernel
theorem d_X7_enter_18 : decode c_X7_enter 18 = .ok (.bipush 64, 2) := by decide +kernel
theorem d_X7_enter_20 : decode c_X7_enter 20 = .ok (.if_icmp .lt 10, 3) := by decide +kernel
theorem d_X7_enter_23 : decode c_X7_enter 23 = .ok (.aload_n 0, 1) := by decide +kernel
theorem d_X7_enter_24 : decode c_X7_enter 24 = .ok (.bipush 99, 2) := by decide +kernel
theorem d_X7_enter_26 : decode c_X7_enter 26 = .ok (.invokevirtual 47, 3) := by decide +kernel
theorem d_X7_enter_29 : decode c_X7_enter 29 = .ok (.ireturn, 1) := by decide +kernel
theorem d_X7_enter_30 : decode c_X7_enter 30 = .ok (.aload_n 1, 1) := by decide +kernel
theorem d_X7_enter_31 : decode c_X7_enter 31 = .ok (.getfield 51, 3) := by decide +kernel
theorem d_X7_enter_34 : decode c_X7_enter 34 = .ok (.iload_n 2, 1) := by decide +kernel
theorem d_X7_enter_35 : decode c_X7_enter 35 = .ok (.iaload, 1) := by decide +kernel
theorem d_X7_enter_36 : decode c_X7_enter 36 = .ok (.istore 4, 2) := by decide +kernel
theorem d_X7_enter_38 : decode c_X7_enter 38 = .ok (.aload_n 0, 1) := by decide +kernel
theorem d_X7_enter_39 : decode c_X7_enter 39 = .ok (.getfield 9, 3) := by decide +kernel
theorem d_X7_enter_42 : decode c_X7_enter 42 = .ok (.aload_n 0, 1) := by decide +kernel
theorem d_X7_enter_43 : decode c_X7_enter 43 = .ok (.getfield 15, 3) := by decide +kernel
theorem d_X7_enter_46 : decode c_X7_enter 46 = .ok (.iload 4, 2) := by decide +kernel
theorem d_X7_enter_48 : decode c_X7_enter 48 = .ok (.iastore, 1) := by decide +kernel
theorem d_X7_enter_49 : decode c_X7_enter 49 = .ok (.aload_n 0, 1) := by decide +kernel
theorem d_X7_enter_50 : decode c_X7_enter 50 = .ok (.dup, 1) := by decide +kernel
theorem d_X7_enter_51 : decode c_X7_enter 51 = .ok (.getfield 15, 3) := by decide +kernel
theorem d_X7_enter_54 : decode c_X7_enter 54 = .ok (.iconst 1, 1) := by decide +kernel
theorem d_X7_enter_55 : decode c_X7_enter 55 = .ok (.iadd, 1) := by decide +kernel
theorem d_X7_enter_56 : decode c_X7_enter 56 = .ok (.putfield 15, 3) := by decide +kernel
theorem d_X7_enter_59 : decode c_X7_enter 59 = .ok (.iload 4, 2) := by decide +kernel
theorem d_X7_enter_61 : decode c_X7_enter 61 = .ok (.bipush 32, 2) := by decide +kernel
theorem d_X7_enter_63 : decode c_X7_enter 63 = .ok (.if_icmp .ne 11, 3) := by decide +kernel
theorem d_X7_enter_66 : decode c_X7_enter 66 = .ok (.aload_n 0, 1) := by decide +kernel
theorem d_X7_enter_67 : decode c_X7_enter 67 = .ok (.iload_n 3, 1) := by decide +kernel
theorem d_X7_enter_68 : decode c_X7_enter 68 = .ok (.invokevirtual 54, 3) := by decide +kernel
theorem d_X7_enter_71 : decode c_X7_enter 71 = .ok (.goto 10, 3) := by decide +kernel
theorem d_X7_enter_74 : decode c_X7_enter 74 = .ok (.aload_n 0, 1) := by decide +kernel
theorem d_X7_enter_75 : decode c_X7_enter 75 = .ok (.aload_n 1, 1) := by decide +kernel
theorem d_X7_enter_76 : decode c_X7_enter 76 = .ok (.iload_n 2, 1) := by decide +kernel
theorem d_X7_enter_77 : decode c_X7_enter 77 = .ok (.iload_n 3, 1) := by decide +kernel
theorem d_X7_enter_78 : decode c_X7_enter 78 = .ok (.invokevirtual 57, 3) := by decide +kernel
theorem d_X7_enter_81 : decode c_X7_enter 81 = .ok (.ireturn, 1) := by decide +kernel
theorem d_X7_fail_0 : decode c_X7_fail 0 = .ok (.aload_n 0, 1) := by decide +kernel
theorem d_X7_fail_1 : decode c_X7_fail 1 = .ok (.iload_n 1, 1) := by decide +kernel
theorem d_X7_fail_2 : decode c_X7_fail 2 = .ok (.putfield 22, 3) := by decide +kernel
theorem d_X7_fail_5 : decode c_X7_fail 5 = .ok (.iconst 0, 1) := by decide +kernel
theorem d_X7_fail_6 : decode c_X7_fail 6 = .ok (.ireturn, 1) := by decide +kernel
theorem d_X7_reachTarget_0 : decode c_X7_reachTarget 0 = .ok (.aload_n 0, 1) := by decide +kernel
theorem d_X7_reachTarget_1 : decode c_X7_reachTarget 1 = .ok (.getfield 28, 3) := by decide +kernel
theorem d_X7_reachTarget_4 : decode c_X7_reachTarget 4 = .ok (.iconst 4, 1) := by decide +kernel
theorem d_X7_reachTarget_5 : decode c_X7_reachTarget 5 = .ok (.if_icmp .lt 6, 3) := by decide +kernel
theorem d_X7_reachTarget_8 : decode c_X7_reachTarget 8 = .ok (.bipush 7, 2) := by decide +kernel
theorem d_X7_reachTarget_10 : decode c_X7_reachTarget 10 = .ok (.ireturn, 1) := by decide +kernel
theorem d_X7_reachTarget_11 : decode c_X7_reachTarget 11 = .ok (.aload_n 0, 1) := by decide +kernel
theorem d_X7_reachTarget_12 : decode c_X7_reachTarget 12 = .ok (.getfield 31, 3) := by decide +kernel
theorem d_X7_reachTarget_15 : decode c_X7_reachTarget 15 = .ok (.ifCond .eq 17, 3) := by decide +kernel
theorem d_X7_reachTarget_18 : decode c_X7_reachTarget 18 = .ok (.aload_n 0, 1) := by decide +kernel
theorem d_X7_reachTarget_19 : decode c_X7_reachTarget 19 = .ok (.bipush 33, 2) := by decide +kernel
theorem d_X7_reachTarget_21 : decode c_X7_reachTarget 21 = .ok (.aload_n 0, 1) := by decide +kernel
theorem d_X7_reachTarget_22 : decode c_X7_reachTarget 22 = .ok (.getfield 28, 3) := by decide +kernel
theorem d_X7_reachTarget_25 : decode c_X7_reachTarget 25 = .ok (.iadd, 1) := by decide +kernel
theorem d_X7_reachTarget_26 : decode c_X7_reachTarget 26 = .ok (.invokevirtual 47, 3) := by decide +kernel
theorem d_X7_reachTarget_29 : decode c_X7_reachTarget 29 = .ok (.goto 11, 3) := by decide +kernel
theorem d_X7_reachTarget_32 : decode c_X7_reachTarget 32 = .ok (.iconst 3, 1) := by decide +kernel
theorem d_X7_reachTarget_33 : decode c_X7_reachTarget 33 = .ok (.iload_n 1, 1) := by decide +kernel
theorem d_X7_reachTarget_34 : decode c_X7_reachTarget 34 = .ok (.imul, 1) := by decide +kernel
theorem d_X7_reachTarget_35 : decode c_X7_reachTarget 35 = .ok (.aload_n 0, 1) := by decide +kernel
theorem d_X7_reachTarget_36 : decode c_X7_reachTarget 36 = .ok (.getfield 28, 3) := by decide +kernel
theorem d_X7_reachTarget_39 : decode c_X7_reachTarget 39 = .ok (.iadd, 1) := by decide +kernel
theorem d_X7_reachTarget_40 : decode c_X7_reachTarget 40 = .ok (.ireturn, 1) := by decide +kernel
theorem d_X7_behave_0 : decode c_X7_behave 0 = .ok (.aload_n 1, 1) := by decide +kernel
theorem d_X7_behave_1 : decode c_X7_behave 1 = .ok (.getfield 51, 3) := by decide +kernel
theorem d_X7_behave_4 : decode c_X7_behave 4 = .ok (.iload_n 2, 1) := by decide +kernel
theorem d_X7_behave_5 : decode c_X7_behave 5 = .ok (.iaload, 1) := by decide +kernel
theorem d_X7_behave_6 : decode c_X7_behave 6 = .ok (.istore 4, 2) := by decide +kernel
theorem d_X7_behave_8 : decode c_X7_behave 8 = .ok (.iload 4, 2) := by decide +kernel
theorem d_X7_behave_10 : decode c_X7_behave 10 = .ok (.bipush 16, 2) := by decide +kernel
theorem d_X7_behave_12 : decode c_X7_behave 12 = .ok (.if_icmp .ge 7, 3) := by decide +kernel
theorem d_X7_behave_15 : decode c_X7_behave 15 = .ok (.iconst 1, 1) := by decide +kernel
theorem d_X7_behave_16 : decode c_X7_behave 16 = .ok (.goto 4, 3) := by decide +kernel
theorem d_X7_behave_19 : decode c_X7_behave 19 = .ok (.iconst 0, 1) := by decide +kernel
theorem d_X7_behave_20 : decode c_X7_behave 20 = .ok (.istore 5, 2) := by decide +kernel
theorem d_X7_behave_22 : decode c_X7_behave 22 = .ok (.aload_n 1, 1) := by decide +kernel
theorem d_X7_behave_23 : decode c_X7_behave 23 = .ok (.getfield 60, 3) := by decide +kernel
theorem d_X7_behave_26 : decode c_X7_behave 26 = .ok (.iload_n 2, 1) := by decide +kernel
theorem d_X7_behave_27 : decode c_X7_behave 27 = .ok (.iaload, 1) := by decide +kernel
theorem d_X7_behave_28 : decode c_X7_behave 28 = .ok (.tableswitch 101 1 5 #[36, 44, 58, 84, 93], 36) := by decide +kernel
theorem d_X7_behave_64 : decode c_X7_behave 64 = .ok (.aload_n 0, 1) := by decide +kernel
theorem d_X7_behave_65 : decode c_X7_behave 65 = .ok (.aload_n 1, 1) := by decide +kernel
theorem d_X7_behave_66 : decode c_X7_behave 66 = .ok (.iload_n 2, 1) := by decide +kernel
theorem d_X7_behave_67 : decode c_X7_behave 67 = .ok (.iload_n 3, 1) := by decide +kernel
theorem d_X7_behave_68 : decode c_X7_behave 68 = .ok (.invokevirtual 63, 3) := by decide +kernel
theorem d_X7_behave_71 : decode c_X7_behave 71 = .ok (.ireturn, 1) := by decide +kernel
theorem d_X7_behave_72 : decode c_X7_behave 72 = .ok (.iload 5, 2) := by decide +kernel
theorem d_X7_behave_74 : decode c_X7_behave 74 = .ok (.ifCond .eq 10, 3) := by decide +kernel
theorem d_X7_behave_77 : decode c_X7_behave 77 = .ok (.aload_n 0, 1) := by decide +kernel
theorem d_X7_behave_78 : decode c_X7_behave 78 = .ok (.getfield 35, 3) := by decide +kernel
theorem d_X7_behave_81 : decode c_X7_behave 81 = .ok (.goto 4, 3) := by decide +kernel
theorem d_X7_behave_84 : decode c_X7_behave 84 = .ok (.iload_n 3, 1) := by decide +kernel
theorem d_X7_behave_85 : decode c_X7_behave 85 = .ok (.ireturn, 1) := by decide +kernel
theorem d_X7_behave_86 : decode c_X7_behave 86 = .ok (.iload 5, 2) := by decide +kernel
theorem d_X7_behave_88 : decode c_X7_behave 88 = .ok (.ifCond .eq 12, 3) := by decide +kernel
theorem d_X7_behave_91 : decode c_X7_behave 91 = .ok (.aload_n 0, 1) := by decide +kernel
theorem d_X7_behave_92 : decode c_X7_behave 92 = .ok (.aload_n 1, 1) := by decide +kernel
theorem d_X7_behave_93 : decode c_X7_behave 93 = .ok (.iload_n 2, 1) := by decide +kernel
theorem d_X7_behave_94 : decode c_X7_behave 94 = .ok (.invokevirtual 66, 3) := by decide +kernel
theorem d_X7_behave_97 : decode c_X7_behave 97 = .ok (.goto 14, 3) := by decide +kernel
theorem d_X7_behave_100 : decode c_X7_behave 100 = .ok (.iconst 2, 1) := by decide +kernel
theorem d_X7_behave_101 : decode c_X7_behave 101 = .ok (.aload_n 0, 1) := by decide +kernel
theorem d_X7_behave_102 : decode c_X7_behave 102 = .ok (.aload_n 1, 1) := by decide +kernel
theorem d_X7_behave_103 : decode c_X7_behave 103 = .ok (.iload_n 2, 1) := by decide +kernel
theorem d_X7_behave_104 : decode c_X7_behave 104 = .ok (.iload_n 3, 1) := by decide +kernel
theorem d_X7_behave_105 : decode c_X7_behave 105 = .ok (.iconst 1, 1) := by decide +kernel
theorem d_X7_behave_106 : decode c_X7_behave 106 = .ok (.iadd, 1) := by decide +kernel
theorem d_X7_behave_107 : decode c_X7_behave 107 = .ok (.invokevirtual 70, 3) := by decide +kernel
theorem d_X7_behave_110 : decode c_X7_behave 110 = .ok (.imul, 1) := by decide +kernel
theorem d_X7_behave_111 : decode c_X7_behave 111 = .ok (.ireturn, 1) := by decide +kernel
theorem d_X7_behave_112 : decode c_X7_behave 112 = .ok (.aload_n 0, 1) := by decide +kernel
theorem d_X7_behave_113 : decode c_X7_behave 113 = .ok (.iconst 1, 1) := by decide +kernel
theorem d_X7_behave_114 : decode c_X7_behave 114 = .ok (.iload 4, 2) := by decide +kernel
theorem d_X7_behave_116 : decode c_X7_behave 116 = .ok (.iadd, 1) := by decide +kernel
theorem d_X7_behave_117 : decode c_X7_behave 117 = .ok (.invokevirtual 47, 3) := by decide +kernel
theorem d_X7_behave_120 : decode c_X7_behave 120 = .ok (.ireturn, 1) := by decide +kernel
theorem d_X7_behave_121 : decode c_X7_behave 121 = .ok (.aload_n 0, 1) := by decide +kernel
theorem d_X7_behave_122 : decode c_X7_behave 122 = .ok (.aload_n 1, 1) := by decide +kernel
theorem d_X7_behave_123 : decode c_X7_behave 123 = .ok (.iload_n 2, 1) := by decide +kernel
theorem d_X7_behave_124 : decode c_X7_behave 124 = .ok (.iload_n 3, 1) := by decide +kernel
theorem d_X7_behave_125 : decode c_X7_behave 125 = .ok (.invokevirtual 73, 3) := by decide +kernel
theorem d_X7_behave_128 : decode c_X7_behave 128 = .ok (.ireturn, 1) := by decide +kernel
theorem d_X7_behave_129 : decode c_X7_behave 129 = .ok (.aload_n 0, 1) := by decide +kernel
theorem d_X7_behave_130 : decode c_X7_behave 130 = .ok (.aload_n 1, 1) := by decide +kernel
theorem d_X7_behave_131 : decode c_X7_behave 131 = .ok (.iload_n 2, 1) := by decide +kernel
theorem d_X7_behave_132 : decode c_X7_behave 132 = .ok (.iload_n 3, 1) := by decide +kernel
theorem d_X7_behave_133 : decode c_X7_behave 133 = .ok (.invokevirtual 70, 3) := by decide +kernel
theorem d_X7_behave_136 : decode c_X7_behave 136 = .ok (.ireturn, 1) := by decide +kernel
theorem d_X7_proceed_0 : decode c_X7_proceed 0 = .ok (.aload_n 1, 1) := by decide +kernel
theorem d_X7_proceed_1 : decode c_X7_proceed 1 = .ok (.getfield 51, 3) := by decide +kernel
theorem d_X7_proceed_4 : decode c_X7_proceed 4 = .ok (.iload_n 2, 1) := by decide +kernel
theorem d_X7_proceed_5 : decode c_X7_proceed 5 = .ok (.iaload, 1) := by decide +kernel
theorem d_X7_proceed_6 : decode c_X7_proceed 6 = .ok (.bipush 16, 2) := by decide +kernel
theorem d_X7_proceed_8 : decode c_X7_proceed 8 = .ok (.if_icmp .ge 7, 3) := by decide +kernel
theorem d_X7_proceed_11 : decode c_X7_proceed 11 = .ok (.iconst 1, 1) := by decide +kernel
theorem d_X7_proceed_12 : decode c_X7_proceed 12 = .ok (.goto 4, 3) := by decide +kernel
theorem d_X7_proceed_15 : decode c_X7_proceed 15 = .ok (.iconst 0, 1) := by decide +kernel
theorem d_X7_proceed_16 : decode c_X7_proceed 16 = .ok (.istore 4, 2) := by decide +kernel
theorem d_X7_proceed_18 : decode c_X7_proceed 18 = .ok (.aload_n 0, 1) := by decide +kernel
theorem d_X7_proceed_19 : decode c_X7_proceed 19 = .ok (.aload_n 1, 1) := by decide +kernel
theorem d_X7_proceed_20 : decode c_X7_proceed 20 = .ok (.iload_n 2, 1) := by decide +kernel
theorem d_X7_proceed_21 : decode c_X7_proceed 21 = .ok (.iconst 1, 1) := by decide +kernel
theorem d_X7_proceed_22 : decode c_X7_proceed 22 = .ok (.iadd, 1) := by decide +kernel
theorem d_X7_proceed_23 : decode c_X7_proceed 23 = .ok (.iload 4, 2) := by decide +kernel
theorem d_X7_proceed_25 : decode c_X7_proceed 25 = .ok (.ifCond .eq 10, 3) := by decide +kernel
theorem d_X7_proceed_28 : decode c_X7_proceed 28 = .ok (.aload_n 0, 1) := by decide +kernel
theorem d_X7_proceed_29 : decode c_X7_proceed 29 = .ok (.getfield 35, 3) := by decide +kernel
theorem d_X7_proceed_32 : decode c_X7_proceed 32 = .ok (.goto 4, 3) := by decide +kernel
theorem d_X7_proceed_35 : decode c_X7_proceed 35 = .ok (.iload_n 3, 1) := by decide +kernel
theorem d_X7_proceed_36 : decode c_X7_proceed 36 = .ok (.invokevirtual 38, 3) := by decide +kernel
theorem d_X7_proceed_39 : decode c_X7_proceed 39 = .ok (.ireturn, 1) := by decide +kernel
theorem d_X7_proceedTwice_0 : decode c_X7_proceedTwice 0 = .ok (.aload_n 0, 1) := by decide +kernel
theorem d_X7_proceedTwice_1 : decode c_X7_proceedTwice 1 = .ok (.aload_n 1, 1) := by decide +kernel
theorem d_X7_proceedTwice_2 : decode c_X7_proceedTwice 2 = .ok (.iload_n 2, 1) := by decide +kernel
theorem d_X7_proceedTwice_3 : decode c_X7_proceedTwice 3 = .ok (.iload_n 3, 1) := by decide +kernel
theorem d_X7_proceedTwice_4 : decode c_X7_proceedTwice 4 = .ok (.invokevirtual 70, 3) := by decide +kernel
theorem d_X7_proceedTwice_7 : decode c_X7_proceedTwice 7 = .ok (.istore 4, 2) := by decide +kernel
theorem d_X7_proceedTwice_9 : decode c_X7_proceedTwice 9 = .ok (.aload_n 0, 1) := by decide +kernel
theorem d_X7_proceedTwice_10 : decode c_X7_proceedTwice 10 = .ok (.getfield 22, 3) := by decide +kernel
theorem d_X7_proceedTwice_13 : decode c_X7_proceedTwice 13 = .ok (.ifCond .eq 5, 3) := by decide +kernel
theorem d_X7_proceedTwice_16 : decode c_X7_proceedTwice 16 = .ok (.iconst 0, 1) := by decide +kernel
theorem d_X7_proceedTwice_17 : decode c_X7_proceedTwice 17 = .ok (.ireturn, 1) := by decide +kernel
theorem d_X7_proceedTwice_18 : decode c_X7_proceedTwice 18 = .ok (.iload 4, 2) := by decide +kernel
theorem d_X7_proceedTwice_20 : decode c_X7_proceedTwice 20 = .ok (.aload_n 0, 1) := by decide +kernel
theorem d_X7_proceedTwice_21 : decode c_X7_proceedTwice 21 = .ok (.aload_n 1, 1) := by decide +kernel
theorem d_X7_proceedTwice_22 : decode c_X7_proceedTwice 22 = .ok (.iload_n 2, 1) := by decide +kernel
theorem d_X7_proceedTwice_23 : decode c_X7_proceedTwice 23 = .ok (.iload_n 3, 1) := by decide +kernel
theorem d_X7_proceedTwice_24 : decode c_X7_proceedTwice 24 = .ok (.invokevirtual 70, 3) := by decide +kernel
theorem d_X7_proceedTwice_27 : decode c_X7_proceedTwice 27 = .ok (.iadd, 1) := by decide +kernel
theorem d_X7_proceedTwice_28 : decode c_X7_proceedTwice 28 = .ok (.ireturn, 1) := by decide +kernel
theorem d_X7_growShared_0 : decode c_X7_growShared 0 = .ok (.aload_n 0, 1) := by decide +kernel
theorem d_X7_growShared_1 : decode c_X7_growShared 1 = .ok (.getfield 28, 3) := by decide +kernel
theorem d_X7_growShared_4 : decode c_X7_growShared 4 = .ok (.iconst 4, 1) := by decide +kernel
theorem d_X7_growShared_5 : decode c_X7_growShared 5 = .ok (.if_icmp .lt 10, 3) := by decide +kernel
theorem d_X7_growShared_8 : decode c_X7_growShared 8 = .ok (.aload_n 0, 1) := by decide +kernel
theorem d_X7_growShared_9 : decode c_X7_growShared 9 = .ok (.bipush 50, 2) := by decide +kernel
theorem d_X7_growShared_11 : decode c_X7_growShared 11 = .ok (.invokevirtual 47, 3) := by decide +kernel
theorem d_X7_growShared_14 : decode c_X7_growShared 14 = .ok (.ireturn, 1) := by decide +kernel
theorem d_X7_growShared_15 : decode c_X7_growShared 15 = .ok (.aload_n 0, 1) := by decide +kernel
theorem d_X7_growShared_16 : decode c_X7_growShared 16 = .ok (.dup, 1) := by decide +kernel
theorem d_X7_growShared_17 : decode c_X7_growShared 17 = .ok (.getfield 35, 3) := by decide +kernel
theorem d_X7_growShared_20 : decode c_X7_growShared 20 = .ok (.iconst 1, 1) := by decide +kernel
theorem d_X7_growShared_21 : decode c_X7_growShared 21 = .ok (.iadd, 1) := by decide +kernel
theorem d_X7_growShared_22 : decode c_X7_growShared 22 = .ok (.putfield 35, 3) := by decide +kernel
theorem d_X7_growShared_25 : decode c_X7_growShared 25 = .ok (.iconst 2, 1) := by decide +kernel
theorem d_X7_growShared_26 : decode c_X7_growShared 26 = .ok (.aload_n 0, 1) := by decide +kernel
theorem d_X7_growShared_27 : decode c_X7_growShared 27 = .ok (.aload_n 1, 1) := by decide +kernel
theorem d_X7_growShared_28 : decode c_X7_growShared 28 = .ok (.iload_n 2, 1) := by decide +kernel
theorem d_X7_growShared_29 : decode c_X7_growShared 29 = .ok (.aload_n 0, 1) := by decide +kernel
theorem d_X7_growShared_30 : decode c_X7_growShared 30 = .ok (.getfield 35, 3) := by decide +kernel
theorem d_X7_growShared_33 : decode c_X7_growShared 33 = .ok (.invokevirtual 70, 3) := by decide +kernel
theorem d_X7_growShared_36 : decode c_X7_growShared 36 = .ok (.imul, 1) := by decide +kernel
theorem d_X7_growShared_37 : decode c_X7_growShared 37 = .ok (.ireturn, 1) := by decide +kernel
theorem d_X7_proceedAndCatch_0 : decode c_X7_proceedAndCatch 0 = .ok (.aload_n 0, 1) := by decide +kernel
theorem d_X7_proceedAndCatch_1 : decode c_X7_proceedAndCatch 1 = .ok (.aload_n 1, 1) := by decide +kernel
theorem d_X7_proceedAndCatch_2 : decode c_X7_proceedAndCatch 2 = .ok (.iload_n 2, 1) := by decide +kernel
theorem d_X7_proceedAndCatch_3 : decode c_X7_proceedAndCatch 3 = .ok (.iload_n 3, 1) := by decide +kernel
theorem d_X7_proceedAndCatch_4 : decode c_X7_proceedAndCatch 4 = .ok (.invokevirtual 70, 3) := by decide +kernel
theorem d_X7_proceedAndCatch_7 : decode c_X7_proceedAndCatch 7 = .ok (.istore 4, 2) := by decide +kernel
theorem d_X7_proceedAndCatch_9 : decode c_X7_proceedAndCatch 9 = .ok (.aload_n 0, 1) := by decide +kernel
theorem d_X7_proceedAndCatch_10 : decode c_X7_proceedAndCatch 10 = .ok (.getfield 22, 3) := by decide +kernel
theorem d_X7_proceedAndCatch_13 : decode c_X7_proceedAndCatch 13 = .ok (.ifCond .eq 12, 3) := by decide +kernel
theorem d_X7_proceedAndCatch_16 : decode c_X7_proceedAndCatch 16 = .ok (.aload_n 0, 1) := by decide +kernel
theorem d_X7_proceedAndCatch_17 : decode c_X7_proceedAndCatch 17 = .ok (.getfield 22, 3) := by decide +kernel
theorem d_X7_proceedAndCatch_20 : decode c_X7_proceedAndCatch 20 = .ok (.bipush 99, 2) := by decide +kernel
theorem d_X7_proceedAndCatch_22 : decode c_X7_proceedAndCatch 22 = .ok (.if_icmp .ne 6, 3) := by decide +kernel
theorem d_X7_proceedAndCatch_25 : decode c_X7_proceedAndCatch 25 = .ok (.iload 4, 2) := by decide +kernel
theorem d_X7_proceedAndCatch_27 : decode c_X7_proceedAndCatch 27 = .ok (.ireturn, 1) := by decide +kernel
theorem d_X7_proceedAndCatch_28 : decode c_X7_proceedAndCatch 28 = .ok (.aload_n 0, 1) := by decide +kernel
theorem d_X7_proceedAndCatch_29 : decode c_X7_proceedAndCatch 29 = .ok (.getfield 22, 3) := by decide +kernel
theorem d_X7_proceedAndCatch_32 : decode c_X7_proceedAndCatch 32 = .ok (.istore 5, 2) := by decide +kernel
theorem d_X7_proceedAndCatch_34 : decode c_X7_proceedAndCatch 34 = .ok (.aload_n 0, 1) := by decide +kernel
theorem d_X7_proceedAndCatch_35 : decode c_X7_proceedAndCatch 35 = .ok (.iconst 0, 1) := by decide +kernel
theorem d_X7_proceedAndCatch_36 : decode c_X7_proceedAndCatch 36 = .ok (.putfield 22, 3) := by decide +kernel
theorem d_X7_proceedAndCatch_39 : decode c_X7_proceedAndCatch 39 = .ok (.iload 5, 2) := by decide +kernel
theorem d_X7_proceedAndCatch_41 : decode c_X7_proceedAndCatch 41 = .ok (.ineg, 1) := by decide +kernel
theorem d_X7_proceedAndCatch_42 : decode c_X7_proceedAndCatch 42 = .ok (.ireturn, 1) := by decide +kernel
theorem d_X8_init_0 : decode c_X8_init 0 = .ok (.aload_n 0, 1) := by decide +kernel
theorem d_X8_init_1 : decode c_X8_init 1 = .ok (.invokespecial 3, 3) := by decide +kernel
theorem d_X8_init_4 : decode c_X8_init 4 = .ok (.aload_n 0, 1) := by decide +kernel
theorem d_X8_init_5 : decode c_X8_init 5 = .ok (.new 9, 3) := by decide +kernel
theorem d_X8_init_8 : decode c_X8_init 8 = .ok (.dup, 1) := by decide +kernel
theorem d_X8_init_9 : decode c_X8_init 9 = .ok (.iconst 4, 1) := by decide +kernel
theorem d_X8_init_10 : decode c_X8_init 10 = .ok (.invokespecial 11, 3) := by decide +kernel
theorem d_X8_init_13 : decode c_X8_init 13 = .ok (.putfield 14, 3) := by decide +kernel
theorem d_X8_init_16 : decode c_X8_init 16 = .ok (.aload_n 0, 1) := by decide +kernel
theorem d_X8_init_17 : decode c_X8_init 17 = .ok (.iconst 4, 1) := by decide +kernel
theorem d_X8_init_18 : decode c_X8_init 18 = .ok (.newarray .int, 2) := by decide +kernel
theorem d_X8_init_20 : decode c_X8_init 20 = .ok (.putfield 20, 3) := by decide +kernel
theorem d_X8_init_23 : decode c_X8_init 23 = .ok (.return_, 1) := by decide +kernel
theorem d_X8_forget_0 : decode c_X8_forget 0 = .ok (.aload_n 0, 1) := by decide +kernel
theorem d_X8_forget_1 : decode c_X8_forget 1 = .ok (.getfield 14, 3) := by decide +kernel
theorem d_X8_forget_4 : decode c_X8_forget 4 = .ok (.iconst 0, 1) := by decide +kernel
theorem d_X8_forget_5 : decode c_X8_forget 5 = .ok (.putfield 24, 3) := by decide +kernel
theorem d_X8_forget_8 : decode c_X8_forget 8 = .ok (.aload_n 0, 1) := by decide +kernel
theorem d_X8_forget_9 : decode c_X8_forget 9 = .ok (.iconst 0, 1) := by decide +kernel
theorem d_X8_forget_10 : decode c_X8_forget 10 = .ok (.putfield 28, 3) := by decide +kernel
theorem d_X8_forget_13 : decode c_X8_forget 13 = .ok (.aload_n 0, 1) := by decide +kernel
theorem d_X8_forget_14 : decode c_X8_forget 14 = .ok (.iconst 0, 1) := by decide +kernel
theorem d_X8_forget_15 : decode c_X8_forget 15 = .ok (.putfield 31, 3) := by decide +kernel
theorem d_X8_forget_18 : decode c_X8_forget 18 = .ok (.return_, 1) := by decide +kernel
theorem d_X8_addListed_0 : decode c_X8_addListed 0 = .ok (.aload_n 0, 1) := by decide +kernel
theorem d_X8_addListed_1 : decode c_X8_addListed 1 = .ok (.getfield 20, 3) := by decide +kernel
theorem d_X8_addListed_4 : decode c_X8_addListed 4 = .ok (.aload_n 0, 1) := by decide +kernel
theorem d_X8_addListed_5 : decode c_X8_addListed 5 = .ok (.getfield 28, 3) := by decide +kernel
theorem d_X8_addListed_8 : decode c_X8_addListed 8 = .ok (.iload_n 1, 1) := by decide +kernel
theorem d_X8_addListed_9 : decode c_X8_addListed 9 = .ok (.iastore, 1) := by decide +kernel
theorem d_X8_addListed_10 : decode c_X8_addListed 10 = .ok (.aload_n 0, 1) := by decide +kernel
theorem d_X8_addListed_11 : decode c_X8_addListed 11 = .ok (.dup, 1) := by decide +kernel
theorem d_X8_addListed_12 : decode c_X8_addListed 12 = .ok (.getfield 28, 3) := by decide +kernel
theorem d_X8_addListed_15 : decode c_X8_addListed 15 = .ok (.iconst 1, 1) := by decide +kernel
theorem d_X8_addListed_16 : decode c_X8_addListed 16 = .ok (.iadd, 1) := by decide +kernel
theorem d_X8_addListed_17 : decode c_X8_addListed 17 = .ok (.putfield 28, 3) := by decide +kernel
theorem d_X8_addListed_20 : decode c_X8_addListed 20 = .ok (.return_, 1) := by decide +kernel
theorem d_X8_has_0 : decode c_X8_has 0 = .ok (.aload_n 0, 1) := by decide +kernel
theorem d_X8_has_1 : decode c_X8_has 1 = .ok (.getfield 31, 3) := by decide +kernel
theorem d_X8_has_4 : decode c_X8_has 4 = .ok (.iload_n 1, 1) := by decide +kernel
theorem d_X8_has_5 : decode c_X8_has 5 = .ok (.iand, 1) := by decide +kernel
theorem d_X8_has_6 : decode c_X8_has 6 = .ok (.ifCond .eq 7, 3) := by decide +kernel
theorem d_X8_has_9 : decode c_X8_has 9 = .ok (.iconst 1, 1) := by decide +kernel
theorem d_X8_has_10 : decode c_X8_has 10 = .ok (.goto 4, 3) := by decide +kernel
theorem d_X8_has_13 : decode c_X8_has 13 = .ok (.iconst 0, 1) := by decide +kernel
theorem d_X8_has_14 : decode c_X8_has 14 = .ok (.ireturn, 1) := by decide +kernel
