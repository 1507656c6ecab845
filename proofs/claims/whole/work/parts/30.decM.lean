theorem d_X10_init_0 : decode c_X10_init 0 = .ok (.aload_n 0, 1) := by decide +kernel
theorem d_X10_init_1 : decode c_X10_init 1 = .ok (.invokespecial 1, 3) := by decide +kernel
theorem d_X10_init_4 : decode c_X10_init 4 = .ok (.aload_n 0, 1) := by decide +kernel
theorem d_X10_init_5 : decode c_X10_init 5 = .ok (.bipush 8, 2) := by decide +kernel
theorem d_X10_init_7 : decode c_X10_init 7 = .ok (.newarray .boolean, 2) := by decide +kernel
theorem d_X10_init_9 : decode c_X10_init 9 = .ok (.putfield 7, 3) := by decide +kernel
theorem d_X10_init_12 : decode c_X10_init 12 = .ok (.aload_n 0, 1) := by decide +kernel
theorem d_X10_init_13 : decode c_X10_init 13 = .ok (.bipush 16, 2) := by decide +kernel
theorem d_X10_init_15 : decode c_X10_init 15 = .ok (.newarray .int, 2) := by decide +kernel
theorem d_X10_init_17 : decode c_X10_init 17 = .ok (.putfield 13, 3) := by decide +kernel
theorem d_X10_init_20 : decode c_X10_init 20 = .ok (.aload_n 0, 1) := by decide +kernel
theorem d_X10_init_21 : decode c_X10_init 21 = .ok (.bipush 16, 2) := by decide +kernel
theorem d_X10_init_23 : decode c_X10_init 23 = .ok (.newarray .int, 2) := by decide +kernel
theorem d_X10_init_25 : decode c_X10_init 25 = .ok (.putfield 17, 3) := by decide +kernel
theorem d_X10_init_28 : decode c_X10_init 28 = .ok (.aload_n 0, 1) := by decide +kernel
theorem d_X10_init_29 : decode c_X10_init 29 = .ok (.bipush 16, 2) := by decide +kernel
theorem d_X10_init_31 : decode c_X10_init 31 = .ok (.newarray .int, 2) := by decide +kernel
theorem d_X10_init_33 : decode c_X10_init 33 = .ok (.putfield 20, 3) := by decide +kernel
theorem d_X10_init_36 : decode c_X10_init 36 = .ok (.aload_n 0, 1) := by decide +kernel
theorem d_X10_init_37 : decode c_X10_init 37 = .ok (.bipush 8, 2) := by decide +kernel
theorem d_X10_init_39 : decode c_X10_init 39 = .ok (.newarray .int, 2) := by decide +kernel
theorem d_X10_init_41 : decode c_X10_init 41 = .ok (.putfield 23, 3) := by decide +kernel
theorem d_X10_init_44 : decode c_X10_init 44 = .ok (.aload_n 0, 1) := by decide +kernel
theorem d_X10_init_45 : decode c_X10_init 45 = .ok (.bipush 8, 2) := by decide +kernel
theorem d_X10_init_47 : decode c_X10_init 47 = .ok (.newarray .int, 2) := by decide +kernel
theorem d_X10_init_49 : decode c_X10_init 49 = .ok (.putfield 26, 3) := by decide +kernel
theorem d_X10_init_52 : decode c_X10_init 52 = .ok (.aload_n 0, 1) := by decide +kernel
theorem d_X10_init_53 : decode c_X10_init 53 = .ok (.bipush 8, 2) := by decide +kernel
theorem d_X10_init_55 : decode c_X10_init 55 = .ok (.newarray .int, 2) := by decide +kernel
theorem d_X10_init_57 : decode c_X10_init 57 = .ok (.putfield 29, 3) := by decide +kernel
theorem d_X10_init_60 : decode c_X10_init 60 = .ok (.aload_n 0, 1) := by decide +kernel
theorem d_X10_init_61 : decode c_X10_init 61 = .ok (.iconst 4, 1) := by decide +kernel
theorem d_X10_init_62 : decode c_X10_init 62 = .ok (.newarray .int, 2) := by decide +kernel
theorem d_X10_init_64 : decode c_X10_init 64 = .ok (.putfield 32, 3) := by decide +kernel
theorem d_X10_init_67 : decode c_X10_init 67 = .ok (.aload_n 0, 1) := by decide +kernel
theorem d_X10_init_68 : decode c_X10_init 68 = .ok (.iconst 4, 1) := by decide +kernel
theorem d_X10_init_69 : decode c_X10_init 69 = .ok (.newarray .int, 2) := by decide +kernel
theorem d_X10_init_71 : decode c_X10_init 71 = .ok (.putfield 35, 3) := by decide +kernel
theorem d_X10_init_74 : decode c_X10_init 74 = .ok (.aload_n 0, 1) := by decide +kernel
theorem d_X10_init_75 : decode c_X10_init 75 = .ok (.iconst 4, 1) := by decide +kernel
theorem d_X10_init_76 : decode c_X10_init 76 = .ok (.newarray .int, 2) := by decide +kernel
theorem d_X10_init_78 : decode c_X10_init 78 = .ok (.putfield 38, 3) := by decide +kernel
theorem d_X10_init_81 : decode c_X10_init 81 = .ok (.aload_n 0, 1) := by decide +kernel
theorem d_X10_init_82 : decode c_X10_init 82 = .ok (.iconst 4, 1) := by decide +kernel
theorem d_X10_init_83 : decode c_X10_init 83 = .ok (.newarray .int, 2) := by decide +kernel
theorem d_X10_init_85 : decode c_X10_init 85 = .ok (.putfield 41, 3) := by decide +kernel
theorem d_X10_init_88 : decode c_X10_init 88 = .ok (.aload_n 0, 1) := by decide +kernel
theorem d_X10_init_89 : decode c_X10_init 89 = .ok (.iconst 4, 1) := by decide +kernel
theorem d_X10_init_90 : decode c_X10_init 90 = .ok (.newarray .int, 2) := by decide +kernel
theorem d_X10_init_92 : decode c_X10_init 92 = .ok (.putfield 44, 3) := by decide +kernel
theorem d_X10_init_95 : decode c_X10_init 95 = .ok (.aload_n 0, 1) := by decide +kernel
theorem d_X10_init_96 : decode c_X10_init 96 = .ok (.bipush 16, 2) := by decide +kernel
theorem d_X10_init_98 : decode c_X10_init 98 = .ok (.newarray .int, 2) := by decide +kernel
theorem d_X10_init_100 : decode c_X10_init 100 = .ok (.putfield 47, 3) := by decide +kernel
theorem d_X10_init_103 : decode c_X10_init 103 = .ok (.aload_n 0, 1) := by decide +kernel
theorem d_X10_init_104 : decode c_X10_init 104 = .ok (.bipush 28, 2) := by decide +kernel
theorem d_X10_init_106 : decode c_X10_init 106 = .ok (.newarray .int, 2) := by decide +kernel
theorem d_X10_init_108 : decode c_X10_init 108 = .ok (.putfield 50, 3) := by decide +kernel
theorem d_X10_init_111 : decode c_X10_init 111 = .ok (.aload_n 0, 1) := by decide +kernel
theorem d_X10_init_112 : decode c_X10_init 112 = .ok (.bipush 112, 2) := by decide +kernel
theorem d_X10_init_114 : decode c_X10_init 114 = .ok (.newarray .int, 2) := by decide +kernel
theorem d_X10_init_116 : decode c_X10_init 116 = .ok (.putfield 53, 3) := by decide +kernel
theorem d_X10_init_119 : decode c_X10_init 119 = .ok (.aload_n 0, 1) := by decide +kernel
theorem d_X10_init_120 : decode c_X10_init 120 = .ok (.bipush 112, 2) := by decide +kernel
theorem d_X10_init_122 : decode c_X10_init 122 = .ok (.newarray .int, 2) := by decide +kernel
theorem d_X10_init_124 : decode c_X10_init 124 = .ok (.putfield 56, 3) := by decide +kernel
theorem d_X10_init_127 : decode c_X10_init 127 = .ok (.aload_n 0, 1) := by decide +kernel
theorem d_X10_init_128 : decode c_X10_init 128 = .ok (.bipush 28, 2) := by decide +kernel
theorem d_X10_init_130 : decode c_X10_init 130 = .ok (.newarray .int, 2) := by decide +kernel
theorem d_X10_init_132 : decode c_X10_init 132 = .ok (.putfield 59, 3) := by decide +kernel
theorem d_X10_init_135 : decode c_X10_init 135 = .ok (.aload_n 0, 1) := by decide +kernel
theorem d_X10_init_136 : decode c_X10_init 136 = .ok (.bipush 112, 2) := by decide +kernel
theorem d_X10_init_138 : decode c_X10_init 138 = .ok (.newarray .int, 2) := by decide +kernel
theorem d_X10_init_140 : decode c_X10_init 140 = .ok (.putfield 62, 3) := by decide +kernel
theorem d_X10_init_143 : decode c_X10_init 143 = .ok (.aload_n 0, 1) := by decide +kernel
theorem d_X10_init_144 : decode c_X10_init 144 = .ok (.bipush 24, 2) := by decide +kernel
theorem d_X10_init_146 : decode c_X10_init 146 = .ok (.newarray .int, 2) := by decide +kernel
theorem d_X10_init_148 : decode c_X10_init 148 = .ok (.putfield 65, 3) := by decide +kernel
theorem d_X10_init_151 : decode c_X10_init 151 = .ok (.aload_n 0, 1) := by decide +kernel
theorem d_X10_init_152 : decode c_X10_init 152 = .ok (.bipush 24, 2) := by decide +kernel
theorem d_X10_init_154 : decode c_X10_init 154 = .ok (.newarray .int, 2) := by decide +kernel
theorem d_X10_init_156 : decode c_X10_init 156 = .ok (.putfield 68, 3) := by decide +kernel
theorem d_X10_init_159 : decode c_X10_init 159 = .ok (.aload_n 0, 1) := by decide +kernel
theorem d_X10_init_160 : decode c_X10_init 160 = .ok (.bipush 48, 2) := by decide +kernel
theorem d_X10_init_162 : decode c_X10_init 162 = .ok (.newarray .int, 2) := by decide +kernel
theorem d_X10_init_164 : decode c_X10_init 164 = .ok (.putfield 71, 3) := by decide +kernel
theorem d_X10_init_167 : decode c_X10_init 167 = .ok (.aload_n 0, 1) := by decide +kernel
theorem d_X10_init_168 : decode c_X10_init 168 = .ok (.bipush 48, 2) := by decide +kernel
theorem d_X10_init_170 : decode c_X10_init 170 = .ok (.newarray .int, 2) := by decide +kernel
theorem d_X10_init_172 : decode c_X10_init 172 = .ok (.putfield 74, 3) := by decide +kernel
theorem d_X10_init_175 : decode c_X10_init 175 = .ok (.aload_n 0, 1) := by decide +kernel
theorem d_X10_init_176 : decode c_X10_init 176 = .ok (.bipush 24, 2) := by decide +kernel
theorem d_X10_init_178 : decode c_X10_init 178 = .ok (.newarray .int, 2) := by decide +kernel
theorem d_X10_init_180 : decode c_X10_init 180 = .ok (.putfield 77, 3) := by decide +kernel
theorem d_X10_init_183 : decode c_X10_init 183 = .ok (.aload_n 0, 1) := by decide +kernel
theorem d_X10_init_184 : decode c_X10_init 184 = .ok (.bipush 24, 2) := by decide +kernel
theorem d_X10_init_186 : decode c_X10_init 186 = .ok (.newarray .int, 2) := by decide +kernel
theorem d_X10_init_188 : decode c_X10_init 188 = .ok (.putfield 80, 3) := by decide +kernel
theorem d_X10_init_191 : decode c_X10_init 191 = .ok (.aload_n 0, 1) := by decide +kernel
theorem d_X10_init_192 : decode c_X10_init 192 = .ok (.bipush 24, 2) := by decide +kernel
theorem d_X10_init_194 : decode c_X10_init 194 = .ok (.newarray .int, 2) := by decide +kernel
theorem d_X10_init_196 : decode c_X10_init 196 = .ok (.putfield 83, 3) := by decide +kernel
theorem d_X10_init_199 : decode c_X10_init 199 = .ok (.aload_n 0, 1) := by decide +kernel
theorem d_X10_init_200 : decode c_X10_init 200 = .ok (.bipush 24, 2) := by decide +kernel
theorem d_X10_init_202 : decode c_X10_init 202 = .ok (.newarray .int, 2) := by decide +kernel
theorem d_X10_init_204 : decode c_X10_init 204 = .ok (.putfield 86, 3) := by decide +kernel
theorem d_X10_init_207 : decode c_X10_init 207 = .ok (.aload_n 0, 1) := by decide +kernel
theorem d_X10_init_208 : decode c_X10_init 208 = .ok (.bipush 64, 2) := by decide +kernel
theorem d_X10_init_210 : decode c_X10_init 210 = .ok (.newarray .int, 2) := by decide +kernel
theorem d_X10_init_212 : decode c_X10_init 212 = .ok (.putfield 89, 3) := by decide +kernel
theorem d_X10_init_215 : decode c_X10_init 215 = .ok (.return_, 1) := by decide +kernel
theorem d_X10_clear_0 : decode c_X10_clear 0 = .ok (.aload_n 0, 1) := by decide +kernel
theorem d_X10_clear_1 : decode c_X10_clear 1 = .ok (.iconst 0, 1) := by decide +kernel
theorem d_X10_clear_2 : decode c_X10_clear 2 = .ok (.putfield 92, 3) := by decide +kernel
theorem d_X10_clear_5 : decode c_X10_clear 5 = .ok (.aload_n 0, 1) := by decide +kernel
theorem d_X10_clear_6 : decode c_X10_clear 6 = .ok (.iconst 0, 1) := by decide +kernel
theorem d_X10_clear_7 : decode c_X10_clear 7 = .ok (.putfield 96, 3) := by decide +kernel
theorem d_X10_clear_10 : decode c_X10_clear 10 = .ok (.aload_n 0, 1) := by decide +kernel
theorem d_X10_clear_11 : decode c_X10_clear 11 = .ok (.iconst 0, 1) := by decide +kernel
theorem d_X10_clear_12 : decode c_X10_clear 12 = .ok (.putfield 100, 3) := by decide +kernel
theorem d_X10_clear_15 : decode c_X10_clear 15 = .ok (.aload_n 0, 1) := by decide +kernel
theorem d_X10_clear_16 : decode c_X10_clear 16 = .ok (.iconst 0, 1) := by decide +kernel
theorem d_X10_clear_17 : decode c_X10_clear 17 = .ok (.putfield 103, 3) := by decide +kernel
theorem d_X10_clear_20 : decode c_X10_clear 20 = .ok (.aload_n 0, 1) := by decide +kernel
theorem d_X10_clear_21 : decode c_X10_clear 21 = .ok (.iconst 0, 1) := by decide +kernel
theorem d_X10_clear_22 : decode c_X10_clear 22 = .ok (.putfield 106, 3) := by decide +kernel
theorem d_X10_clear_25 : decode c_X10_clear 25 = .ok (.aload_n 0, 1) := by decide +kernel
theorem d_X10_clear_26 : decode c_X10_clear 26 = .ok (.iconst 0, 1) := by decide +kernel
theorem d_X10_clear_27 : decode c_X10_clear 27 = .ok (.putfield 109, 3) := by decide +kernel
theorem d_X10_clear_30 : decode c_X10_clear 30 = .ok (.aload_n 0, 1) := by decide +kernel
theorem d_X10_clear_31 : decode c_X10_clear 31 = .ok (.iconst 0, 1) := by decide +kernel
theorem d_X10_clear_32 : decode c_X10_clear 32 = .ok (.putfield 112, 3) := by decide +kernel
theorem d_X10_clear_35 : decode c_X10_clear 35 = .ok (.aload_n 0, 1) := by decide +kernel
theorem d_X10_clear_36 : decode c_X10_clear 36 = .ok (.iconst 0, 1) := by decide +kernel
theorem d_X10_clear_37 : decode c_X10_clear 37 = .ok (.putfield 115, 3) := by decide +kernel
theorem d_X10_clear_40 : decode c_X10_clear 40 = .ok (.aload_n 0, 1) := by decide +kernel
theorem d_X10_clear_41 : decode c_X10_clear 41 = .ok (.iconst 0, 1) := by decide +kernel
theorem d_X10_clear_42 : decode c_X10_clear 42 = .ok (.putfield 118, 3) := by decide +kernel
theorem d_X10_clear_45 : decode c_X10_clear 45 = .ok (.iconst 0, 1) := by decide +kernel
theorem d_X10_clear_46 : decode c_X10_clear 46 = .ok (.istore_n 1, 1) := by decide +kernel
theorem d_X10_clear_47 : decode c_X10_clear 47 = .ok (.iload_n 1, 1) := by decide +kernel
theorem d_X10_clear_48 : decode c_X10_clear 48 = .ok (.bipush 28, 2) := by decide +kernel
theorem d_X10_clear_50 : decode c_X10_clear 50 = .ok (.if_icmp .ge 23, 3) := by decide +kernel
theorem d_X10_clear_53 : decode c_X10_clear 53 = .ok (.aload_n 0, 1) := by decide +kernel
theorem d_X10_clear_54 : decode c_X10_clear 54 = .ok (.getfield 50, 3) := by decide +kernel
theorem d_X10_clear_57 : decode c_X10_clear 57 = .ok (.iload_n 1, 1) := by decide +kernel
theorem d_X10_clear_58 : decode c_X10_clear 58 = .ok (.iconst 0, 1) := by decide +kernel
theorem d_X10_clear_59 : decode c_X10_clear 59 = .ok (.iastore, 1) := by decide +kernel
theorem d_X10_clear_60 : decode c_X10_clear 60 = .ok (.aload_n 0, 1) := by decide +kernel
theorem d_X10_clear_61 : decode c_X10_clear 61 = .ok (.getfield 59, 3) := by decide +kernel
theorem d_X10_clear_64 : decode c_X10_clear 64 = .ok (.iload_n 1, 1) := by decide +kernel
theorem d_X10_clear_65 : decode c_X10_clear 65 = .ok (.iconst 0, 1) := by decide +kernel
theorem d_X10_clear_66 : decode c_X10_clear 66 = .ok (.iastore, 1) := by decide +kernel
theorem d_X10_clear_67 : decode c_X10_clear 67 = .ok (.iinc 1 1, 3) := by decide +kernel
theorem d_X10_clear_70 : decode c_X10_clear 70 = .ok (.goto (-23), 3) := by decide +kernel
theorem d_X10_clear_73 : decode c_X10_clear 73 = .ok (.iconst 0, 1) := by decide +kernel
theorem d_X10_clear_74 : decode c_X10_clear 74 = .ok (.istore_n 1, 1) := by decide +kernel
theorem d_X10_clear_75 : decode c_X10_clear 75 = .ok (.iload_n 1, 1) := by decide +kernel
theorem d_X10_clear_76 : decode c_X10_clear 76 = .ok (.bipush 16, 2) := by decide +kernel
theorem d_X10_clear_78 : decode c_X10_clear 78 = .ok (.if_icmp .ge 16, 3) := by decide +kernel
theorem d_X10_clear_81 : decode c_X10_clear 81 = .ok (.aload_n 0, 1) := by decide +kernel
theorem d_X10_clear_82 : decode c_X10_clear 82 = .ok (.getfield 47, 3) := by decide +kernel
theorem d_X10_clear_85 : decode c_X10_clear 85 = .ok (.iload_n 1, 1) := by decide +kernel
theorem d_X10_clear_86 : decode c_X10_clear 86 = .ok (.iconst 0, 1) := by decide +kernel
theorem d_X10_clear_87 : decode c_X10_clear 87 = .ok (.iastore, 1) := by decide +kernel
theorem d_X10_clear_88 : decode c_X10_clear 88 = .ok (.iinc 1 1, 3) := by decide +kernel
theorem d_X10_clear_91 : decode c_X10_clear 91 = .ok (.goto (-16), 3) := by decide +kernel
theorem d_X10_clear_94 : decode c_X10_clear 94 = .ok (.return_, 1) := by decide +kernel
theorem d_X10_within_0 : decode c_X10_within 0 = .ok (.iload_n 0, 1) := by decide +kernel
theorem d_X10_within_1 : decode c_X10_within 1 = .ok (.ifCond .lt 12, 3) := by decide +kernel
theorem d_X10_within_4 : decode c_X10_within 4 = .ok (.iload_n 0, 1) := by decide +kernel
theorem d_X10_within_5 : decode c_X10_within 5 = .ok (.iload_n 1, 1) := by decide +kernel
theorem d_X10_within_6 : decode c_X10_within 6 = .ok (.if_icmp .gt 7, 3) := by decide +kernel
theorem d_X10_within_9 : decode c_X10_within 9 = .ok (.iconst 1, 1) := by decide +kernel
theorem d_X10_within_10 : decode c_X10_within 10 = .ok (.goto 4, 3) := by decide +kernel
theorem d_X10_within_13 : decode c_X10_within 13 = .ok (.iconst 0, 1) := by decide +kernel
theorem d_X10_within_14 : decode c_X10_within 14 = .ok (.ireturn, 1) := by decide +kernel
theorem d_X10_binding_0 : decode c_X10_binding 0 = .ok (.aload_n 0, 1) := by decide +kernel
theorem d_X10_binding_1 : decode c_X10_binding 1 = .ok (.getfield 92, 3) := by decide +kernel
theorem d_X10_binding_4 : decode c_X10_binding 4 = .ok (.ifCond .eq 6, 3) := by decide +kernel
theorem d_X10_binding_7 : decode c_X10_binding 7 = .ok (.bipush (-2), 2) := by decide +kernel
theorem d_X10_binding_9 : decode c_X10_binding 9 = .ok (.ireturn, 1) := by decide +kernel
theorem d_X10_binding_10 : decode c_X10_binding 10 = .ok (.aload_n 0, 1) := by decide +kernel
theorem d_X10_binding_11 : decode c_X10_binding 11 = .ok (.getfield 96, 3) := by decide +kernel
theorem d_X10_binding_14 : decode c_X10_binding 14 = .ok (.bipush 8, 2) := by decide +kernel
theorem d_X10_binding_16 : decode c_X10_binding 16 = .ok (.if_icmp .ne 6, 3) := by decide +kernel
theorem d_X10_binding_19 : decode c_X10_binding 19 = .ok (.bipush (-5), 2) := by decide +kernel
theorem d_X10_binding_21 : decode c_X10_binding 21 = .ok (.ireturn, 1) := by decide +kernel
theorem d_X10_binding_22 : decode c_X10_binding 22 = .ok (.aload_n 0, 1) := by decide +kernel
theorem d_X10_binding_23 : decode c_X10_binding 23 = .ok (.getfield 7, 3) := by decide +kernel
theorem d_X10_binding_26 : decode c_X10_binding 26 = .ok (.aload_n 0, 1) := by decide +kernel
theorem d_X10_binding_27 : decode c_X10_binding 27 = .ok (.getfield 96, 3) := by decide +kernel
theorem d_X10_binding_30 : decode c_X10_binding 30 = .ok (.iload_n 1, 1) := by decide +kernel
theorem d_X10_binding_31 : decode c_X10_binding 31 = .ok (.bastore, 1) := by decide +kernel
theorem d_X10_binding_32 : decode c_X10_binding 32 = .ok (.aload_n 0, 1) := by decide +kernel
theorem d_X10_binding_33 : decode c_X10_binding 33 = .ok (.dup, 1) := by decide +kernel
theorem d_X10_binding_34 : decode c_X10_binding 34 = .ok (.getfield 96, 3) := by decide +kernel
theorem d_X10_binding_37 : decode c_X10_binding 37 = .ok (.iconst 1, 1) := by decide +kernel
theorem d_X10_binding_38 : decode c_X10_binding 38 = .ok (.iadd, 1) := by decide +kernel
theorem d_X10_binding_39 : decode c_X10_binding 39 = .ok (.putfield 96, 3) := by decide +kernel
theorem d_X10_binding_42 : decode c_X10_binding 42 = .ok (.aload_n 0, 1) := by decide +kernel
theorem d_X10_binding_43 : decode c_X10_binding 43 = .ok (.getfield 96, 3) := by decide +kernel
theorem d_X10_binding_46 : decode c_X10_binding 46 = .ok (.iconst 1, 1) := by decide +kernel
theorem d_X10_binding_47 : decode c_X10_binding 47 = .ok (.isub, 1) := by decide +kernel
theorem d_X10_binding_48 : decode c_X10_binding 48 = .ok (.ireturn, 1) := by decide +kernel
theorem d_X10_carry_0 : decode c_X10_carry 0 = .ok (.aload_n 0, 1) := by decide +kernel
theorem d_X10_carry_1 : decode c_X10_carry 1 = .ok (.getfield 92, 3) := by decide +kernel
theorem d_X10_carry_4 : decode c_X10_carry 4 = .ok (.ifCond .eq 6, 3) := by decide +kernel
theorem d_X10_carry_7 : decode c_X10_carry 7 = .ok (.bipush (-2), 2) := by decide +kernel
theorem d_X10_carry_9 : decode c_X10_carry 9 = .ok (.ireturn, 1) := by decide +kernel
theorem d_X10_carry_10 : decode c_X10_carry 10 = .ok (.iload_n 1, 1) := by decide +kernel
theorem d_X10_carry_11 : decode c_X10_carry 11 = .ok (.aload_n 0, 1) := by decide +kernel
theorem d_X10_carry_12 : decode c_X10_carry 12 = .ok (.getfield 96, 3) := by decide +kernel
theorem d_X10_carry_15 : decode c_X10_carry 15 = .ok (.iconst 1, 1) := by decide +kernel
theorem d_X10_carry_16 : decode c_X10_carry 16 = .ok (.isub, 1) := by decide +kernel
theorem d_X10_carry_17 : decode c_X10_carry 17 = .ok (.invokestatic 121, 3) := by decide +kernel
theorem d_X10_carry_20 : decode c_X10_carry 20 = .ok (.ifCond .eq 16, 3) := by decide +kernel
theorem d_X10_carry_23 : decode c_X10_carry 23 = .ok (.iload_n 2, 1) := by decide +kernel
theorem d_X10_carry_24 : decode c_X10_carry 24 = .ok (.aload_n 0, 1) := by decide +kernel
theorem d_X10_carry_25 : decode c_X10_carry 25 = .ok (.getfield 96, 3) := by decide +kernel
theorem d_X10_carry_28 : decode c_X10_carry 28 = .ok (.iconst 1, 1) := by decide +kernel
theorem d_X10_carry_29 : decode c_X10_carry 29 = .ok (.isub, 1) := by decide +kernel
theorem d_X10_carry_30 : decode c_X10_carry 30 = .ok (.invokestatic 121, 3) := by decide +kernel
theorem d_X10_carry_33 : decode c_X10_carry 33 = .ok (.ifCond .ne 6, 3) := by decide +kernel
theorem d_X10_carry_36 : decode c_X10_carry 36 = .ok (.bipush (-3), 2) := by decide +kernel
theorem d_X10_carry_38 : decode c_X10_carry 38 = .ok (.ireturn, 1) := by decide +kernel
theorem d_X10_carry_39 : decode c_X10_carry 39 = .ok (.aload_n 0, 1) := by decide +kernel
theorem d_X10_carry_40 : decode c_X10_carry 40 = .ok (.getfield 100, 3) := by decide +kernel
theorem d_X10_carry_43 : decode c_X10_carry 43 = .ok (.bipush 16, 2) := by decide +kernel
theorem d_X10_carry_45 : decode c_X10_carry 45 = .ok (.if_icmp .ne 6, 3) := by decide +kernel
theorem d_X10_carry_48 : decode c_X10_carry 48 = .ok (.bipush (-5), 2) := by decide +kernel
theorem d_X10_carry_50 : decode c_X10_carry 50 = .ok (.ireturn, 1) := by decide +kernel
theorem d_X10_carry_51 : decode c_X10_carry 51 = .ok (.aload_n 0, 1) := by decide +kernel
theorem d_X10_carry_52 : decode c_X10_carry 52 = .ok (.getfield 13, 3) := by decide +kernel
theorem d_X10_carry_55 : decode c_X10_carry 55 = .ok (.aload_n 0, 1) := by decide +kernel
theorem d_X10_carry_56 : decode c_X10_carry 56 = .ok (.getfield 100, 3) := by decide +kernel
theorem d_X10_carry_59 : decode c_X10_carry 59 = .ok (.iload_n 1, 1) := by decide +kernel
theorem d_X10_carry_60 : decode c_X10_carry 60 = .ok (.iastore, 1) := by decide +kernel
theorem d_X10_carry_61 : decode c_X10_carry 61 = .ok (.aload_n 0, 1) := by decide +kernel
theorem d_X10_carry_62 : decode c_X10_carry 62 = .ok (.getfield 17, 3) := by decide +kernel
theorem d_X10_carry_65 : decode c_X10_carry 65 = .ok (.aload_n 0, 1) := by decide +kernel
theorem d_X10_carry_66 : decode c_X10_carry 66 = .ok (.getfield 100, 3) := by decide +kernel
theorem d_X10_carry_69 : decode c_X10_carry 69 = .ok (.iload_n 2, 1) := by decide +kernel
theorem d_X10_carry_70 : decode c_X10_carry 70 = .ok (.iastore, 1) := by decide +kernel
theorem d_X10_carry_71 : decode c_X10_carry 71 = .ok (.aload_n 0, 1) := by decide +kernel
theorem d_X10_carry_72 : decode c_X10_carry 72 = .ok (.getfield 20, 3) := by decide +kernel
theorem d_X10_carry_75 : decode c_X10_carry 75 = .ok (.aload_n 0, 1) := by decide +kernel
theorem d_X10_carry_76 : decode c_X10_carry 76 = .ok (.getfield 100, 3) := by decide +kernel
theorem d_X10_carry_79 : decode c_X10_carry 79 = .ok (.aload_n 0, 1) := by decide +kernel
theorem d_X10_carry_80 : decode c_X10_carry 80 = .ok (.getfield 7, 3) := by decide +kernel
theorem d_X10_carry_83 : decode c_X10_carry 83 = .ok (.iload_n 2, 1) := by decide +kernel
theorem d_X10_carry_84 : decode c_X10_carry 84 = .ok (.baload, 1) := by decide +kernel
theorem d_X10_carry_85 : decode c_X10_carry 85 = .ok (.ifCond .eq 7, 3) := by decide +kernel
theorem d_X10_carry_88 : decode c_X10_carry 88 = .ok (.iload_n 3, 1) := by decide +kernel
theorem d_X10_carry_89 : decode c_X10_carry 89 = .ok (.goto 4, 3) := by decide +kernel
theorem d_X10_carry_92 : decode c_X10_carry 92 = .ok (.iconst 0, 1) := by decide +kernel
theorem d_X10_carry_93 : decode c_X10_carry 93 = .ok (.iastore, 1) := by decide +kernel
theorem d_X10_carry_94 : decode c_X10_carry 94 = .ok (.aload_n 0, 1) := by decide +kernel
theorem d_X10_carry_95 : decode c_X10_carry 95 = .ok (.dup, 1) := by decide +kernel
theorem d_X10_carry_96 : decode c_X10_carry 96 = .ok (.getfield 100, 3) := by decide +kernel
theorem d_X10_carry_99 : decode c_X10_carry 99 = .ok (.iconst 1, 1) := by decide +kernel
theorem d_X10_carry_100 : decode c_X10_carry 100 = .ok (.iadd, 1) := by decide +kernel
theorem d_X10_carry_101 : decode c_X10_carry 101 = .ok (.putfield 100, 3) := by decide +kernel
theorem d_X10_carry_104 : decode c_X10_carry 104 = .ok (.iconst 0, 1) := by decide +kernel
theorem d_X10_carry_105 : decode c_X10_carry 105 = .ok (.ireturn, 1) := by decide +kernel
theorem d_X10_interceptor_0 : decode c_X10_interceptor 0 = .ok (.aload_n 0, 1) := by decide +kernel
theorem d_X10_interceptor_1 : decode c_X10_interceptor 1 = .ok (.getfield 92, 3) := by decide +kernel
theorem d_X10_interceptor_4 : decode c_X10_interceptor 4 = .ok (.ifCond .eq 6, 3) := by decide +kernel
theorem d_X10_interceptor_7 : decode c_X10_interceptor 7 = .ok (.bipush (-2), 2) := by decide +kernel
theorem d_X10_interceptor_9 : decode c_X10_interceptor 9 = .ok (.ireturn, 1) := by decide +kernel
theorem d_X10_interceptor_10 : decode c_X10_interceptor 10 = .ok (.iload_n 1, 1) := by decide +kernel
theorem d_X10_interceptor_11 : decode c_X10_interceptor 11 = .ok (.bipush 9, 2) := by decide +kernel
theorem d_X10_interceptor_13 : decode c_X10_interceptor 13 = .ok (.invokestatic 121, 3) := by decide +kernel
theorem d_X10_interceptor_16 : decode c_X10_interceptor 16 = .ok (.ifCond .eq 20, 3) := by decide +kernel
theorem d_X10_interceptor_19 : decode c_X10_interceptor 19 = .ok (.iload_n 2, 1) := by decide +kernel
theorem d_X10_interceptor_20 : decode c_X10_interceptor 20 = .ok (.bipush 15, 2) := by decide +kernel
theorem d_X10_interceptor_22 : decode c_X10_interceptor 22 = .ok (.invokestatic 121, 3) := by decide +kernel
theorem d_X10_interceptor_25 : decode c_X10_interceptor 25 = .ok (.ifCond .eq 11, 3) := by decide +kernel
theorem d_X10_interceptor_28 : decode c_X10_interceptor 28 = .ok (.iload_n 3, 1) := by decide +kernel
theorem d_X10_interceptor_29 : decode c_X10_interceptor 29 = .ok (.iconst 5, 1) := by decide +kernel
theorem d_X10_interceptor_30 : decode c_X10_interceptor 30 = .ok (.invokestatic 121, 3) := by decide +kernel
theorem d_X10_interceptor_33 : decode c_X10_interceptor 33 = .ok (.ifCond .ne 6, 3) := by decide +kernel
theorem d_X10_interceptor_36 : decode c_X10_interceptor 36 = .ok (.bipush (-4), 2) := by decide +kernel
theorem d_X10_interceptor_38 : decode c_X10_interceptor 38 = .ok (.ireturn, 1) := by decide +kernel
theorem d_X10_interceptor_39 : decode c_X10_interceptor 39 = .ok (.aload_n 0, 1) := by decide +kernel
theorem d_X10_interceptor_40 : decode c_X10_interceptor 40 = .ok (.getfield 103, 3) := by decide +kernel
theorem d_X10_interceptor_43 : decode c_X10_interceptor 43 = .ok (.bipush 8, 2) := by decide +kernel
theorem d_X10_interceptor_45 : decode c_X10_interceptor 45 = .ok (.if_icmp .ne 6, 3) := by decide +kernel
theorem d_X10_interceptor_48 : decode c_X10_interceptor 48 = .ok (.bipush (-5), 2) := by decide +kernel
theorem d_X10_interceptor_50 : decode c_X10_interceptor 50 = .ok (.ireturn, 1) := by decide +kernel
theorem d_X10_interceptor_51 : decode c_X10_interceptor 51 = .ok (.aload_n 0, 1) := by decide +kernel
theorem d_X10_interceptor_52 : decode c_X10_interceptor 52 = .ok (.getfield 23, 3) := by decide +kernel
theorem d_X10_interceptor_55 : decode c_X10_interceptor 55 = .ok (.aload_n 0, 1) := by decide +kernel
theorem d_X10_interceptor_56 : decode c_X10_interceptor 56 = .ok (.getfield 103, 3) := by decide +kernel
theorem d_X10_interceptor_59 : decode c_X10_interceptor 59 = .ok (.iload_n 1, 1) := by decide +kernel
theorem d_X10_interceptor_60 : decode c_X10_interceptor 60 = .ok (.iastore, 1) := by decide +kernel
theorem d_X10_interceptor_61 : decode c_X10_interceptor 61 = .ok (.aload_n 0, 1) := by decide +kernel
theorem d_X10_interceptor_62 : decode c_X10_interceptor 62 = .ok (.getfield 26, 3) := by decide +kernel
theorem d_X10_interceptor_65 : decode c_X10_interceptor 65 = .ok (.aload_n 0, 1) := by decide +kernel
theorem d_X10_interceptor_66 : decode c_X10_interceptor 66 = .ok (.getfield 103, 3) := by decide +kernel
theorem d_X10_interceptor_69 : decode c_X10_interceptor 69 = .ok (.iload_n 2, 1) := by decide +kernel
theorem d_X10_interceptor_70 : decode c_X10_interceptor 70 = .ok (.iastore, 1) := by decide +kernel
theorem d_X10_interceptor_71 : decode c_X10_interceptor 71 = .ok (.aload_n 0, 1) := by decide +kernel
theorem d_X10_interceptor_72 : decode c_X10_interceptor 72 = .ok (.getfield 29, 3) := by decide +kernel
theorem d_X10_interceptor_75 : decode c_X10_interceptor 75 = .ok (.aload_n 0, 1) := by decide +kernel
theorem d_X10_interceptor_76 : decode c_X10_interceptor 76 = .ok (.getfield 103, 3) := by decide +kernel
theorem d_X10_interceptor_79 : decode c_X10_interceptor 79 = .ok (.iload_n 3, 1) := by decide +kernel
theorem d_X10_interceptor_80 : decode c_X10_interceptor 80 = .ok (.iastore, 1) := by decide +kernel
theorem d_X10_interceptor_81 : decode c_X10_interceptor 81 = .ok (.aload_n 0, 1) := by decide +kernel
theorem d_X10_interceptor_82 : decode c_X10_interceptor 82 = .ok (.dup, 1) := by decide +kernel
theorem d_X10_interceptor_83 : decode c_X10_interceptor 83 = .ok (.getfield 103, 3) := by decide +kernel
theorem d_X10_interceptor_86 : decode c_X10_interceptor 86 = .ok (.iconst 1, 1) := by decide +kernel
theorem d_X10_interceptor_87 : decode c_X10_interceptor 87 = .ok (.iadd, 1) := by decide +kernel
theorem d_X10_interceptor_88 : decode c_X10_interceptor 88 = .ok (.putfield 103, 3) := by decide +kernel
theorem d_X10_interceptor_91 : decode c_X10_interceptor 91 = .ok (.aload_n 0, 1) := by decide +kernel
theorem d_X10_interceptor_92 : decode c_X10_interceptor 92 = .ok (.getfield 103, 3) := by decide +kernel
theorem d_X10_interceptor_95 : decode c_X10_interceptor 95 = .ok (.iconst 1, 1) := by decide +kernel
theorem d_X10_interceptor_96 : decode c_X10_interceptor 96 = .ok (.isub, 1) := by decide +kernel
theorem d_X10_interceptor_97 : decode c_X10_interceptor 97 = .ok (.ireturn, 1) := by decide +kernel
theorem d_X10_decorator_0 : decode c_X10_decorator 0 = .ok (.aload_n 0, 1) := by decide +kernel
theorem d_X10_decorator_1 : decode c_X10_decorator 1 = .ok (.getfield 92, 3) := by decide +kernel
theorem d_X10_decorator_4 : decode c_X10_decorator 4 = .ok (.ifCond .eq 6, 3) := by decide +kernel
theorem d_X10_decorator_7 : decode c_X10_decorator 7 = .ok (.bipush (-2), 2) := by decide +kernel
theorem d_X10_decorator_9 : decode c_X10_decorator 9 = .ok (.ireturn, 1) := by decide +kernel
theorem d_X10_decorator_10 : decode c_X10_decorator 10 = .ok (.iload_n 1, 1) := by decide +kernel
theorem d_X10_decorator_11 : decode c_X10_decorator 11 = .ok (.bipush 9, 2) := by decide +kernel
theorem d_X10_decorator_13 : decode c_X10_decorator 13 = .ok (.invokestatic 121, 3) := by decide +kernel
theorem d_X10_decorator_16 : decode c_X10_decorator 16 = .ok (.ifCond .eq 30, 3) := by decide +kernel
theorem d_X10_decorator_19 : decode c_X10_decorator 19 = .ok (.iload_n 2, 1) := by decide +kernel
theorem d_X10_decorator_20 : decode c_X10_decorator 20 = .ok (.bipush 7, 2) := by decide +kernel
theorem d_X10_decorator_22 : decode c_X10_decorator 22 = .ok (.invokestatic 121, 3) := by decide +kernel
theorem d_X10_decorator_25 : decode c_X10_decorator 25 = .ok (.ifCond .eq 21, 3) := by decide +kernel
theorem d_X10_decorator_28 : decode c_X10_decorator 28 = .ok (.iload_n 3, 1) := by decide +kernel
theorem d_X10_decorator_29 : decode c_X10_decorator 29 = .ok (.bipush 15, 2) := by decide +kernel
theorem d_X10_decorator_31 : decode c_X10_decorator 31 = .ok (.invokestatic 121, 3) := by decide +kernel
theorem d_X10_decorator_34 : decode c_X10_decorator 34 = .ok (.ifCond .eq 12, 3) := by decide +kernel
theorem d_X10_decorator_37 : decode c_X10_decorator 37 = .ok (.iload 4, 2) := by decide +kernel
theorem d_X10_decorator_39 : decode c_X10_decorator 39 = .ok (.iconst 5, 1) := by decide +kernel
theorem d_X10_decorator_40 : decode c_X10_decorator 40 = .ok (.invokestatic 121, 3) := by decide +kernel
theorem d_X10_decorator_43 : decode c_X10_decorator 43 = .ok (.ifCond .ne 6, 3) := by decide +kernel
theorem d_X10_decorator_46 : decode c_X10_decorator 46 = .ok (.bipush (-4), 2) := by decide +kernel
theorem d_X10_decorator_48 : decode c_X10_decorator 48 = .ok (.ireturn, 1) := by decide +kernel
theorem d_X10_decorator_49 : decode c_X10_decorator 49 = .ok (.aload_n 0, 1) := by decide +kernel
theorem d_X10_decorator_50 : decode c_X10_decorator 50 = .ok (.getfield 106, 3) := by decide +kernel
theorem d_X10_decorator_53 : decode c_X10_decorator 53 = .ok (.iconst 4, 1) := by decide +kernel
theorem d_X10_decorator_54 : decode c_X10_decorator 54 = .ok (.if_icmp .ne 6, 3) := by decide +kernel
theorem d_X10_decorator_57 : decode c_X10_decorator 57 = .ok (.bipush (-5), 2) := by decide +kernel
theorem d_X10_decorator_59 : decode c_X10_decorator 59 = .ok (.ireturn, 1) := by decide +kernel
theorem d_X10_decorator_60 : decode c_X10_decorator 60 = .ok (.aload_n 0, 1) := by decide +kernel
theorem d_X10_decorator_61 : decode c_X10_decorator 61 = .ok (.getfield 32, 3) := by decide +kernel
theorem d_X10_decorator_64 : decode c_X10_decorator 64 = .ok (.aload_n 0, 1) := by decide +kernel
theorem d_X10_decorator_65 : decode c_X10_decorator 65 = .ok (.getfield 106, 3) := by decide +kernel
theorem d_X10_decorator_68 : decode c_X10_decorator 68 = .ok (.iload_n 1, 1) := by decide +kernel
theorem d_X10_decorator_69 : decode c_X10_decorator 69 = .ok (.iastore, 1) := by decide +kernel
theorem d_X10_decorator_70 : decode c_X10_decorator 70 = .ok (.aload_n 0, 1) := by decide +kernel
theorem d_X10_decorator_71 : decode c_X10_decorator 71 = .ok (.getfield 35, 3) := by decide +kernel
theorem d_X10_decorator_74 : decode c_X10_decorator 74 = .ok (.aload_n 0, 1) := by decide +kernel
theorem d_X10_decorator_75 : decode c_X10_decorator 75 = .ok (.getfield 106, 3) := by decide +kernel
theorem d_X10_decorator_78 : decode c_X10_decorator 78 = .ok (.iload_n 2, 1) := by decide +kernel
theorem d_X10_decorator_79 : decode c_X10_decorator 79 = .ok (.iastore, 1) := by decide +kernel
theorem d_X10_decorator_80 : decode c_X10_decorator 80 = .ok (.aload_n 0, 1) := by decide +kernel
theorem d_X10_decorator_81 : decode c_X10_decorator 81 = .ok (.getfield 38, 3) := by decide +kernel
theorem d_X10_decorator_84 : decode c_X10_decorator 84 = .ok (.aload_n 0, 1) := by decide +kernel
theorem d_X10_decorator_85 : decode c_X10_decorator 85 = .ok (.getfield 106, 3) := by decide +kernel
theorem d_X10_decorator_88 : decode c_X10_decorator 88 = .ok (.iload_n 3, 1) := by decide +kernel
theorem d_X10_decorator_89 : decode c_X10_decorator 89 = .ok (.iastore, 1) := by decide +kernel
theorem d_X10_decorator_90 : decode c_X10_decorator 90 = .ok (.aload_n 0, 1) := by decide +kernel
theorem d_X10_decorator_91 : decode c_X10_decorator 91 = .ok (.getfield 41, 3) := by decide +kernel
theorem d_X10_decorator_94 : decode c_X10_decorator 94 = .ok (.aload_n 0, 1) := by decide +kernel
theorem d_X10_decorator_95 : decode c_X10_decorator 95 = .ok (.getfield 106, 3) := by decide +kernel
theorem d_X10_decorator_98 : decode c_X10_decorator 98 = .ok (.iload 4, 2) := by decide +kernel
theorem d_X10_decorator_100 : decode c_X10_decorator 100 = .ok (.iastore, 1) := by decide +kernel
theorem d_X10_decorator_101 : decode c_X10_decorator 101 = .ok (.aload_n 0, 1) := by decide +kernel
theorem d_X10_decorator_102 : decode c_X10_decorator 102 = .ok (.dup, 1) := by decide +kernel
theorem d_X10_decorator_103 : decode c_X10_decorator 103 = .ok (.getfield 106, 3) := by decide +kernel
theorem d_X10_decorator_106 : decode c_X10_decorator 106 = .ok (.iconst 1, 1) := by decide +kernel
theorem d_X10_decorator_107 : decode c_X10_decorator 107 = .ok (.iadd, 1) := by decide +kernel
theorem d_X10_decorator_108 : decode c_X10_decorator 108 = .ok (.putfield 106, 3) := by decide +kernel
theorem d_X10_decorator_111 : decode c_X10_decorator 111 = .ok (.aload_n 0, 1) := by decide +kernel
theorem d_X10_decorator_112 : decode c_X10_decorator 112 = .ok (.getfield 106, 3) := by decide +kernel
theorem d_X10_decorator_115 : decode c_X10_decorator 115 = .ok (.iconst 1, 1) := by decide +kernel
theorem d_X10_decorator_116 : decode c_X10_decorator 116 = .ok (.isub, 1) := by decide +kernel
theorem d_X10_decorator_117 : decode c_X10_decorator 117 = .ok (.ireturn, 1) := by decide +kernel
theorem d_X10_component_0 : decode c_X10_component 0 = .ok (.aload_n 0, 1) := by decide +kernel
theorem d_X10_component_1 : decode c_X10_component 1 = .ok (.getfield 92, 3) := by decide +kernel
theorem d_X10_component_4 : decode c_X10_component 4 = .ok (.ifCond .eq 6, 3) := by decide +kernel
theorem d_X10_component_7 : decode c_X10_component 7 = .ok (.bipush (-2), 2) := by decide +kernel
theorem d_X10_component_9 : decode c_X10_component 9 = .ok (.ireturn, 1) := by decide +kernel
theorem d_X10_component_10 : decode c_X10_component 10 = .ok (.iload_n 1, 1) := by decide +kernel
theorem d_X10_component_11 : decode c_X10_component 11 = .ok (.sipush 255, 3) := by decide +kernel
theorem d_X10_component_14 : decode c_X10_component 14 = .ok (.invokestatic 121, 3) := by decide +kernel
theorem d_X10_component_17 : decode c_X10_component 17 = .ok (.ifCond .ne 6, 3) := by decide +kernel
theorem d_X10_component_20 : decode c_X10_component 20 = .ok (.bipush (-4), 2) := by decide +kernel
theorem d_X10_component_22 : decode c_X10_component 22 = .ok (.ireturn, 1) := by decide +kernel
theorem d_X10_component_23 : decode c_X10_component 23 = .ok (.aload_n 0, 1) := by decide +kernel
theorem d_X10_component_24 : decode c_X10_component 24 = .ok (.getfield 109, 3) := by decide +kernel
theorem d_X10_component_27 : decode c_X10_component 27 = .ok (.iconst 4, 1) := by decide +kernel
theorem d_X10_component_28 : decode c_X10_component 28 = .ok (.if_icmp .ne 6, 3) := by decide +kernel
theorem d_X10_component_31 : decode c_X10_component 31 = .ok (.bipush (-5), 2) := by decide +kernel
theorem d_X10_component_33 : decode c_X10_component 33 = .ok (.ireturn, 1) := by decide +kernel
theorem d_X10_component_34 : decode c_X10_component 34 = .ok (.aload_n 0, 1) := by decide +kernel
theorem d_X10_component_35 : decode c_X10_component 35 = .ok (.getfield 44, 3) := by decide +kernel
theorem d_X10_component_38 : decode c_X10_component 38 = .ok (.aload_n 0, 1) := by decide +kernel
theorem d_X10_component_39 : decode c_X10_component 39 = .ok (.getfield 109, 3) := by decide +kernel
theorem d_X10_component_42 : decode c_X10_component 42 = .ok (.iload_n 1, 1) := by decide +kernel
theorem d_X10_component_43 : decode c_X10_component 43 = .ok (.iastore, 1) := by decide +kernel
theorem d_X10_component_44 : decode c_X10_component 44 = .ok (.aload_n 0, 1) := by decide +kernel
theorem d_X10_component_45 : decode c_X10_component 45 = .ok (.dup, 1) := by decide +kernel
theorem d_X10_component_46 : decode c_X10_component 46 = .ok (.getfield 109, 3) := by decide +kernel
theorem d_X10_component_49 : decode c_X10_component 49 = .ok (.iconst 1, 1) := by decide +kernel
theorem d_X10_component_50 : decode c_X10_component 50 = .ok (.iadd, 1) := by decide +kernel
theorem d_X10_component_51 : decode c_X10_component 51 = .ok (.putfield 109, 3) := by decide +kernel
theorem d_X10_component_54 : decode c_X10_component 54 = .ok (.aload_n 0, 1) := by decide +kernel
theorem d_X10_component_55 : decode c_X10_component 55 = .ok (.getfield 109, 3) := by decide +kernel
theorem d_X10_component_58 : decode c_X10_component 58 = .ok (.iconst 1, 1) := by decide +kernel
theorem d_X10_component_59 : decode c_X10_component 59 = .ok (.isub, 1) := by decide +kernel
theorem d_X10_component_60 : decode c_X10_component 60 = .ok (.ireturn, 1) := by decide +kernel
theorem d_X10_bindRow_0 : decode c_X10_bindRow 0 = .ok (.aload_n 0, 1) := by decide +kernel
theorem d_X10_bindRow_1 : decode c_X10_bindRow 1 = .ok (.getfield 50, 3) := by decide +kernel
theorem d_X10_bindRow_4 : decode c_X10_bindRow 4 = .ok (.iload_n 1, 1) := by decide +kernel
theorem d_X10_bindRow_5 : decode c_X10_bindRow 5 = .ok (.iaload, 1) := by decide +kernel
theorem d_X10_bindRow_6 : decode c_X10_bindRow 6 = .ok (.iconst 4, 1) := by decide +kernel
theorem d_X10_bindRow_7 : decode c_X10_bindRow 7 = .ok (.if_icmp .ne 6, 3) := by decide +kernel
theorem d_X10_bindRow_10 : decode c_X10_bindRow 10 = .ok (.bipush (-5), 2) := by decide +kernel
theorem d_X10_bindRow_12 : decode c_X10_bindRow 12 = .ok (.ireturn, 1) := by decide +kernel
theorem d_X10_bindRow_13 : decode c_X10_bindRow 13 = .ok (.aload_n 0, 1) := by decide +kernel
theorem d_X10_bindRow_14 : decode c_X10_bindRow 14 = .ok (.getfield 53, 3) := by decide +kernel
theorem d_X10_bindRow_17 : decode c_X10_bindRow 17 = .ok (.iconst 4, 1) := by decide +kernel
theorem d_X10_bindRow_18 : decode c_X10_bindRow 18 = .ok (.iload_n 1, 1) := by decide +kernel
theorem d_X10_bindRow_19 : decode c_X10_bindRow 19 = .ok (.imul, 1) := by decide +kernel
theorem d_X10_bindRow_20 : decode c_X10_bindRow 20 = .ok (.aload_n 0, 1) := by decide +kernel
theorem d_X10_bindRow_21 : decode c_X10_bindRow 21 = .ok (.getfield 50, 3) := by decide +kernel
theorem d_X10_bindRow_24 : decode c_X10_bindRow 24 = .ok (.iload_n 1, 1) := by decide +kernel
theorem d_X10_bindRow_25 : decode c_X10_bindRow 25 = .ok (.iaload, 1) := by decide +kernel
theorem d_X10_bindRow_26 : decode c_X10_bindRow 26 = .ok (.iadd, 1) := by decide +kernel
theorem d_X10_bindRow_27 : decode c_X10_bindRow 27 = .ok (.iload_n 2, 1) := by decide +kernel
theorem d_X10_bindRow_28 : decode c_X10_bindRow 28 = .ok (.iastore, 1) := by decide +kernel
theorem d_X10_bindRow_29 : decode c_X10_bindRow 29 = .ok (.aload_n 0, 1) := by decide +kernel
theorem d_X10_bindRow_30 : decode c_X10_bindRow 30 = .ok (.getfield 56, 3) := by decide +kernel
theorem d_X10_bindRow_33 : decode c_X10_bindRow 33 = .ok (.iconst 4, 1) := by decide +kernel
theorem d_X10_bindRow_34 : decode c_X10_bindRow 34 = .ok (.iload_n 1, 1) := by decide +kernel
theorem d_X10_bindRow_35 : decode c_X10_bindRow 35 = .ok (.imul, 1) := by decide +kernel
theorem d_X10_bindRow_36 : decode c_X10_bindRow 36 = .ok (.aload_n 0, 1) := by decide +kernel
theorem d_X10_bindRow_37 : decode c_X10_bindRow 37 = .ok (.getfield 50, 3) := by decide +kernel
theorem d_X10_bindRow_40 : decode c_X10_bindRow 40 = .ok (.iload_n 1, 1) := by decide +kernel
theorem d_X10_bindRow_41 : decode c_X10_bindRow 41 = .ok (.iaload, 1) := by decide +kernel
theorem d_X10_bindRow_42 : decode c_X10_bindRow 42 = .ok (.iadd, 1) := by decide +kernel
theorem d_X10_bindRow_43 : decode c_X10_bindRow 43 = .ok (.aload_n 0, 1) := by decide +kernel
theorem d_X10_bindRow_44 : decode c_X10_bindRow 44 = .ok (.getfield 7, 3) := by decide +kernel
theorem d_X10_bindRow_47 : decode c_X10_bindRow 47 = .ok (.iload_n 2, 1) := by decide +kernel
theorem d_X10_bindRow_48 : decode c_X10_bindRow 48 = .ok (.baload, 1) := by decide +kernel
theorem d_X10_bindRow_49 : decode c_X10_bindRow 49 = .ok (.ifCond .eq 7, 3) := by decide +kernel
theorem d_X10_bindRow_52 : decode c_X10_bindRow 52 = .ok (.iload_n 3, 1) := by decide +kernel
theorem d_X10_bindRow_53 : decode c_X10_bindRow 53 = .ok (.goto 4, 3) := by decide +kernel
theorem d_X10_bindRow_56 : decode c_X10_bindRow 56 = .ok (.iconst 0, 1) := by decide +kernel
theorem d_X10_bindRow_57 : decode c_X10_bindRow 57 = .ok (.iastore, 1) := by decide +kernel
theorem d_X10_bindRow_58 : decode c_X10_bindRow 58 = .ok (.aload_n 0, 1) := by decide +kernel
theorem d_X10_bindRow_59 : decode c_X10_bindRow 59 = .ok (.getfield 50, 3) := by decide +kernel
theorem d_X10_bindRow_62 : decode c_X10_bindRow 62 = .ok (.iload_n 1, 1) := by decide +kernel
theorem d_X10_bindRow_63 : decode c_X10_bindRow 63 = .ok (.dup2, 1) := by decide +kernel
theorem d_X10_bindRow_64 : decode c_X10_bindRow 64 = .ok (.iaload, 1) := by decide +kernel
theorem d_X10_bindRow_65 : decode c_X10_bindRow 65 = .ok (.iconst 1, 1) := by decide +kernel
theorem d_X10_bindRow_66 : decode c_X10_bindRow 66 = .ok (.iadd, 1) := by decide +kernel
theorem d_X10_bindRow_67 : decode c_X10_bindRow 67 = .ok (.iastore, 1) := by decide +kernel
theorem d_X10_bindRow_68 : decode c_X10_bindRow 68 = .ok (.iconst 0, 1) := by decide +kernel
theorem d_X10_bindRow_69 : decode c_X10_bindRow 69 = .ok (.ireturn, 1) := by decide +kernel
theorem d_X10_bindInterceptor_0 : decode c_X10_bindInterceptor 0 = .ok (.aload_n 0, 1) := by decide +kernel
theorem d_X10_bindInterceptor_1 : decode c_X10_bindInterceptor 1 = .ok (.getfield 92, 3) := by decide +kernel
theorem d_X10_bindInterceptor_4 : decode c_X10_bindInterceptor 4 = .ok (.ifCond .eq 6, 3) := by decide +kernel
theorem d_X10_bindInterceptor_7 : decode c_X10_bindInterceptor 7 = .ok (.bipush (-2), 2) := by decide +kernel
theorem d_X10_bindInterceptor_9 : decode c_X10_bindInterceptor 9 = .ok (.ireturn, 1) := by decide +kernel
theorem d_X10_bindInterceptor_10 : decode c_X10_bindInterceptor 10 = .ok (.iload_n 1, 1) := by decide +kernel
theorem d_X10_bindInterceptor_11 : decode c_X10_bindInterceptor 11 = .ok (.aload_n 0, 1) := by decide +kernel
theorem d_X10_bindInterceptor_12 : decode c_X10_bindInterceptor 12 = .ok (.getfield 103, 3) := by decide +kernel
theorem d_X10_bindInterceptor_15 : decode c_X10_bindInterceptor 15 = .ok (.iconst 1, 1) := by decide +kernel
theorem d_X10_bindInterceptor_16 : decode c_X10_bindInterceptor 16 = .ok (.isub, 1) := by decide +kernel
theorem d_X10_bindInterceptor_17 : decode c_X10_bindInterceptor 17 = .ok (.invokestatic 121, 3) := by decide +kernel
theorem d_X10_bindInterceptor_20 : decode c_X10_bindInterceptor 20 = .ok (.ifCond .eq 16, 3) := by decide +kernel
theorem d_X10_bindInterceptor_23 : decode c_X10_bindInterceptor 23 = .ok (.iload_n 2, 1) := by decide +kernel
theorem d_X10_bindInterceptor_24 : decode c_X10_bindInterceptor 24 = .ok (.aload_n 0, 1) := by decide +kernel
theorem d_X10_bindInterceptor_25 : decode c_X10_bindInterceptor 25 = .ok (.getfield 96, 3) := by decide +kernel
theorem d_X10_bindInterceptor_28 : decode c_X10_bindInterceptor 28 = .ok (.iconst 1, 1) := by decide +kernel
theorem d_X10_bindInterceptor_29 : decode c_X10_bindInterceptor 29 = .ok (.isub, 1) := by decide +kernel
theorem d_X10_bindInterceptor_30 : decode c_X10_bindInterceptor 30 = .ok (.invokestatic 121, 3) := by decide +kernel
theorem d_X10_bindInterceptor_33 : decode c_X10_bindInterceptor 33 = .ok (.ifCond .ne 6, 3) := by decide +kernel
theorem d_X10_bindInterceptor_36 : decode c_X10_bindInterceptor 36 = .ok (.bipush (-3), 2) := by decide +kernel
theorem d_X10_bindInterceptor_38 : decode c_X10_bindInterceptor 38 = .ok (.ireturn, 1) := by decide +kernel
theorem d_X10_bindInterceptor_39 : decode c_X10_bindInterceptor 39 = .ok (.aload_n 0, 1) := by decide +kernel
theorem d_X10_bindInterceptor_40 : decode c_X10_bindInterceptor 40 = .ok (.iload_n 1, 1) := by decide +kernel
theorem d_X10_bindInterceptor_41 : decode c_X10_bindInterceptor 41 = .ok (.iload_n 2, 1) := by decide +kernel
theorem d_X10_bindInterceptor_42 : decode c_X10_bindInterceptor 42 = .ok (.iload_n 3, 1) := by decide +kernel
theorem d_X10_bindInterceptor_43 : decode c_X10_bindInterceptor 43 = .ok (.invokevirtual 125, 3) := by decide +kernel
theorem d_X10_bindInterceptor_46 : decode c_X10_bindInterceptor 46 = .ok (.ireturn, 1) := by decide +kernel
theorem d_X10_rowOf_0 : decode c_X10_rowOf 0 = .ok (.iload_n 1, 1) := by decide +kernel
theorem d_X10_rowOf_1 : decode c_X10_rowOf 1 = .ok (.ifCond .ge 10, 3) := by decide +kernel
theorem d_X10_rowOf_4 : decode c_X10_rowOf 4 = .ok (.bipush 8, 2) := by decide +kernel
theorem d_X10_rowOf_6 : decode c_X10_rowOf 6 = .ok (.iload_n 0, 1) := by decide +kernel
theorem d_X10_rowOf_7 : decode c_X10_rowOf 7 = .ok (.iadd, 1) := by decide +kernel
theorem d_X10_rowOf_8 : decode c_X10_rowOf 8 = .ok (.goto 11, 3) := by decide +kernel
theorem d_X10_rowOf_11 : decode c_X10_rowOf 11 = .ok (.bipush 12, 2) := by decide +kernel
theorem d_X10_rowOf_13 : decode c_X10_rowOf 13 = .ok (.iconst 4, 1) := by decide +kernel
theorem d_X10_rowOf_14 : decode c_X10_rowOf 14 = .ok (.iload_n 0, 1) := by decide +kernel
theorem d_X10_rowOf_15 : decode c_X10_rowOf 15 = .ok (.imul, 1) := by decide +kernel
theorem d_X10_rowOf_16 : decode c_X10_rowOf 16 = .ok (.iadd, 1) := by decide +kernel
theorem d_X10_rowOf_17 : decode c_X10_rowOf 17 = .ok (.iload_n 1, 1) := by decide +kernel
theorem d_X10_rowOf_18 : decode c_X10_rowOf 18 = .ok (.iadd, 1) := by decide +kernel
theorem d_X10_rowOf_19 : decode c_X10_rowOf 19 = .ok (.ireturn, 1) := by decide +kernel
theorem d_X10_bind_0 : decode c_X10_bind 0 = .ok (.aload_n 0, 1) := by decide +kernel
theorem d_X10_bind_1 : decode c_X10_bind 1 = .ok (.getfield 92, 3) := by decide +kernel
theorem d_X10_bind_4 : decode c_X10_bind 4 = .ok (.ifCond .eq 6, 3) := by decide +kernel
theorem d_X10_bind_7 : decode c_X10_bind 7 = .ok (.bipush (-2), 2) := by decide +kernel
theorem d_X10_bind_9 : decode c_X10_bind 9 = .ok (.ireturn, 1) := by decide +kernel
theorem d_X10_bind_10 : decode c_X10_bind 10 = .ok (.iload_n 1, 1) := by decide +kernel
theorem d_X10_bind_11 : decode c_X10_bind 11 = .ok (.aload_n 0, 1) := by decide +kernel
theorem d_X10_bind_12 : decode c_X10_bind 12 = .ok (.getfield 109, 3) := by decide +kernel
theorem d_X10_bind_15 : decode c_X10_bind 15 = .ok (.iconst 1, 1) := by decide +kernel
theorem d_X10_bind_16 : decode c_X10_bind 16 = .ok (.isub, 1) := by decide +kernel
theorem d_X10_bind_17 : decode c_X10_bind 17 = .ok (.invokestatic 121, 3) := by decide +kernel
theorem d_X10_bind_20 : decode c_X10_bind 20 = .ok (.ifCond .eq 26, 3) := by decide +kernel
theorem d_X10_bind_23 : decode c_X10_bind 23 = .ok (.iload_n 2, 1) := by decide +kernel
theorem d_X10_bind_24 : decode c_X10_bind 24 = .ok (.iconst (-1), 1) := by decide +kernel
theorem d_X10_bind_25 : decode c_X10_bind 25 = .ok (.if_icmp .lt 21, 3) := by decide +kernel
theorem d_X10_bind_28 : decode c_X10_bind 28 = .ok (.iload_n 2, 1) := by decide +kernel
theorem d_X10_bind_29 : decode c_X10_bind 29 = .ok (.iconst 3, 1) := by decide +kernel
theorem d_X10_bind_30 : decode c_X10_bind 30 = .ok (.if_icmp .gt 16, 3) := by decide +kernel
theorem d_X10_bind_33 : decode c_X10_bind 33 = .ok (.iload_n 3, 1) := by decide +kernel
theorem d_X10_bind_34 : decode c_X10_bind 34 = .ok (.aload_n 0, 1) := by decide +kernel
theorem d_X10_bind_35 : decode c_X10_bind 35 = .ok (.getfield 96, 3) := by decide +kernel
theorem d_X10_bind_38 : decode c_X10_bind 38 = .ok (.iconst 1, 1) := by decide +kernel
theorem d_X10_bind_39 : decode c_X10_bind 39 = .ok (.isub, 1) := by decide +kernel
theorem d_X10_bind_40 : decode c_X10_bind 40 = .ok (.invokestatic 121, 3) := by decide +kernel
theorem d_X10_bind_43 : decode c_X10_bind 43 = .ok (.ifCond .ne 6, 3) := by decide +kernel
theorem d_X10_bind_46 : decode c_X10_bind 46 = .ok (.bipush (-3), 2) := by decide +kernel
theorem d_X10_bind_48 : decode c_X10_bind 48 = .ok (.ireturn, 1) := by decide +kernel
theorem d_X10_bind_49 : decode c_X10_bind 49 = .ok (.iload_n 1, 1) := by decide +kernel
theorem d_X10_bind_50 : decode c_X10_bind 50 = .ok (.iload_n 2, 1) := by decide +kernel
theorem d_X10_bind_51 : decode c_X10_bind 51 = .ok (.invokestatic 129, 3) := by decide +kernel
theorem d_X10_bind_54 : decode c_X10_bind 54 = .ok (.istore 5, 2) := by decide +kernel
theorem d_X10_bind_56 : decode c_X10_bind 56 = .ok (.aload_n 0, 1) := by decide +kernel
theorem d_X10_bind_57 : decode c_X10_bind 57 = .ok (.iload 5, 2) := by decide +kernel
theorem d_X10_bind_59 : decode c_X10_bind 59 = .ok (.iload_n 3, 1) := by decide +kernel
theorem d_X10_bind_60 : decode c_X10_bind 60 = .ok (.iload 4, 2) := by decide +kernel
theorem d_X10_bind_62 : decode c_X10_bind 62 = .ok (.invokevirtual 125, 3) := by decide +kernel
theorem d_X10_bind_65 : decode c_X10_bind 65 = .ok (.ireturn, 1) := by decide +kernel
theorem d_X10_list_0 : decode c_X10_list 0 = .ok (.aload_n 0, 1) := by decide +kernel
theorem d_X10_list_1 : decode c_X10_list 1 = .ok (.getfield 92, 3) := by decide +kernel
theorem d_X10_list_4 : decode c_X10_list 4 = .ok (.ifCond .eq 6, 3) := by decide +kernel
theorem d_X10_list_7 : decode c_X10_list 7 = .ok (.bipush (-2), 2) := by decide +kernel
theorem d_X10_list_9 : decode c_X10_list 9 = .ok (.ireturn, 1) := by decide +kernel
theorem d_X10_list_10 : decode c_X10_list 10 = .ok (.iload_n 1, 1) := by decide +kernel
theorem d_X10_list_11 : decode c_X10_list 11 = .ok (.aload_n 0, 1) := by decide +kernel
theorem d_X10_list_12 : decode c_X10_list 12 = .ok (.getfield 109, 3) := by decide +kernel
theorem d_X10_list_15 : decode c_X10_list 15 = .ok (.iconst 1, 1) := by decide +kernel
theorem d_X10_list_16 : decode c_X10_list 16 = .ok (.isub, 1) := by decide +kernel
theorem d_X10_list_17 : decode c_X10_list 17 = .ok (.invokestatic 121, 3) := by decide +kernel
theorem d_X10_list_20 : decode c_X10_list 20 = .ok (.ifCond .eq 26, 3) := by decide +kernel
theorem d_X10_list_23 : decode c_X10_list 23 = .ok (.iload_n 2, 1) := by decide +kernel
theorem d_X10_list_24 : decode c_X10_list 24 = .ok (.iconst (-1), 1) := by decide +kernel
theorem d_X10_list_25 : decode c_X10_list 25 = .ok (.if_icmp .lt 21, 3) := by decide +kernel
theorem d_X10_list_28 : decode c_X10_list 28 = .ok (.iload_n 2, 1) := by decide +kernel
theorem d_X10_list_29 : decode c_X10_list 29 = .ok (.iconst 3, 1) := by decide +kernel
theorem d_X10_list_30 : decode c_X10_list 30 = .ok (.if_icmp .gt 16, 3) := by decide +kernel
theorem d_X10_list_33 : decode c_X10_list 33 = .ok (.iload_n 3, 1) := by decide +kernel
theorem d_X10_list_34 : decode c_X10_list 34 = .ok (.aload_n 0, 1) := by decide +kernel
theorem d_X10_list_35 : decode c_X10_list 35 = .ok (.getfield 103, 3) := by decide +kernel
theorem d_X10_list_38 : decode c_X10_list 38 = .ok (.iconst 1, 1) := by decide +kernel
theorem d_X10_list_39 : decode c_X10_list 39 = .ok (.isub, 1) := by decide +kernel
theorem d_X10_list_40 : decode c_X10_list 40 = .ok (.invokestatic 121, 3) := by decide +kernel
theorem d_X10_list_43 : decode c_X10_list 43 = .ok (.ifCond .ne 6, 3) := by decide +kernel
theorem d_X10_list_46 : decode c_X10_list 46 = .ok (.bipush (-3), 2) := by decide +kernel
theorem d_X10_list_48 : decode c_X10_list 48 = .ok (.ireturn, 1) := by decide +kernel
theorem d_X10_list_49 : decode c_X10_list 49 = .ok (.iload_n 1, 1) := by decide +kernel
theorem d_X10_list_50 : decode c_X10_list 50 = .ok (.iload_n 2, 1) := by decide +kernel
theorem d_X10_list_51 : decode c_X10_list 51 = .ok (.invokestatic 129, 3) := by decide +kernel
theorem d_X10_list_54 : decode c_X10_list 54 = .ok (.istore 4, 2) := by decide +kernel
theorem d_X10_list_56 : decode c_X10_list 56 = .ok (.aload_n 0, 1) := by decide +kernel
theorem d_X10_list_57 : decode c_X10_list 57 = .ok (.getfield 59, 3) := by decide +kernel
theorem d_X10_list_60 : decode c_X10_list 60 = .ok (.iload 4, 2) := by decide +kernel
theorem d_X10_list_62 : decode c_X10_list 62 = .ok (.iaload, 1) := by decide +kernel
theorem d_X10_list_63 : decode c_X10_list 63 = .ok (.iconst 4, 1) := by decide +kernel
theorem d_X10_list_64 : decode c_X10_list 64 = .ok (.if_icmp .ne 6, 3) := by decide +kernel
theorem d_X10_list_67 : decode c_X10_list 67 = .ok (.bipush (-5), 2) := by decide +kernel
theorem d_X10_list_69 : decode c_X10_list 69 = .ok (.ireturn, 1) := by decide +kernel
theorem d_X10_list_70 : decode c_X10_list 70 = .ok (.aload_n 0, 1) := by decide +kernel
theorem d_X10_list_71 : decode c_X10_list 71 = .ok (.getfield 62, 3) := by decide +kernel
theorem d_X10_list_74 : decode c_X10_list 74 = .ok (.iconst 4, 1) := by decide +kernel
theorem d_X10_list_75 : decode c_X10_list 75 = .ok (.iload 4, 2) := by decide +kernel
theorem d_X10_list_77 : decode c_X10_list 77 = .ok (.imul, 1) := by decide +kernel
theorem d_X10_list_78 : decode c_X10_list 78 = .ok (.aload_n 0, 1) := by decide +kernel
theorem d_X10_list_79 : decode c_X10_list 79 = .ok (.getfield 59, 3) := by decide +kernel
theorem d_X10_list_82 : decode c_X10_list 82 = .ok (.iload 4, 2) := by decide +kernel
theorem d_X10_list_84 : decode c_X10_list 84 = .ok (.iaload, 1) := by decide +kernel
theorem d_X10_list_85 : decode c_X10_list 85 = .ok (.iadd, 1) := by decide +kernel
theorem d_X10_list_86 : decode c_X10_list 86 = .ok (.iload_n 3, 1) := by decide +kernel
theorem d_X10_list_87 : decode c_X10_list 87 = .ok (.iastore, 1) := by decide +kernel
theorem d_X10_list_88 : decode c_X10_list 88 = .ok (.aload_n 0, 1) := by decide +kernel
theorem d_X10_list_89 : decode c_X10_list 89 = .ok (.getfield 59, 3) := by decide +kernel
theorem d_X10_list_92 : decode c_X10_list 92 = .ok (.iload 4, 2) := by decide +kernel
theorem d_X10_list_94 : decode c_X10_list 94 = .ok (.dup2, 1) := by decide +kernel
theorem d_X10_list_95 : decode c_X10_list 95 = .ok (.iaload, 1) := by decide +kernel
theorem d_X10_list_96 : decode c_X10_list 96 = .ok (.iconst 1, 1) := by decide +kernel
theorem d_X10_list_97 : decode c_X10_list 97 = .ok (.iadd, 1) := by decide +kernel
theorem d_X10_list_98 : decode c_X10_list 98 = .ok (.iastore, 1) := by decide +kernel
theorem d_X10_list_99 : decode c_X10_list 99 = .ok (.iconst 0, 1) := by decide +kernel
theorem d_X10_list_100 : decode c_X10_list 100 = .ok (.ireturn, 1) := by decide +kernel
theorem d_X10_flags_0 : decode c_X10_flags 0 = .ok (.aload_n 0, 1) := by decide +kernel
theorem d_X10_flags_1 : decode c_X10_flags 1 = .ok (.getfield 92, 3) := by decide +kernel
theorem d_X10_flags_4 : decode c_X10_flags 4 = .ok (.ifCond .eq 6, 3) := by decide +kernel
theorem d_X10_flags_7 : decode c_X10_flags 7 = .ok (.bipush (-2), 2) := by decide +kernel
theorem d_X10_flags_9 : decode c_X10_flags 9 = .ok (.ireturn, 1) := by decide +kernel
theorem d_X10_flags_10 : decode c_X10_flags 10 = .ok (.iload_n 1, 1) := by decide +kernel
theorem d_X10_flags_11 : decode c_X10_flags 11 = .ok (.aload_n 0, 1) := by decide +kernel
theorem d_X10_flags_12 : decode c_X10_flags 12 = .ok (.getfield 109, 3) := by decide +kernel
theorem d_X10_flags_15 : decode c_X10_flags 15 = .ok (.iconst 1, 1) := by decide +kernel
theorem d_X10_flags_16 : decode c_X10_flags 16 = .ok (.isub, 1) := by decide +kernel
theorem d_X10_flags_17 : decode c_X10_flags 17 = .ok (.invokestatic 121, 3) := by decide +kernel
theorem d_X10_flags_20 : decode c_X10_flags 20 = .ok (.ifCond .eq 11, 3) := by decide +kernel
theorem d_X10_flags_23 : decode c_X10_flags 23 = .ok (.iload_n 2, 1) := by decide +kernel
theorem d_X10_flags_24 : decode c_X10_flags 24 = .ok (.iconst 3, 1) := by decide +kernel
theorem d_X10_flags_25 : decode c_X10_flags 25 = .ok (.invokestatic 121, 3) := by decide +kernel
theorem d_X10_flags_28 : decode c_X10_flags 28 = .ok (.ifCond .ne 6, 3) := by decide +kernel
theorem d_X10_flags_31 : decode c_X10_flags 31 = .ok (.bipush (-3), 2) := by decide +kernel
theorem d_X10_flags_33 : decode c_X10_flags 33 = .ok (.ireturn, 1) := by decide +kernel
theorem d_X10_flags_34 : decode c_X10_flags 34 = .ok (.iload_n 3, 1) := by decide +kernel
theorem d_X10_flags_35 : decode c_X10_flags 35 = .ok (.bipush 7, 2) := by decide +kernel
theorem d_X10_flags_37 : decode c_X10_flags 37 = .ok (.invokestatic 121, 3) := by decide +kernel
theorem d_X10_flags_40 : decode c_X10_flags 40 = .ok (.ifCond .ne 6, 3) := by decide +kernel
theorem d_X10_flags_43 : decode c_X10_flags 43 = .ok (.bipush (-4), 2) := by decide +kernel
theorem d_X10_flags_45 : decode c_X10_flags 45 = .ok (.ireturn, 1) := by decide +kernel
theorem d_X10_flags_46 : decode c_X10_flags 46 = .ok (.aload_n 0, 1) := by decide +kernel
theorem d_X10_flags_47 : decode c_X10_flags 47 = .ok (.getfield 47, 3) := by decide +kernel
theorem d_X10_flags_50 : decode c_X10_flags 50 = .ok (.iconst 4, 1) := by decide +kernel
theorem d_X10_flags_51 : decode c_X10_flags 51 = .ok (.iload_n 1, 1) := by decide +kernel
theorem d_X10_flags_52 : decode c_X10_flags 52 = .ok (.imul, 1) := by decide +kernel
theorem d_X10_flags_53 : decode c_X10_flags 53 = .ok (.iload_n 2, 1) := by decide +kernel
theorem d_X10_flags_54 : decode c_X10_flags 54 = .ok (.iadd, 1) := by decide +kernel
theorem d_X10_flags_55 : decode c_X10_flags 55 = .ok (.iload_n 3, 1) := by decide +kernel
theorem d_X10_flags_56 : decode c_X10_flags 56 = .ok (.iastore, 1) := by decide +kernel
theorem d_X10_flags_57 : decode c_X10_flags 57 = .ok (.iconst 0, 1) := by decide +kernel
theorem d_X10_flags_58 : decode c_X10_flags 58 = .ok (.ireturn, 1) := by decide +kernel
theorem d_X10_add_0 : decode c_X10_add 0 = .ok (.iconst 0, 1) := by decide +kernel
theorem d_X10_add_1 : decode c_X10_add 1 = .ok (.istore_n 3, 1) := by decide +kernel
theorem d_X10_add_2 : decode c_X10_add 2 = .ok (.iload_n 3, 1) := by decide +kernel
theorem d_X10_add_3 : decode c_X10_add 3 = .ok (.aload_n 0, 1) := by decide +kernel
theorem d_X10_add_4 : decode c_X10_add 4 = .ok (.getfield 133, 3) := by decide +kernel
theorem d_X10_add_7 : decode c_X10_add 7 = .ok (.if_icmp .ge 30, 3) := by decide +kernel
theorem d_X10_add_10 : decode c_X10_add 10 = .ok (.aload_n 0, 1) := by decide +kernel
theorem d_X10_add_11 : decode c_X10_add 11 = .ok (.getfield 65, 3) := by decide +kernel
theorem d_X10_add_14 : decode c_X10_add 14 = .ok (.iload_n 3, 1) := by decide +kernel
theorem d_X10_add_15 : decode c_X10_add 15 = .ok (.iaload, 1) := by decide +kernel
theorem d_X10_add_16 : decode c_X10_add 16 = .ok (.iload_n 1, 1) := by decide +kernel
theorem d_X10_add_17 : decode c_X10_add 17 = .ok (.if_icmp .ne 14, 3) := by decide +kernel
theorem d_X10_add_20 : decode c_X10_add 20 = .ok (.aload_n 0, 1) := by decide +kernel
theorem d_X10_add_21 : decode c_X10_add 21 = .ok (.getfield 68, 3) := by decide +kernel
theorem d_X10_add_24 : decode c_X10_add 24 = .ok (.iload_n 3, 1) := by decide +kernel
theorem d_X10_add_25 : decode c_X10_add 25 = .ok (.iaload, 1) := by decide +kernel
theorem d_X10_add_26 : decode c_X10_add 26 = .ok (.iload_n 2, 1) := by decide +kernel
theorem d_X10_add_27 : decode c_X10_add 27 = .ok (.if_icmp .ne 4, 3) := by decide +kernel
theorem d_X10_add_30 : decode c_X10_add 30 = .ok (.return_, 1) := by decide +kernel
theorem d_X10_add_31 : decode c_X10_add 31 = .ok (.iinc 3 1, 3) := by decide +kernel
theorem d_X10_add_34 : decode c_X10_add 34 = .ok (.goto (-32), 3) := by decide +kernel
theorem d_X10_add_37 : decode c_X10_add 37 = .ok (.aload_n 0, 1) := by decide +kernel
theorem d_X10_add_38 : decode c_X10_add 38 = .ok (.getfield 65, 3) := by decide +kernel
theorem d_X10_add_41 : decode c_X10_add 41 = .ok (.aload_n 0, 1) := by decide +kernel
theorem d_X10_add_42 : decode c_X10_add 42 = .ok (.getfield 133, 3) := by decide +kernel
theorem d_X10_add_45 : decode c_X10_add 45 = .ok (.iload_n 1, 1) := by decide +kernel
theorem d_X10_add_46 : decode c_X10_add 46 = .ok (.iastore, 1) := by decide +kernel
theorem d_X10_add_47 : decode c_X10_add 47 = .ok (.aload_n 0, 1) := by decide +kernel
theorem d_X10_add_48 : decode c_X10_add 48 = .ok (.getfield 68, 3) := by decide +kernel
theorem d_X10_add_51 : decode c_X10_add 51 = .ok (.aload_n 0, 1) := by decide +kernel
theorem d_X10_add_52 : decode c_X10_add 52 = .ok (.getfield 133, 3) := by decide +kernel
theorem d_X10_add_55 : decode c_X10_add 55 = .ok (.iload_n 2, 1) := by decide +kernel
theorem d_X10_add_56 : decode c_X10_add 56 = .ok (.iastore, 1) := by decide +kernel
theorem d_X10_add_57 : decode c_X10_add 57 = .ok (.aload_n 0, 1) := by decide +kernel
theorem d_X10_add_58 : decode c_X10_add 58 = .ok (.dup, 1) := by decide +kernel
theorem d_X10_add_59 : decode c_X10_add 59 = .ok (.getfield 133, 3) := by decide +kernel
theorem d_X10_add_62 : decode c_X10_add 62 = .ok (.iconst 1, 1) := by decide +kernel
theorem d_X10_add_63 : decode c_X10_add 63 = .ok (.iadd, 1) := by decide +kernel
theorem d_X10_add_64 : decode c_X10_add 64 = .ok (.putfield 133, 3) := by decide +kernel
theorem d_X10_add_67 : decode c_X10_add 67 = .ok (.return_, 1) := by decide +kernel
theorem d_X10_close_0 : decode c_X10_close 0 = .ok (.aload_n 0, 1) := by decide +kernel
theorem d_X10_close_1 : decode c_X10_close 1 = .ok (.iconst 0, 1) := by decide +kernel
theorem d_X10_close_2 : decode c_X10_close 2 = .ok (.putfield 133, 3) := by decide +kernel
theorem d_X10_close_5 : decode c_X10_close 5 = .ok (.iconst 0, 1) := by decide +kernel
theorem d_X10_close_6 : decode c_X10_close 6 = .ok (.istore_n 2, 1) := by decide +kernel
theorem d_X10_close_7 : decode c_X10_close 7 = .ok (.iload_n 2, 1) := by decide +kernel
theorem d_X10_close_8 : decode c_X10_close 8 = .ok (.aload_n 0, 1) := by decide +kernel
theorem d_X10_close_9 : decode c_X10_close 9 = .ok (.getfield 50, 3) := by decide +kernel
theorem d_X10_close_12 : decode c_X10_close 12 = .ok (.iload_n 1, 1) := by decide +kernel
theorem d_X10_close_13 : decode c_X10_close 13 = .ok (.iaload, 1) := by decide +kernel
theorem d_X10_close_14 : decode c_X10_close 14 = .ok (.if_icmp .ge 33, 3) := by decide +kernel
theorem d_X10_close_17 : decode c_X10_close 17 = .ok (.aload_n 0, 1) := by decide +kernel
theorem d_X10_close_18 : decode c_X10_close 18 = .ok (.aload_n 0, 1) := by decide +kernel
theorem d_X10_close_19 : decode c_X10_close 19 = .ok (.getfield 53, 3) := by decide +kernel
theorem d_X10_close_22 : decode c_X10_close 22 = .ok (.iconst 4, 1) := by decide +kernel
theorem d_X10_close_23 : decode c_X10_close 23 = .ok (.iload_n 1, 1) := by decide +kernel
theorem d_X10_close_24 : decode c_X10_close 24 = .ok (.imul, 1) := by decide +kernel
theorem d_X10_close_25 : decode c_X10_close 25 = .ok (.iload_n 2, 1) := by decide +kernel
theorem d_X10_close_26 : decode c_X10_close 26 = .ok (.iadd, 1) := by decide +kernel
theorem d_X10_close_27 : decode c_X10_close 27 = .ok (.iaload, 1) := by decide +kernel
theorem d_X10_close_28 : decode c_X10_close 28 = .ok (.aload_n 0, 1) := by decide +kernel
theorem d_X10_close_29 : decode c_X10_close 29 = .ok (.getfield 56, 3) := by decide +kernel
theorem d_X10_close_32 : decode c_X10_close 32 = .ok (.iconst 4, 1) := by decide +kernel
theorem d_X10_close_33 : decode c_X10_close 33 = .ok (.iload_n 1, 1) := by decide +kernel
theorem d_X10_close_34 : decode c_X10_close 34 = .ok (.imul, 1) := by decide +kernel
theorem d_X10_close_35 : decode c_X10_close 35 = .ok (.iload_n 2, 1) := by decide +kernel
theorem d_X10_close_36 : decode c_X10_close 36 = .ok (.iadd, 1) := by decide +kernel
theorem d_X10_close_37 : decode c_X10_close 37 = .ok (.iaload, 1) := by decide +kernel
theorem d_X10_close_38 : decode c_X10_close 38 = .ok (.invokevirtual 136, 3) := by decide +kernel
theorem d_X10_close_41 : decode c_X10_close 41 = .ok (.iinc 2 1, 3) := by decide +kernel
theorem d_X10_close_44 : decode c_X10_close 44 = .ok (.goto (-37), 3) := by decide +kernel
theorem d_X10_close_47 : decode c_X10_close 47 = .ok (.iconst 0, 1) := by decide +kernel
theorem d_X10_close_48 : decode c_X10_close 48 = .ok (.istore_n 2, 1) := by decide +kernel
theorem d_X10_close_49 : decode c_X10_close 49 = .ok (.iload_n 2, 1) := by decide +kernel
theorem d_X10_close_50 : decode c_X10_close 50 = .ok (.aload_n 0, 1) := by decide +kernel
theorem d_X10_close_51 : decode c_X10_close 51 = .ok (.getfield 133, 3) := by decide +kernel
theorem d_X10_close_54 : decode c_X10_close 54 = .ok (.if_icmp .ge 56, 3) := by decide +kernel
theorem d_X10_close_57 : decode c_X10_close 57 = .ok (.iconst 0, 1) := by decide +kernel
theorem d_X10_close_58 : decode c_X10_close 58 = .ok (.istore_n 3, 1) := by decide +kernel
theorem d_X10_close_59 : decode c_X10_close 59 = .ok (.iload_n 3, 1) := by decide +kernel
theorem d_X10_close_60 : decode c_X10_close 60 = .ok (.aload_n 0, 1) := by decide +kernel
theorem d_X10_close_61 : decode c_X10_close 61 = .ok (.getfield 100, 3) := by decide +kernel
theorem d_X10_close_64 : decode c_X10_close 64 = .ok (.if_icmp .ge 40, 3) := by decide +kernel
theorem d_X10_close_67 : decode c_X10_close 67 = .ok (.aload_n 0, 1) := by decide +kernel
theorem d_X10_close_68 : decode c_X10_close 68 = .ok (.getfield 13, 3) := by decide +kernel
theorem d_X10_close_71 : decode c_X10_close 71 = .ok (.iload_n 3, 1) := by decide +kernel
theorem d_X10_close_72 : decode c_X10_close 72 = .ok (.iaload, 1) := by decide +kernel
theorem d_X10_close_73 : decode c_X10_close 73 = .ok (.aload_n 0, 1) := by decide +kernel
theorem d_X10_close_74 : decode c_X10_close 74 = .ok (.getfield 65, 3) := by decide +kernel
theorem d_X10_close_77 : decode c_X10_close 77 = .ok (.iload_n 2, 1) := by decide +kernel
theorem d_X10_close_78 : decode c_X10_close 78 = .ok (.iaload, 1) := by decide +kernel
theorem d_X10_close_79 : decode c_X10_close 79 = .ok (.if_icmp .ne 19, 3) := by decide +kernel
theorem d_X10_close_82 : decode c_X10_close 82 = .ok (.aload_n 0, 1) := by decide +kernel
theorem d_X10_close_83 : decode c_X10_close 83 = .ok (.aload_n 0, 1) := by decide +kernel
theorem d_X10_close_84 : decode c_X10_close 84 = .ok (.getfield 17, 3) := by decide +kernel
theorem d_X10_close_87 : decode c_X10_close 87 = .ok (.iload_n 3, 1) := by decide +kernel
theorem d_X10_close_88 : decode c_X10_close 88 = .ok (.iaload, 1) := by decide +kernel
theorem d_X10_close_89 : decode c_X10_close 89 = .ok (.aload_n 0, 1) := by decide +kernel
theorem d_X10_close_90 : decode c_X10_close 90 = .ok (.getfield 20, 3) := by decide +kernel
theorem d_X10_close_93 : decode c_X10_close 93 = .ok (.iload_n 3, 1) := by decide +kernel
theorem d_X10_close_94 : decode c_X10_close 94 = .ok (.iaload, 1) := by decide +kernel
theorem d_X10_close_95 : decode c_X10_close 95 = .ok (.invokevirtual 136, 3) := by decide +kernel
theorem d_X10_close_98 : decode c_X10_close 98 = .ok (.iinc 3 1, 3) := by decide +kernel
theorem d_X10_close_101 : decode c_X10_close 101 = .ok (.goto (-42), 3) := by decide +kernel
theorem d_X10_close_104 : decode c_X10_close 104 = .ok (.iinc 2 1, 3) := by decide +kernel
theorem d_X10_close_107 : decode c_X10_close 107 = .ok (.goto (-58), 3) := by decide +kernel
theorem d_X10_close_110 : decode c_X10_close 110 = .ok (.return_, 1) := by decide +kernel
theorem d_X10_conflict_0 : decode c_X10_conflict 0 = .ok (.aload_n 0, 1) := by decide +kernel
theorem d_X10_conflict_1 : decode c_X10_conflict 1 = .ok (.iload_n 1, 1) := by decide +kernel
theorem d_X10_conflict_2 : decode c_X10_conflict 2 = .ok (.invokevirtual 140, 3) := by decide +kernel
theorem d_X10_conflict_5 : decode c_X10_conflict 5 = .ok (.iconst 0, 1) := by decide +kernel
theorem d_X10_conflict_6 : decode c_X10_conflict 6 = .ok (.istore_n 2, 1) := by decide +kernel
theorem d_X10_conflict_7 : decode c_X10_conflict 7 = .ok (.iconst 0, 1) := by decide +kernel
theorem d_X10_conflict_8 : decode c_X10_conflict 8 = .ok (.istore_n 3, 1) := by decide +kernel
theorem d_X10_conflict_9 : decode c_X10_conflict 9 = .ok (.iload_n 3, 1) := by decide +kernel
theorem d_X10_conflict_10 : decode c_X10_conflict 10 = .ok (.aload_n 0, 1) := by decide +kernel
theorem d_X10_conflict_11 : decode c_X10_conflict 11 = .ok (.getfield 133, 3) := by decide +kernel
theorem d_X10_conflict_14 : decode c_X10_conflict 14 = .ok (.if_icmp .ge 50, 3) := by decide +kernel
theorem d_X10_conflict_17 : decode c_X10_conflict 17 = .ok (.iconst 0, 1) := by decide +kernel
theorem d_X10_conflict_18 : decode c_X10_conflict 18 = .ok (.istore 4, 2) := by decide +kernel
theorem d_X10_conflict_20 : decode c_X10_conflict 20 = .ok (.iload 4, 2) := by decide +kernel
theorem d_X10_conflict_22 : decode c_X10_conflict 22 = .ok (.iload_n 3, 1) := by decide +kernel
theorem d_X10_conflict_23 : decode c_X10_conflict 23 = .ok (.if_icmp .ge 35, 3) := by decide +kernel
theorem d_X10_conflict_26 : decode c_X10_conflict 26 = .ok (.iload_n 2, 1) := by decide +kernel
theorem d_X10_conflict_27 : decode c_X10_conflict 27 = .ok (.ifCond .ne 19, 3) := by decide +kernel
theorem d_X10_conflict_30 : decode c_X10_conflict 30 = .ok (.aload_n 0, 1) := by decide +kernel
theorem d_X10_conflict_31 : decode c_X10_conflict 31 = .ok (.getfield 65, 3) := by decide +kernel
theorem d_X10_conflict_34 : decode c_X10_conflict 34 = .ok (.iload 4, 2) := by decide +kernel
theorem d_X10_conflict_36 : decode c_X10_conflict 36 = .ok (.iaload, 1) := by decide +kernel
theorem d_X10_conflict_37 : decode c_X10_conflict 37 = .ok (.aload_n 0, 1) := by decide +kernel
theorem d_X10_conflict_38 : decode c_X10_conflict 38 = .ok (.getfield 65, 3) := by decide +kernel
theorem d_X10_conflict_41 : decode c_X10_conflict 41 = .ok (.iload_n 3, 1) := by decide +kernel
theorem d_X10_conflict_42 : decode c_X10_conflict 42 = .ok (.iaload, 1) := by decide +kernel
theorem d_X10_conflict_43 : decode c_X10_conflict 43 = .ok (.if_icmp .ne 7, 3) := by decide +kernel
theorem d_X10_conflict_46 : decode c_X10_conflict 46 = .ok (.iconst 1, 1) := by decide +kernel
theorem d_X10_conflict_47 : decode c_X10_conflict 47 = .ok (.goto 4, 3) := by decide +kernel
theorem d_X10_conflict_50 : decode c_X10_conflict 50 = .ok (.iconst 0, 1) := by decide +kernel
theorem d_X10_conflict_51 : decode c_X10_conflict 51 = .ok (.istore_n 2, 1) := by decide +kernel
theorem d_X10_conflict_52 : decode c_X10_conflict 52 = .ok (.iinc 4 1, 3) := by decide +kernel
theorem d_X10_conflict_55 : decode c_X10_conflict 55 = .ok (.goto (-35), 3) := by decide +kernel
theorem d_X10_conflict_58 : decode c_X10_conflict 58 = .ok (.iinc 3 1, 3) := by decide +kernel
theorem d_X10_conflict_61 : decode c_X10_conflict 61 = .ok (.goto (-52), 3) := by decide +kernel
theorem d_X10_conflict_64 : decode c_X10_conflict 64 = .ok (.iload_n 2, 1) := by decide +kernel
theorem d_X10_conflict_65 : decode c_X10_conflict 65 = .ok (.ireturn, 1) := by decide +kernel
theorem d_X10_takeOver_0 : decode c_X10_takeOver 0 = .ok (.iconst 0, 1) := by decide +kernel
theorem d_X10_takeOver_1 : decode c_X10_takeOver 1 = .ok (.istore_n 2, 1) := by decide +kernel
theorem d_X10_takeOver_2 : decode c_X10_takeOver 2 = .ok (.iload_n 2, 1) := by decide +kernel
theorem d_X10_takeOver_3 : decode c_X10_takeOver 3 = .ok (.aload_n 0, 1) := by decide +kernel
theorem d_X10_takeOver_4 : decode c_X10_takeOver 4 = .ok (.getfield 133, 3) := by decide +kernel
theorem d_X10_takeOver_7 : decode c_X10_takeOver 7 = .ok (.if_icmp .ge 96, 3) := by decide +kernel
theorem d_X10_takeOver_10 : decode c_X10_takeOver 10 = .ok (.iconst 0, 1) := by decide +kernel
theorem d_X10_takeOver_11 : decode c_X10_takeOver 11 = .ok (.istore_n 3, 1) := by decide +kernel
theorem d_X10_takeOver_12 : decode c_X10_takeOver 12 = .ok (.iconst 0, 1) := by decide +kernel
theorem d_X10_takeOver_13 : decode c_X10_takeOver 13 = .ok (.istore 4, 2) := by decide +kernel
theorem d_X10_takeOver_15 : decode c_X10_takeOver 15 = .ok (.iload 4, 2) := by decide +kernel
theorem d_X10_takeOver_17 : decode c_X10_takeOver 17 = .ok (.iload_n 1, 1) := by decide +kernel
theorem d_X10_takeOver_18 : decode c_X10_takeOver 18 = .ok (.if_icmp .ge 35, 3) := by decide +kernel
theorem d_X10_takeOver_21 : decode c_X10_takeOver 21 = .ok (.iload_n 3, 1) := by decide +kernel
theorem d_X10_takeOver_22 : decode c_X10_takeOver 22 = .ok (.ifCond .ne 19, 3) := by decide +kernel
theorem d_X10_takeOver_25 : decode c_X10_takeOver 25 = .ok (.aload_n 0, 1) := by decide +kernel
theorem d_X10_takeOver_26 : decode c_X10_takeOver 26 = .ok (.getfield 71, 3) := by decide +kernel
theorem d_X10_takeOver_29 : decode c_X10_takeOver 29 = .ok (.iload 4, 2) := by decide +kernel
theorem d_X10_takeOver_31 : decode c_X10_takeOver 31 = .ok (.iaload, 1) := by decide +kernel
theorem d_X10_takeOver_32 : decode c_X10_takeOver 32 = .ok (.aload_n 0, 1) := by decide +kernel
theorem d_X10_takeOver_33 : decode c_X10_takeOver 33 = .ok (.getfield 65, 3) := by decide +kernel
theorem d_X10_takeOver_36 : decode c_X10_takeOver 36 = .ok (.iload_n 2, 1) := by decide +kernel
theorem d_X10_takeOver_37 : decode c_X10_takeOver 37 = .ok (.iaload, 1) := by decide +kernel
theorem d_X10_takeOver_38 : decode c_X10_takeOver 38 = .ok (.if_icmp .ne 7, 3) := by decide +kernel
theorem d_X10_takeOver_41 : decode c_X10_takeOver 41 = .ok (.iconst 1, 1) := by decide +kernel
theorem d_X10_takeOver_42 : decode c_X10_takeOver 42 = .ok (.goto 4, 3) := by decide +kernel
theorem d_X10_takeOver_45 : decode c_X10_takeOver 45 = .ok (.iconst 0, 1) := by decide +kernel
theorem d_X10_takeOver_46 : decode c_X10_takeOver 46 = .ok (.istore_n 3, 1) := by decide +kernel
theorem d_X10_takeOver_47 : decode c_X10_takeOver 47 = .ok (.iinc 4 1, 3) := by decide +kernel
theorem d_X10_takeOver_50 : decode c_X10_takeOver 50 = .ok (.goto (-35), 3) := by decide +kernel
theorem d_X10_takeOver_53 : decode c_X10_takeOver 53 = .ok (.iload_n 3, 1) := by decide +kernel
theorem d_X10_takeOver_54 : decode c_X10_takeOver 54 = .ok (.ifCond .ne 43, 3) := by decide +kernel
theorem d_X10_takeOver_57 : decode c_X10_takeOver 57 = .ok (.aload_n 0, 1) := by decide +kernel
theorem d_X10_takeOver_58 : decode c_X10_takeOver 58 = .ok (.getfield 71, 3) := by decide +kernel
theorem d_X10_takeOver_61 : decode c_X10_takeOver 61 = .ok (.aload_n 0, 1) := by decide +kernel
theorem d_X10_takeOver_62 : decode c_X10_takeOver 62 = .ok (.getfield 144, 3) := by decide +kernel
theorem d_X10_takeOver_65 : decode c_X10_takeOver 65 = .ok (.aload_n 0, 1) := by decide +kernel
theorem d_X10_takeOver_66 : decode c_X10_takeOver 66 = .ok (.getfield 65, 3) := by decide +kernel
theorem d_X10_takeOver_69 : decode c_X10_takeOver 69 = .ok (.iload_n 2, 1) := by decide +kernel
theorem d_X10_takeOver_70 : decode c_X10_takeOver 70 = .ok (.iaload, 1) := by decide +kernel
theorem d_X10_takeOver_71 : decode c_X10_takeOver 71 = .ok (.iastore, 1) := by decide +kernel
theorem d_X10_takeOver_72 : decode c_X10_takeOver 72 = .ok (.aload_n 0, 1) := by decide +kernel
theorem d_X10_takeOver_73 : decode c_X10_takeOver 73 = .ok (.getfield 74, 3) := by decide +kernel
theorem d_X10_takeOver_76 : decode c_X10_takeOver 76 = .ok (.aload_n 0, 1) := by decide +kernel
theorem d_X10_takeOver_77 : decode c_X10_takeOver 77 = .ok (.getfield 144, 3) := by decide +kernel
theorem d_X10_takeOver_80 : decode c_X10_takeOver 80 = .ok (.aload_n 0, 1) := by decide +kernel
theorem d_X10_takeOver_81 : decode c_X10_takeOver 81 = .ok (.getfield 68, 3) := by decide +kernel
theorem d_X10_takeOver_84 : decode c_X10_takeOver 84 = .ok (.iload_n 2, 1) := by decide +kernel
theorem d_X10_takeOver_85 : decode c_X10_takeOver 85 = .ok (.iaload, 1) := by decide +kernel
theorem d_X10_takeOver_86 : decode c_X10_takeOver 86 = .ok (.iastore, 1) := by decide +kernel
theorem d_X10_takeOver_87 : decode c_X10_takeOver 87 = .ok (.aload_n 0, 1) := by decide +kernel
theorem d_X10_takeOver_88 : decode c_X10_takeOver 88 = .ok (.dup, 1) := by decide +kernel
theorem d_X10_takeOver_89 : decode c_X10_takeOver 89 = .ok (.getfield 144, 3) := by decide +kernel
theorem d_X10_takeOver_92 : decode c_X10_takeOver 92 = .ok (.iconst 1, 1) := by decide +kernel
theorem d_X10_takeOver_93 : decode c_X10_takeOver 93 = .ok (.iadd, 1) := by decide +kernel
theorem d_X10_takeOver_94 : decode c_X10_takeOver 94 = .ok (.putfield 144, 3) := by decide +kernel
theorem d_X10_takeOver_97 : decode c_X10_takeOver 97 = .ok (.iinc 2 1, 3) := by decide +kernel
theorem d_X10_takeOver_100 : decode c_X10_takeOver 100 = .ok (.goto (-98), 3) := by decide +kernel
theorem d_X10_takeOver_103 : decode c_X10_takeOver 103 = .ok (.return_, 1) := by decide +kernel
theorem d_X10_force_0 : decode c_X10_force 0 = .ok (.aload_n 0, 1) := by decide +kernel
theorem d_X10_force_1 : decode c_X10_force 1 = .ok (.iconst 0, 1) := by decide +kernel
theorem d_X10_force_2 : decode c_X10_force 2 = .ok (.putfield 144, 3) := by decide +kernel
theorem d_X10_force_5 : decode c_X10_force 5 = .ok (.iload_n 2, 1) := by decide +kernel
theorem d_X10_force_6 : decode c_X10_force 6 = .ok (.iconst 4, 1) := by decide +kernel
theorem d_X10_force_7 : decode c_X10_force 7 = .ok (.if_icmp .ge 17, 3) := by decide +kernel
theorem d_X10_force_10 : decode c_X10_force 10 = .ok (.aload_n 0, 1) := by decide +kernel
theorem d_X10_force_11 : decode c_X10_force 11 = .ok (.iload_n 1, 1) := by decide +kernel
theorem d_X10_force_12 : decode c_X10_force 12 = .ok (.iload_n 2, 1) := by decide +kernel
theorem d_X10_force_13 : decode c_X10_force 13 = .ok (.invokestatic 129, 3) := by decide +kernel
theorem d_X10_force_16 : decode c_X10_force 16 = .ok (.invokevirtual 140, 3) := by decide +kernel
theorem d_X10_force_19 : decode c_X10_force 19 = .ok (.aload_n 0, 1) := by decide +kernel
theorem d_X10_force_20 : decode c_X10_force 20 = .ok (.iconst 0, 1) := by decide +kernel
theorem d_X10_force_21 : decode c_X10_force 21 = .ok (.invokevirtual 147, 3) := by decide +kernel
theorem d_X10_force_24 : decode c_X10_force 24 = .ok (.aload_n 0, 1) := by decide +kernel
theorem d_X10_force_25 : decode c_X10_force 25 = .ok (.iload_n 1, 1) := by decide +kernel
theorem d_X10_force_26 : decode c_X10_force 26 = .ok (.iconst (-1), 1) := by decide +kernel
theorem d_X10_force_27 : decode c_X10_force 27 = .ok (.invokestatic 129, 3) := by decide +kernel
theorem d_X10_force_30 : decode c_X10_force 30 = .ok (.invokevirtual 140, 3) := by decide +kernel
theorem d_X10_force_33 : decode c_X10_force 33 = .ok (.aload_n 0, 1) := by decide +kernel
theorem d_X10_force_34 : decode c_X10_force 34 = .ok (.aload_n 0, 1) := by decide +kernel
theorem d_X10_force_35 : decode c_X10_force 35 = .ok (.getfield 144, 3) := by decide +kernel
theorem d_X10_force_38 : decode c_X10_force 38 = .ok (.invokevirtual 147, 3) := by decide +kernel
theorem d_X10_force_41 : decode c_X10_force 41 = .ok (.return_, 1) := by decide +kernel
theorem d_X10_isBound_0 : decode c_X10_isBound 0 = .ok (.aload_n 0, 1) := by decide +kernel
theorem d_X10_isBound_1 : decode c_X10_isBound 1 = .ok (.getfield 23, 3) := by decide +kernel
theorem d_X10_isBound_4 : decode c_X10_isBound 4 = .ok (.iload_n 1, 1) := by decide +kernel
theorem d_X10_isBound_5 : decode c_X10_isBound 5 = .ok (.iaload, 1) := by decide +kernel
theorem d_X10_isBound_6 : decode c_X10_isBound 6 = .ok (.ifCond .eq 12, 3) := by decide +kernel
theorem d_X10_isBound_9 : decode c_X10_isBound 9 = .ok (.aload_n 0, 1) := by decide +kernel
theorem d_X10_isBound_10 : decode c_X10_isBound 10 = .ok (.getfield 50, 3) := by decide +kernel
theorem d_X10_isBound_13 : decode c_X10_isBound 13 = .ok (.iload_n 1, 1) := by decide +kernel
theorem d_X10_isBound_14 : decode c_X10_isBound 14 = .ok (.iaload, 1) := by decide +kernel
theorem d_X10_isBound_15 : decode c_X10_isBound 15 = .ok (.ifCond .ne 5, 3) := by decide +kernel
theorem d_X10_isBound_18 : decode c_X10_isBound 18 = .ok (.iconst 0, 1) := by decide +kernel
theorem d_X10_isBound_19 : decode c_X10_isBound 19 = .ok (.ireturn, 1) := by decide +kernel
theorem d_X10_isBound_20 : decode c_X10_isBound 20 = .ok (.aload_n 0, 1) := by decide +kernel
theorem d_X10_isBound_21 : decode c_X10_isBound 21 = .ok (.iload_n 1, 1) := by decide +kernel
theorem d_X10_isBound_22 : decode c_X10_isBound 22 = .ok (.invokevirtual 140, 3) := by decide +kernel
theorem d_X10_isBound_25 : decode c_X10_isBound 25 = .ok (.iconst 0, 1) := by decide +kernel
theorem d_X10_isBound_26 : decode c_X10_isBound 26 = .ok (.istore_n 2, 1) := by decide +kernel
theorem d_X10_isBound_27 : decode c_X10_isBound 27 = .ok (.iload_n 2, 1) := by decide +kernel
theorem d_X10_isBound_28 : decode c_X10_isBound 28 = .ok (.aload_n 0, 1) := by decide +kernel
theorem d_X10_isBound_29 : decode c_X10_isBound 29 = .ok (.getfield 133, 3) := by decide +kernel
theorem d_X10_isBound_32 : decode c_X10_isBound 32 = .ok (.if_icmp .ge 77, 3) := by decide +kernel
theorem d_X10_isBound_35 : decode c_X10_isBound 35 = .ok (.iconst 0, 1) := by decide +kernel
theorem d_X10_isBound_36 : decode c_X10_isBound 36 = .ok (.istore_n 3, 1) := by decide +kernel
theorem d_X10_isBound_37 : decode c_X10_isBound 37 = .ok (.iconst 0, 1) := by decide +kernel
theorem d_X10_isBound_38 : decode c_X10_isBound 38 = .ok (.istore 4, 2) := by decide +kernel
theorem d_X10_isBound_40 : decode c_X10_isBound 40 = .ok (.iload 4, 2) := by decide +kernel
theorem d_X10_isBound_42 : decode c_X10_isBound 42 = .ok (.aload_n 0, 1) := by decide +kernel
theorem d_X10_isBound_43 : decode c_X10_isBound 43 = .ok (.getfield 144, 3) := by decide +kernel
theorem d_X10_isBound_46 : decode c_X10_isBound 46 = .ok (.if_icmp .ge 51, 3) := by decide +kernel
theorem d_X10_isBound_49 : decode c_X10_isBound 49 = .ok (.iload_n 3, 1) := by decide +kernel
theorem d_X10_isBound_50 : decode c_X10_isBound 50 = .ok (.ifCond .ne 35, 3) := by decide +kernel
theorem d_X10_isBound_53 : decode c_X10_isBound 53 = .ok (.aload_n 0, 1) := by decide +kernel
theorem d_X10_isBound_54 : decode c_X10_isBound 54 = .ok (.getfield 71, 3) := by decide +kernel
theorem d_X10_isBound_57 : decode c_X10_isBound 57 = .ok (.iload 4, 2) := by decide +kernel
theorem d_X10_isBound_59 : decode c_X10_isBound 59 = .ok (.iaload, 1) := by decide +kernel
theorem d_X10_isBound_60 : decode c_X10_isBound 60 = .ok (.aload_n 0, 1) := by decide +kernel
theorem d_X10_isBound_61 : decode c_X10_isBound 61 = .ok (.getfield 65, 3) := by decide +kernel
theorem d_X10_isBound_64 : decode c_X10_isBound 64 = .ok (.iload_n 2, 1) := by decide +kernel
theorem d_X10_isBound_65 : decode c_X10_isBound 65 = .ok (.iaload, 1) := by decide +kernel
theorem d_X10_isBound_66 : decode c_X10_isBound 66 = .ok (.if_icmp .ne 23, 3) := by decide +kernel
theorem d_X10_isBound_69 : decode c_X10_isBound 69 = .ok (.aload_n 0, 1) := by decide +kernel
theorem d_X10_isBound_70 : decode c_X10_isBound 70 = .ok (.getfield 74, 3) := by decide +kernel
theorem d_X10_isBound_73 : decode c_X10_isBound 73 = .ok (.iload 4, 2) := by decide +kernel
theorem d_X10_isBound_75 : decode c_X10_isBound 75 = .ok (.iaload, 1) := by decide +kernel
theorem d_X10_isBound_76 : decode c_X10_isBound 76 = .ok (.aload_n 0, 1) := by decide +kernel
theorem d_X10_isBound_77 : decode c_X10_isBound 77 = .ok (.getfield 68, 3) := by decide +kernel
theorem d_X10_isBound_80 : decode c_X10_isBound 80 = .ok (.iload_n 2, 1) := by decide +kernel
theorem d_X10_isBound_81 : decode c_X10_isBound 81 = .ok (.iaload, 1) := by decide +kernel
theorem d_X10_isBound_82 : decode c_X10_isBound 82 = .ok (.if_icmp .ne 7, 3) := by decide +kernel
theorem d_X10_isBound_85 : decode c_X10_isBound 85 = .ok (.iconst 1, 1) := by decide +kernel
theorem d_X10_isBound_86 : decode c_X10_isBound 86 = .ok (.goto 4, 3) := by decide +kernel
theorem d_X10_isBound_89 : decode c_X10_isBound 89 = .ok (.iconst 0, 1) := by decide +kernel
theorem d_X10_isBound_90 : decode c_X10_isBound 90 = .ok (.istore_n 3, 1) := by decide +kernel
theorem d_X10_isBound_91 : decode c_X10_isBound 91 = .ok (.iinc 4 1, 3) := by decide +kernel
theorem d_X10_isBound_94 : decode c_X10_isBound 94 = .ok (.goto (-54), 3) := by decide +kernel
theorem d_X10_isBound_97 : decode c_X10_isBound 97 = .ok (.iload_n 3, 1) := by decide +kernel
theorem d_X10_isBound_98 : decode c_X10_isBound 98 = .ok (.ifCond .ne 5, 3) := by decide +kernel
theorem d_X10_isBound_101 : decode c_X10_isBound 101 = .ok (.iconst 0, 1) := by decide +kernel
theorem d_X10_isBound_102 : decode c_X10_isBound 102 = .ok (.ireturn, 1) := by decide +kernel
theorem d_X10_isBound_103 : decode c_X10_isBound 103 = .ok (.iinc 2 1, 3) := by decide +kernel
theorem d_X10_isBound_106 : decode c_X10_isBound 106 = .ok (.goto (-79), 3) := by decide +kernel
theorem d_X10_isBound_109 : decode c_X10_isBound 109 = .ok (.iconst 1, 1) := by decide +kernel
theorem d_X10_isBound_110 : decode c_X10_isBound 110 = .ok (.ireturn, 1) := by decide +kernel
theorem d_X10_link_0 : decode c_X10_link 0 = .ok (.aload_n 0, 1) := by decide +kernel
theorem d_X10_link_1 : decode c_X10_link 1 = .ok (.getfield 26, 3) := by decide +kernel
theorem d_X10_link_4 : decode c_X10_link 4 = .ok (.iload_n 1, 1) := by decide +kernel
theorem d_X10_link_5 : decode c_X10_link 5 = .ok (.iaload, 1) := by decide +kernel
theorem d_X10_link_6 : decode c_X10_link 6 = .ok (.iload_n 2, 1) := by decide +kernel
theorem d_X10_link_7 : decode c_X10_link 7 = .ok (.iand, 1) := by decide +kernel
theorem d_X10_link_8 : decode c_X10_link 8 = .ok (.ifCond .eq 23, 3) := by decide +kernel
theorem d_X10_link_11 : decode c_X10_link 11 = .ok (.aload_n 0, 1) := by decide +kernel
theorem d_X10_link_12 : decode c_X10_link 12 = .ok (.getfield 77, 3) := by decide +kernel
theorem d_X10_link_15 : decode c_X10_link 15 = .ok (.aload_n 0, 1) := by decide +kernel
theorem d_X10_link_16 : decode c_X10_link 16 = .ok (.getfield 150, 3) := by decide +kernel
theorem d_X10_link_19 : decode c_X10_link 19 = .ok (.iload_n 1, 1) := by decide +kernel
theorem d_X10_link_20 : decode c_X10_link 20 = .ok (.iastore, 1) := by decide +kernel
theorem d_X10_link_21 : decode c_X10_link 21 = .ok (.aload_n 0, 1) := by decide +kernel
theorem d_X10_link_22 : decode c_X10_link 22 = .ok (.dup, 1) := by decide +kernel
theorem d_X10_link_23 : decode c_X10_link 23 = .ok (.getfield 150, 3) := by decide +kernel
theorem d_X10_link_26 : decode c_X10_link 26 = .ok (.iconst 1, 1) := by decide +kernel
theorem d_X10_link_27 : decode c_X10_link 27 = .ok (.iadd, 1) := by decide +kernel
theorem d_X10_link_28 : decode c_X10_link 28 = .ok (.putfield 150, 3) := by decide +kernel
theorem d_X10_link_31 : decode c_X10_link 31 = .ok (.return_, 1) := by decide +kernel
theorem d_X10_linkList_0 : decode c_X10_linkList 0 = .ok (.iconst 0, 1) := by decide +kernel
theorem d_X10_linkList_1 : decode c_X10_linkList 1 = .ok (.istore_n 3, 1) := by decide +kernel
theorem d_X10_linkList_2 : decode c_X10_linkList 2 = .ok (.iload_n 3, 1) := by decide +kernel
theorem d_X10_linkList_3 : decode c_X10_linkList 3 = .ok (.aload_n 0, 1) := by decide +kernel
theorem d_X10_linkList_4 : decode c_X10_linkList 4 = .ok (.getfield 59, 3) := by decide +kernel
theorem d_X10_linkList_7 : decode c_X10_linkList 7 = .ok (.iload_n 1, 1) := by decide +kernel
theorem d_X10_linkList_8 : decode c_X10_linkList 8 = .ok (.iaload, 1) := by decide +kernel
theorem d_X10_linkList_9 : decode c_X10_linkList 9 = .ok (.if_icmp .ge 24, 3) := by decide +kernel
theorem d_X10_linkList_12 : decode c_X10_linkList 12 = .ok (.aload_n 0, 1) := by decide +kernel
theorem d_X10_linkList_13 : decode c_X10_linkList 13 = .ok (.aload_n 0, 1) := by decide +kernel
theorem d_X10_linkList_14 : decode c_X10_linkList 14 = .ok (.getfield 62, 3) := by decide +kernel
theorem d_X10_linkList_17 : decode c_X10_linkList 17 = .ok (.iconst 4, 1) := by decide +kernel
theorem d_X10_linkList_18 : decode c_X10_linkList 18 = .ok (.iload_n 1, 1) := by decide +kernel
theorem d_X10_linkList_19 : decode c_X10_linkList 19 = .ok (.imul, 1) := by decide +kernel
theorem d_X10_linkList_20 : decode c_X10_linkList 20 = .ok (.iload_n 3, 1) := by decide +kernel
theorem d_X10_linkList_21 : decode c_X10_linkList 21 = .ok (.iadd, 1) := by decide +kernel
theorem d_X10_linkList_22 : decode c_X10_linkList 22 = .ok (.iaload, 1) := by decide +kernel
theorem d_X10_linkList_23 : decode c_X10_linkList 23 = .ok (.iload_n 2, 1) := by decide +kernel
theorem d_X10_linkList_24 : decode c_X10_linkList 24 = .ok (.invokevirtual 153, 3) := by decide +kernel
theorem d_X10_linkList_27 : decode c_X10_linkList 27 = .ok (.iinc 3 1, 3) := by decide +kernel
theorem d_X10_linkList_30 : decode c_X10_linkList 30 = .ok (.goto (-28), 3) := by decide +kernel
theorem d_X10_linkList_33 : decode c_X10_linkList 33 = .ok (.return_, 1) := by decide +kernel
theorem d_X10_build_0 : decode c_X10_build 0 = .ok (.iload_n 2, 1) := by decide +kernel
theorem d_X10_build_1 : decode c_X10_build 1 = .ok (.iconst 4, 1) := by decide +kernel
theorem d_X10_build_2 : decode c_X10_build 2 = .ok (.if_icmp .ge 7, 3) := by decide +kernel
theorem d_X10_build_5 : decode c_X10_build 5 = .ok (.iconst 1, 1) := by decide +kernel
theorem d_X10_build_6 : decode c_X10_build 6 = .ok (.goto 8, 3) := by decide +kernel
theorem d_X10_build_9 : decode c_X10_build 9 = .ok (.iconst 1, 1) := by decide +kernel
theorem d_X10_build_10 : decode c_X10_build 10 = .ok (.iload_n 2, 1) := by decide +kernel
theorem d_X10_build_11 : decode c_X10_build 11 = .ok (.iconst 3, 1) := by decide +kernel
theorem d_X10_build_12 : decode c_X10_build 12 = .ok (.isub, 1) := by decide +kernel
theorem d_X10_build_13 : decode c_X10_build 13 = .ok (.ishl, 1) := by decide +kernel
theorem d_X10_build_14 : decode c_X10_build 14 = .ok (.istore_n 3, 1) := by decide +kernel
theorem d_X10_build_15 : decode c_X10_build 15 = .ok (.aload_n 0, 1) := by decide +kernel
theorem d_X10_build_16 : decode c_X10_build 16 = .ok (.iconst 0, 1) := by decide +kernel
theorem d_X10_build_17 : decode c_X10_build 17 = .ok (.putfield 150, 3) := by decide +kernel
theorem d_X10_build_20 : decode c_X10_build 20 = .ok (.iload_n 2, 1) := by decide +kernel
theorem d_X10_build_21 : decode c_X10_build 21 = .ok (.iconst 4, 1) := by decide +kernel
theorem d_X10_build_22 : decode c_X10_build 22 = .ok (.if_icmp .ge 18, 3) := by decide +kernel
theorem d_X10_build_25 : decode c_X10_build 25 = .ok (.aload_n 0, 1) := by decide +kernel
theorem d_X10_build_26 : decode c_X10_build 26 = .ok (.getfield 47, 3) := by decide +kernel
theorem d_X10_build_29 : decode c_X10_build 29 = .ok (.iconst 4, 1) := by decide +kernel
theorem d_X10_build_30 : decode c_X10_build 30 = .ok (.iload_n 1, 1) := by decide +kernel
theorem d_X10_build_31 : decode c_X10_build 31 = .ok (.imul, 1) := by decide +kernel
theorem d_X10_build_32 : decode c_X10_build 32 = .ok (.iload_n 2, 1) := by decide +kernel
theorem d_X10_build_33 : decode c_X10_build 33 = .ok (.iadd, 1) := by decide +kernel
theorem d_X10_build_34 : decode c_X10_build 34 = .ok (.iaload, 1) := by decide +kernel
theorem d_X10_build_35 : decode c_X10_build 35 = .ok (.iconst 2, 1) := by decide +kernel
theorem d_X10_build_36 : decode c_X10_build 36 = .ok (.iand, 1) := by decide +kernel
theorem d_X10_build_37 : decode c_X10_build 37 = .ok (.ifCond .ne 12, 3) := by decide +kernel
theorem d_X10_build_40 : decode c_X10_build 40 = .ok (.aload_n 0, 1) := by decide +kernel
theorem d_X10_build_41 : decode c_X10_build 41 = .ok (.bipush 8, 2) := by decide +kernel
theorem d_X10_build_43 : decode c_X10_build 43 = .ok (.iload_n 1, 1) := by decide +kernel
theorem d_X10_build_44 : decode c_X10_build 44 = .ok (.iadd, 1) := by decide +kernel
theorem d_X10_build_45 : decode c_X10_build 45 = .ok (.iload_n 3, 1) := by decide +kernel
theorem d_X10_build_46 : decode c_X10_build 46 = .ok (.invokevirtual 156, 3) := by decide +kernel
theorem d_X10_build_49 : decode c_X10_build 49 = .ok (.iload_n 2, 1) := by decide +kernel
theorem d_X10_build_50 : decode c_X10_build 50 = .ok (.iconst 4, 1) := by decide +kernel
theorem d_X10_build_51 : decode c_X10_build 51 = .ok (.if_icmp .ge 16, 3) := by decide +kernel
theorem d_X10_build_54 : decode c_X10_build 54 = .ok (.aload_n 0, 1) := by decide +kernel
theorem d_X10_build_55 : decode c_X10_build 55 = .ok (.bipush 12, 2) := by decide +kernel
theorem d_X10_build_57 : decode c_X10_build 57 = .ok (.iconst 4, 1) := by decide +kernel
theorem d_X10_build_58 : decode c_X10_build 58 = .ok (.iload_n 1, 1) := by decide +kernel
theorem d_X10_build_59 : decode c_X10_build 59 = .ok (.imul, 1) := by decide +kernel
theorem d_X10_build_60 : decode c_X10_build 60 = .ok (.iadd, 1) := by decide +kernel
theorem d_X10_build_61 : decode c_X10_build 61 = .ok (.iload_n 2, 1) := by decide +kernel
theorem d_X10_build_62 : decode c_X10_build 62 = .ok (.iadd, 1) := by decide +kernel
theorem d_X10_build_63 : decode c_X10_build 63 = .ok (.iload_n 3, 1) := by decide +kernel
theorem d_X10_build_64 : decode c_X10_build 64 = .ok (.invokevirtual 156, 3) := by decide +kernel
theorem d_X10_build_67 : decode c_X10_build 67 = .ok (.aload_n 0, 1) := by decide +kernel
theorem d_X10_build_68 : decode c_X10_build 68 = .ok (.iload_n 1, 1) := by decide +kernel
theorem d_X10_build_69 : decode c_X10_build 69 = .ok (.iload_n 2, 1) := by decide +kernel
theorem d_X10_build_70 : decode c_X10_build 70 = .ok (.invokevirtual 159, 3) := by decide +kernel
theorem d_X10_build_73 : decode c_X10_build 73 = .ok (.iconst 1, 1) := by decide +kernel
theorem d_X10_build_74 : decode c_X10_build 74 = .ok (.istore 4, 2) := by decide +kernel
theorem d_X10_build_76 : decode c_X10_build 76 = .ok (.iload 4, 2) := by decide +kernel
theorem d_X10_build_78 : decode c_X10_build 78 = .ok (.bipush 9, 2) := by decide +kernel
theorem d_X10_build_80 : decode c_X10_build 80 = .ok (.if_icmp .gt 55, 3) := by decide +kernel
theorem d_X10_build_83 : decode c_X10_build 83 = .ok (.iconst 0, 1) := by decide +kernel
theorem d_X10_build_84 : decode c_X10_build 84 = .ok (.istore 5, 2) := by decide +kernel
theorem d_X10_build_86 : decode c_X10_build 86 = .ok (.iload 5, 2) := by decide +kernel
theorem d_X10_build_88 : decode c_X10_build 88 = .ok (.aload_n 0, 1) := by decide +kernel
theorem d_X10_build_89 : decode c_X10_build 89 = .ok (.getfield 103, 3) := by decide +kernel
theorem d_X10_build_92 : decode c_X10_build 92 = .ok (.if_icmp .ge 37, 3) := by decide +kernel
theorem d_X10_build_95 : decode c_X10_build 95 = .ok (.aload_n 0, 1) := by decide +kernel
theorem d_X10_build_96 : decode c_X10_build 96 = .ok (.getfield 23, 3) := by decide +kernel
theorem d_X10_build_99 : decode c_X10_build 99 = .ok (.iload 5, 2) := by decide +kernel
theorem d_X10_build_101 : decode c_X10_build 101 = .ok (.iaload, 1) := by decide +kernel
theorem d_X10_build_102 : decode c_X10_build 102 = .ok (.iload 4, 2) := by decide +kernel
theorem d_X10_build_104 : decode c_X10_build 104 = .ok (.if_icmp .ne 19, 3) := by decide +kernel
theorem d_X10_build_107 : decode c_X10_build 107 = .ok (.aload_n 0, 1) := by decide +kernel
theorem d_X10_build_108 : decode c_X10_build 108 = .ok (.iload 5, 2) := by decide +kernel
theorem d_X10_build_110 : decode c_X10_build 110 = .ok (.invokevirtual 162, 3) := by decide +kernel
theorem d_X10_build_113 : decode c_X10_build 113 = .ok (.ifCond .eq 10, 3) := by decide +kernel
theorem d_X10_build_116 : decode c_X10_build 116 = .ok (.aload_n 0, 1) := by decide +kernel
theorem d_X10_build_117 : decode c_X10_build 117 = .ok (.iload 5, 2) := by decide +kernel
theorem d_X10_build_119 : decode c_X10_build 119 = .ok (.iload_n 3, 1) := by decide +kernel
theorem d_X10_build_120 : decode c_X10_build 120 = .ok (.invokevirtual 153, 3) := by decide +kernel
theorem d_X10_build_123 : decode c_X10_build 123 = .ok (.iinc 5 1, 3) := by decide +kernel
theorem d_X10_build_126 : decode c_X10_build 126 = .ok (.goto (-40), 3) := by decide +kernel
theorem d_X10_build_129 : decode c_X10_build 129 = .ok (.iinc 4 1, 3) := by decide +kernel
theorem d_X10_build_132 : decode c_X10_build 132 = .ok (.goto (-56), 3) := by decide +kernel
theorem d_X10_build_135 : decode c_X10_build 135 = .ok (.iconst 1, 1) := by decide +kernel
theorem d_X10_build_136 : decode c_X10_build 136 = .ok (.istore 4, 2) := by decide +kernel
theorem d_X10_build_138 : decode c_X10_build 138 = .ok (.iload 4, 2) := by decide +kernel
theorem d_X10_build_140 : decode c_X10_build 140 = .ok (.bipush 9, 2) := by decide +kernel
theorem d_X10_build_142 : decode c_X10_build 142 = .ok (.if_icmp .gt 103, 3) := by decide +kernel
theorem d_X10_build_145 : decode c_X10_build 145 = .ok (.iload_n 2, 1) := by decide +kernel
theorem d_X10_build_146 : decode c_X10_build 146 = .ok (.iconst 4, 1) := by decide +kernel
theorem d_X10_build_147 : decode c_X10_build 147 = .ok (.if_icmp .ge 98, 3) := by decide +kernel
theorem d_X10_build_150 : decode c_X10_build 150 = .ok (.iconst 0, 1) := by decide +kernel
theorem d_X10_build_151 : decode c_X10_build 151 = .ok (.istore 5, 2) := by decide +kernel
theorem d_X10_build_153 : decode c_X10_build 153 = .ok (.iload 5, 2) := by decide +kernel
theorem d_X10_build_155 : decode c_X10_build 155 = .ok (.aload_n 0, 1) := by decide +kernel
theorem d_X10_build_156 : decode c_X10_build 156 = .ok (.getfield 106, 3) := by decide +kernel
theorem d_X10_build_159 : decode c_X10_build 159 = .ok (.if_icmp .ge 80, 3) := by decide +kernel
theorem d_X10_build_162 : decode c_X10_build 162 = .ok (.aload_n 0, 1) := by decide +kernel
theorem d_X10_build_163 : decode c_X10_build 163 = .ok (.getfield 32, 3) := by decide +kernel
theorem d_X10_build_166 : decode c_X10_build 166 = .ok (.iload 5, 2) := by decide +kernel
theorem d_X10_build_168 : decode c_X10_build 168 = .ok (.iaload, 1) := by decide +kernel
theorem d_X10_build_169 : decode c_X10_build 169 = .ok (.iload 4, 2) := by decide +kernel
theorem d_X10_build_171 : decode c_X10_build 171 = .ok (.if_icmp .ne 62, 3) := by decide +kernel
theorem d_X10_build_174 : decode c_X10_build 174 = .ok (.aload_n 0, 1) := by decide +kernel
theorem d_X10_build_175 : decode c_X10_build 175 = .ok (.getfield 38, 3) := by decide +kernel
theorem d_X10_build_178 : decode c_X10_build 178 = .ok (.iload 5, 2) := by decide +kernel
theorem d_X10_build_180 : decode c_X10_build 180 = .ok (.iaload, 1) := by decide +kernel
theorem d_X10_build_181 : decode c_X10_build 181 = .ok (.iload_n 2, 1) := by decide +kernel
theorem d_X10_build_182 : decode c_X10_build 182 = .ok (.ishr, 1) := by decide +kernel
theorem d_X10_build_183 : decode c_X10_build 183 = .ok (.iconst 1, 1) := by decide +kernel
theorem d_X10_build_184 : decode c_X10_build 184 = .ok (.iand, 1) := by decide +kernel
theorem d_X10_build_185 : decode c_X10_build 185 = .ok (.iconst 1, 1) := by decide +kernel
theorem d_X10_build_186 : decode c_X10_build 186 = .ok (.if_icmp .ne 47, 3) := by decide +kernel
theorem d_X10_build_189 : decode c_X10_build 189 = .ok (.aload_n 0, 1) := by decide +kernel
theorem d_X10_build_190 : decode c_X10_build 190 = .ok (.getfield 44, 3) := by decide +kernel
theorem d_X10_build_193 : decode c_X10_build 193 = .ok (.iload_n 1, 1) := by decide +kernel
theorem d_X10_build_194 : decode c_X10_build 194 = .ok (.iaload, 1) := by decide +kernel
theorem d_X10_build_195 : decode c_X10_build 195 = .ok (.aload_n 0, 1) := by decide +kernel
theorem d_X10_build_196 : decode c_X10_build 196 = .ok (.getfield 35, 3) := by decide +kernel
theorem d_X10_build_199 : decode c_X10_build 199 = .ok (.iload 5, 2) := by decide +kernel
theorem d_X10_build_201 : decode c_X10_build 201 = .ok (.iaload, 1) := by decide +kernel
theorem d_X10_build_202 : decode c_X10_build 202 = .ok (.ishr, 1) := by decide +kernel
theorem d_X10_build_203 : decode c_X10_build 203 = .ok (.iconst 1, 1) := by decide +kernel
theorem d_X10_build_204 : decode c_X10_build 204 = .ok (.iand, 1) := by decide +kernel
theorem d_X10_build_205 : decode c_X10_build 205 = .ok (.iconst 1, 1) := by decide +kernel
theorem d_X10_build_206 : decode c_X10_build 206 = .ok (.if_icmp .ne 27, 3) := by decide +kernel
theorem d_X10_build_209 : decode c_X10_build 209 = .ok (.aload_n 0, 1) := by decide +kernel
theorem d_X10_build_210 : decode c_X10_build 210 = .ok (.getfield 77, 3) := by decide +kernel
theorem d_X10_build_213 : decode c_X10_build 213 = .ok (.aload_n 0, 1) := by decide +kernel
theorem d_X10_build_214 : decode c_X10_build 214 = .ok (.getfield 150, 3) := by decide +kernel
theorem d_X10_build_217 : decode c_X10_build 217 = .ok (.bipush 16, 2) := by decide +kernel
theorem d_X10_build_219 : decode c_X10_build 219 = .ok (.iload 5, 2) := by decide +kernel
theorem d_X10_build_221 : decode c_X10_build 221 = .ok (.iadd, 1) := by decide +kernel
theorem d_X10_build_222 : decode c_X10_build 222 = .ok (.iastore, 1) := by decide +kernel
theorem d_X10_build_223 : decode c_X10_build 223 = .ok (.aload_n 0, 1) := by decide +kernel
theorem d_X10_build_224 : decode c_X10_build 224 = .ok (.dup, 1) := by decide +kernel
theorem d_X10_build_225 : decode c_X10_build 225 = .ok (.getfield 150, 3) := by decide +kernel
theorem d_X10_build_228 : decode c_X10_build 228 = .ok (.iconst 1, 1) := by decide +kernel
theorem d_X10_build_229 : decode c_X10_build 229 = .ok (.iadd, 1) := by decide +kernel
theorem d_X10_build_230 : decode c_X10_build 230 = .ok (.putfield 150, 3) := by decide +kernel
theorem d_X10_build_233 : decode c_X10_build 233 = .ok (.iinc 5 1, 3) := by decide +kernel
theorem d_X10_build_236 : decode c_X10_build 236 = .ok (.goto (-83), 3) := by decide +kernel
theorem d_X10_build_239 : decode c_X10_build 239 = .ok (.iinc 4 1, 3) := by decide +kernel
theorem d_X10_build_242 : decode c_X10_build 242 = .ok (.goto (-104), 3) := by decide +kernel
theorem d_X10_build_245 : decode c_X10_build 245 = .ok (.aload_n 0, 1) := by decide +kernel
theorem d_X10_build_246 : decode c_X10_build 246 = .ok (.getfield 77, 3) := by decide +kernel
theorem d_X10_build_249 : decode c_X10_build 249 = .ok (.aload_n 0, 1) := by decide +kernel
theorem d_X10_build_250 : decode c_X10_build 250 = .ok (.getfield 150, 3) := by decide +kernel
theorem d_X10_build_253 : decode c_X10_build 253 = .ok (.bipush 32, 2) := by decide +kernel
theorem d_X10_build_255 : decode c_X10_build 255 = .ok (.iastore, 1) := by decide +kernel
theorem d_X10_build_256 : decode c_X10_build 256 = .ok (.aload_n 0, 1) := by decide +kernel
theorem d_X10_build_257 : decode c_X10_build 257 = .ok (.dup, 1) := by decide +kernel
theorem d_X10_build_258 : decode c_X10_build 258 = .ok (.getfield 150, 3) := by decide +kernel
theorem d_X10_build_261 : decode c_X10_build 261 = .ok (.iconst 1, 1) := by decide +kernel
theorem d_X10_build_262 : decode c_X10_build 262 = .ok (.iadd, 1) := by decide +kernel
theorem d_X10_build_263 : decode c_X10_build 263 = .ok (.putfield 150, 3) := by decide +kernel
theorem d_X10_build_266 : decode c_X10_build 266 = .ok (.return_, 1) := by decide +kernel
theorem d_X10_deploy_0 : decode c_X10_deploy 0 = .ok (.aload_n 0, 1) := by decide +kernel
theorem d_X10_deploy_1 : decode c_X10_deploy 1 = .ok (.getfield 92, 3) := by decide +kernel
theorem d_X10_deploy_4 : decode c_X10_deploy 4 = .ok (.ifCond .eq 6, 3) := by decide +kernel
theorem d_X10_deploy_7 : decode c_X10_deploy 7 = .ok (.bipush (-2), 2) := by decide +kernel
theorem d_X10_deploy_9 : decode c_X10_deploy 9 = .ok (.ireturn, 1) := by decide +kernel
theorem d_X10_deploy_10 : decode c_X10_deploy 10 = .ok (.iconst 0, 1) := by decide +kernel
theorem d_X10_deploy_11 : decode c_X10_deploy 11 = .ok (.istore_n 1, 1) := by decide +kernel
theorem d_X10_deploy_12 : decode c_X10_deploy 12 = .ok (.iload_n 1, 1) := by decide +kernel
theorem d_X10_deploy_13 : decode c_X10_deploy 13 = .ok (.aload_n 0, 1) := by decide +kernel
theorem d_X10_deploy_14 : decode c_X10_deploy 14 = .ok (.getfield 103, 3) := by decide +kernel
theorem d_X10_deploy_17 : decode c_X10_deploy 17 = .ok (.if_icmp .ge 22, 3) := by decide +kernel
theorem d_X10_deploy_20 : decode c_X10_deploy 20 = .ok (.aload_n 0, 1) := by decide +kernel
theorem d_X10_deploy_21 : decode c_X10_deploy 21 = .ok (.iload_n 1, 1) := by decide +kernel
theorem d_X10_deploy_22 : decode c_X10_deploy 22 = .ok (.invokevirtual 166, 3) := by decide +kernel
theorem d_X10_deploy_25 : decode c_X10_deploy 25 = .ok (.ifCond .eq 8, 3) := by decide +kernel
theorem d_X10_deploy_28 : decode c_X10_deploy 28 = .ok (.bipush 100, 2) := by decide +kernel
theorem d_X10_deploy_30 : decode c_X10_deploy 30 = .ok (.iload_n 1, 1) := by decide +kernel
theorem d_X10_deploy_31 : decode c_X10_deploy 31 = .ok (.iadd, 1) := by decide +kernel
theorem d_X10_deploy_32 : decode c_X10_deploy 32 = .ok (.ireturn, 1) := by decide +kernel
theorem d_X10_deploy_33 : decode c_X10_deploy 33 = .ok (.iinc 1 1, 3) := by decide +kernel
theorem d_X10_deploy_36 : decode c_X10_deploy 36 = .ok (.goto (-24), 3) := by decide +kernel
theorem d_X10_deploy_39 : decode c_X10_deploy 39 = .ok (.iconst 0, 1) := by decide +kernel
theorem d_X10_deploy_40 : decode c_X10_deploy 40 = .ok (.istore_n 1, 1) := by decide +kernel
theorem d_X10_deploy_41 : decode c_X10_deploy 41 = .ok (.iload_n 1, 1) := by decide +kernel
theorem d_X10_deploy_42 : decode c_X10_deploy 42 = .ok (.aload_n 0, 1) := by decide +kernel
theorem d_X10_deploy_43 : decode c_X10_deploy 43 = .ok (.getfield 109, 3) := by decide +kernel
theorem d_X10_deploy_46 : decode c_X10_deploy 46 = .ok (.if_icmp .ge 45, 3) := by decide +kernel
theorem d_X10_deploy_49 : decode c_X10_deploy 49 = .ok (.iconst (-1), 1) := by decide +kernel
theorem d_X10_deploy_50 : decode c_X10_deploy 50 = .ok (.istore_n 2, 1) := by decide +kernel
theorem d_X10_deploy_51 : decode c_X10_deploy 51 = .ok (.iload_n 2, 1) := by decide +kernel
theorem d_X10_deploy_52 : decode c_X10_deploy 52 = .ok (.iconst 4, 1) := by decide +kernel
theorem d_X10_deploy_53 : decode c_X10_deploy 53 = .ok (.if_icmp .ge 32, 3) := by decide +kernel
theorem d_X10_deploy_56 : decode c_X10_deploy 56 = .ok (.aload_n 0, 1) := by decide +kernel
theorem d_X10_deploy_57 : decode c_X10_deploy 57 = .ok (.iload_n 1, 1) := by decide +kernel
theorem d_X10_deploy_58 : decode c_X10_deploy 58 = .ok (.iload_n 2, 1) := by decide +kernel
theorem d_X10_deploy_59 : decode c_X10_deploy 59 = .ok (.invokestatic 129, 3) := by decide +kernel
theorem d_X10_deploy_62 : decode c_X10_deploy 62 = .ok (.invokevirtual 166, 3) := by decide +kernel
theorem d_X10_deploy_65 : decode c_X10_deploy 65 = .ok (.ifCond .eq 14, 3) := by decide +kernel
theorem d_X10_deploy_68 : decode c_X10_deploy 68 = .ok (.sipush 201, 3) := by decide +kernel
theorem d_X10_deploy_71 : decode c_X10_deploy 71 = .ok (.bipush 8, 2) := by decide +kernel
theorem d_X10_deploy_73 : decode c_X10_deploy 73 = .ok (.iload_n 1, 1) := by decide +kernel
theorem d_X10_deploy_74 : decode c_X10_deploy 74 = .ok (.imul, 1) := by decide +kernel
theorem d_X10_deploy_75 : decode c_X10_deploy 75 = .ok (.iadd, 1) := by decide +kernel
theorem d_X10_deploy_76 : decode c_X10_deploy 76 = .ok (.iload_n 2, 1) := by decide +kernel
theorem d_X10_deploy_77 : decode c_X10_deploy 77 = .ok (.iadd, 1) := by decide +kernel
theorem d_X10_deploy_78 : decode c_X10_deploy 78 = .ok (.ireturn, 1) := by decide +kernel
theorem d_X10_deploy_79 : decode c_X10_deploy 79 = .ok (.iinc 2 1, 3) := by decide +kernel
theorem d_X10_deploy_82 : decode c_X10_deploy 82 = .ok (.goto (-31), 3) := by decide +kernel
theorem d_X10_deploy_85 : decode c_X10_deploy 85 = .ok (.iinc 1 1, 3) := by decide +kernel
theorem d_X10_deploy_88 : decode c_X10_deploy 88 = .ok (.goto (-47), 3) := by decide +kernel
theorem d_X10_deploy_91 : decode c_X10_deploy 91 = .ok (.iconst 0, 1) := by decide +kernel
theorem d_X10_deploy_92 : decode c_X10_deploy 92 = .ok (.istore_n 1, 1) := by decide +kernel
theorem d_X10_deploy_93 : decode c_X10_deploy 93 = .ok (.iload_n 1, 1) := by decide +kernel
theorem d_X10_deploy_94 : decode c_X10_deploy 94 = .ok (.iconst 4, 1) := by decide +kernel
theorem d_X10_deploy_95 : decode c_X10_deploy 95 = .ok (.aload_n 0, 1) := by decide +kernel
theorem d_X10_deploy_96 : decode c_X10_deploy 96 = .ok (.getfield 109, 3) := by decide +kernel
theorem d_X10_deploy_99 : decode c_X10_deploy 99 = .ok (.imul, 1) := by decide +kernel
theorem d_X10_deploy_100 : decode c_X10_deploy 100 = .ok (.if_icmp .ge 45, 3) := by decide +kernel
theorem d_X10_deploy_103 : decode c_X10_deploy 103 = .ok (.aload_n 0, 1) := by decide +kernel
theorem d_X10_deploy_104 : decode c_X10_deploy 104 = .ok (.iload_n 1, 1) := by decide +kernel
theorem d_X10_deploy_105 : decode c_X10_deploy 105 = .ok (.iconst 4, 1) := by decide +kernel
theorem d_X10_deploy_106 : decode c_X10_deploy 106 = .ok (.idiv, 1) := by decide +kernel
theorem d_X10_deploy_107 : decode c_X10_deploy 107 = .ok (.iload_n 1, 1) := by decide +kernel
theorem d_X10_deploy_108 : decode c_X10_deploy 108 = .ok (.iconst 4, 1) := by decide +kernel
theorem d_X10_deploy_109 : decode c_X10_deploy 109 = .ok (.irem, 1) := by decide +kernel
theorem d_X10_deploy_110 : decode c_X10_deploy 110 = .ok (.invokevirtual 169, 3) := by decide +kernel
theorem d_X10_deploy_113 : decode c_X10_deploy 113 = .ok (.aload_n 0, 1) := by decide +kernel
theorem d_X10_deploy_114 : decode c_X10_deploy 114 = .ok (.getfield 47, 3) := by decide +kernel
theorem d_X10_deploy_117 : decode c_X10_deploy 117 = .ok (.iload_n 1, 1) := by decide +kernel
theorem d_X10_deploy_118 : decode c_X10_deploy 118 = .ok (.iaload, 1) := by decide +kernel
theorem d_X10_deploy_119 : decode c_X10_deploy 119 = .ok (.iconst 1, 1) := by decide +kernel
theorem d_X10_deploy_120 : decode c_X10_deploy 120 = .ok (.iand, 1) := by decide +kernel
theorem d_X10_deploy_121 : decode c_X10_deploy 121 = .ok (.iconst 1, 1) := by decide +kernel
theorem d_X10_deploy_122 : decode c_X10_deploy 122 = .ok (.if_icmp .ne 17, 3) := by decide +kernel
theorem d_X10_deploy_125 : decode c_X10_deploy 125 = .ok (.aload_n 0, 1) := by decide +kernel
theorem d_X10_deploy_126 : decode c_X10_deploy 126 = .ok (.getfield 150, 3) := by decide +kernel
theorem d_X10_deploy_129 : decode c_X10_deploy 129 = .ok (.iconst 1, 1) := by decide +kernel
theorem d_X10_deploy_130 : decode c_X10_deploy 130 = .ok (.if_icmp .le 9, 3) := by decide +kernel
theorem d_X10_deploy_133 : decode c_X10_deploy 133 = .ok (.sipush 300, 3) := by decide +kernel
theorem d_X10_deploy_136 : decode c_X10_deploy 136 = .ok (.iload_n 1, 1) := by decide +kernel
theorem d_X10_deploy_137 : decode c_X10_deploy 137 = .ok (.iadd, 1) := by decide +kernel
theorem d_X10_deploy_138 : decode c_X10_deploy 138 = .ok (.ireturn, 1) := by decide +kernel
theorem d_X10_deploy_139 : decode c_X10_deploy 139 = .ok (.iinc 1 1, 3) := by decide +kernel
theorem d_X10_deploy_142 : decode c_X10_deploy 142 = .ok (.goto (-49), 3) := by decide +kernel
theorem d_X10_deploy_145 : decode c_X10_deploy 145 = .ok (.aload_n 0, 1) := by decide +kernel
theorem d_X10_deploy_146 : decode c_X10_deploy 146 = .ok (.iconst 1, 1) := by decide +kernel
theorem d_X10_deploy_147 : decode c_X10_deploy 147 = .ok (.putfield 92, 3) := by decide +kernel
theorem d_X10_deploy_150 : decode c_X10_deploy 150 = .ok (.iconst 0, 1) := by decide +kernel
theorem d_X10_deploy_151 : decode c_X10_deploy 151 = .ok (.ireturn, 1) := by decide +kernel
theorem d_X10_check_0 : decode c_X10_check 0 = .ok (.aload_n 0, 1) := by decide +kernel
theorem d_X10_check_1 : decode c_X10_check 1 = .ok (.getfield 92, 3) := by decide +kernel
theorem d_X10_check_4 : decode c_X10_check 4 = .ok (.ifCond .ne 6, 3) := by decide +kernel
theorem d_X10_check_7 : decode c_X10_check 7 = .ok (.bipush (-6), 2) := by decide +kernel
theorem d_X10_check_9 : decode c_X10_check 9 = .ok (.ireturn, 1) := by decide +kernel
theorem d_X10_check_10 : decode c_X10_check 10 = .ok (.iload_n 1, 1) := by decide +kernel
theorem d_X10_check_11 : decode c_X10_check 11 = .ok (.aload_n 0, 1) := by decide +kernel
theorem d_X10_check_12 : decode c_X10_check 12 = .ok (.getfield 109, 3) := by decide +kernel
theorem d_X10_check_15 : decode c_X10_check 15 = .ok (.iconst 1, 1) := by decide +kernel
theorem d_X10_check_16 : decode c_X10_check 16 = .ok (.isub, 1) := by decide +kernel
theorem d_X10_check_17 : decode c_X10_check 17 = .ok (.invokestatic 121, 3) := by decide +kernel
theorem d_X10_check_20 : decode c_X10_check 20 = .ok (.ifCond .eq 12, 3) := by decide +kernel
theorem d_X10_check_23 : decode c_X10_check 23 = .ok (.iload_n 2, 1) := by decide +kernel
theorem d_X10_check_24 : decode c_X10_check 24 = .ok (.bipush 6, 2) := by decide +kernel
theorem d_X10_check_26 : decode c_X10_check 26 = .ok (.invokestatic 121, 3) := by decide +kernel
theorem d_X10_check_29 : decode c_X10_check 29 = .ok (.ifCond .ne 6, 3) := by decide +kernel
theorem d_X10_check_32 : decode c_X10_check 32 = .ok (.bipush (-3), 2) := by decide +kernel
theorem d_X10_check_34 : decode c_X10_check 34 = .ok (.ireturn, 1) := by decide +kernel
theorem d_X10_check_35 : decode c_X10_check 35 = .ok (.aload_n 0, 1) := by decide +kernel
theorem d_X10_check_36 : decode c_X10_check 36 = .ok (.iload_n 1, 1) := by decide +kernel
theorem d_X10_check_37 : decode c_X10_check 37 = .ok (.iload_n 2, 1) := by decide +kernel
theorem d_X10_check_38 : decode c_X10_check 38 = .ok (.invokevirtual 169, 3) := by decide +kernel
theorem d_X10_check_41 : decode c_X10_check 41 = .ok (.iconst 0, 1) := by decide +kernel
theorem d_X10_check_42 : decode c_X10_check 42 = .ok (.ireturn, 1) := by decide +kernel
theorem d_X10_length_0 : decode c_X10_length 0 = .ok (.aload_n 0, 1) := by decide +kernel
theorem d_X10_length_1 : decode c_X10_length 1 = .ok (.iload_n 1, 1) := by decide +kernel
theorem d_X10_length_2 : decode c_X10_length 2 = .ok (.iload_n 2, 1) := by decide +kernel
theorem d_X10_length_3 : decode c_X10_length 3 = .ok (.invokevirtual 172, 3) := by decide +kernel
theorem d_X10_length_6 : decode c_X10_length 6 = .ok (.istore_n 3, 1) := by decide +kernel
theorem d_X10_length_7 : decode c_X10_length 7 = .ok (.iload_n 3, 1) := by decide +kernel
theorem d_X10_length_8 : decode c_X10_length 8 = .ok (.ifCond .ge 7, 3) := by decide +kernel
theorem d_X10_length_11 : decode c_X10_length 11 = .ok (.iload_n 3, 1) := by decide +kernel
theorem d_X10_length_12 : decode c_X10_length 12 = .ok (.goto 7, 3) := by decide +kernel
theorem d_X10_length_15 : decode c_X10_length 15 = .ok (.aload_n 0, 1) := by decide +kernel
theorem d_X10_length_16 : decode c_X10_length 16 = .ok (.getfield 150, 3) := by decide +kernel
theorem d_X10_length_19 : decode c_X10_length 19 = .ok (.ireturn, 1) := by decide +kernel
theorem d_X10_element_0 : decode c_X10_element 0 = .ok (.aload_n 0, 1) := by decide +kernel
theorem d_X10_element_1 : decode c_X10_element 1 = .ok (.iload_n 1, 1) := by decide +kernel
theorem d_X10_element_2 : decode c_X10_element 2 = .ok (.iload_n 2, 1) := by decide +kernel
theorem d_X10_element_3 : decode c_X10_element 3 = .ok (.invokevirtual 172, 3) := by decide +kernel
theorem d_X10_element_6 : decode c_X10_element 6 = .ok (.istore 4, 2) := by decide +kernel
theorem d_X10_element_8 : decode c_X10_element 8 = .ok (.iload 4, 2) := by decide +kernel
theorem d_X10_element_10 : decode c_X10_element 10 = .ok (.ifCond .ge 8, 3) := by decide +kernel
theorem d_X10_element_13 : decode c_X10_element 13 = .ok (.iload 4, 2) := by decide +kernel
theorem d_X10_element_15 : decode c_X10_element 15 = .ok (.goto 27, 3) := by decide +kernel
theorem d_X10_element_18 : decode c_X10_element 18 = .ok (.iload_n 3, 1) := by decide +kernel
theorem d_X10_element_19 : decode c_X10_element 19 = .ok (.aload_n 0, 1) := by decide +kernel
theorem d_X10_element_20 : decode c_X10_element 20 = .ok (.getfield 150, 3) := by decide +kernel
theorem d_X10_element_23 : decode c_X10_element 23 = .ok (.iconst 1, 1) := by decide +kernel
theorem d_X10_element_24 : decode c_X10_element 24 = .ok (.isub, 1) := by decide +kernel
theorem d_X10_element_25 : decode c_X10_element 25 = .ok (.invokestatic 121, 3) := by decide +kernel
theorem d_X10_element_28 : decode c_X10_element 28 = .ok (.ifCond .eq 12, 3) := by decide +kernel
theorem d_X10_element_31 : decode c_X10_element 31 = .ok (.aload_n 0, 1) := by decide +kernel
theorem d_X10_element_32 : decode c_X10_element 32 = .ok (.getfield 77, 3) := by decide +kernel
theorem d_X10_element_35 : decode c_X10_element 35 = .ok (.iload_n 3, 1) := by decide +kernel
theorem d_X10_element_36 : decode c_X10_element 36 = .ok (.iaload, 1) := by decide +kernel
theorem d_X10_element_37 : decode c_X10_element 37 = .ok (.goto 5, 3) := by decide +kernel
theorem d_X10_element_40 : decode c_X10_element 40 = .ok (.bipush (-3), 2) := by decide +kernel
theorem d_X10_element_42 : decode c_X10_element 42 = .ok (.ireturn, 1) := by decide +kernel
theorem d_X10_behaviourOf_0 : decode c_X10_behaviourOf 0 = .ok (.iload_n 1, 1) := by decide +kernel
theorem d_X10_behaviourOf_1 : decode c_X10_behaviourOf 1 = .ok (.bipush 16, 2) := by decide +kernel
theorem d_X10_behaviourOf_3 : decode c_X10_behaviourOf 3 = .ok (.if_icmp .ge 12, 3) := by decide +kernel
theorem d_X10_behaviourOf_6 : decode c_X10_behaviourOf 6 = .ok (.aload_n 0, 1) := by decide +kernel
theorem d_X10_behaviourOf_7 : decode c_X10_behaviourOf 7 = .ok (.getfield 29, 3) := by decide +kernel
theorem d_X10_behaviourOf_10 : decode c_X10_behaviourOf 10 = .ok (.iload_n 1, 1) := by decide +kernel
theorem d_X10_behaviourOf_11 : decode c_X10_behaviourOf 11 = .ok (.iaload, 1) := by decide +kernel
theorem d_X10_behaviourOf_12 : decode c_X10_behaviourOf 12 = .ok (.goto 12, 3) := by decide +kernel
theorem d_X10_behaviourOf_15 : decode c_X10_behaviourOf 15 = .ok (.aload_n 0, 1) := by decide +kernel
theorem d_X10_behaviourOf_16 : decode c_X10_behaviourOf 16 = .ok (.getfield 41, 3) := by decide +kernel
theorem d_X10_behaviourOf_19 : decode c_X10_behaviourOf 19 = .ok (.iload_n 1, 1) := by decide +kernel
theorem d_X10_behaviourOf_20 : decode c_X10_behaviourOf 20 = .ok (.bipush 16, 2) := by decide +kernel
theorem d_X10_behaviourOf_22 : decode c_X10_behaviourOf 22 = .ok (.isub, 1) := by decide +kernel
theorem d_X10_behaviourOf_23 : decode c_X10_behaviourOf 23 = .ok (.iaload, 1) := by decide +kernel
theorem d_X10_behaviourOf_24 : decode c_X10_behaviourOf 24 = .ok (.ireturn, 1) := by decide +kernel
theorem d_X10_answer_0 : decode c_X10_answer 0 = .ok (.aload_n 0, 1) := by decide +kernel
theorem d_X10_answer_1 : decode c_X10_answer 1 = .ok (.iload_n 1, 1) := by decide +kernel
theorem d_X10_answer_2 : decode c_X10_answer 2 = .ok (.putfield 175, 3) := by decide +kernel
theorem d_X10_answer_5 : decode c_X10_answer 5 = .ok (.aload_n 0, 1) := by decide +kernel
theorem d_X10_answer_6 : decode c_X10_answer 6 = .ok (.iload_n 2, 1) := by decide +kernel
theorem d_X10_answer_7 : decode c_X10_answer 7 = .ok (.putfield 178, 3) := by decide +kernel
theorem d_X10_answer_10 : decode c_X10_answer 10 = .ok (.return_, 1) := by decide +kernel
theorem d_X10_enter_0 : decode c_X10_enter 0 = .ok (.aload_n 0, 1) := by decide +kernel
theorem d_X10_enter_1 : decode c_X10_enter 1 = .ok (.getfield 77, 3) := by decide +kernel
theorem d_X10_enter_4 : decode c_X10_enter 4 = .ok (.iload_n 1, 1) := by decide +kernel
theorem d_X10_enter_5 : decode c_X10_enter 5 = .ok (.iaload, 1) := by decide +kernel
theorem d_X10_enter_6 : decode c_X10_enter 6 = .ok (.istore 4, 2) := by decide +kernel
theorem d_X10_enter_8 : decode c_X10_enter 8 = .ok (.aload_n 0, 1) := by decide +kernel
theorem d_X10_enter_9 : decode c_X10_enter 9 = .ok (.getfield 80, 3) := by decide +kernel
theorem d_X10_enter_12 : decode c_X10_enter 12 = .ok (.iload_n 1, 1) := by decide +kernel
theorem d_X10_enter_13 : decode c_X10_enter 13 = .ok (.iload_n 1, 1) := by decide +kernel
theorem d_X10_enter_14 : decode c_X10_enter 14 = .ok (.ifCond .le 27, 3) := by decide +kernel
theorem d_X10_enter_17 : decode c_X10_enter 17 = .ok (.aload_n 0, 1) := by decide +kernel
theorem d_X10_enter_18 : decode c_X10_enter 18 = .ok (.getfield 77, 3) := by decide +kernel
theorem d_X10_enter_21 : decode c_X10_enter 21 = .ok (.iload_n 1, 1) := by decide +kernel
theorem d_X10_enter_22 : decode c_X10_enter 22 = .ok (.iconst 1, 1) := by decide +kernel
theorem d_X10_enter_23 : decode c_X10_enter 23 = .ok (.isub, 1) := by decide +kernel
theorem d_X10_enter_24 : decode c_X10_enter 24 = .ok (.iaload, 1) := by decide +kernel
theorem d_X10_enter_25 : decode c_X10_enter 25 = .ok (.bipush 16, 2) := by decide +kernel
theorem d_X10_enter_27 : decode c_X10_enter 27 = .ok (.if_icmp .lt 14, 3) := by decide +kernel
theorem d_X10_enter_30 : decode c_X10_enter 30 = .ok (.aload_n 0, 1) := by decide +kernel
theorem d_X10_enter_31 : decode c_X10_enter 31 = .ok (.getfield 80, 3) := by decide +kernel
theorem d_X10_enter_34 : decode c_X10_enter 34 = .ok (.iload_n 1, 1) := by decide +kernel
theorem d_X10_enter_35 : decode c_X10_enter 35 = .ok (.iconst 1, 1) := by decide +kernel
theorem d_X10_enter_36 : decode c_X10_enter 36 = .ok (.isub, 1) := by decide +kernel
theorem d_X10_enter_37 : decode c_X10_enter 37 = .ok (.iaload, 1) := by decide +kernel
theorem d_X10_enter_38 : decode c_X10_enter 38 = .ok (.goto 7, 3) := by decide +kernel
theorem d_X10_enter_41 : decode c_X10_enter 41 = .ok (.aload_n 0, 1) := by decide +kernel
theorem d_X10_enter_42 : decode c_X10_enter 42 = .ok (.getfield 181, 3) := by decide +kernel
theorem d_X10_enter_45 : decode c_X10_enter 45 = .ok (.iastore, 1) := by decide +kernel
theorem d_X10_enter_46 : decode c_X10_enter 46 = .ok (.iload 4, 2) := by decide +kernel
theorem d_X10_enter_48 : decode c_X10_enter 48 = .ok (.bipush 32, 2) := by decide +kernel
theorem d_X10_enter_50 : decode c_X10_enter 50 = .ok (.if_icmp .ne 70, 3) := by decide +kernel
theorem d_X10_enter_53 : decode c_X10_enter 53 = .ok (.iload_n 3, 1) := by decide +kernel
theorem d_X10_enter_54 : decode c_X10_enter 54 = .ok (.iconst 4, 1) := by decide +kernel
theorem d_X10_enter_55 : decode c_X10_enter 55 = .ok (.if_icmp .ge 22, 3) := by decide +kernel
theorem d_X10_enter_58 : decode c_X10_enter 58 = .ok (.aload_n 0, 1) := by decide +kernel
theorem d_X10_enter_59 : decode c_X10_enter 59 = .ok (.getfield 47, 3) := by decide +kernel
theorem d_X10_enter_62 : decode c_X10_enter 62 = .ok (.iconst 4, 1) := by decide +kernel
theorem d_X10_enter_63 : decode c_X10_enter 63 = .ok (.iload_n 2, 1) := by decide +kernel
theorem d_X10_enter_64 : decode c_X10_enter 64 = .ok (.imul, 1) := by decide +kernel
theorem d_X10_enter_65 : decode c_X10_enter 65 = .ok (.iload_n 3, 1) := by decide +kernel
theorem d_X10_enter_66 : decode c_X10_enter 66 = .ok (.iadd, 1) := by decide +kernel
theorem d_X10_enter_67 : decode c_X10_enter 67 = .ok (.iaload, 1) := by decide +kernel
theorem d_X10_enter_68 : decode c_X10_enter 68 = .ok (.iconst 4, 1) := by decide +kernel
theorem d_X10_enter_69 : decode c_X10_enter 69 = .ok (.iand, 1) := by decide +kernel
theorem d_X10_enter_70 : decode c_X10_enter 70 = .ok (.ifCond .eq 7, 3) := by decide +kernel
theorem d_X10_enter_73 : decode c_X10_enter 73 = .ok (.iconst 1, 1) := by decide +kernel
theorem d_X10_enter_74 : decode c_X10_enter 74 = .ok (.goto 4, 3) := by decide +kernel
theorem d_X10_enter_77 : decode c_X10_enter 77 = .ok (.iconst 0, 1) := by decide +kernel
theorem d_X10_enter_78 : decode c_X10_enter 78 = .ok (.istore 5, 2) := by decide +kernel
theorem d_X10_enter_80 : decode c_X10_enter 80 = .ok (.aload_n 0, 1) := by decide +kernel
theorem d_X10_enter_81 : decode c_X10_enter 81 = .ok (.iload 5, 2) := by decide +kernel
theorem d_X10_enter_83 : decode c_X10_enter 83 = .ok (.iload 5, 2) := by decide +kernel
theorem d_X10_enter_85 : decode c_X10_enter 85 = .ok (.ifCond .eq 10, 3) := by decide +kernel
theorem d_X10_enter_88 : decode c_X10_enter 88 = .ok (.bipush 33, 2) := by decide +kernel
theorem d_X10_enter_90 : decode c_X10_enter 90 = .ok (.iload_n 3, 1) := by decide +kernel
theorem d_X10_enter_91 : decode c_X10_enter 91 = .ok (.iadd, 1) := by decide +kernel
theorem d_X10_enter_92 : decode c_X10_enter 92 = .ok (.goto 23, 3) := by decide +kernel
theorem d_X10_enter_95 : decode c_X10_enter 95 = .ok (.iload_n 3, 1) := by decide +kernel
theorem d_X10_enter_96 : decode c_X10_enter 96 = .ok (.iconst 4, 1) := by decide +kernel
theorem d_X10_enter_97 : decode c_X10_enter 97 = .ok (.if_icmp .ge 16, 3) := by decide +kernel
theorem d_X10_enter_100 : decode c_X10_enter 100 = .ok (.iconst 3, 1) := by decide +kernel
theorem d_X10_enter_101 : decode c_X10_enter 101 = .ok (.aload_n 0, 1) := by decide +kernel
theorem d_X10_enter_102 : decode c_X10_enter 102 = .ok (.getfield 80, 3) := by decide +kernel
theorem d_X10_enter_105 : decode c_X10_enter 105 = .ok (.iload_n 1, 1) := by decide +kernel
theorem d_X10_enter_106 : decode c_X10_enter 106 = .ok (.iaload, 1) := by decide +kernel
theorem d_X10_enter_107 : decode c_X10_enter 107 = .ok (.imul, 1) := by decide +kernel
theorem d_X10_enter_108 : decode c_X10_enter 108 = .ok (.iload_n 3, 1) := by decide +kernel
theorem d_X10_enter_109 : decode c_X10_enter 109 = .ok (.iadd, 1) := by decide +kernel
theorem d_X10_enter_110 : decode c_X10_enter 110 = .ok (.goto 5, 3) := by decide +kernel
theorem d_X10_enter_113 : decode c_X10_enter 113 = .ok (.bipush 7, 2) := by decide +kernel
theorem d_X10_enter_115 : decode c_X10_enter 115 = .ok (.invokevirtual 184, 3) := by decide +kernel
theorem d_X10_enter_118 : decode c_X10_enter 118 = .ok (.iconst 0, 1) := by decide +kernel
theorem d_X10_enter_119 : decode c_X10_enter 119 = .ok (.ireturn, 1) := by decide +kernel
theorem d_X10_enter_120 : decode c_X10_enter 120 = .ok (.aload_n 0, 1) := by decide +kernel
theorem d_X10_enter_121 : decode c_X10_enter 121 = .ok (.iload 4, 2) := by decide +kernel
theorem d_X10_enter_123 : decode c_X10_enter 123 = .ok (.invokevirtual 188, 3) := by decide +kernel
theorem d_X10_enter_126 : decode c_X10_enter 126 = .ok (.istore 5, 2) := by decide +kernel
theorem d_X10_enter_128 : decode c_X10_enter 128 = .ok (.iload 5, 2) := by decide +kernel
theorem d_X10_enter_130 : decode c_X10_enter 130 = .ok (.iconst 2, 1) := by decide +kernel
theorem d_X10_enter_131 : decode c_X10_enter 131 = .ok (.if_icmp .ne 31, 3) := by decide +kernel
theorem d_X10_enter_134 : decode c_X10_enter 134 = .ok (.aload_n 0, 1) := by decide +kernel
theorem d_X10_enter_135 : decode c_X10_enter 135 = .ok (.iconst 0, 1) := by decide +kernel
theorem d_X10_enter_136 : decode c_X10_enter 136 = .ok (.iload 4, 2) := by decide +kernel
theorem d_X10_enter_138 : decode c_X10_enter 138 = .ok (.bipush 16, 2) := by decide +kernel
theorem d_X10_enter_140 : decode c_X10_enter 140 = .ok (.if_icmp .ge 10, 3) := by decide +kernel
theorem d_X10_enter_143 : decode c_X10_enter 143 = .ok (.aload_n 0, 1) := by decide +kernel
theorem d_X10_enter_144 : decode c_X10_enter 144 = .ok (.getfield 181, 3) := by decide +kernel
theorem d_X10_enter_147 : decode c_X10_enter 147 = .ok (.goto 9, 3) := by decide +kernel
theorem d_X10_enter_150 : decode c_X10_enter 150 = .ok (.aload_n 0, 1) := by decide +kernel
theorem d_X10_enter_151 : decode c_X10_enter 151 = .ok (.getfield 80, 3) := by decide +kernel
theorem d_X10_enter_154 : decode c_X10_enter 154 = .ok (.iload_n 1, 1) := by decide +kernel
theorem d_X10_enter_155 : decode c_X10_enter 155 = .ok (.iaload, 1) := by decide +kernel
theorem d_X10_enter_156 : decode c_X10_enter 156 = .ok (.invokevirtual 184, 3) := by decide +kernel
theorem d_X10_enter_159 : decode c_X10_enter 159 = .ok (.goto 110, 3) := by decide +kernel
theorem d_X10_enter_162 : decode c_X10_enter 162 = .ok (.iload 5, 2) := by decide +kernel
theorem d_X10_enter_164 : decode c_X10_enter 164 = .ok (.iconst 4, 1) := by decide +kernel
theorem d_X10_enter_165 : decode c_X10_enter 165 = .ok (.if_icmp .ne 15, 3) := by decide +kernel
theorem d_X10_enter_168 : decode c_X10_enter 168 = .ok (.aload_n 0, 1) := by decide +kernel
theorem d_X10_enter_169 : decode c_X10_enter 169 = .ok (.iconst 1, 1) := by decide +kernel
theorem d_X10_enter_170 : decode c_X10_enter 170 = .ok (.iconst 1, 1) := by decide +kernel
theorem d_X10_enter_171 : decode c_X10_enter 171 = .ok (.iload 4, 2) := by decide +kernel
theorem d_X10_enter_173 : decode c_X10_enter 173 = .ok (.iadd, 1) := by decide +kernel
theorem d_X10_enter_174 : decode c_X10_enter 174 = .ok (.invokevirtual 184, 3) := by decide +kernel
theorem d_X10_enter_177 : decode c_X10_enter 177 = .ok (.goto 92, 3) := by decide +kernel
theorem d_X10_enter_180 : decode c_X10_enter 180 = .ok (.iload 5, 2) := by decide +kernel
theorem d_X10_enter_182 : decode c_X10_enter 182 = .ok (.iconst 3, 1) := by decide +kernel
theorem d_X10_enter_183 : decode c_X10_enter 183 = .ok (.if_icmp .ne 18, 3) := by decide +kernel
theorem d_X10_enter_186 : decode c_X10_enter 186 = .ok (.iload_n 3, 1) := by decide +kernel
theorem d_X10_enter_187 : decode c_X10_enter 187 = .ok (.iconst 3, 1) := by decide +kernel
theorem d_X10_enter_188 : decode c_X10_enter 188 = .ok (.if_icmp .le 13, 3) := by decide +kernel
theorem d_X10_enter_191 : decode c_X10_enter 191 = .ok (.aload_n 0, 1) := by decide +kernel
theorem d_X10_enter_192 : decode c_X10_enter 192 = .ok (.iconst 1, 1) := by decide +kernel
theorem d_X10_enter_193 : decode c_X10_enter 193 = .ok (.bipush 50, 2) := by decide +kernel
theorem d_X10_enter_195 : decode c_X10_enter 195 = .ok (.invokevirtual 184, 3) := by decide +kernel
theorem d_X10_enter_198 : decode c_X10_enter 198 = .ok (.goto 71, 3) := by decide +kernel
theorem d_X10_enter_201 : decode c_X10_enter 201 = .ok (.aload_n 0, 1) := by decide +kernel
theorem d_X10_enter_202 : decode c_X10_enter 202 = .ok (.getfield 83, 3) := by decide +kernel
theorem d_X10_enter_205 : decode c_X10_enter 205 = .ok (.iload_n 1, 1) := by decide +kernel
theorem d_X10_enter_206 : decode c_X10_enter 206 = .ok (.iconst 1, 1) := by decide +kernel
theorem d_X10_enter_207 : decode c_X10_enter 207 = .ok (.iastore, 1) := by decide +kernel
theorem d_X10_enter_208 : decode c_X10_enter 208 = .ok (.aload_n 0, 1) := by decide +kernel
theorem d_X10_enter_209 : decode c_X10_enter 209 = .ok (.iload 5, 2) := by decide +kernel
theorem d_X10_enter_211 : decode c_X10_enter 211 = .ok (.iconst 3, 1) := by decide +kernel
theorem d_X10_enter_212 : decode c_X10_enter 212 = .ok (.if_icmp .ne 19, 3) := by decide +kernel
theorem d_X10_enter_215 : decode c_X10_enter 215 = .ok (.iload 4, 2) := by decide +kernel
theorem d_X10_enter_217 : decode c_X10_enter 217 = .ok (.bipush 16, 2) := by decide +kernel
theorem d_X10_enter_219 : decode c_X10_enter 219 = .ok (.if_icmp .ge 12, 3) := by decide +kernel
theorem d_X10_enter_222 : decode c_X10_enter 222 = .ok (.aload_n 0, 1) := by decide +kernel
theorem d_X10_enter_223 : decode c_X10_enter 223 = .ok (.getfield 181, 3) := by decide +kernel
theorem d_X10_enter_226 : decode c_X10_enter 226 = .ok (.iconst 1, 1) := by decide +kernel
theorem d_X10_enter_227 : decode c_X10_enter 227 = .ok (.iadd, 1) := by decide +kernel
theorem d_X10_enter_228 : decode c_X10_enter 228 = .ok (.goto 7, 3) := by decide +kernel
theorem d_X10_enter_231 : decode c_X10_enter 231 = .ok (.aload_n 0, 1) := by decide +kernel
theorem d_X10_enter_232 : decode c_X10_enter 232 = .ok (.getfield 181, 3) := by decide +kernel
theorem d_X10_enter_235 : decode c_X10_enter 235 = .ok (.putfield 181, 3) := by decide +kernel
theorem d_X10_enter_238 : decode c_X10_enter 238 = .ok (.aload_n 0, 1) := by decide +kernel
theorem d_X10_enter_239 : decode c_X10_enter 239 = .ok (.getfield 80, 3) := by decide +kernel
theorem d_X10_enter_242 : decode c_X10_enter 242 = .ok (.iload_n 1, 1) := by decide +kernel
theorem d_X10_enter_243 : decode c_X10_enter 243 = .ok (.iload 5, 2) := by decide +kernel
theorem d_X10_enter_245 : decode c_X10_enter 245 = .ok (.iconst 3, 1) := by decide +kernel
theorem d_X10_enter_246 : decode c_X10_enter 246 = .ok (.if_icmp .ne 14, 3) := by decide +kernel
theorem d_X10_enter_249 : decode c_X10_enter 249 = .ok (.aload_n 0, 1) := by decide +kernel
theorem d_X10_enter_250 : decode c_X10_enter 250 = .ok (.getfield 80, 3) := by decide +kernel
theorem d_X10_enter_253 : decode c_X10_enter 253 = .ok (.iload_n 1, 1) := by decide +kernel
theorem d_X10_enter_254 : decode c_X10_enter 254 = .ok (.iaload, 1) := by decide +kernel
theorem d_X10_enter_255 : decode c_X10_enter 255 = .ok (.iconst 1, 1) := by decide +kernel
theorem d_X10_enter_256 : decode c_X10_enter 256 = .ok (.iadd, 1) := by decide +kernel
theorem d_X10_enter_257 : decode c_X10_enter 257 = .ok (.goto 9, 3) := by decide +kernel
theorem d_X10_enter_260 : decode c_X10_enter 260 = .ok (.aload_n 0, 1) := by decide +kernel
theorem d_X10_enter_261 : decode c_X10_enter 261 = .ok (.getfield 80, 3) := by decide +kernel
theorem d_X10_enter_264 : decode c_X10_enter 264 = .ok (.iload_n 1, 1) := by decide +kernel
theorem d_X10_enter_265 : decode c_X10_enter 265 = .ok (.iaload, 1) := by decide +kernel
theorem d_X10_enter_266 : decode c_X10_enter 266 = .ok (.iastore, 1) := by decide +kernel
theorem d_X10_enter_267 : decode c_X10_enter 267 = .ok (.iconst 1, 1) := by decide +kernel
theorem d_X10_enter_268 : decode c_X10_enter 268 = .ok (.ireturn, 1) := by decide +kernel
theorem d_X10_enter_269 : decode c_X10_enter 269 = .ok (.iconst 0, 1) := by decide +kernel
theorem d_X10_enter_270 : decode c_X10_enter 270 = .ok (.ireturn, 1) := by decide +kernel
theorem d_X10_resume_0 : decode c_X10_resume 0 = .ok (.aload_n 0, 1) := by decide +kernel
theorem d_X10_resume_1 : decode c_X10_resume 1 = .ok (.aload_n 0, 1) := by decide +kernel
theorem d_X10_resume_2 : decode c_X10_resume 2 = .ok (.getfield 77, 3) := by decide +kernel
theorem d_X10_resume_5 : decode c_X10_resume 5 = .ok (.iload_n 1, 1) := by decide +kernel
theorem d_X10_resume_6 : decode c_X10_resume 6 = .ok (.iaload, 1) := by decide +kernel
theorem d_X10_resume_7 : decode c_X10_resume 7 = .ok (.invokevirtual 188, 3) := by decide +kernel
theorem d_X10_resume_10 : decode c_X10_resume 10 = .ok (.istore_n 2, 1) := by decide +kernel
theorem d_X10_resume_11 : decode c_X10_resume 11 = .ok (.aload_n 0, 1) := by decide +kernel
theorem d_X10_resume_12 : decode c_X10_resume 12 = .ok (.getfield 175, 3) := by decide +kernel
theorem d_X10_resume_15 : decode c_X10_resume 15 = .ok (.ifCond .eq 20, 3) := by decide +kernel
theorem d_X10_resume_18 : decode c_X10_resume 18 = .ok (.iload_n 2, 1) := by decide +kernel
theorem d_X10_resume_19 : decode c_X10_resume 19 = .ok (.iconst 5, 1) := by decide +kernel
theorem d_X10_resume_20 : decode c_X10_resume 20 = .ok (.if_icmp .ne 13, 3) := by decide +kernel
theorem d_X10_resume_23 : decode c_X10_resume 23 = .ok (.aload_n 0, 1) := by decide +kernel
theorem d_X10_resume_24 : decode c_X10_resume 24 = .ok (.iconst 0, 1) := by decide +kernel
theorem d_X10_resume_25 : decode c_X10_resume 25 = .ok (.aload_n 0, 1) := by decide +kernel
theorem d_X10_resume_26 : decode c_X10_resume 26 = .ok (.getfield 178, 3) := by decide +kernel
theorem d_X10_resume_29 : decode c_X10_resume 29 = .ok (.ineg, 1) := by decide +kernel
theorem d_X10_resume_30 : decode c_X10_resume 30 = .ok (.invokevirtual 184, 3) := by decide +kernel
theorem d_X10_resume_33 : decode c_X10_resume 33 = .ok (.iconst 0, 1) := by decide +kernel
theorem d_X10_resume_34 : decode c_X10_resume 34 = .ok (.ireturn, 1) := by decide +kernel
theorem d_X10_resume_35 : decode c_X10_resume 35 = .ok (.iload_n 2, 1) := by decide +kernel
theorem d_X10_resume_36 : decode c_X10_resume 36 = .ok (.iconst 1, 1) := by decide +kernel
theorem d_X10_resume_37 : decode c_X10_resume 37 = .ok (.if_icmp .ne 32, 3) := by decide +kernel
theorem d_X10_resume_40 : decode c_X10_resume 40 = .ok (.aload_n 0, 1) := by decide +kernel
theorem d_X10_resume_41 : decode c_X10_resume 41 = .ok (.getfield 83, 3) := by decide +kernel
theorem d_X10_resume_44 : decode c_X10_resume 44 = .ok (.iload_n 1, 1) := by decide +kernel
theorem d_X10_resume_45 : decode c_X10_resume 45 = .ok (.iaload, 1) := by decide +kernel
theorem d_X10_resume_46 : decode c_X10_resume 46 = .ok (.iconst 1, 1) := by decide +kernel
theorem d_X10_resume_47 : decode c_X10_resume 47 = .ok (.if_icmp .ne 22, 3) := by decide +kernel
theorem d_X10_resume_50 : decode c_X10_resume 50 = .ok (.aload_n 0, 1) := by decide +kernel
theorem d_X10_resume_51 : decode c_X10_resume 51 = .ok (.getfield 83, 3) := by decide +kernel
theorem d_X10_resume_54 : decode c_X10_resume 54 = .ok (.iload_n 1, 1) := by decide +kernel
theorem d_X10_resume_55 : decode c_X10_resume 55 = .ok (.iconst 2, 1) := by decide +kernel
theorem d_X10_resume_56 : decode c_X10_resume 56 = .ok (.iastore, 1) := by decide +kernel
theorem d_X10_resume_57 : decode c_X10_resume 57 = .ok (.aload_n 0, 1) := by decide +kernel
theorem d_X10_resume_58 : decode c_X10_resume 58 = .ok (.getfield 86, 3) := by decide +kernel
theorem d_X10_resume_61 : decode c_X10_resume 61 = .ok (.iload_n 1, 1) := by decide +kernel
theorem d_X10_resume_62 : decode c_X10_resume 62 = .ok (.aload_n 0, 1) := by decide +kernel
theorem d_X10_resume_63 : decode c_X10_resume 63 = .ok (.getfield 178, 3) := by decide +kernel
theorem d_X10_resume_66 : decode c_X10_resume 66 = .ok (.iastore, 1) := by decide +kernel
theorem d_X10_resume_67 : decode c_X10_resume 67 = .ok (.iconst 1, 1) := by decide +kernel
theorem d_X10_resume_68 : decode c_X10_resume 68 = .ok (.ireturn, 1) := by decide +kernel
theorem d_X10_resume_69 : decode c_X10_resume 69 = .ok (.aload_n 0, 1) := by decide +kernel
theorem d_X10_resume_70 : decode c_X10_resume 70 = .ok (.iload_n 2, 1) := by decide +kernel
theorem d_X10_resume_71 : decode c_X10_resume 71 = .ok (.iconst 1, 1) := by decide +kernel
theorem d_X10_resume_72 : decode c_X10_resume 72 = .ok (.if_icmp .ne 17, 3) := by decide +kernel
theorem d_X10_resume_75 : decode c_X10_resume 75 = .ok (.aload_n 0, 1) := by decide +kernel
theorem d_X10_resume_76 : decode c_X10_resume 76 = .ok (.getfield 86, 3) := by decide +kernel
theorem d_X10_resume_79 : decode c_X10_resume 79 = .ok (.iload_n 1, 1) := by decide +kernel
theorem d_X10_resume_80 : decode c_X10_resume 80 = .ok (.iaload, 1) := by decide +kernel
theorem d_X10_resume_81 : decode c_X10_resume 81 = .ok (.aload_n 0, 1) := by decide +kernel
theorem d_X10_resume_82 : decode c_X10_resume 82 = .ok (.getfield 178, 3) := by decide +kernel
theorem d_X10_resume_85 : decode c_X10_resume 85 = .ok (.iadd, 1) := by decide +kernel
theorem d_X10_resume_86 : decode c_X10_resume 86 = .ok (.goto 21, 3) := by decide +kernel
theorem d_X10_resume_89 : decode c_X10_resume 89 = .ok (.iload_n 2, 1) := by decide +kernel
theorem d_X10_resume_90 : decode c_X10_resume 90 = .ok (.iconst 3, 1) := by decide +kernel
theorem d_X10_resume_91 : decode c_X10_resume 91 = .ok (.if_icmp .ne 12, 3) := by decide +kernel
theorem d_X10_resume_94 : decode c_X10_resume 94 = .ok (.iconst 2, 1) := by decide +kernel
theorem d_X10_resume_95 : decode c_X10_resume 95 = .ok (.aload_n 0, 1) := by decide +kernel
theorem d_X10_resume_96 : decode c_X10_resume 96 = .ok (.getfield 178, 3) := by decide +kernel
theorem d_X10_resume_99 : decode c_X10_resume 99 = .ok (.imul, 1) := by decide +kernel
theorem d_X10_resume_100 : decode c_X10_resume 100 = .ok (.goto 7, 3) := by decide +kernel
theorem d_X10_resume_103 : decode c_X10_resume 103 = .ok (.aload_n 0, 1) := by decide +kernel
theorem d_X10_resume_104 : decode c_X10_resume 104 = .ok (.getfield 178, 3) := by decide +kernel
theorem d_X10_resume_107 : decode c_X10_resume 107 = .ok (.putfield 178, 3) := by decide +kernel
theorem d_X10_resume_110 : decode c_X10_resume 110 = .ok (.iconst 0, 1) := by decide +kernel
theorem d_X10_resume_111 : decode c_X10_resume 111 = .ok (.ireturn, 1) := by decide +kernel
theorem d_X10_invoke_0 : decode c_X10_invoke 0 = .ok (.aload_n 0, 1) := by decide +kernel
theorem d_X10_invoke_1 : decode c_X10_invoke 1 = .ok (.iload_n 1, 1) := by decide +kernel
theorem d_X10_invoke_2 : decode c_X10_invoke 2 = .ok (.iload_n 2, 1) := by decide +kernel
theorem d_X10_invoke_3 : decode c_X10_invoke 3 = .ok (.invokevirtual 172, 3) := by decide +kernel
theorem d_X10_invoke_6 : decode c_X10_invoke 6 = .ok (.istore 4, 2) := by decide +kernel
theorem d_X10_invoke_8 : decode c_X10_invoke 8 = .ok (.iload 4, 2) := by decide +kernel
theorem d_X10_invoke_10 : decode c_X10_invoke 10 = .ok (.ifCond .ge 6, 3) := by decide +kernel
theorem d_X10_invoke_13 : decode c_X10_invoke 13 = .ok (.iload 4, 2) := by decide +kernel
theorem d_X10_invoke_15 : decode c_X10_invoke 15 = .ok (.ireturn, 1) := by decide +kernel
theorem d_X10_invoke_16 : decode c_X10_invoke 16 = .ok (.aload_n 0, 1) := by decide +kernel
theorem d_X10_invoke_17 : decode c_X10_invoke 17 = .ok (.iconst 0, 1) := by decide +kernel
theorem d_X10_invoke_18 : decode c_X10_invoke 18 = .ok (.putfield 112, 3) := by decide +kernel
theorem d_X10_invoke_21 : decode c_X10_invoke 21 = .ok (.aload_n 0, 1) := by decide +kernel
theorem d_X10_invoke_22 : decode c_X10_invoke 22 = .ok (.iload_n 2, 1) := by decide +kernel
theorem d_X10_invoke_23 : decode c_X10_invoke 23 = .ok (.iconst 4, 1) := by decide +kernel
theorem d_X10_invoke_24 : decode c_X10_invoke 24 = .ok (.if_icmp .ge 7, 3) := by decide +kernel
theorem d_X10_invoke_27 : decode c_X10_invoke 27 = .ok (.iload_n 3, 1) := by decide +kernel
theorem d_X10_invoke_28 : decode c_X10_invoke 28 = .ok (.goto 4, 3) := by decide +kernel
theorem d_X10_invoke_31 : decode c_X10_invoke 31 = .ok (.iconst 0, 1) := by decide +kernel
theorem d_X10_invoke_32 : decode c_X10_invoke 32 = .ok (.putfield 181, 3) := by decide +kernel
theorem d_X10_invoke_35 : decode c_X10_invoke 35 = .ok (.iconst 0, 1) := by decide +kernel
theorem d_X10_invoke_36 : decode c_X10_invoke 36 = .ok (.istore 5, 2) := by decide +kernel
theorem d_X10_invoke_38 : decode c_X10_invoke 38 = .ok (.iconst 1, 1) := by decide +kernel
theorem d_X10_invoke_39 : decode c_X10_invoke 39 = .ok (.istore 6, 2) := by decide +kernel
theorem d_X10_invoke_41 : decode c_X10_invoke 41 = .ok (.iload 5, 2) := by decide +kernel
theorem d_X10_invoke_43 : decode c_X10_invoke 43 = .ok (.ifCond .lt 121, 3) := by decide +kernel
theorem d_X10_invoke_46 : decode c_X10_invoke 46 = .ok (.iload 6, 2) := by decide +kernel
theorem d_X10_invoke_48 : decode c_X10_invoke 48 = .ok (.ifCond .eq 25, 3) := by decide +kernel
theorem d_X10_invoke_51 : decode c_X10_invoke 51 = .ok (.aload_n 0, 1) := by decide +kernel
theorem d_X10_invoke_52 : decode c_X10_invoke 52 = .ok (.getfield 112, 3) := by decide +kernel
theorem d_X10_invoke_55 : decode c_X10_invoke 55 = .ok (.bipush 64, 2) := by decide +kernel
theorem d_X10_invoke_57 : decode c_X10_invoke 57 = .ok (.if_icmp .ne 16, 3) := by decide +kernel
theorem d_X10_invoke_60 : decode c_X10_invoke 60 = .ok (.aload_n 0, 1) := by decide +kernel
theorem d_X10_invoke_61 : decode c_X10_invoke 61 = .ok (.iconst 1, 1) := by decide +kernel
theorem d_X10_invoke_62 : decode c_X10_invoke 62 = .ok (.bipush 99, 2) := by decide +kernel
theorem d_X10_invoke_64 : decode c_X10_invoke 64 = .ok (.invokevirtual 184, 3) := by decide +kernel
theorem d_X10_invoke_67 : decode c_X10_invoke 67 = .ok (.iconst (-1), 1) := by decide +kernel
theorem d_X10_invoke_68 : decode c_X10_invoke 68 = .ok (.istore 5, 2) := by decide +kernel
theorem d_X10_invoke_70 : decode c_X10_invoke 70 = .ok (.goto (-29), 3) := by decide +kernel
theorem d_X10_invoke_73 : decode c_X10_invoke 73 = .ok (.iload 6, 2) := by decide +kernel
theorem d_X10_invoke_75 : decode c_X10_invoke 75 = .ok (.ifCond .eq 60, 3) := by decide +kernel
theorem d_X10_invoke_78 : decode c_X10_invoke 78 = .ok (.aload_n 0, 1) := by decide +kernel
theorem d_X10_invoke_79 : decode c_X10_invoke 79 = .ok (.getfield 89, 3) := by decide +kernel
theorem d_X10_invoke_82 : decode c_X10_invoke 82 = .ok (.aload_n 0, 1) := by decide +kernel
theorem d_X10_invoke_83 : decode c_X10_invoke 83 = .ok (.getfield 112, 3) := by decide +kernel
theorem d_X10_invoke_86 : decode c_X10_invoke 86 = .ok (.aload_n 0, 1) := by decide +kernel
theorem d_X10_invoke_87 : decode c_X10_invoke 87 = .ok (.getfield 77, 3) := by decide +kernel
theorem d_X10_invoke_90 : decode c_X10_invoke 90 = .ok (.iload 5, 2) := by decide +kernel
theorem d_X10_invoke_92 : decode c_X10_invoke 92 = .ok (.iaload, 1) := by decide +kernel
theorem d_X10_invoke_93 : decode c_X10_invoke 93 = .ok (.iastore, 1) := by decide +kernel
theorem d_X10_invoke_94 : decode c_X10_invoke 94 = .ok (.aload_n 0, 1) := by decide +kernel
theorem d_X10_invoke_95 : decode c_X10_invoke 95 = .ok (.dup, 1) := by decide +kernel
theorem d_X10_invoke_96 : decode c_X10_invoke 96 = .ok (.getfield 112, 3) := by decide +kernel
theorem d_X10_invoke_99 : decode c_X10_invoke 99 = .ok (.iconst 1, 1) := by decide +kernel
theorem d_X10_invoke_100 : decode c_X10_invoke 100 = .ok (.iadd, 1) := by decide +kernel
theorem d_X10_invoke_101 : decode c_X10_invoke 101 = .ok (.putfield 112, 3) := by decide +kernel
theorem d_X10_invoke_104 : decode c_X10_invoke 104 = .ok (.aload_n 0, 1) := by decide +kernel
theorem d_X10_invoke_105 : decode c_X10_invoke 105 = .ok (.iload 5, 2) := by decide +kernel
theorem d_X10_invoke_107 : decode c_X10_invoke 107 = .ok (.iload_n 1, 1) := by decide +kernel
theorem d_X10_invoke_108 : decode c_X10_invoke 108 = .ok (.iload_n 2, 1) := by decide +kernel
theorem d_X10_invoke_109 : decode c_X10_invoke 109 = .ok (.invokevirtual 192, 3) := by decide +kernel
theorem d_X10_invoke_112 : decode c_X10_invoke 112 = .ok (.istore 6, 2) := by decide +kernel
theorem d_X10_invoke_114 : decode c_X10_invoke 114 = .ok (.iload 6, 2) := by decide +kernel
theorem d_X10_invoke_116 : decode c_X10_invoke 116 = .ok (.ifCond .eq 10, 3) := by decide +kernel
theorem d_X10_invoke_119 : decode c_X10_invoke 119 = .ok (.iload 5, 2) := by decide +kernel
theorem d_X10_invoke_121 : decode c_X10_invoke 121 = .ok (.iconst 1, 1) := by decide +kernel
theorem d_X10_invoke_122 : decode c_X10_invoke 122 = .ok (.iadd, 1) := by decide +kernel
theorem d_X10_invoke_123 : decode c_X10_invoke 123 = .ok (.goto 7, 3) := by decide +kernel
theorem d_X10_invoke_126 : decode c_X10_invoke 126 = .ok (.iload 5, 2) := by decide +kernel
theorem d_X10_invoke_128 : decode c_X10_invoke 128 = .ok (.iconst 1, 1) := by decide +kernel
theorem d_X10_invoke_129 : decode c_X10_invoke 129 = .ok (.isub, 1) := by decide +kernel
theorem d_X10_invoke_130 : decode c_X10_invoke 130 = .ok (.istore 5, 2) := by decide +kernel
theorem d_X10_invoke_132 : decode c_X10_invoke 132 = .ok (.goto (-91), 3) := by decide +kernel
theorem d_X10_invoke_135 : decode c_X10_invoke 135 = .ok (.aload_n 0, 1) := by decide +kernel
theorem d_X10_invoke_136 : decode c_X10_invoke 136 = .ok (.iload 5, 2) := by decide +kernel
theorem d_X10_invoke_138 : decode c_X10_invoke 138 = .ok (.invokevirtual 196, 3) := by decide +kernel
theorem d_X10_invoke_141 : decode c_X10_invoke 141 = .ok (.istore 6, 2) := by decide +kernel
theorem d_X10_invoke_143 : decode c_X10_invoke 143 = .ok (.iload 6, 2) := by decide +kernel
theorem d_X10_invoke_145 : decode c_X10_invoke 145 = .ok (.ifCond .eq 10, 3) := by decide +kernel
theorem d_X10_invoke_148 : decode c_X10_invoke 148 = .ok (.iload 5, 2) := by decide +kernel
theorem d_X10_invoke_150 : decode c_X10_invoke 150 = .ok (.iconst 1, 1) := by decide +kernel
theorem d_X10_invoke_151 : decode c_X10_invoke 151 = .ok (.iadd, 1) := by decide +kernel
theorem d_X10_invoke_152 : decode c_X10_invoke 152 = .ok (.goto 7, 3) := by decide +kernel
theorem d_X10_invoke_155 : decode c_X10_invoke 155 = .ok (.iload 5, 2) := by decide +kernel
theorem d_X10_invoke_157 : decode c_X10_invoke 157 = .ok (.iconst 1, 1) := by decide +kernel
theorem d_X10_invoke_158 : decode c_X10_invoke 158 = .ok (.isub, 1) := by decide +kernel
theorem d_X10_invoke_159 : decode c_X10_invoke 159 = .ok (.istore 5, 2) := by decide +kernel
theorem d_X10_invoke_161 : decode c_X10_invoke 161 = .ok (.goto (-120), 3) := by decide +kernel
theorem d_X10_invoke_164 : decode c_X10_invoke 164 = .ok (.aload_n 0, 1) := by decide +kernel
theorem d_X10_invoke_165 : decode c_X10_invoke 165 = .ok (.aload_n 0, 1) := by decide +kernel
theorem d_X10_invoke_166 : decode c_X10_invoke 166 = .ok (.getfield 175, 3) := by decide +kernel
theorem d_X10_invoke_169 : decode c_X10_invoke 169 = .ok (.ifCond .eq 7, 3) := by decide +kernel
theorem d_X10_invoke_172 : decode c_X10_invoke 172 = .ok (.iconst 0, 1) := by decide +kernel
theorem d_X10_invoke_173 : decode c_X10_invoke 173 = .ok (.goto 7, 3) := by decide +kernel
theorem d_X10_invoke_176 : decode c_X10_invoke 176 = .ok (.aload_n 0, 1) := by decide +kernel
theorem d_X10_invoke_177 : decode c_X10_invoke 177 = .ok (.getfield 178, 3) := by decide +kernel
theorem d_X10_invoke_180 : decode c_X10_invoke 180 = .ok (.putfield 115, 3) := by decide +kernel
theorem d_X10_invoke_183 : decode c_X10_invoke 183 = .ok (.aload_n 0, 1) := by decide +kernel
theorem d_X10_invoke_184 : decode c_X10_invoke 184 = .ok (.aload_n 0, 1) := by decide +kernel
theorem d_X10_invoke_185 : decode c_X10_invoke 185 = .ok (.getfield 175, 3) := by decide +kernel
theorem d_X10_invoke_188 : decode c_X10_invoke 188 = .ok (.ifCond .eq 10, 3) := by decide +kernel
theorem d_X10_invoke_191 : decode c_X10_invoke 191 = .ok (.aload_n 0, 1) := by decide +kernel
theorem d_X10_invoke_192 : decode c_X10_invoke 192 = .ok (.getfield 178, 3) := by decide +kernel
theorem d_X10_invoke_195 : decode c_X10_invoke 195 = .ok (.goto 4, 3) := by decide +kernel
theorem d_X10_invoke_198 : decode c_X10_invoke 198 = .ok (.iconst 0, 1) := by decide +kernel
theorem d_X10_invoke_199 : decode c_X10_invoke 199 = .ok (.putfield 118, 3) := by decide +kernel
theorem d_X10_invoke_202 : decode c_X10_invoke 202 = .ok (.aload_n 0, 1) := by decide +kernel
theorem d_X10_invoke_203 : decode c_X10_invoke 203 = .ok (.getfield 112, 3) := by decide +kernel
theorem d_X10_invoke_206 : decode c_X10_invoke 206 = .ok (.ireturn, 1) := by decide +kernel
theorem d_X10_result_0 : decode c_X10_result 0 = .ok (.aload_n 0, 1) := by decide +kernel
theorem d_X10_result_1 : decode c_X10_result 1 = .ok (.getfield 115, 3) := by decide +kernel
theorem d_X10_result_4 : decode c_X10_result 4 = .ok (.ireturn, 1) := by decide +kernel
theorem d_X10_error_0 : decode c_X10_error 0 = .ok (.aload_n 0, 1) := by decide +kernel
theorem d_X10_error_1 : decode c_X10_error 1 = .ok (.getfield 118, 3) := by decide +kernel
theorem d_X10_error_4 : decode c_X10_error 4 = .ok (.ireturn, 1) := by decide +kernel
theorem d_X10_log_0 : decode c_X10_log 0 = .ok (.iload_n 1, 1) := by decide +kernel
theorem d_X10_log_1 : decode c_X10_log 1 = .ok (.aload_n 0, 1) := by decide +kernel
theorem d_X10_log_2 : decode c_X10_log 2 = .ok (.getfield 112, 3) := by decide +kernel
theorem d_X10_log_5 : decode c_X10_log 5 = .ok (.iconst 1, 1) := by decide +kernel
theorem d_X10_log_6 : decode c_X10_log 6 = .ok (.isub, 1) := by decide +kernel
theorem d_X10_log_7 : decode c_X10_log 7 = .ok (.invokestatic 121, 3) := by decide +kernel
theorem d_X10_log_10 : decode c_X10_log 10 = .ok (.ifCond .eq 12, 3) := by decide +kernel
theorem d_X10_log_13 : decode c_X10_log 13 = .ok (.aload_n 0, 1) := by decide +kernel
theorem d_X10_log_14 : decode c_X10_log 14 = .ok (.getfield 89, 3) := by decide +kernel
theorem d_X10_log_17 : decode c_X10_log 17 = .ok (.iload_n 1, 1) := by decide +kernel
theorem d_X10_log_18 : decode c_X10_log 18 = .ok (.iaload, 1) := by decide +kernel
theorem d_X10_log_19 : decode c_X10_log 19 = .ok (.goto 5, 3) := by decide +kernel
theorem d_X10_log_22 : decode c_X10_log 22 = .ok (.bipush (-3), 2) := by decide +kernel
theorem d_X10_log_24 : decode c_X10_log 24 = .ok (.ireturn, 1) := by decide +kernel
