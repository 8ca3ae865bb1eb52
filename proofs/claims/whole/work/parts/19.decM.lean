theorem d_Mo_init_0 : decode b_Mo_init 0 = .ok (.aload_n 0, 1) := by decide +kernel
theorem d_Mo_init_1 : decode b_Mo_init 1 = .ok (.invokespecial 1, 3) := by decide +kernel
theorem d_Mo_init_4 : decode b_Mo_init 4 = .ok (.aload_n 0, 1) := by decide +kernel
theorem d_Mo_init_5 : decode b_Mo_init 5 = .ok (.bipush 8, 2) := by decide +kernel
theorem d_Mo_init_7 : decode b_Mo_init 7 = .ok (.newarray .int, 2) := by decide +kernel
theorem d_Mo_init_9 : decode b_Mo_init 9 = .ok (.putfield 7, 3) := by decide +kernel
theorem d_Mo_init_12 : decode b_Mo_init 12 = .ok (.aload_n 0, 1) := by decide +kernel
theorem d_Mo_init_13 : decode b_Mo_init 13 = .ok (.bipush 60, 2) := by decide +kernel
theorem d_Mo_init_15 : decode b_Mo_init 15 = .ok (.newarray .int, 2) := by decide +kernel
theorem d_Mo_init_17 : decode b_Mo_init 17 = .ok (.putfield 13, 3) := by decide +kernel
theorem d_Mo_init_20 : decode b_Mo_init 20 = .ok (.aload_n 0, 1) := by decide +kernel
theorem d_Mo_init_21 : decode b_Mo_init 21 = .ok (.bipush 60, 2) := by decide +kernel
theorem d_Mo_init_23 : decode b_Mo_init 23 = .ok (.newarray .int, 2) := by decide +kernel
theorem d_Mo_init_25 : decode b_Mo_init 25 = .ok (.putfield 16, 3) := by decide +kernel
theorem d_Mo_init_28 : decode b_Mo_init 28 = .ok (.aload_n 0, 1) := by decide +kernel
theorem d_Mo_init_29 : decode b_Mo_init 29 = .ok (.bipush 60, 2) := by decide +kernel
theorem d_Mo_init_31 : decode b_Mo_init 31 = .ok (.newarray .int, 2) := by decide +kernel
theorem d_Mo_init_33 : decode b_Mo_init 33 = .ok (.putfield 19, 3) := by decide +kernel
theorem d_Mo_init_36 : decode b_Mo_init 36 = .ok (.aload_n 0, 1) := by decide +kernel
theorem d_Mo_init_37 : decode b_Mo_init 37 = .ok (.bipush 60, 2) := by decide +kernel
theorem d_Mo_init_39 : decode b_Mo_init 39 = .ok (.newarray .int, 2) := by decide +kernel
theorem d_Mo_init_41 : decode b_Mo_init 41 = .ok (.putfield 22, 3) := by decide +kernel
theorem d_Mo_init_44 : decode b_Mo_init 44 = .ok (.aload_n 0, 1) := by decide +kernel
theorem d_Mo_init_45 : decode b_Mo_init 45 = .ok (.sipush 11520, 3) := by decide +kernel
theorem d_Mo_init_48 : decode b_Mo_init 48 = .ok (.newarray .int, 2) := by decide +kernel
theorem d_Mo_init_50 : decode b_Mo_init 50 = .ok (.putfield 25, 3) := by decide +kernel
theorem d_Mo_init_53 : decode b_Mo_init 53 = .ok (.aload_n 0, 1) := by decide +kernel
theorem d_Mo_init_54 : decode b_Mo_init 54 = .ok (.bipush 20, 2) := by decide +kernel
theorem d_Mo_init_56 : decode b_Mo_init 56 = .ok (.newarray .int, 2) := by decide +kernel
theorem d_Mo_init_58 : decode b_Mo_init 58 = .ok (.putfield 28, 3) := by decide +kernel
theorem d_Mo_init_61 : decode b_Mo_init 61 = .ok (.aload_n 0, 1) := by decide +kernel
theorem d_Mo_init_62 : decode b_Mo_init 62 = .ok (.bipush 20, 2) := by decide +kernel
theorem d_Mo_init_64 : decode b_Mo_init 64 = .ok (.newarray .boolean, 2) := by decide +kernel
theorem d_Mo_init_66 : decode b_Mo_init 66 = .ok (.putfield 31, 3) := by decide +kernel
theorem d_Mo_init_69 : decode b_Mo_init 69 = .ok (.aload_n 0, 1) := by decide +kernel
theorem d_Mo_init_70 : decode b_Mo_init 70 = .ok (.bipush 20, 2) := by decide +kernel
theorem d_Mo_init_72 : decode b_Mo_init 72 = .ok (.newarray .int, 2) := by decide +kernel
theorem d_Mo_init_74 : decode b_Mo_init 74 = .ok (.putfield 35, 3) := by decide +kernel
theorem d_Mo_init_77 : decode b_Mo_init 77 = .ok (.aload_n 0, 1) := by decide +kernel
theorem d_Mo_init_78 : decode b_Mo_init 78 = .ok (.sipush 6144, 3) := by decide +kernel
theorem d_Mo_init_81 : decode b_Mo_init 81 = .ok (.newarray .int, 2) := by decide +kernel
theorem d_Mo_init_83 : decode b_Mo_init 83 = .ok (.putfield 38, 3) := by decide +kernel
theorem d_Mo_init_86 : decode b_Mo_init 86 = .ok (.return_, 1) := by decide +kernel
theorem d_Mo_isIn_0 : decode b_Mo_isIn 0 = .ok (.iload_n 0, 1) := by decide +kernel
theorem d_Mo_isIn_1 : decode b_Mo_isIn 1 = .ok (.iload_n 1, 1) := by decide +kernel
theorem d_Mo_isIn_2 : decode b_Mo_isIn 2 = .ok (.if_icmp .lt 12, 3) := by decide +kernel
theorem d_Mo_isIn_5 : decode b_Mo_isIn 5 = .ok (.iload_n 0, 1) := by decide +kernel
theorem d_Mo_isIn_6 : decode b_Mo_isIn 6 = .ok (.iload_n 2, 1) := by decide +kernel
theorem d_Mo_isIn_7 : decode b_Mo_isIn 7 = .ok (.if_icmp .gt 7, 3) := by decide +kernel
theorem d_Mo_isIn_10 : decode b_Mo_isIn 10 = .ok (.iconst 1, 1) := by decide +kernel
theorem d_Mo_isIn_11 : decode b_Mo_isIn 11 = .ok (.goto 4, 3) := by decide +kernel
theorem d_Mo_isIn_14 : decode b_Mo_isIn 14 = .ok (.iconst 0, 1) := by decide +kernel
theorem d_Mo_isIn_15 : decode b_Mo_isIn 15 = .ok (.ireturn, 1) := by decide +kernel
theorem d_Mo_isCondition_0 : decode b_Mo_isCondition 0 = .ok (.iload_n 1, 1) := by decide +kernel
theorem d_Mo_isCondition_1 : decode b_Mo_isCondition 1 = .ok (.iconst 0, 1) := by decide +kernel
theorem d_Mo_isCondition_2 : decode b_Mo_isCondition 2 = .ok (.aload_n 0, 1) := by decide +kernel
theorem d_Mo_isCondition_3 : decode b_Mo_isCondition 3 = .ok (.getfield 45, 3) := by decide +kernel
theorem d_Mo_isCondition_6 : decode b_Mo_isCondition 6 = .ok (.iconst 1, 1) := by decide +kernel
theorem d_Mo_isCondition_7 : decode b_Mo_isCondition 7 = .ok (.isub, 1) := by decide +kernel
theorem d_Mo_isCondition_8 : decode b_Mo_isCondition 8 = .ok (.invokestatic 48, 3) := by decide +kernel
theorem d_Mo_isCondition_11 : decode b_Mo_isCondition 11 = .ok (.ireturn, 1) := by decide +kernel
theorem d_Mo_isRule_0 : decode b_Mo_isRule 0 = .ok (.iload_n 1, 1) := by decide +kernel
theorem d_Mo_isRule_1 : decode b_Mo_isRule 1 = .ok (.iconst 0, 1) := by decide +kernel
theorem d_Mo_isRule_2 : decode b_Mo_isRule 2 = .ok (.aload_n 0, 1) := by decide +kernel
theorem d_Mo_isRule_3 : decode b_Mo_isRule 3 = .ok (.getfield 52, 3) := by decide +kernel
theorem d_Mo_isRule_6 : decode b_Mo_isRule 6 = .ok (.iconst 1, 1) := by decide +kernel
theorem d_Mo_isRule_7 : decode b_Mo_isRule 7 = .ok (.isub, 1) := by decide +kernel
theorem d_Mo_isRule_8 : decode b_Mo_isRule 8 = .ok (.invokestatic 48, 3) := by decide +kernel
theorem d_Mo_isRule_11 : decode b_Mo_isRule 11 = .ok (.ireturn, 1) := by decide +kernel
theorem d_Mo_personOf_0 : decode b_Mo_personOf 0 = .ok (.iload_n 0, 1) := by decide +kernel
theorem d_Mo_personOf_1 : decode b_Mo_personOf 1 = .ok (.sipush 768, 3) := by decide +kernel
theorem d_Mo_personOf_4 : decode b_Mo_personOf 4 = .ok (.idiv, 1) := by decide +kernel
theorem d_Mo_personOf_5 : decode b_Mo_personOf 5 = .ok (.ireturn, 1) := by decide +kernel
theorem d_Mo_graphOf_0 : decode b_Mo_graphOf 0 = .ok (.iload_n 0, 1) := by decide +kernel
theorem d_Mo_graphOf_1 : decode b_Mo_graphOf 1 = .ok (.sipush 192, 3) := by decide +kernel
theorem d_Mo_graphOf_4 : decode b_Mo_graphOf 4 = .ok (.idiv, 1) := by decide +kernel
theorem d_Mo_graphOf_5 : decode b_Mo_graphOf 5 = .ok (.iconst 4, 1) := by decide +kernel
theorem d_Mo_graphOf_6 : decode b_Mo_graphOf 6 = .ok (.irem, 1) := by decide +kernel
theorem d_Mo_graphOf_7 : decode b_Mo_graphOf 7 = .ok (.ireturn, 1) := by decide +kernel
theorem d_Mo_predicateOf_0 : decode b_Mo_predicateOf 0 = .ok (.iload_n 0, 1) := by decide +kernel
theorem d_Mo_predicateOf_1 : decode b_Mo_predicateOf 1 = .ok (.bipush 32, 2) := by decide +kernel
theorem d_Mo_predicateOf_3 : decode b_Mo_predicateOf 3 = .ok (.idiv, 1) := by decide +kernel
theorem d_Mo_predicateOf_4 : decode b_Mo_predicateOf 4 = .ok (.bipush 6, 2) := by decide +kernel
theorem d_Mo_predicateOf_6 : decode b_Mo_predicateOf 6 = .ok (.irem, 1) := by decide +kernel
theorem d_Mo_predicateOf_7 : decode b_Mo_predicateOf 7 = .ok (.ireturn, 1) := by decide +kernel
theorem d_Mo_classOf_0 : decode b_Mo_classOf 0 = .ok (.iload_n 0, 1) := by decide +kernel
theorem d_Mo_classOf_1 : decode b_Mo_classOf 1 = .ok (.bipush 8, 2) := by decide +kernel
theorem d_Mo_classOf_3 : decode b_Mo_classOf 3 = .ok (.idiv, 1) := by decide +kernel
theorem d_Mo_classOf_4 : decode b_Mo_classOf 4 = .ok (.iconst 4, 1) := by decide +kernel
theorem d_Mo_classOf_5 : decode b_Mo_classOf 5 = .ok (.irem, 1) := by decide +kernel
theorem d_Mo_classOf_6 : decode b_Mo_classOf 6 = .ok (.ireturn, 1) := by decide +kernel
theorem d_Mo_holds_0 : decode b_Mo_holds 0 = .ok (.aload_n 0, 1) := by decide +kernel
theorem d_Mo_holds_1 : decode b_Mo_holds 1 = .ok (.getfield 25, 3) := by decide +kernel
theorem d_Mo_holds_4 : decode b_Mo_holds 4 = .ok (.sipush 192, 3) := by decide +kernel
theorem d_Mo_holds_7 : decode b_Mo_holds 7 = .ok (.iload_n 1, 1) := by decide +kernel
theorem d_Mo_holds_8 : decode b_Mo_holds 8 = .ok (.imul, 1) := by decide +kernel
theorem d_Mo_holds_9 : decode b_Mo_holds 9 = .ok (.iload_n 2, 1) := by decide +kernel
theorem d_Mo_holds_10 : decode b_Mo_holds 10 = .ok (.bipush 32, 2) := by decide +kernel
theorem d_Mo_holds_12 : decode b_Mo_holds 12 = .ok (.idiv, 1) := by decide +kernel
theorem d_Mo_holds_13 : decode b_Mo_holds 13 = .ok (.iadd, 1) := by decide +kernel
theorem d_Mo_holds_14 : decode b_Mo_holds 14 = .ok (.iaload, 1) := by decide +kernel
theorem d_Mo_holds_15 : decode b_Mo_holds 15 = .ok (.iload_n 2, 1) := by decide +kernel
theorem d_Mo_holds_16 : decode b_Mo_holds 16 = .ok (.bipush 32, 2) := by decide +kernel
theorem d_Mo_holds_18 : decode b_Mo_holds 18 = .ok (.irem, 1) := by decide +kernel
theorem d_Mo_holds_19 : decode b_Mo_holds 19 = .ok (.ishr, 1) := by decide +kernel
theorem d_Mo_holds_20 : decode b_Mo_holds 20 = .ok (.iconst 1, 1) := by decide +kernel
theorem d_Mo_holds_21 : decode b_Mo_holds 21 = .ok (.iand, 1) := by decide +kernel
theorem d_Mo_holds_22 : decode b_Mo_holds 22 = .ok (.iconst 1, 1) := by decide +kernel
theorem d_Mo_holds_23 : decode b_Mo_holds 23 = .ok (.if_icmp .ne 7, 3) := by decide +kernel
theorem d_Mo_holds_26 : decode b_Mo_holds 26 = .ok (.iconst 1, 1) := by decide +kernel
theorem d_Mo_holds_27 : decode b_Mo_holds 27 = .ok (.goto 4, 3) := by decide +kernel
theorem d_Mo_holds_30 : decode b_Mo_holds 30 = .ok (.iconst 0, 1) := by decide +kernel
theorem d_Mo_holds_31 : decode b_Mo_holds 31 = .ok (.ireturn, 1) := by decide +kernel
theorem d_Mo_isSo_0 : decode b_Mo_isSo 0 = .ok (.aload_n 0, 1) := by decide +kernel
theorem d_Mo_isSo_1 : decode b_Mo_isSo 1 = .ok (.getfield 16, 3) := by decide +kernel
theorem d_Mo_isSo_4 : decode b_Mo_isSo 4 = .ok (.iload_n 1, 1) := by decide +kernel
theorem d_Mo_isSo_5 : decode b_Mo_isSo 5 = .ok (.iaload, 1) := by decide +kernel
theorem d_Mo_isSo_6 : decode b_Mo_isSo 6 = .ok (.istore_n 3, 1) := by decide +kernel
theorem d_Mo_isSo_7 : decode b_Mo_isSo 7 = .ok (.aload_n 0, 1) := by decide +kernel
theorem d_Mo_isSo_8 : decode b_Mo_isSo 8 = .ok (.getfield 19, 3) := by decide +kernel
theorem d_Mo_isSo_11 : decode b_Mo_isSo 11 = .ok (.iload_n 1, 1) := by decide +kernel
theorem d_Mo_isSo_12 : decode b_Mo_isSo 12 = .ok (.iaload, 1) := by decide +kernel
theorem d_Mo_isSo_13 : decode b_Mo_isSo 13 = .ok (.istore 4, 2) := by decide +kernel
theorem d_Mo_isSo_15 : decode b_Mo_isSo 15 = .ok (.aload_n 0, 1) := by decide +kernel
theorem d_Mo_isSo_16 : decode b_Mo_isSo 16 = .ok (.getfield 13, 3) := by decide +kernel
theorem d_Mo_isSo_19 : decode b_Mo_isSo 19 = .ok (.iload_n 1, 1) := by decide +kernel
theorem d_Mo_isSo_20 : decode b_Mo_isSo 20 = .ok (.iaload, 1) := by decide +kernel
theorem d_Mo_isSo_21 : decode b_Mo_isSo 21 = .ok (.tableswitch 212 0 9 #[55, 69, 92, 106, 120, 134, 145, 160, 185, 210], 55) := by decide +kernel
theorem d_Mo_isSo_76 : decode b_Mo_isSo 76 = .ok (.iload_n 2, 1) := by decide +kernel
theorem d_Mo_isSo_77 : decode b_Mo_isSo 77 = .ok (.invokestatic 55, 3) := by decide +kernel
theorem d_Mo_isSo_80 : decode b_Mo_isSo 80 = .ok (.iload_n 3, 1) := by decide +kernel
theorem d_Mo_isSo_81 : decode b_Mo_isSo 81 = .ok (.if_icmp .ne 7, 3) := by decide +kernel
theorem d_Mo_isSo_84 : decode b_Mo_isSo 84 = .ok (.iconst 1, 1) := by decide +kernel
theorem d_Mo_isSo_85 : decode b_Mo_isSo 85 = .ok (.goto 4, 3) := by decide +kernel
theorem d_Mo_isSo_88 : decode b_Mo_isSo 88 = .ok (.iconst 0, 1) := by decide +kernel
theorem d_Mo_isSo_89 : decode b_Mo_isSo 89 = .ok (.ireturn, 1) := by decide +kernel
theorem d_Mo_isSo_90 : decode b_Mo_isSo 90 = .ok (.aload_n 0, 1) := by decide +kernel
theorem d_Mo_isSo_91 : decode b_Mo_isSo 91 = .ok (.getfield 7, 3) := by decide +kernel
theorem d_Mo_isSo_94 : decode b_Mo_isSo 94 = .ok (.iload_n 2, 1) := by decide +kernel
theorem d_Mo_isSo_95 : decode b_Mo_isSo 95 = .ok (.invokestatic 55, 3) := by decide +kernel
theorem d_Mo_isSo_98 : decode b_Mo_isSo 98 = .ok (.iaload, 1) := by decide +kernel
theorem d_Mo_isSo_99 : decode b_Mo_isSo 99 = .ok (.iload_n 3, 1) := by decide +kernel
theorem d_Mo_isSo_100 : decode b_Mo_isSo 100 = .ok (.ishr, 1) := by decide +kernel
theorem d_Mo_isSo_101 : decode b_Mo_isSo 101 = .ok (.iconst 1, 1) := by decide +kernel
theorem d_Mo_isSo_102 : decode b_Mo_isSo 102 = .ok (.iand, 1) := by decide +kernel
theorem d_Mo_isSo_103 : decode b_Mo_isSo 103 = .ok (.iconst 1, 1) := by decide +kernel
theorem d_Mo_isSo_104 : decode b_Mo_isSo 104 = .ok (.if_icmp .ne 7, 3) := by decide +kernel
theorem d_Mo_isSo_107 : decode b_Mo_isSo 107 = .ok (.iconst 1, 1) := by decide +kernel
theorem d_Mo_isSo_108 : decode b_Mo_isSo 108 = .ok (.goto 4, 3) := by decide +kernel
theorem d_Mo_isSo_111 : decode b_Mo_isSo 111 = .ok (.iconst 0, 1) := by decide +kernel
theorem d_Mo_isSo_112 : decode b_Mo_isSo 112 = .ok (.ireturn, 1) := by decide +kernel
theorem d_Mo_isSo_113 : decode b_Mo_isSo 113 = .ok (.iload_n 2, 1) := by decide +kernel
theorem d_Mo_isSo_114 : decode b_Mo_isSo 114 = .ok (.invokestatic 59, 3) := by decide +kernel
theorem d_Mo_isSo_117 : decode b_Mo_isSo 117 = .ok (.iload_n 3, 1) := by decide +kernel
theorem d_Mo_isSo_118 : decode b_Mo_isSo 118 = .ok (.if_icmp .ne 7, 3) := by decide +kernel
theorem d_Mo_isSo_121 : decode b_Mo_isSo 121 = .ok (.iconst 1, 1) := by decide +kernel
theorem d_Mo_isSo_122 : decode b_Mo_isSo 122 = .ok (.goto 4, 3) := by decide +kernel
theorem d_Mo_isSo_125 : decode b_Mo_isSo 125 = .ok (.iconst 0, 1) := by decide +kernel
theorem d_Mo_isSo_126 : decode b_Mo_isSo 126 = .ok (.ireturn, 1) := by decide +kernel
theorem d_Mo_isSo_127 : decode b_Mo_isSo 127 = .ok (.iload_n 2, 1) := by decide +kernel
theorem d_Mo_isSo_128 : decode b_Mo_isSo 128 = .ok (.invokestatic 62, 3) := by decide +kernel
theorem d_Mo_isSo_131 : decode b_Mo_isSo 131 = .ok (.iload_n 3, 1) := by decide +kernel
theorem d_Mo_isSo_132 : decode b_Mo_isSo 132 = .ok (.if_icmp .ne 7, 3) := by decide +kernel
theorem d_Mo_isSo_135 : decode b_Mo_isSo 135 = .ok (.iconst 1, 1) := by decide +kernel
theorem d_Mo_isSo_136 : decode b_Mo_isSo 136 = .ok (.goto 4, 3) := by decide +kernel
theorem d_Mo_isSo_139 : decode b_Mo_isSo 139 = .ok (.iconst 0, 1) := by decide +kernel
theorem d_Mo_isSo_140 : decode b_Mo_isSo 140 = .ok (.ireturn, 1) := by decide +kernel
theorem d_Mo_isSo_141 : decode b_Mo_isSo 141 = .ok (.iload_n 2, 1) := by decide +kernel
theorem d_Mo_isSo_142 : decode b_Mo_isSo 142 = .ok (.invokestatic 65, 3) := by decide +kernel
theorem d_Mo_isSo_145 : decode b_Mo_isSo 145 = .ok (.iload_n 3, 1) := by decide +kernel
theorem d_Mo_isSo_146 : decode b_Mo_isSo 146 = .ok (.if_icmp .ne 7, 3) := by decide +kernel
theorem d_Mo_isSo_149 : decode b_Mo_isSo 149 = .ok (.iconst 1, 1) := by decide +kernel
theorem d_Mo_isSo_150 : decode b_Mo_isSo 150 = .ok (.goto 4, 3) := by decide +kernel
theorem d_Mo_isSo_153 : decode b_Mo_isSo 153 = .ok (.iconst 0, 1) := by decide +kernel
theorem d_Mo_isSo_154 : decode b_Mo_isSo 154 = .ok (.ireturn, 1) := by decide +kernel
theorem d_Mo_isSo_155 : decode b_Mo_isSo 155 = .ok (.iload_n 2, 1) := by decide +kernel
theorem d_Mo_isSo_156 : decode b_Mo_isSo 156 = .ok (.bipush 8, 2) := by decide +kernel
theorem d_Mo_isSo_158 : decode b_Mo_isSo 158 = .ok (.irem, 1) := by decide +kernel
theorem d_Mo_isSo_159 : decode b_Mo_isSo 159 = .ok (.iload_n 3, 1) := by decide +kernel
theorem d_Mo_isSo_160 : decode b_Mo_isSo 160 = .ok (.iload 4, 2) := by decide +kernel
theorem d_Mo_isSo_162 : decode b_Mo_isSo 162 = .ok (.invokestatic 48, 3) := by decide +kernel
theorem d_Mo_isSo_165 : decode b_Mo_isSo 165 = .ok (.ireturn, 1) := by decide +kernel
theorem d_Mo_isSo_166 : decode b_Mo_isSo 166 = .ok (.aload_n 0, 1) := by decide +kernel
theorem d_Mo_isSo_167 : decode b_Mo_isSo 167 = .ok (.iload_n 3, 1) := by decide +kernel
theorem d_Mo_isSo_168 : decode b_Mo_isSo 168 = .ok (.iload_n 2, 1) := by decide +kernel
theorem d_Mo_isSo_169 : decode b_Mo_isSo 169 = .ok (.invokevirtual 68, 3) := by decide +kernel
theorem d_Mo_isSo_172 : decode b_Mo_isSo 172 = .ok (.ifCond .ne 7, 3) := by decide +kernel
theorem d_Mo_isSo_175 : decode b_Mo_isSo 175 = .ok (.iconst 1, 1) := by decide +kernel
theorem d_Mo_isSo_176 : decode b_Mo_isSo 176 = .ok (.goto 4, 3) := by decide +kernel
theorem d_Mo_isSo_179 : decode b_Mo_isSo 179 = .ok (.iconst 0, 1) := by decide +kernel
theorem d_Mo_isSo_180 : decode b_Mo_isSo 180 = .ok (.ireturn, 1) := by decide +kernel
theorem d_Mo_isSo_181 : decode b_Mo_isSo 181 = .ok (.aload_n 0, 1) := by decide +kernel
theorem d_Mo_isSo_182 : decode b_Mo_isSo 182 = .ok (.iload_n 3, 1) := by decide +kernel
theorem d_Mo_isSo_183 : decode b_Mo_isSo 183 = .ok (.iload_n 2, 1) := by decide +kernel
theorem d_Mo_isSo_184 : decode b_Mo_isSo 184 = .ok (.invokevirtual 68, 3) := by decide +kernel
theorem d_Mo_isSo_187 : decode b_Mo_isSo 187 = .ok (.ifCond .eq 17, 3) := by decide +kernel
theorem d_Mo_isSo_190 : decode b_Mo_isSo 190 = .ok (.aload_n 0, 1) := by decide +kernel
theorem d_Mo_isSo_191 : decode b_Mo_isSo 191 = .ok (.iload 4, 2) := by decide +kernel
theorem d_Mo_isSo_193 : decode b_Mo_isSo 193 = .ok (.iload_n 2, 1) := by decide +kernel
theorem d_Mo_isSo_194 : decode b_Mo_isSo 194 = .ok (.invokevirtual 68, 3) := by decide +kernel
theorem d_Mo_isSo_197 : decode b_Mo_isSo 197 = .ok (.ifCond .eq 7, 3) := by decide +kernel
theorem d_Mo_isSo_200 : decode b_Mo_isSo 200 = .ok (.iconst 1, 1) := by decide +kernel
theorem d_Mo_isSo_201 : decode b_Mo_isSo 201 = .ok (.goto 4, 3) := by decide +kernel
theorem d_Mo_isSo_204 : decode b_Mo_isSo 204 = .ok (.iconst 0, 1) := by decide +kernel
theorem d_Mo_isSo_205 : decode b_Mo_isSo 205 = .ok (.ireturn, 1) := by decide +kernel
theorem d_Mo_isSo_206 : decode b_Mo_isSo 206 = .ok (.aload_n 0, 1) := by decide +kernel
theorem d_Mo_isSo_207 : decode b_Mo_isSo 207 = .ok (.iload_n 3, 1) := by decide +kernel
theorem d_Mo_isSo_208 : decode b_Mo_isSo 208 = .ok (.iload_n 2, 1) := by decide +kernel
theorem d_Mo_isSo_209 : decode b_Mo_isSo 209 = .ok (.invokevirtual 68, 3) := by decide +kernel
theorem d_Mo_isSo_212 : decode b_Mo_isSo 212 = .ok (.ifCond .ne 13, 3) := by decide +kernel
theorem d_Mo_isSo_215 : decode b_Mo_isSo 215 = .ok (.aload_n 0, 1) := by decide +kernel
theorem d_Mo_isSo_216 : decode b_Mo_isSo 216 = .ok (.iload 4, 2) := by decide +kernel
theorem d_Mo_isSo_218 : decode b_Mo_isSo 218 = .ok (.iload_n 2, 1) := by decide +kernel
theorem d_Mo_isSo_219 : decode b_Mo_isSo 219 = .ok (.invokevirtual 68, 3) := by decide +kernel
theorem d_Mo_isSo_222 : decode b_Mo_isSo 222 = .ok (.ifCond .eq 7, 3) := by decide +kernel
theorem d_Mo_isSo_225 : decode b_Mo_isSo 225 = .ok (.iconst 1, 1) := by decide +kernel
theorem d_Mo_isSo_226 : decode b_Mo_isSo 226 = .ok (.goto 4, 3) := by decide +kernel
theorem d_Mo_isSo_229 : decode b_Mo_isSo 229 = .ok (.iconst 0, 1) := by decide +kernel
theorem d_Mo_isSo_230 : decode b_Mo_isSo 230 = .ok (.ireturn, 1) := by decide +kernel
theorem d_Mo_isSo_231 : decode b_Mo_isSo 231 = .ok (.iconst 1, 1) := by decide +kernel
theorem d_Mo_isSo_232 : decode b_Mo_isSo 232 = .ok (.ireturn, 1) := by decide +kernel
theorem d_Mo_isSo_233 : decode b_Mo_isSo 233 = .ok (.aload_n 0, 1) := by decide +kernel
theorem d_Mo_isSo_234 : decode b_Mo_isSo 234 = .ok (.iload_n 3, 1) := by decide +kernel
theorem d_Mo_isSo_235 : decode b_Mo_isSo 235 = .ok (.iload_n 2, 1) := by decide +kernel
theorem d_Mo_isSo_236 : decode b_Mo_isSo 236 = .ok (.invokevirtual 68, 3) := by decide +kernel
theorem d_Mo_isSo_239 : decode b_Mo_isSo 239 = .ok (.ifCond .eq 7, 3) := by decide +kernel
theorem d_Mo_isSo_242 : decode b_Mo_isSo 242 = .ok (.iconst 1, 1) := by decide +kernel
theorem d_Mo_isSo_243 : decode b_Mo_isSo 243 = .ok (.goto 4, 3) := by decide +kernel
theorem d_Mo_isSo_246 : decode b_Mo_isSo 246 = .ok (.iconst 0, 1) := by decide +kernel
theorem d_Mo_isSo_247 : decode b_Mo_isSo 247 = .ok (.aload_n 0, 1) := by decide +kernel
theorem d_Mo_isSo_248 : decode b_Mo_isSo 248 = .ok (.iload 4, 2) := by decide +kernel
theorem d_Mo_isSo_250 : decode b_Mo_isSo 250 = .ok (.iload_n 2, 1) := by decide +kernel
theorem d_Mo_isSo_251 : decode b_Mo_isSo 251 = .ok (.invokevirtual 68, 3) := by decide +kernel
theorem d_Mo_isSo_254 : decode b_Mo_isSo 254 = .ok (.ifCond .eq 7, 3) := by decide +kernel
theorem d_Mo_isSo_257 : decode b_Mo_isSo 257 = .ok (.iconst 1, 1) := by decide +kernel
theorem d_Mo_isSo_258 : decode b_Mo_isSo 258 = .ok (.goto 4, 3) := by decide +kernel
theorem d_Mo_isSo_261 : decode b_Mo_isSo 261 = .ok (.iconst 0, 1) := by decide +kernel
theorem d_Mo_isSo_262 : decode b_Mo_isSo 262 = .ok (.iadd, 1) := by decide +kernel
theorem d_Mo_isSo_263 : decode b_Mo_isSo 263 = .ok (.aload_n 0, 1) := by decide +kernel
theorem d_Mo_isSo_264 : decode b_Mo_isSo 264 = .ok (.aload_n 0, 1) := by decide +kernel
theorem d_Mo_isSo_265 : decode b_Mo_isSo 265 = .ok (.getfield 22, 3) := by decide +kernel
theorem d_Mo_isSo_268 : decode b_Mo_isSo 268 = .ok (.iload_n 1, 1) := by decide +kernel
theorem d_Mo_isSo_269 : decode b_Mo_isSo 269 = .ok (.iaload, 1) := by decide +kernel
theorem d_Mo_isSo_270 : decode b_Mo_isSo 270 = .ok (.iload_n 2, 1) := by decide +kernel
theorem d_Mo_isSo_271 : decode b_Mo_isSo 271 = .ok (.invokevirtual 68, 3) := by decide +kernel
theorem d_Mo_isSo_274 : decode b_Mo_isSo 274 = .ok (.ifCond .eq 7, 3) := by decide +kernel
theorem d_Mo_isSo_277 : decode b_Mo_isSo 277 = .ok (.iconst 1, 1) := by decide +kernel
theorem d_Mo_isSo_278 : decode b_Mo_isSo 278 = .ok (.goto 4, 3) := by decide +kernel
theorem d_Mo_isSo_281 : decode b_Mo_isSo 281 = .ok (.iconst 0, 1) := by decide +kernel
theorem d_Mo_isSo_282 : decode b_Mo_isSo 282 = .ok (.iadd, 1) := by decide +kernel
theorem d_Mo_isSo_283 : decode b_Mo_isSo 283 = .ok (.iconst 2, 1) := by decide +kernel
theorem d_Mo_isSo_284 : decode b_Mo_isSo 284 = .ok (.if_icmp .lt 7, 3) := by decide +kernel
theorem d_Mo_isSo_287 : decode b_Mo_isSo 287 = .ok (.iconst 1, 1) := by decide +kernel
theorem d_Mo_isSo_288 : decode b_Mo_isSo 288 = .ok (.goto 4, 3) := by decide +kernel
theorem d_Mo_isSo_291 : decode b_Mo_isSo 291 = .ok (.iconst 0, 1) := by decide +kernel
theorem d_Mo_isSo_292 : decode b_Mo_isSo 292 = .ok (.ireturn, 1) := by decide +kernel
theorem d_Mo_make_0 : decode b_Mo_make 0 = .ok (.iconst 0, 1) := by decide +kernel
theorem d_Mo_make_1 : decode b_Mo_make 1 = .ok (.istore_n 2, 1) := by decide +kernel
theorem d_Mo_make_2 : decode b_Mo_make 2 = .ok (.iload_n 2, 1) := by decide +kernel
theorem d_Mo_make_3 : decode b_Mo_make 3 = .ok (.sipush 192, 3) := by decide +kernel
theorem d_Mo_make_6 : decode b_Mo_make 6 = .ok (.if_icmp .ge 66, 3) := by decide +kernel
theorem d_Mo_make_9 : decode b_Mo_make 9 = .ok (.iconst 0, 1) := by decide +kernel
theorem d_Mo_make_10 : decode b_Mo_make 10 = .ok (.istore_n 3, 1) := by decide +kernel
theorem d_Mo_make_11 : decode b_Mo_make 11 = .ok (.iconst 0, 1) := by decide +kernel
theorem d_Mo_make_12 : decode b_Mo_make 12 = .ok (.istore 4, 2) := by decide +kernel
theorem d_Mo_make_14 : decode b_Mo_make 14 = .ok (.iload 4, 2) := by decide +kernel
theorem d_Mo_make_16 : decode b_Mo_make 16 = .ok (.bipush 32, 2) := by decide +kernel
theorem d_Mo_make_18 : decode b_Mo_make 18 = .ok (.if_icmp .ge 35, 3) := by decide +kernel
theorem d_Mo_make_21 : decode b_Mo_make 21 = .ok (.iload_n 3, 1) := by decide +kernel
theorem d_Mo_make_22 : decode b_Mo_make 22 = .ok (.aload_n 0, 1) := by decide +kernel
theorem d_Mo_make_23 : decode b_Mo_make 23 = .ok (.iload_n 1, 1) := by decide +kernel
theorem d_Mo_make_24 : decode b_Mo_make 24 = .ok (.bipush 32, 2) := by decide +kernel
theorem d_Mo_make_26 : decode b_Mo_make 26 = .ok (.iload_n 2, 1) := by decide +kernel
theorem d_Mo_make_27 : decode b_Mo_make 27 = .ok (.imul, 1) := by decide +kernel
theorem d_Mo_make_28 : decode b_Mo_make 28 = .ok (.iload 4, 2) := by decide +kernel
theorem d_Mo_make_30 : decode b_Mo_make 30 = .ok (.iadd, 1) := by decide +kernel
theorem d_Mo_make_31 : decode b_Mo_make 31 = .ok (.invokevirtual 72, 3) := by decide +kernel
theorem d_Mo_make_34 : decode b_Mo_make 34 = .ok (.ifCond .eq 10, 3) := by decide +kernel
theorem d_Mo_make_37 : decode b_Mo_make 37 = .ok (.iconst 1, 1) := by decide +kernel
theorem d_Mo_make_38 : decode b_Mo_make 38 = .ok (.iload 4, 2) := by decide +kernel
theorem d_Mo_make_40 : decode b_Mo_make 40 = .ok (.ishl, 1) := by decide +kernel
theorem d_Mo_make_41 : decode b_Mo_make 41 = .ok (.goto 4, 3) := by decide +kernel
theorem d_Mo_make_44 : decode b_Mo_make 44 = .ok (.iconst 0, 1) := by decide +kernel
theorem d_Mo_make_45 : decode b_Mo_make 45 = .ok (.ior, 1) := by decide +kernel
theorem d_Mo_make_46 : decode b_Mo_make 46 = .ok (.istore_n 3, 1) := by decide +kernel
theorem d_Mo_make_47 : decode b_Mo_make 47 = .ok (.iinc 4 1, 3) := by decide +kernel
theorem d_Mo_make_50 : decode b_Mo_make 50 = .ok (.goto (-36), 3) := by decide +kernel
theorem d_Mo_make_53 : decode b_Mo_make 53 = .ok (.aload_n 0, 1) := by decide +kernel
theorem d_Mo_make_54 : decode b_Mo_make 54 = .ok (.getfield 25, 3) := by decide +kernel
theorem d_Mo_make_57 : decode b_Mo_make 57 = .ok (.sipush 192, 3) := by decide +kernel
theorem d_Mo_make_60 : decode b_Mo_make 60 = .ok (.iload_n 1, 1) := by decide +kernel
theorem d_Mo_make_61 : decode b_Mo_make 61 = .ok (.imul, 1) := by decide +kernel
theorem d_Mo_make_62 : decode b_Mo_make 62 = .ok (.iload_n 2, 1) := by decide +kernel
theorem d_Mo_make_63 : decode b_Mo_make 63 = .ok (.iadd, 1) := by decide +kernel
theorem d_Mo_make_64 : decode b_Mo_make 64 = .ok (.iload_n 3, 1) := by decide +kernel
theorem d_Mo_make_65 : decode b_Mo_make 65 = .ok (.iastore, 1) := by decide +kernel
theorem d_Mo_make_66 : decode b_Mo_make 66 = .ok (.iinc 2 1, 3) := by decide +kernel
theorem d_Mo_make_69 : decode b_Mo_make 69 = .ok (.goto (-67), 3) := by decide +kernel
theorem d_Mo_make_72 : decode b_Mo_make 72 = .ok (.return_, 1) := by decide +kernel
theorem d_Mo_member_0 : decode b_Mo_member 0 = .ok (.aload_n 0, 1) := by decide +kernel
theorem d_Mo_member_1 : decode b_Mo_member 1 = .ok (.iconst 0, 1) := by decide +kernel
theorem d_Mo_member_2 : decode b_Mo_member 2 = .ok (.putfield 41, 3) := by decide +kernel
theorem d_Mo_member_5 : decode b_Mo_member 5 = .ok (.iload_n 1, 1) := by decide +kernel
theorem d_Mo_member_6 : decode b_Mo_member 6 = .ok (.iconst 0, 1) := by decide +kernel
theorem d_Mo_member_7 : decode b_Mo_member 7 = .ok (.bipush 7, 2) := by decide +kernel
theorem d_Mo_member_9 : decode b_Mo_member 9 = .ok (.invokestatic 48, 3) := by decide +kernel
theorem d_Mo_member_12 : decode b_Mo_member 12 = .ok (.ifCond .eq 13, 3) := by decide +kernel
theorem d_Mo_member_15 : decode b_Mo_member 15 = .ok (.iload_n 2, 1) := by decide +kernel
theorem d_Mo_member_16 : decode b_Mo_member 16 = .ok (.iconst 0, 1) := by decide +kernel
theorem d_Mo_member_17 : decode b_Mo_member 17 = .ok (.bipush 7, 2) := by decide +kernel
theorem d_Mo_member_19 : decode b_Mo_member 19 = .ok (.invokestatic 48, 3) := by decide +kernel
theorem d_Mo_member_22 : decode b_Mo_member 22 = .ok (.ifCond .ne 5, 3) := by decide +kernel
theorem d_Mo_member_25 : decode b_Mo_member 25 = .ok (.iconst (-1), 1) := by decide +kernel
theorem d_Mo_member_26 : decode b_Mo_member 26 = .ok (.ireturn, 1) := by decide +kernel
theorem d_Mo_member_27 : decode b_Mo_member 27 = .ok (.aload_n 0, 1) := by decide +kernel
theorem d_Mo_member_28 : decode b_Mo_member 28 = .ok (.getfield 7, 3) := by decide +kernel
theorem d_Mo_member_31 : decode b_Mo_member 31 = .ok (.iload_n 1, 1) := by decide +kernel
theorem d_Mo_member_32 : decode b_Mo_member 32 = .ok (.iaload, 1) := by decide +kernel
theorem d_Mo_member_33 : decode b_Mo_member 33 = .ok (.iload_n 2, 1) := by decide +kernel
theorem d_Mo_member_34 : decode b_Mo_member 34 = .ok (.ishr, 1) := by decide +kernel
theorem d_Mo_member_35 : decode b_Mo_member 35 = .ok (.iconst 1, 1) := by decide +kernel
theorem d_Mo_member_36 : decode b_Mo_member 36 = .ok (.iand, 1) := by decide +kernel
theorem d_Mo_member_37 : decode b_Mo_member 37 = .ok (.iconst 1, 1) := by decide +kernel
theorem d_Mo_member_38 : decode b_Mo_member 38 = .ok (.if_icmp .ne 7, 3) := by decide +kernel
theorem d_Mo_member_41 : decode b_Mo_member 41 = .ok (.iconst 1, 1) := by decide +kernel
theorem d_Mo_member_42 : decode b_Mo_member 42 = .ok (.goto 4, 3) := by decide +kernel
theorem d_Mo_member_45 : decode b_Mo_member 45 = .ok (.iconst 0, 1) := by decide +kernel
theorem d_Mo_member_46 : decode b_Mo_member 46 = .ok (.iload_n 3, 1) := by decide +kernel
theorem d_Mo_member_47 : decode b_Mo_member 47 = .ok (.if_icmp .ne 5, 3) := by decide +kernel
theorem d_Mo_member_50 : decode b_Mo_member 50 = .ok (.iconst 0, 1) := by decide +kernel
theorem d_Mo_member_51 : decode b_Mo_member 51 = .ok (.ireturn, 1) := by decide +kernel
theorem d_Mo_member_52 : decode b_Mo_member 52 = .ok (.aload_n 0, 1) := by decide +kernel
theorem d_Mo_member_53 : decode b_Mo_member 53 = .ok (.getfield 7, 3) := by decide +kernel
theorem d_Mo_member_56 : decode b_Mo_member 56 = .ok (.iload_n 1, 1) := by decide +kernel
theorem d_Mo_member_57 : decode b_Mo_member 57 = .ok (.dup2, 1) := by decide +kernel
theorem d_Mo_member_58 : decode b_Mo_member 58 = .ok (.iaload, 1) := by decide +kernel
theorem d_Mo_member_59 : decode b_Mo_member 59 = .ok (.iconst 1, 1) := by decide +kernel
theorem d_Mo_member_60 : decode b_Mo_member 60 = .ok (.iload_n 2, 1) := by decide +kernel
theorem d_Mo_member_61 : decode b_Mo_member 61 = .ok (.ishl, 1) := by decide +kernel
theorem d_Mo_member_62 : decode b_Mo_member 62 = .ok (.ixor, 1) := by decide +kernel
theorem d_Mo_member_63 : decode b_Mo_member 63 = .ok (.iastore, 1) := by decide +kernel
theorem d_Mo_member_64 : decode b_Mo_member 64 = .ok (.iconst 0, 1) := by decide +kernel
theorem d_Mo_member_65 : decode b_Mo_member 65 = .ok (.istore 4, 2) := by decide +kernel
theorem d_Mo_member_67 : decode b_Mo_member 67 = .ok (.iload 4, 2) := by decide +kernel
theorem d_Mo_member_69 : decode b_Mo_member 69 = .ok (.aload_n 0, 1) := by decide +kernel
theorem d_Mo_member_70 : decode b_Mo_member 70 = .ok (.getfield 45, 3) := by decide +kernel
theorem d_Mo_member_73 : decode b_Mo_member 73 = .ok (.if_icmp .ge 15, 3) := by decide +kernel
theorem d_Mo_member_76 : decode b_Mo_member 76 = .ok (.aload_n 0, 1) := by decide +kernel
theorem d_Mo_member_77 : decode b_Mo_member 77 = .ok (.iload 4, 2) := by decide +kernel
theorem d_Mo_member_79 : decode b_Mo_member 79 = .ok (.invokevirtual 75, 3) := by decide +kernel
theorem d_Mo_member_82 : decode b_Mo_member 82 = .ok (.iinc 4 1, 3) := by decide +kernel
theorem d_Mo_member_85 : decode b_Mo_member 85 = .ok (.goto (-18), 3) := by decide +kernel
theorem d_Mo_member_88 : decode b_Mo_member 88 = .ok (.aload_n 0, 1) := by decide +kernel
theorem d_Mo_member_89 : decode b_Mo_member 89 = .ok (.iconst 0, 1) := by decide +kernel
theorem d_Mo_member_90 : decode b_Mo_member 90 = .ok (.putfield 79, 3) := by decide +kernel
theorem d_Mo_member_93 : decode b_Mo_member 93 = .ok (.iconst 1, 1) := by decide +kernel
theorem d_Mo_member_94 : decode b_Mo_member 94 = .ok (.ireturn, 1) := by decide +kernel
theorem d_Mo_isGood_0 : decode b_Mo_isGood 0 = .ok (.iload_n 1, 1) := by decide +kernel
theorem d_Mo_isGood_1 : decode b_Mo_isGood 1 = .ok (.tableswitch 168 0 10 #[59, 59, 67, 74, 67, 81, 107, 113, 113, 135, 137], 59) := by decide +kernel
theorem d_Mo_isGood_60 : decode b_Mo_isGood 60 = .ok (.iload_n 2, 1) := by decide +kernel
theorem d_Mo_isGood_61 : decode b_Mo_isGood 61 = .ok (.iconst 0, 1) := by decide +kernel
theorem d_Mo_isGood_62 : decode b_Mo_isGood 62 = .ok (.bipush 7, 2) := by decide +kernel
theorem d_Mo_isGood_64 : decode b_Mo_isGood 64 = .ok (.invokestatic 48, 3) := by decide +kernel
theorem d_Mo_isGood_67 : decode b_Mo_isGood 67 = .ok (.ireturn, 1) := by decide +kernel
theorem d_Mo_isGood_68 : decode b_Mo_isGood 68 = .ok (.iload_n 2, 1) := by decide +kernel
theorem d_Mo_isGood_69 : decode b_Mo_isGood 69 = .ok (.iconst 0, 1) := by decide +kernel
theorem d_Mo_isGood_70 : decode b_Mo_isGood 70 = .ok (.iconst 3, 1) := by decide +kernel
theorem d_Mo_isGood_71 : decode b_Mo_isGood 71 = .ok (.invokestatic 48, 3) := by decide +kernel
theorem d_Mo_isGood_74 : decode b_Mo_isGood 74 = .ok (.ireturn, 1) := by decide +kernel
theorem d_Mo_isGood_75 : decode b_Mo_isGood 75 = .ok (.iload_n 2, 1) := by decide +kernel
theorem d_Mo_isGood_76 : decode b_Mo_isGood 76 = .ok (.iconst 0, 1) := by decide +kernel
theorem d_Mo_isGood_77 : decode b_Mo_isGood 77 = .ok (.iconst 5, 1) := by decide +kernel
theorem d_Mo_isGood_78 : decode b_Mo_isGood 78 = .ok (.invokestatic 48, 3) := by decide +kernel
theorem d_Mo_isGood_81 : decode b_Mo_isGood 81 = .ok (.ireturn, 1) := by decide +kernel
theorem d_Mo_isGood_82 : decode b_Mo_isGood 82 = .ok (.iload_n 2, 1) := by decide +kernel
theorem d_Mo_isGood_83 : decode b_Mo_isGood 83 = .ok (.iconst 0, 1) := by decide +kernel
theorem d_Mo_isGood_84 : decode b_Mo_isGood 84 = .ok (.bipush 7, 2) := by decide +kernel
theorem d_Mo_isGood_86 : decode b_Mo_isGood 86 = .ok (.invokestatic 48, 3) := by decide +kernel
theorem d_Mo_isGood_89 : decode b_Mo_isGood 89 = .ok (.ifCond .eq 17, 3) := by decide +kernel
theorem d_Mo_isGood_92 : decode b_Mo_isGood 92 = .ok (.iload_n 3, 1) := by decide +kernel
theorem d_Mo_isGood_93 : decode b_Mo_isGood 93 = .ok (.iload_n 2, 1) := by decide +kernel
theorem d_Mo_isGood_94 : decode b_Mo_isGood 94 = .ok (.bipush 7, 2) := by decide +kernel
theorem d_Mo_isGood_96 : decode b_Mo_isGood 96 = .ok (.invokestatic 48, 3) := by decide +kernel
theorem d_Mo_isGood_99 : decode b_Mo_isGood 99 = .ok (.ifCond .eq 7, 3) := by decide +kernel
theorem d_Mo_isGood_102 : decode b_Mo_isGood 102 = .ok (.iconst 1, 1) := by decide +kernel
theorem d_Mo_isGood_103 : decode b_Mo_isGood 103 = .ok (.goto 4, 3) := by decide +kernel
theorem d_Mo_isGood_106 : decode b_Mo_isGood 106 = .ok (.iconst 0, 1) := by decide +kernel
theorem d_Mo_isGood_107 : decode b_Mo_isGood 107 = .ok (.ireturn, 1) := by decide +kernel
theorem d_Mo_isGood_108 : decode b_Mo_isGood 108 = .ok (.aload_n 0, 1) := by decide +kernel
theorem d_Mo_isGood_109 : decode b_Mo_isGood 109 = .ok (.iload_n 2, 1) := by decide +kernel
theorem d_Mo_isGood_110 : decode b_Mo_isGood 110 = .ok (.invokevirtual 83, 3) := by decide +kernel
theorem d_Mo_isGood_113 : decode b_Mo_isGood 113 = .ok (.ireturn, 1) := by decide +kernel
theorem d_Mo_isGood_114 : decode b_Mo_isGood 114 = .ok (.aload_n 0, 1) := by decide +kernel
theorem d_Mo_isGood_115 : decode b_Mo_isGood 115 = .ok (.iload_n 2, 1) := by decide +kernel
theorem d_Mo_isGood_116 : decode b_Mo_isGood 116 = .ok (.invokevirtual 83, 3) := by decide +kernel
theorem d_Mo_isGood_119 : decode b_Mo_isGood 119 = .ok (.ifCond .eq 15, 3) := by decide +kernel
theorem d_Mo_isGood_122 : decode b_Mo_isGood 122 = .ok (.aload_n 0, 1) := by decide +kernel
theorem d_Mo_isGood_123 : decode b_Mo_isGood 123 = .ok (.iload_n 3, 1) := by decide +kernel
theorem d_Mo_isGood_124 : decode b_Mo_isGood 124 = .ok (.invokevirtual 83, 3) := by decide +kernel
theorem d_Mo_isGood_127 : decode b_Mo_isGood 127 = .ok (.ifCond .eq 7, 3) := by decide +kernel
theorem d_Mo_isGood_130 : decode b_Mo_isGood 130 = .ok (.iconst 1, 1) := by decide +kernel
theorem d_Mo_isGood_131 : decode b_Mo_isGood 131 = .ok (.goto 4, 3) := by decide +kernel
theorem d_Mo_isGood_134 : decode b_Mo_isGood 134 = .ok (.iconst 0, 1) := by decide +kernel
theorem d_Mo_isGood_135 : decode b_Mo_isGood 135 = .ok (.ireturn, 1) := by decide +kernel
theorem d_Mo_isGood_136 : decode b_Mo_isGood 136 = .ok (.iconst 1, 1) := by decide +kernel
theorem d_Mo_isGood_137 : decode b_Mo_isGood 137 = .ok (.ireturn, 1) := by decide +kernel
theorem d_Mo_isGood_138 : decode b_Mo_isGood 138 = .ok (.aload_n 0, 1) := by decide +kernel
theorem d_Mo_isGood_139 : decode b_Mo_isGood 139 = .ok (.iload_n 2, 1) := by decide +kernel
theorem d_Mo_isGood_140 : decode b_Mo_isGood 140 = .ok (.invokevirtual 83, 3) := by decide +kernel
theorem d_Mo_isGood_143 : decode b_Mo_isGood 143 = .ok (.ifCond .eq 24, 3) := by decide +kernel
theorem d_Mo_isGood_146 : decode b_Mo_isGood 146 = .ok (.aload_n 0, 1) := by decide +kernel
theorem d_Mo_isGood_147 : decode b_Mo_isGood 147 = .ok (.iload_n 3, 1) := by decide +kernel
theorem d_Mo_isGood_148 : decode b_Mo_isGood 148 = .ok (.invokevirtual 83, 3) := by decide +kernel
theorem d_Mo_isGood_151 : decode b_Mo_isGood 151 = .ok (.ifCond .eq 16, 3) := by decide +kernel
theorem d_Mo_isGood_154 : decode b_Mo_isGood 154 = .ok (.aload_n 0, 1) := by decide +kernel
theorem d_Mo_isGood_155 : decode b_Mo_isGood 155 = .ok (.iload 4, 2) := by decide +kernel
theorem d_Mo_isGood_157 : decode b_Mo_isGood 157 = .ok (.invokevirtual 83, 3) := by decide +kernel
theorem d_Mo_isGood_160 : decode b_Mo_isGood 160 = .ok (.ifCond .eq 7, 3) := by decide +kernel
theorem d_Mo_isGood_163 : decode b_Mo_isGood 163 = .ok (.iconst 1, 1) := by decide +kernel
theorem d_Mo_isGood_164 : decode b_Mo_isGood 164 = .ok (.goto 4, 3) := by decide +kernel
theorem d_Mo_isGood_167 : decode b_Mo_isGood 167 = .ok (.iconst 0, 1) := by decide +kernel
theorem d_Mo_isGood_168 : decode b_Mo_isGood 168 = .ok (.ireturn, 1) := by decide +kernel
theorem d_Mo_isGood_169 : decode b_Mo_isGood 169 = .ok (.iconst 0, 1) := by decide +kernel
theorem d_Mo_isGood_170 : decode b_Mo_isGood 170 = .ok (.ireturn, 1) := by decide +kernel
theorem d_Mo_condition_0 : decode b_Mo_condition 0 = .ok (.aload_n 0, 1) := by decide +kernel
theorem d_Mo_condition_1 : decode b_Mo_condition 1 = .ok (.iconst 0, 1) := by decide +kernel
theorem d_Mo_condition_2 : decode b_Mo_condition 2 = .ok (.putfield 41, 3) := by decide +kernel
theorem d_Mo_condition_5 : decode b_Mo_condition 5 = .ok (.aload_n 0, 1) := by decide +kernel
theorem d_Mo_condition_6 : decode b_Mo_condition 6 = .ok (.iload_n 1, 1) := by decide +kernel
theorem d_Mo_condition_7 : decode b_Mo_condition 7 = .ok (.iload_n 2, 1) := by decide +kernel
theorem d_Mo_condition_8 : decode b_Mo_condition 8 = .ok (.iload_n 3, 1) := by decide +kernel
theorem d_Mo_condition_9 : decode b_Mo_condition 9 = .ok (.iload 4, 2) := by decide +kernel
theorem d_Mo_condition_11 : decode b_Mo_condition 11 = .ok (.invokevirtual 87, 3) := by decide +kernel
theorem d_Mo_condition_14 : decode b_Mo_condition 14 = .ok (.ifCond .ne 5, 3) := by decide +kernel
theorem d_Mo_condition_17 : decode b_Mo_condition 17 = .ok (.iconst (-1), 1) := by decide +kernel
theorem d_Mo_condition_18 : decode b_Mo_condition 18 = .ok (.ireturn, 1) := by decide +kernel
theorem d_Mo_condition_19 : decode b_Mo_condition 19 = .ok (.aload_n 0, 1) := by decide +kernel
theorem d_Mo_condition_20 : decode b_Mo_condition 20 = .ok (.getfield 45, 3) := by decide +kernel
theorem d_Mo_condition_23 : decode b_Mo_condition 23 = .ok (.bipush 60, 2) := by decide +kernel
theorem d_Mo_condition_25 : decode b_Mo_condition 25 = .ok (.if_icmp .ne 6, 3) := by decide +kernel
theorem d_Mo_condition_28 : decode b_Mo_condition 28 = .ok (.bipush (-3), 2) := by decide +kernel
theorem d_Mo_condition_30 : decode b_Mo_condition 30 = .ok (.ireturn, 1) := by decide +kernel
theorem d_Mo_condition_31 : decode b_Mo_condition 31 = .ok (.aload_n 0, 1) := by decide +kernel
theorem d_Mo_condition_32 : decode b_Mo_condition 32 = .ok (.getfield 13, 3) := by decide +kernel
theorem d_Mo_condition_35 : decode b_Mo_condition 35 = .ok (.aload_n 0, 1) := by decide +kernel
theorem d_Mo_condition_36 : decode b_Mo_condition 36 = .ok (.getfield 45, 3) := by decide +kernel
theorem d_Mo_condition_39 : decode b_Mo_condition 39 = .ok (.iload_n 1, 1) := by decide +kernel
theorem d_Mo_condition_40 : decode b_Mo_condition 40 = .ok (.iastore, 1) := by decide +kernel
theorem d_Mo_condition_41 : decode b_Mo_condition 41 = .ok (.aload_n 0, 1) := by decide +kernel
theorem d_Mo_condition_42 : decode b_Mo_condition 42 = .ok (.getfield 16, 3) := by decide +kernel
theorem d_Mo_condition_45 : decode b_Mo_condition 45 = .ok (.aload_n 0, 1) := by decide +kernel
theorem d_Mo_condition_46 : decode b_Mo_condition 46 = .ok (.getfield 45, 3) := by decide +kernel
theorem d_Mo_condition_49 : decode b_Mo_condition 49 = .ok (.iload_n 2, 1) := by decide +kernel
theorem d_Mo_condition_50 : decode b_Mo_condition 50 = .ok (.iastore, 1) := by decide +kernel
theorem d_Mo_condition_51 : decode b_Mo_condition 51 = .ok (.aload_n 0, 1) := by decide +kernel
theorem d_Mo_condition_52 : decode b_Mo_condition 52 = .ok (.getfield 19, 3) := by decide +kernel
theorem d_Mo_condition_55 : decode b_Mo_condition 55 = .ok (.aload_n 0, 1) := by decide +kernel
theorem d_Mo_condition_56 : decode b_Mo_condition 56 = .ok (.getfield 45, 3) := by decide +kernel
theorem d_Mo_condition_59 : decode b_Mo_condition 59 = .ok (.iload_n 3, 1) := by decide +kernel
theorem d_Mo_condition_60 : decode b_Mo_condition 60 = .ok (.iastore, 1) := by decide +kernel
theorem d_Mo_condition_61 : decode b_Mo_condition 61 = .ok (.aload_n 0, 1) := by decide +kernel
theorem d_Mo_condition_62 : decode b_Mo_condition 62 = .ok (.getfield 22, 3) := by decide +kernel
theorem d_Mo_condition_65 : decode b_Mo_condition 65 = .ok (.aload_n 0, 1) := by decide +kernel
theorem d_Mo_condition_66 : decode b_Mo_condition 66 = .ok (.getfield 45, 3) := by decide +kernel
theorem d_Mo_condition_69 : decode b_Mo_condition 69 = .ok (.iload 4, 2) := by decide +kernel
theorem d_Mo_condition_71 : decode b_Mo_condition 71 = .ok (.iastore, 1) := by decide +kernel
theorem d_Mo_condition_72 : decode b_Mo_condition 72 = .ok (.aload_n 0, 1) := by decide +kernel
theorem d_Mo_condition_73 : decode b_Mo_condition 73 = .ok (.aload_n 0, 1) := by decide +kernel
theorem d_Mo_condition_74 : decode b_Mo_condition 74 = .ok (.getfield 45, 3) := by decide +kernel
theorem d_Mo_condition_77 : decode b_Mo_condition 77 = .ok (.invokevirtual 75, 3) := by decide +kernel
theorem d_Mo_condition_80 : decode b_Mo_condition 80 = .ok (.aload_n 0, 1) := by decide +kernel
theorem d_Mo_condition_81 : decode b_Mo_condition 81 = .ok (.dup, 1) := by decide +kernel
theorem d_Mo_condition_82 : decode b_Mo_condition 82 = .ok (.getfield 45, 3) := by decide +kernel
theorem d_Mo_condition_85 : decode b_Mo_condition 85 = .ok (.iconst 1, 1) := by decide +kernel
theorem d_Mo_condition_86 : decode b_Mo_condition 86 = .ok (.iadd, 1) := by decide +kernel
theorem d_Mo_condition_87 : decode b_Mo_condition 87 = .ok (.putfield 45, 3) := by decide +kernel
theorem d_Mo_condition_90 : decode b_Mo_condition 90 = .ok (.aload_n 0, 1) := by decide +kernel
theorem d_Mo_condition_91 : decode b_Mo_condition 91 = .ok (.getfield 45, 3) := by decide +kernel
theorem d_Mo_condition_94 : decode b_Mo_condition 94 = .ok (.iconst 1, 1) := by decide +kernel
theorem d_Mo_condition_95 : decode b_Mo_condition 95 = .ok (.isub, 1) := by decide +kernel
theorem d_Mo_condition_96 : decode b_Mo_condition 96 = .ok (.ireturn, 1) := by decide +kernel
theorem d_Mo_rule_0 : decode b_Mo_rule 0 = .ok (.aload_n 0, 1) := by decide +kernel
theorem d_Mo_rule_1 : decode b_Mo_rule 1 = .ok (.iconst 0, 1) := by decide +kernel
theorem d_Mo_rule_2 : decode b_Mo_rule 2 = .ok (.putfield 41, 3) := by decide +kernel
theorem d_Mo_rule_5 : decode b_Mo_rule 5 = .ok (.iload_n 1, 1) := by decide +kernel
theorem d_Mo_rule_6 : decode b_Mo_rule 6 = .ok (.iconst 0, 1) := by decide +kernel
theorem d_Mo_rule_7 : decode b_Mo_rule 7 = .ok (.bipush 9, 2) := by decide +kernel
theorem d_Mo_rule_9 : decode b_Mo_rule 9 = .ok (.invokestatic 48, 3) := by decide +kernel
theorem d_Mo_rule_12 : decode b_Mo_rule 12 = .ok (.ifCond .eq 11, 3) := by decide +kernel
theorem d_Mo_rule_15 : decode b_Mo_rule 15 = .ok (.aload_n 0, 1) := by decide +kernel
theorem d_Mo_rule_16 : decode b_Mo_rule 16 = .ok (.iload_n 3, 1) := by decide +kernel
theorem d_Mo_rule_17 : decode b_Mo_rule 17 = .ok (.invokevirtual 83, 3) := by decide +kernel
theorem d_Mo_rule_20 : decode b_Mo_rule 20 = .ok (.ifCond .ne 5, 3) := by decide +kernel
theorem d_Mo_rule_23 : decode b_Mo_rule 23 = .ok (.iconst (-1), 1) := by decide +kernel
theorem d_Mo_rule_24 : decode b_Mo_rule 24 = .ok (.ireturn, 1) := by decide +kernel
theorem d_Mo_rule_25 : decode b_Mo_rule 25 = .ok (.aload_n 0, 1) := by decide +kernel
theorem d_Mo_rule_26 : decode b_Mo_rule 26 = .ok (.getfield 52, 3) := by decide +kernel
theorem d_Mo_rule_29 : decode b_Mo_rule 29 = .ok (.bipush 20, 2) := by decide +kernel
theorem d_Mo_rule_31 : decode b_Mo_rule 31 = .ok (.if_icmp .ne 6, 3) := by decide +kernel
theorem d_Mo_rule_34 : decode b_Mo_rule 34 = .ok (.bipush (-3), 2) := by decide +kernel
theorem d_Mo_rule_36 : decode b_Mo_rule 36 = .ok (.ireturn, 1) := by decide +kernel
theorem d_Mo_rule_37 : decode b_Mo_rule 37 = .ok (.aload_n 0, 1) := by decide +kernel
theorem d_Mo_rule_38 : decode b_Mo_rule 38 = .ok (.getfield 28, 3) := by decide +kernel
theorem d_Mo_rule_41 : decode b_Mo_rule 41 = .ok (.aload_n 0, 1) := by decide +kernel
theorem d_Mo_rule_42 : decode b_Mo_rule 42 = .ok (.getfield 52, 3) := by decide +kernel
theorem d_Mo_rule_45 : decode b_Mo_rule 45 = .ok (.iload_n 1, 1) := by decide +kernel
theorem d_Mo_rule_46 : decode b_Mo_rule 46 = .ok (.iastore, 1) := by decide +kernel
theorem d_Mo_rule_47 : decode b_Mo_rule 47 = .ok (.aload_n 0, 1) := by decide +kernel
theorem d_Mo_rule_48 : decode b_Mo_rule 48 = .ok (.getfield 31, 3) := by decide +kernel
theorem d_Mo_rule_51 : decode b_Mo_rule 51 = .ok (.aload_n 0, 1) := by decide +kernel
theorem d_Mo_rule_52 : decode b_Mo_rule 52 = .ok (.getfield 52, 3) := by decide +kernel
theorem d_Mo_rule_55 : decode b_Mo_rule 55 = .ok (.iload_n 2, 1) := by decide +kernel
theorem d_Mo_rule_56 : decode b_Mo_rule 56 = .ok (.bastore, 1) := by decide +kernel
theorem d_Mo_rule_57 : decode b_Mo_rule 57 = .ok (.aload_n 0, 1) := by decide +kernel
theorem d_Mo_rule_58 : decode b_Mo_rule 58 = .ok (.getfield 35, 3) := by decide +kernel
theorem d_Mo_rule_61 : decode b_Mo_rule 61 = .ok (.aload_n 0, 1) := by decide +kernel
theorem d_Mo_rule_62 : decode b_Mo_rule 62 = .ok (.getfield 52, 3) := by decide +kernel
theorem d_Mo_rule_65 : decode b_Mo_rule 65 = .ok (.iload_n 3, 1) := by decide +kernel
theorem d_Mo_rule_66 : decode b_Mo_rule 66 = .ok (.iastore, 1) := by decide +kernel
theorem d_Mo_rule_67 : decode b_Mo_rule 67 = .ok (.aload_n 0, 1) := by decide +kernel
theorem d_Mo_rule_68 : decode b_Mo_rule 68 = .ok (.dup, 1) := by decide +kernel
theorem d_Mo_rule_69 : decode b_Mo_rule 69 = .ok (.getfield 52, 3) := by decide +kernel
theorem d_Mo_rule_72 : decode b_Mo_rule 72 = .ok (.iconst 1, 1) := by decide +kernel
theorem d_Mo_rule_73 : decode b_Mo_rule 73 = .ok (.iadd, 1) := by decide +kernel
theorem d_Mo_rule_74 : decode b_Mo_rule 74 = .ok (.putfield 52, 3) := by decide +kernel
theorem d_Mo_rule_77 : decode b_Mo_rule 77 = .ok (.aload_n 0, 1) := by decide +kernel
theorem d_Mo_rule_78 : decode b_Mo_rule 78 = .ok (.iconst 0, 1) := by decide +kernel
theorem d_Mo_rule_79 : decode b_Mo_rule 79 = .ok (.putfield 79, 3) := by decide +kernel
theorem d_Mo_rule_82 : decode b_Mo_rule 82 = .ok (.aload_n 0, 1) := by decide +kernel
theorem d_Mo_rule_83 : decode b_Mo_rule 83 = .ok (.getfield 52, 3) := by decide +kernel
theorem d_Mo_rule_86 : decode b_Mo_rule 86 = .ok (.iconst 1, 1) := by decide +kernel
theorem d_Mo_rule_87 : decode b_Mo_rule 87 = .ok (.isub, 1) := by decide +kernel
theorem d_Mo_rule_88 : decode b_Mo_rule 88 = .ok (.ireturn, 1) := by decide +kernel
theorem d_Mo_drop_0 : decode b_Mo_drop 0 = .ok (.aload_n 0, 1) := by decide +kernel
theorem d_Mo_drop_1 : decode b_Mo_drop 1 = .ok (.iconst 0, 1) := by decide +kernel
theorem d_Mo_drop_2 : decode b_Mo_drop 2 = .ok (.putfield 41, 3) := by decide +kernel
theorem d_Mo_drop_5 : decode b_Mo_drop 5 = .ok (.aload_n 0, 1) := by decide +kernel
theorem d_Mo_drop_6 : decode b_Mo_drop 6 = .ok (.iload_n 1, 1) := by decide +kernel
theorem d_Mo_drop_7 : decode b_Mo_drop 7 = .ok (.invokevirtual 91, 3) := by decide +kernel
theorem d_Mo_drop_10 : decode b_Mo_drop 10 = .ok (.ifCond .ne 5, 3) := by decide +kernel
theorem d_Mo_drop_13 : decode b_Mo_drop 13 = .ok (.iconst (-1), 1) := by decide +kernel
theorem d_Mo_drop_14 : decode b_Mo_drop 14 = .ok (.ireturn, 1) := by decide +kernel
theorem d_Mo_drop_15 : decode b_Mo_drop 15 = .ok (.iload_n 1, 1) := by decide +kernel
theorem d_Mo_drop_16 : decode b_Mo_drop 16 = .ok (.iconst 1, 1) := by decide +kernel
theorem d_Mo_drop_17 : decode b_Mo_drop 17 = .ok (.iadd, 1) := by decide +kernel
theorem d_Mo_drop_18 : decode b_Mo_drop 18 = .ok (.istore_n 2, 1) := by decide +kernel
theorem d_Mo_drop_19 : decode b_Mo_drop 19 = .ok (.iload_n 2, 1) := by decide +kernel
theorem d_Mo_drop_20 : decode b_Mo_drop 20 = .ok (.aload_n 0, 1) := by decide +kernel
theorem d_Mo_drop_21 : decode b_Mo_drop 21 = .ok (.getfield 52, 3) := by decide +kernel
theorem d_Mo_drop_24 : decode b_Mo_drop 24 = .ok (.if_icmp .ge 51, 3) := by decide +kernel
theorem d_Mo_drop_27 : decode b_Mo_drop 27 = .ok (.aload_n 0, 1) := by decide +kernel
theorem d_Mo_drop_28 : decode b_Mo_drop 28 = .ok (.getfield 28, 3) := by decide +kernel
theorem d_Mo_drop_31 : decode b_Mo_drop 31 = .ok (.iload_n 2, 1) := by decide +kernel
theorem d_Mo_drop_32 : decode b_Mo_drop 32 = .ok (.iconst 1, 1) := by decide +kernel
theorem d_Mo_drop_33 : decode b_Mo_drop 33 = .ok (.isub, 1) := by decide +kernel
theorem d_Mo_drop_34 : decode b_Mo_drop 34 = .ok (.aload_n 0, 1) := by decide +kernel
theorem d_Mo_drop_35 : decode b_Mo_drop 35 = .ok (.getfield 28, 3) := by decide +kernel
theorem d_Mo_drop_38 : decode b_Mo_drop 38 = .ok (.iload_n 2, 1) := by decide +kernel
theorem d_Mo_drop_39 : decode b_Mo_drop 39 = .ok (.iaload, 1) := by decide +kernel
theorem d_Mo_drop_40 : decode b_Mo_drop 40 = .ok (.iastore, 1) := by decide +kernel
theorem d_Mo_drop_41 : decode b_Mo_drop 41 = .ok (.aload_n 0, 1) := by decide +kernel
theorem d_Mo_drop_42 : decode b_Mo_drop 42 = .ok (.getfield 31, 3) := by decide +kernel
theorem d_Mo_drop_45 : decode b_Mo_drop 45 = .ok (.iload_n 2, 1) := by decide +kernel
theorem d_Mo_drop_46 : decode b_Mo_drop 46 = .ok (.iconst 1, 1) := by decide +kernel
theorem d_Mo_drop_47 : decode b_Mo_drop 47 = .ok (.isub, 1) := by decide +kernel
theorem d_Mo_drop_48 : decode b_Mo_drop 48 = .ok (.aload_n 0, 1) := by decide +kernel
theorem d_Mo_drop_49 : decode b_Mo_drop 49 = .ok (.getfield 31, 3) := by decide +kernel
theorem d_Mo_drop_52 : decode b_Mo_drop 52 = .ok (.iload_n 2, 1) := by decide +kernel
theorem d_Mo_drop_53 : decode b_Mo_drop 53 = .ok (.baload, 1) := by decide +kernel
theorem d_Mo_drop_54 : decode b_Mo_drop 54 = .ok (.bastore, 1) := by decide +kernel
theorem d_Mo_drop_55 : decode b_Mo_drop 55 = .ok (.aload_n 0, 1) := by decide +kernel
theorem d_Mo_drop_56 : decode b_Mo_drop 56 = .ok (.getfield 35, 3) := by decide +kernel
theorem d_Mo_drop_59 : decode b_Mo_drop 59 = .ok (.iload_n 2, 1) := by decide +kernel
theorem d_Mo_drop_60 : decode b_Mo_drop 60 = .ok (.iconst 1, 1) := by decide +kernel
theorem d_Mo_drop_61 : decode b_Mo_drop 61 = .ok (.isub, 1) := by decide +kernel
theorem d_Mo_drop_62 : decode b_Mo_drop 62 = .ok (.aload_n 0, 1) := by decide +kernel
theorem d_Mo_drop_63 : decode b_Mo_drop 63 = .ok (.getfield 35, 3) := by decide +kernel
theorem d_Mo_drop_66 : decode b_Mo_drop 66 = .ok (.iload_n 2, 1) := by decide +kernel
theorem d_Mo_drop_67 : decode b_Mo_drop 67 = .ok (.iaload, 1) := by decide +kernel
theorem d_Mo_drop_68 : decode b_Mo_drop 68 = .ok (.iastore, 1) := by decide +kernel
theorem d_Mo_drop_69 : decode b_Mo_drop 69 = .ok (.iinc 2 1, 3) := by decide +kernel
theorem d_Mo_drop_72 : decode b_Mo_drop 72 = .ok (.goto (-53), 3) := by decide +kernel
theorem d_Mo_drop_75 : decode b_Mo_drop 75 = .ok (.aload_n 0, 1) := by decide +kernel
theorem d_Mo_drop_76 : decode b_Mo_drop 76 = .ok (.dup, 1) := by decide +kernel
theorem d_Mo_drop_77 : decode b_Mo_drop 77 = .ok (.getfield 52, 3) := by decide +kernel
theorem d_Mo_drop_80 : decode b_Mo_drop 80 = .ok (.iconst 1, 1) := by decide +kernel
theorem d_Mo_drop_81 : decode b_Mo_drop 81 = .ok (.isub, 1) := by decide +kernel
theorem d_Mo_drop_82 : decode b_Mo_drop 82 = .ok (.putfield 52, 3) := by decide +kernel
theorem d_Mo_drop_85 : decode b_Mo_drop 85 = .ok (.aload_n 0, 1) := by decide +kernel
theorem d_Mo_drop_86 : decode b_Mo_drop 86 = .ok (.iconst 0, 1) := by decide +kernel
theorem d_Mo_drop_87 : decode b_Mo_drop 87 = .ok (.putfield 79, 3) := by decide +kernel
theorem d_Mo_drop_90 : decode b_Mo_drop 90 = .ok (.aload_n 0, 1) := by decide +kernel
theorem d_Mo_drop_91 : decode b_Mo_drop 91 = .ok (.getfield 52, 3) := by decide +kernel
theorem d_Mo_drop_94 : decode b_Mo_drop 94 = .ok (.ireturn, 1) := by decide +kernel
theorem d_Mo_firstRank_0 : decode b_Mo_firstRank 0 = .ok (.bipush 10, 2) := by decide +kernel
theorem d_Mo_firstRank_2 : decode b_Mo_firstRank 2 = .ok (.istore_n 3, 1) := by decide +kernel
theorem d_Mo_firstRank_3 : decode b_Mo_firstRank 3 = .ok (.iconst 0, 1) := by decide +kernel
theorem d_Mo_firstRank_4 : decode b_Mo_firstRank 4 = .ok (.istore 4, 2) := by decide +kernel
theorem d_Mo_firstRank_6 : decode b_Mo_firstRank 6 = .ok (.iload 4, 2) := by decide +kernel
theorem d_Mo_firstRank_8 : decode b_Mo_firstRank 8 = .ok (.aload_n 0, 1) := by decide +kernel
theorem d_Mo_firstRank_9 : decode b_Mo_firstRank 9 = .ok (.getfield 52, 3) := by decide +kernel
theorem d_Mo_firstRank_12 : decode b_Mo_firstRank 12 = .ok (.if_icmp .ge 49, 3) := by decide +kernel
theorem d_Mo_firstRank_15 : decode b_Mo_firstRank 15 = .ok (.iload 4, 2) := by decide +kernel
theorem d_Mo_firstRank_17 : decode b_Mo_firstRank 17 = .ok (.iload_n 2, 1) := by decide +kernel
theorem d_Mo_firstRank_18 : decode b_Mo_firstRank 18 = .ok (.if_icmp .eq 37, 3) := by decide +kernel
theorem d_Mo_firstRank_21 : decode b_Mo_firstRank 21 = .ok (.aload_n 0, 1) := by decide +kernel
theorem d_Mo_firstRank_22 : decode b_Mo_firstRank 22 = .ok (.getfield 28, 3) := by decide +kernel
theorem d_Mo_firstRank_25 : decode b_Mo_firstRank 25 = .ok (.iload 4, 2) := by decide +kernel
theorem d_Mo_firstRank_27 : decode b_Mo_firstRank 27 = .ok (.iaload, 1) := by decide +kernel
theorem d_Mo_firstRank_28 : decode b_Mo_firstRank 28 = .ok (.iload_n 3, 1) := by decide +kernel
theorem d_Mo_firstRank_29 : decode b_Mo_firstRank 29 = .ok (.if_icmp .ge 26, 3) := by decide +kernel
theorem d_Mo_firstRank_32 : decode b_Mo_firstRank 32 = .ok (.aload_n 0, 1) := by decide +kernel
theorem d_Mo_firstRank_33 : decode b_Mo_firstRank 33 = .ok (.aload_n 0, 1) := by decide +kernel
theorem d_Mo_firstRank_34 : decode b_Mo_firstRank 34 = .ok (.getfield 35, 3) := by decide +kernel
theorem d_Mo_firstRank_37 : decode b_Mo_firstRank 37 = .ok (.iload 4, 2) := by decide +kernel
theorem d_Mo_firstRank_39 : decode b_Mo_firstRank 39 = .ok (.iaload, 1) := by decide +kernel
theorem d_Mo_firstRank_40 : decode b_Mo_firstRank 40 = .ok (.iload_n 1, 1) := by decide +kernel
theorem d_Mo_firstRank_41 : decode b_Mo_firstRank 41 = .ok (.invokevirtual 68, 3) := by decide +kernel
theorem d_Mo_firstRank_44 : decode b_Mo_firstRank 44 = .ok (.ifCond .eq 11, 3) := by decide +kernel
theorem d_Mo_firstRank_47 : decode b_Mo_firstRank 47 = .ok (.aload_n 0, 1) := by decide +kernel
theorem d_Mo_firstRank_48 : decode b_Mo_firstRank 48 = .ok (.getfield 28, 3) := by decide +kernel
theorem d_Mo_firstRank_51 : decode b_Mo_firstRank 51 = .ok (.iload 4, 2) := by decide +kernel
theorem d_Mo_firstRank_53 : decode b_Mo_firstRank 53 = .ok (.iaload, 1) := by decide +kernel
theorem d_Mo_firstRank_54 : decode b_Mo_firstRank 54 = .ok (.istore_n 3, 1) := by decide +kernel
theorem d_Mo_firstRank_55 : decode b_Mo_firstRank 55 = .ok (.iinc 4 1, 3) := by decide +kernel
theorem d_Mo_firstRank_58 : decode b_Mo_firstRank 58 = .ok (.goto (-52), 3) := by decide +kernel
theorem d_Mo_firstRank_61 : decode b_Mo_firstRank 61 = .ok (.iload_n 3, 1) := by decide +kernel
theorem d_Mo_firstRank_62 : decode b_Mo_firstRank 62 = .ok (.ireturn, 1) := by decide +kernel
theorem d_Mo_decide_0 : decode b_Mo_decide 0 = .ok (.aload_n 0, 1) := by decide +kernel
theorem d_Mo_decide_1 : decode b_Mo_decide 1 = .ok (.iload_n 1, 1) := by decide +kernel
theorem d_Mo_decide_2 : decode b_Mo_decide 2 = .ok (.iload_n 2, 1) := by decide +kernel
theorem d_Mo_decide_3 : decode b_Mo_decide 3 = .ok (.invokevirtual 94, 3) := by decide +kernel
theorem d_Mo_decide_6 : decode b_Mo_decide 6 = .ok (.istore_n 3, 1) := by decide +kernel
theorem d_Mo_decide_7 : decode b_Mo_decide 7 = .ok (.bipush (-2), 2) := by decide +kernel
theorem d_Mo_decide_9 : decode b_Mo_decide 9 = .ok (.istore 4, 2) := by decide +kernel
theorem d_Mo_decide_11 : decode b_Mo_decide 11 = .ok (.aload_n 0, 1) := by decide +kernel
theorem d_Mo_decide_12 : decode b_Mo_decide 12 = .ok (.getfield 52, 3) := by decide +kernel
theorem d_Mo_decide_15 : decode b_Mo_decide 15 = .ok (.iconst 1, 1) := by decide +kernel
theorem d_Mo_decide_16 : decode b_Mo_decide 16 = .ok (.isub, 1) := by decide +kernel
theorem d_Mo_decide_17 : decode b_Mo_decide 17 = .ok (.istore 5, 2) := by decide +kernel
theorem d_Mo_decide_19 : decode b_Mo_decide 19 = .ok (.iload 5, 2) := by decide +kernel
theorem d_Mo_decide_21 : decode b_Mo_decide 21 = .ok (.ifCond .lt 72, 3) := by decide +kernel
theorem d_Mo_decide_24 : decode b_Mo_decide 24 = .ok (.iload 5, 2) := by decide +kernel
theorem d_Mo_decide_26 : decode b_Mo_decide 26 = .ok (.iload_n 2, 1) := by decide +kernel
theorem d_Mo_decide_27 : decode b_Mo_decide 27 = .ok (.if_icmp .eq 60, 3) := by decide +kernel
theorem d_Mo_decide_30 : decode b_Mo_decide 30 = .ok (.aload_n 0, 1) := by decide +kernel
theorem d_Mo_decide_31 : decode b_Mo_decide 31 = .ok (.getfield 28, 3) := by decide +kernel
theorem d_Mo_decide_34 : decode b_Mo_decide 34 = .ok (.iload 5, 2) := by decide +kernel
theorem d_Mo_decide_36 : decode b_Mo_decide 36 = .ok (.iaload, 1) := by decide +kernel
theorem d_Mo_decide_37 : decode b_Mo_decide 37 = .ok (.iload_n 3, 1) := by decide +kernel
theorem d_Mo_decide_38 : decode b_Mo_decide 38 = .ok (.if_icmp .ne 49, 3) := by decide +kernel
theorem d_Mo_decide_41 : decode b_Mo_decide 41 = .ok (.aload_n 0, 1) := by decide +kernel
theorem d_Mo_decide_42 : decode b_Mo_decide 42 = .ok (.aload_n 0, 1) := by decide +kernel
theorem d_Mo_decide_43 : decode b_Mo_decide 43 = .ok (.getfield 35, 3) := by decide +kernel
theorem d_Mo_decide_46 : decode b_Mo_decide 46 = .ok (.iload 5, 2) := by decide +kernel
theorem d_Mo_decide_48 : decode b_Mo_decide 48 = .ok (.iaload, 1) := by decide +kernel
theorem d_Mo_decide_49 : decode b_Mo_decide 49 = .ok (.iload_n 1, 1) := by decide +kernel
theorem d_Mo_decide_50 : decode b_Mo_decide 50 = .ok (.invokevirtual 68, 3) := by decide +kernel
theorem d_Mo_decide_53 : decode b_Mo_decide 53 = .ok (.ifCond .eq 34, 3) := by decide +kernel
theorem d_Mo_decide_56 : decode b_Mo_decide 56 = .ok (.aload_n 0, 1) := by decide +kernel
theorem d_Mo_decide_57 : decode b_Mo_decide 57 = .ok (.getfield 31, 3) := by decide +kernel
theorem d_Mo_decide_60 : decode b_Mo_decide 60 = .ok (.iload 5, 2) := by decide +kernel
theorem d_Mo_decide_62 : decode b_Mo_decide 62 = .ok (.baload, 1) := by decide +kernel
theorem d_Mo_decide_63 : decode b_Mo_decide 63 = .ok (.ifCond .ne 20, 3) := by decide +kernel
theorem d_Mo_decide_66 : decode b_Mo_decide 66 = .ok (.iload 4, 2) := by decide +kernel
theorem d_Mo_decide_68 : decode b_Mo_decide 68 = .ok (.bipush (-2), 2) := by decide +kernel
theorem d_Mo_decide_70 : decode b_Mo_decide 70 = .ok (.if_icmp .eq 13, 3) := by decide +kernel
theorem d_Mo_decide_73 : decode b_Mo_decide 73 = .ok (.aload_n 0, 1) := by decide +kernel
theorem d_Mo_decide_74 : decode b_Mo_decide 74 = .ok (.getfield 31, 3) := by decide +kernel
theorem d_Mo_decide_77 : decode b_Mo_decide 77 = .ok (.iload 4, 2) := by decide +kernel
theorem d_Mo_decide_79 : decode b_Mo_decide 79 = .ok (.baload, 1) := by decide +kernel
theorem d_Mo_decide_80 : decode b_Mo_decide 80 = .ok (.ifCond .ne 7, 3) := by decide +kernel
theorem d_Mo_decide_83 : decode b_Mo_decide 83 = .ok (.iload 5, 2) := by decide +kernel
theorem d_Mo_decide_85 : decode b_Mo_decide 85 = .ok (.istore 4, 2) := by decide +kernel
theorem d_Mo_decide_87 : decode b_Mo_decide 87 = .ok (.iinc 5 (-1), 3) := by decide +kernel
theorem d_Mo_decide_90 : decode b_Mo_decide 90 = .ok (.goto (-71), 3) := by decide +kernel
theorem d_Mo_decide_93 : decode b_Mo_decide 93 = .ok (.iload 4, 2) := by decide +kernel
theorem d_Mo_decide_95 : decode b_Mo_decide 95 = .ok (.ireturn, 1) := by decide +kernel
theorem d_Mo_isAllowed_0 : decode b_Mo_isAllowed 0 = .ok (.iload_n 1, 1) := by decide +kernel
theorem d_Mo_isAllowed_1 : decode b_Mo_isAllowed 1 = .ok (.bipush (-2), 2) := by decide +kernel
theorem d_Mo_isAllowed_3 : decode b_Mo_isAllowed 3 = .ok (.if_icmp .eq 16, 3) := by decide +kernel
theorem d_Mo_isAllowed_6 : decode b_Mo_isAllowed 6 = .ok (.aload_n 0, 1) := by decide +kernel
theorem d_Mo_isAllowed_7 : decode b_Mo_isAllowed 7 = .ok (.getfield 31, 3) := by decide +kernel
theorem d_Mo_isAllowed_10 : decode b_Mo_isAllowed 10 = .ok (.iload_n 1, 1) := by decide +kernel
theorem d_Mo_isAllowed_11 : decode b_Mo_isAllowed 11 = .ok (.baload, 1) := by decide +kernel
theorem d_Mo_isAllowed_12 : decode b_Mo_isAllowed 12 = .ok (.ifCond .ne 7, 3) := by decide +kernel
theorem d_Mo_isAllowed_15 : decode b_Mo_isAllowed 15 = .ok (.iconst 1, 1) := by decide +kernel
theorem d_Mo_isAllowed_16 : decode b_Mo_isAllowed 16 = .ok (.goto 4, 3) := by decide +kernel
theorem d_Mo_isAllowed_19 : decode b_Mo_isAllowed 19 = .ok (.iconst 0, 1) := by decide +kernel
theorem d_Mo_isAllowed_20 : decode b_Mo_isAllowed 20 = .ok (.ireturn, 1) := by decide +kernel
theorem d_Mo_know_0 : decode b_Mo_know 0 = .ok (.aload_n 0, 1) := by decide +kernel
theorem d_Mo_know_1 : decode b_Mo_know 1 = .ok (.getfield 79, 3) := by decide +kernel
theorem d_Mo_know_4 : decode b_Mo_know 4 = .ok (.ifCond .ne 36, 3) := by decide +kernel
theorem d_Mo_know_7 : decode b_Mo_know 7 = .ok (.aload_n 0, 1) := by decide +kernel
theorem d_Mo_know_8 : decode b_Mo_know 8 = .ok (.iconst 1, 1) := by decide +kernel
theorem d_Mo_know_9 : decode b_Mo_know 9 = .ok (.putfield 79, 3) := by decide +kernel
theorem d_Mo_know_12 : decode b_Mo_know 12 = .ok (.iconst 0, 1) := by decide +kernel
theorem d_Mo_know_13 : decode b_Mo_know 13 = .ok (.istore_n 1, 1) := by decide +kernel
theorem d_Mo_know_14 : decode b_Mo_know 14 = .ok (.iload_n 1, 1) := by decide +kernel
theorem d_Mo_know_15 : decode b_Mo_know 15 = .ok (.sipush 6144, 3) := by decide +kernel
theorem d_Mo_know_18 : decode b_Mo_know 18 = .ok (.if_icmp .ge 22, 3) := by decide +kernel
theorem d_Mo_know_21 : decode b_Mo_know 21 = .ok (.aload_n 0, 1) := by decide +kernel
theorem d_Mo_know_22 : decode b_Mo_know 22 = .ok (.getfield 38, 3) := by decide +kernel
theorem d_Mo_know_25 : decode b_Mo_know 25 = .ok (.iload_n 1, 1) := by decide +kernel
theorem d_Mo_know_26 : decode b_Mo_know 26 = .ok (.aload_n 0, 1) := by decide +kernel
theorem d_Mo_know_27 : decode b_Mo_know 27 = .ok (.iload_n 1, 1) := by decide +kernel
theorem d_Mo_know_28 : decode b_Mo_know 28 = .ok (.bipush (-2), 2) := by decide +kernel
theorem d_Mo_know_30 : decode b_Mo_know 30 = .ok (.invokevirtual 98, 3) := by decide +kernel
theorem d_Mo_know_33 : decode b_Mo_know 33 = .ok (.iastore, 1) := by decide +kernel
theorem d_Mo_know_34 : decode b_Mo_know 34 = .ok (.iinc 1 1, 3) := by decide +kernel
theorem d_Mo_know_37 : decode b_Mo_know 37 = .ok (.goto (-23), 3) := by decide +kernel
theorem d_Mo_know_40 : decode b_Mo_know 40 = .ok (.return_, 1) := by decide +kernel
theorem d_Mo_may_0 : decode b_Mo_may 0 = .ok (.aload_n 0, 1) := by decide +kernel
theorem d_Mo_may_1 : decode b_Mo_may 1 = .ok (.iconst 0, 1) := by decide +kernel
theorem d_Mo_may_2 : decode b_Mo_may 2 = .ok (.putfield 41, 3) := by decide +kernel
theorem d_Mo_may_5 : decode b_Mo_may 5 = .ok (.iload_n 1, 1) := by decide +kernel
theorem d_Mo_may_6 : decode b_Mo_may 6 = .ok (.iconst 0, 1) := by decide +kernel
theorem d_Mo_may_7 : decode b_Mo_may 7 = .ok (.bipush 7, 2) := by decide +kernel
theorem d_Mo_may_9 : decode b_Mo_may 9 = .ok (.invokestatic 48, 3) := by decide +kernel
theorem d_Mo_may_12 : decode b_Mo_may 12 = .ok (.ifCond .eq 56, 3) := by decide +kernel
theorem d_Mo_may_15 : decode b_Mo_may 15 = .ok (.iload_n 2, 1) := by decide +kernel
theorem d_Mo_may_16 : decode b_Mo_may 16 = .ok (.iconst 0, 1) := by decide +kernel
theorem d_Mo_may_17 : decode b_Mo_may 17 = .ok (.iconst 3, 1) := by decide +kernel
theorem d_Mo_may_18 : decode b_Mo_may 18 = .ok (.invokestatic 48, 3) := by decide +kernel
theorem d_Mo_may_21 : decode b_Mo_may 21 = .ok (.ifCond .eq 47, 3) := by decide +kernel
theorem d_Mo_may_24 : decode b_Mo_may 24 = .ok (.iload_n 3, 1) := by decide +kernel
theorem d_Mo_may_25 : decode b_Mo_may 25 = .ok (.iconst 0, 1) := by decide +kernel
theorem d_Mo_may_26 : decode b_Mo_may 26 = .ok (.iconst 5, 1) := by decide +kernel
theorem d_Mo_may_27 : decode b_Mo_may 27 = .ok (.invokestatic 48, 3) := by decide +kernel
theorem d_Mo_may_30 : decode b_Mo_may 30 = .ok (.ifCond .eq 38, 3) := by decide +kernel
theorem d_Mo_may_33 : decode b_Mo_may 33 = .ok (.iload 4, 2) := by decide +kernel
theorem d_Mo_may_35 : decode b_Mo_may 35 = .ok (.iconst 0, 1) := by decide +kernel
theorem d_Mo_may_36 : decode b_Mo_may 36 = .ok (.iconst 3, 1) := by decide +kernel
theorem d_Mo_may_37 : decode b_Mo_may 37 = .ok (.invokestatic 48, 3) := by decide +kernel
theorem d_Mo_may_40 : decode b_Mo_may 40 = .ok (.ifCond .eq 28, 3) := by decide +kernel
theorem d_Mo_may_43 : decode b_Mo_may 43 = .ok (.iload 5, 2) := by decide +kernel
theorem d_Mo_may_45 : decode b_Mo_may 45 = .ok (.iconst 0, 1) := by decide +kernel
theorem d_Mo_may_46 : decode b_Mo_may 46 = .ok (.bipush 7, 2) := by decide +kernel
theorem d_Mo_may_48 : decode b_Mo_may 48 = .ok (.invokestatic 48, 3) := by decide +kernel
theorem d_Mo_may_51 : decode b_Mo_may 51 = .ok (.ifCond .eq 17, 3) := by decide +kernel
theorem d_Mo_may_54 : decode b_Mo_may 54 = .ok (.iload 6, 2) := by decide +kernel
theorem d_Mo_may_56 : decode b_Mo_may 56 = .ok (.iconst 0, 1) := by decide +kernel
theorem d_Mo_may_57 : decode b_Mo_may 57 = .ok (.iconst 1, 1) := by decide +kernel
theorem d_Mo_may_58 : decode b_Mo_may 58 = .ok (.invokestatic 48, 3) := by decide +kernel
theorem d_Mo_may_61 : decode b_Mo_may 61 = .ok (.ifCond .eq 7, 3) := by decide +kernel
theorem d_Mo_may_64 : decode b_Mo_may 64 = .ok (.iconst 1, 1) := by decide +kernel
theorem d_Mo_may_65 : decode b_Mo_may 65 = .ok (.goto 4, 3) := by decide +kernel
theorem d_Mo_may_68 : decode b_Mo_may 68 = .ok (.iconst 0, 1) := by decide +kernel
theorem d_Mo_may_69 : decode b_Mo_may 69 = .ok (.istore 7, 2) := by decide +kernel
theorem d_Mo_may_71 : decode b_Mo_may 71 = .ok (.iload 7, 2) := by decide +kernel
theorem d_Mo_may_73 : decode b_Mo_may 73 = .ok (.ifCond .ne 5, 3) := by decide +kernel
theorem d_Mo_may_76 : decode b_Mo_may 76 = .ok (.iconst (-1), 1) := by decide +kernel
theorem d_Mo_may_77 : decode b_Mo_may 77 = .ok (.ireturn, 1) := by decide +kernel
theorem d_Mo_may_78 : decode b_Mo_may 78 = .ok (.aload_n 0, 1) := by decide +kernel
theorem d_Mo_may_79 : decode b_Mo_may 79 = .ok (.invokevirtual 101, 3) := by decide +kernel
theorem d_Mo_may_82 : decode b_Mo_may 82 = .ok (.aload_n 0, 1) := by decide +kernel
theorem d_Mo_may_83 : decode b_Mo_may 83 = .ok (.getfield 38, 3) := by decide +kernel
theorem d_Mo_may_86 : decode b_Mo_may 86 = .ok (.iload_n 1, 1) := by decide +kernel
theorem d_Mo_may_87 : decode b_Mo_may 87 = .ok (.iconst 4, 1) := by decide +kernel
theorem d_Mo_may_88 : decode b_Mo_may 88 = .ok (.imul, 1) := by decide +kernel
theorem d_Mo_may_89 : decode b_Mo_may 89 = .ok (.iload_n 2, 1) := by decide +kernel
theorem d_Mo_may_90 : decode b_Mo_may 90 = .ok (.iadd, 1) := by decide +kernel
theorem d_Mo_may_91 : decode b_Mo_may 91 = .ok (.bipush 6, 2) := by decide +kernel
theorem d_Mo_may_93 : decode b_Mo_may 93 = .ok (.imul, 1) := by decide +kernel
theorem d_Mo_may_94 : decode b_Mo_may 94 = .ok (.iload_n 3, 1) := by decide +kernel
theorem d_Mo_may_95 : decode b_Mo_may 95 = .ok (.iadd, 1) := by decide +kernel
theorem d_Mo_may_96 : decode b_Mo_may 96 = .ok (.iconst 4, 1) := by decide +kernel
theorem d_Mo_may_97 : decode b_Mo_may 97 = .ok (.imul, 1) := by decide +kernel
theorem d_Mo_may_98 : decode b_Mo_may 98 = .ok (.iload 4, 2) := by decide +kernel
theorem d_Mo_may_100 : decode b_Mo_may 100 = .ok (.iadd, 1) := by decide +kernel
theorem d_Mo_may_101 : decode b_Mo_may 101 = .ok (.bipush 8, 2) := by decide +kernel
theorem d_Mo_may_103 : decode b_Mo_may 103 = .ok (.imul, 1) := by decide +kernel
theorem d_Mo_may_104 : decode b_Mo_may 104 = .ok (.iload 5, 2) := by decide +kernel
theorem d_Mo_may_106 : decode b_Mo_may 106 = .ok (.iadd, 1) := by decide +kernel
theorem d_Mo_may_107 : decode b_Mo_may 107 = .ok (.iaload, 1) := by decide +kernel
theorem d_Mo_may_108 : decode b_Mo_may 108 = .ok (.istore 8, 2) := by decide +kernel
theorem d_Mo_may_110 : decode b_Mo_may 110 = .ok (.iload 6, 2) := by decide +kernel
theorem d_Mo_may_112 : decode b_Mo_may 112 = .ok (.iconst 1, 1) := by decide +kernel
theorem d_Mo_may_113 : decode b_Mo_may 113 = .ok (.if_icmp .ne 8, 3) := by decide +kernel
theorem d_Mo_may_116 : decode b_Mo_may 116 = .ok (.iload 8, 2) := by decide +kernel
theorem d_Mo_may_118 : decode b_Mo_may 118 = .ok (.goto 17, 3) := by decide +kernel
theorem d_Mo_may_121 : decode b_Mo_may 121 = .ok (.aload_n 0, 1) := by decide +kernel
theorem d_Mo_may_122 : decode b_Mo_may 122 = .ok (.iload 8, 2) := by decide +kernel
theorem d_Mo_may_124 : decode b_Mo_may 124 = .ok (.invokevirtual 104, 3) := by decide +kernel
theorem d_Mo_may_127 : decode b_Mo_may 127 = .ok (.ifCond .eq 7, 3) := by decide +kernel
theorem d_Mo_may_130 : decode b_Mo_may 130 = .ok (.iconst 1, 1) := by decide +kernel
theorem d_Mo_may_131 : decode b_Mo_may 131 = .ok (.goto 4, 3) := by decide +kernel
theorem d_Mo_may_134 : decode b_Mo_may 134 = .ok (.iconst 0, 1) := by decide +kernel
theorem d_Mo_may_135 : decode b_Mo_may 135 = .ok (.ireturn, 1) := by decide +kernel
theorem d_Mo_asks_0 : decode b_Mo_asks 0 = .ok (.aload_n 0, 1) := by decide +kernel
theorem d_Mo_asks_1 : decode b_Mo_asks 1 = .ok (.iconst 0, 1) := by decide +kernel
theorem d_Mo_asks_2 : decode b_Mo_asks 2 = .ok (.putfield 41, 3) := by decide +kernel
theorem d_Mo_asks_5 : decode b_Mo_asks 5 = .ok (.aload_n 0, 1) := by decide +kernel
theorem d_Mo_asks_6 : decode b_Mo_asks 6 = .ok (.iload_n 1, 1) := by decide +kernel
theorem d_Mo_asks_7 : decode b_Mo_asks 7 = .ok (.invokevirtual 83, 3) := by decide +kernel
theorem d_Mo_asks_10 : decode b_Mo_asks 10 = .ok (.ifCond .ne 5, 3) := by decide +kernel
theorem d_Mo_asks_13 : decode b_Mo_asks 13 = .ok (.iconst (-1), 1) := by decide +kernel
theorem d_Mo_asks_14 : decode b_Mo_asks 14 = .ok (.ireturn, 1) := by decide +kernel
theorem d_Mo_asks_15 : decode b_Mo_asks 15 = .ok (.iconst 0, 1) := by decide +kernel
theorem d_Mo_asks_16 : decode b_Mo_asks 16 = .ok (.istore_n 2, 1) := by decide +kernel
theorem d_Mo_asks_17 : decode b_Mo_asks 17 = .ok (.iconst 0, 1) := by decide +kernel
theorem d_Mo_asks_18 : decode b_Mo_asks 18 = .ok (.istore_n 3, 1) := by decide +kernel
theorem d_Mo_asks_19 : decode b_Mo_asks 19 = .ok (.iload_n 3, 1) := by decide +kernel
theorem d_Mo_asks_20 : decode b_Mo_asks 20 = .ok (.sipush 6144, 3) := by decide +kernel
theorem d_Mo_asks_23 : decode b_Mo_asks 23 = .ok (.if_icmp .ge 26, 3) := by decide +kernel
theorem d_Mo_asks_26 : decode b_Mo_asks 26 = .ok (.iload_n 2, 1) := by decide +kernel
theorem d_Mo_asks_27 : decode b_Mo_asks 27 = .ok (.aload_n 0, 1) := by decide +kernel
theorem d_Mo_asks_28 : decode b_Mo_asks 28 = .ok (.iload_n 1, 1) := by decide +kernel
theorem d_Mo_asks_29 : decode b_Mo_asks 29 = .ok (.iload_n 3, 1) := by decide +kernel
theorem d_Mo_asks_30 : decode b_Mo_asks 30 = .ok (.invokevirtual 68, 3) := by decide +kernel
theorem d_Mo_asks_33 : decode b_Mo_asks 33 = .ok (.ifCond .eq 7, 3) := by decide +kernel
theorem d_Mo_asks_36 : decode b_Mo_asks 36 = .ok (.iconst 1, 1) := by decide +kernel
theorem d_Mo_asks_37 : decode b_Mo_asks 37 = .ok (.goto 4, 3) := by decide +kernel
theorem d_Mo_asks_40 : decode b_Mo_asks 40 = .ok (.iconst 0, 1) := by decide +kernel
theorem d_Mo_asks_41 : decode b_Mo_asks 41 = .ok (.iadd, 1) := by decide +kernel
theorem d_Mo_asks_42 : decode b_Mo_asks 42 = .ok (.istore_n 2, 1) := by decide +kernel
theorem d_Mo_asks_43 : decode b_Mo_asks 43 = .ok (.iinc 3 1, 3) := by decide +kernel
theorem d_Mo_asks_46 : decode b_Mo_asks 46 = .ok (.goto (-27), 3) := by decide +kernel
theorem d_Mo_asks_49 : decode b_Mo_asks 49 = .ok (.iload_n 2, 1) := by decide +kernel
theorem d_Mo_asks_50 : decode b_Mo_asks 50 = .ok (.ireturn, 1) := by decide +kernel
theorem d_Mo_ask_0 : decode b_Mo_ask 0 = .ok (.aload_n 0, 1) := by decide +kernel
theorem d_Mo_ask_1 : decode b_Mo_ask 1 = .ok (.iconst 0, 1) := by decide +kernel
theorem d_Mo_ask_2 : decode b_Mo_ask 2 = .ok (.putfield 41, 3) := by decide +kernel
theorem d_Mo_ask_5 : decode b_Mo_ask 5 = .ok (.aload_n 0, 1) := by decide +kernel
theorem d_Mo_ask_6 : decode b_Mo_ask 6 = .ok (.iload_n 1, 1) := by decide +kernel
theorem d_Mo_ask_7 : decode b_Mo_ask 7 = .ok (.invokevirtual 83, 3) := by decide +kernel
theorem d_Mo_ask_10 : decode b_Mo_ask 10 = .ok (.ifCond .ne 5, 3) := by decide +kernel
theorem d_Mo_ask_13 : decode b_Mo_ask 13 = .ok (.iconst (-1), 1) := by decide +kernel
theorem d_Mo_ask_14 : decode b_Mo_ask 14 = .ok (.ireturn, 1) := by decide +kernel
theorem d_Mo_ask_15 : decode b_Mo_ask 15 = .ok (.iconst 0, 1) := by decide +kernel
theorem d_Mo_ask_16 : decode b_Mo_ask 16 = .ok (.istore_n 3, 1) := by decide +kernel
theorem d_Mo_ask_17 : decode b_Mo_ask 17 = .ok (.iconst 0, 1) := by decide +kernel
theorem d_Mo_ask_18 : decode b_Mo_ask 18 = .ok (.istore 4, 2) := by decide +kernel
theorem d_Mo_ask_20 : decode b_Mo_ask 20 = .ok (.iload 4, 2) := by decide +kernel
theorem d_Mo_ask_22 : decode b_Mo_ask 22 = .ok (.sipush 6144, 3) := by decide +kernel
theorem d_Mo_ask_25 : decode b_Mo_ask 25 = .ok (.if_icmp .ge 30, 3) := by decide +kernel
theorem d_Mo_ask_28 : decode b_Mo_ask 28 = .ok (.aload_n 0, 1) := by decide +kernel
theorem d_Mo_ask_29 : decode b_Mo_ask 29 = .ok (.iload_n 1, 1) := by decide +kernel
theorem d_Mo_ask_30 : decode b_Mo_ask 30 = .ok (.iload 4, 2) := by decide +kernel
theorem d_Mo_ask_32 : decode b_Mo_ask 32 = .ok (.invokevirtual 68, 3) := by decide +kernel
theorem d_Mo_ask_35 : decode b_Mo_ask 35 = .ok (.ifCond .eq 14, 3) := by decide +kernel
theorem d_Mo_ask_38 : decode b_Mo_ask 38 = .ok (.iload_n 3, 1) := by decide +kernel
theorem d_Mo_ask_39 : decode b_Mo_ask 39 = .ok (.iload_n 2, 1) := by decide +kernel
theorem d_Mo_ask_40 : decode b_Mo_ask 40 = .ok (.if_icmp .ne 6, 3) := by decide +kernel
theorem d_Mo_ask_43 : decode b_Mo_ask 43 = .ok (.iload 4, 2) := by decide +kernel
theorem d_Mo_ask_45 : decode b_Mo_ask 45 = .ok (.ireturn, 1) := by decide +kernel
theorem d_Mo_ask_46 : decode b_Mo_ask 46 = .ok (.iinc 3 1, 3) := by decide +kernel
theorem d_Mo_ask_49 : decode b_Mo_ask 49 = .ok (.iinc 4 1, 3) := by decide +kernel
theorem d_Mo_ask_52 : decode b_Mo_ask 52 = .ok (.goto (-32), 3) := by decide +kernel
theorem d_Mo_ask_55 : decode b_Mo_ask 55 = .ok (.bipush (-2), 2) := by decide +kernel
theorem d_Mo_ask_57 : decode b_Mo_ask 57 = .ok (.ireturn, 1) := by decide +kernel
theorem d_Mo_within_0 : decode b_Mo_within 0 = .ok (.aload_n 0, 1) := by decide +kernel
theorem d_Mo_within_1 : decode b_Mo_within 1 = .ok (.iconst 0, 1) := by decide +kernel
theorem d_Mo_within_2 : decode b_Mo_within 2 = .ok (.putfield 41, 3) := by decide +kernel
theorem d_Mo_within_5 : decode b_Mo_within 5 = .ok (.aload_n 0, 1) := by decide +kernel
theorem d_Mo_within_6 : decode b_Mo_within 6 = .ok (.iload_n 1, 1) := by decide +kernel
theorem d_Mo_within_7 : decode b_Mo_within 7 = .ok (.invokevirtual 83, 3) := by decide +kernel
theorem d_Mo_within_10 : decode b_Mo_within 10 = .ok (.ifCond .eq 11, 3) := by decide +kernel
theorem d_Mo_within_13 : decode b_Mo_within 13 = .ok (.aload_n 0, 1) := by decide +kernel
theorem d_Mo_within_14 : decode b_Mo_within 14 = .ok (.iload_n 2, 1) := by decide +kernel
theorem d_Mo_within_15 : decode b_Mo_within 15 = .ok (.invokevirtual 83, 3) := by decide +kernel
theorem d_Mo_within_18 : decode b_Mo_within 18 = .ok (.ifCond .ne 5, 3) := by decide +kernel
theorem d_Mo_within_21 : decode b_Mo_within 21 = .ok (.iconst (-1), 1) := by decide +kernel
theorem d_Mo_within_22 : decode b_Mo_within 22 = .ok (.ireturn, 1) := by decide +kernel
theorem d_Mo_within_23 : decode b_Mo_within 23 = .ok (.iconst 0, 1) := by decide +kernel
theorem d_Mo_within_24 : decode b_Mo_within 24 = .ok (.istore_n 3, 1) := by decide +kernel
theorem d_Mo_within_25 : decode b_Mo_within 25 = .ok (.iload_n 3, 1) := by decide +kernel
theorem d_Mo_within_26 : decode b_Mo_within 26 = .ok (.sipush 6144, 3) := by decide +kernel
theorem d_Mo_within_29 : decode b_Mo_within 29 = .ok (.if_icmp .ge 29, 3) := by decide +kernel
theorem d_Mo_within_32 : decode b_Mo_within 32 = .ok (.aload_n 0, 1) := by decide +kernel
theorem d_Mo_within_33 : decode b_Mo_within 33 = .ok (.iload_n 1, 1) := by decide +kernel
theorem d_Mo_within_34 : decode b_Mo_within 34 = .ok (.iload_n 3, 1) := by decide +kernel
theorem d_Mo_within_35 : decode b_Mo_within 35 = .ok (.invokevirtual 68, 3) := by decide +kernel
theorem d_Mo_within_38 : decode b_Mo_within 38 = .ok (.ifCond .eq 14, 3) := by decide +kernel
theorem d_Mo_within_41 : decode b_Mo_within 41 = .ok (.aload_n 0, 1) := by decide +kernel
theorem d_Mo_within_42 : decode b_Mo_within 42 = .ok (.iload_n 2, 1) := by decide +kernel
theorem d_Mo_within_43 : decode b_Mo_within 43 = .ok (.iload_n 3, 1) := by decide +kernel
theorem d_Mo_within_44 : decode b_Mo_within 44 = .ok (.invokevirtual 68, 3) := by decide +kernel
theorem d_Mo_within_47 : decode b_Mo_within 47 = .ok (.ifCond .ne 5, 3) := by decide +kernel
theorem d_Mo_within_50 : decode b_Mo_within 50 = .ok (.iconst 0, 1) := by decide +kernel
theorem d_Mo_within_51 : decode b_Mo_within 51 = .ok (.ireturn, 1) := by decide +kernel
theorem d_Mo_within_52 : decode b_Mo_within 52 = .ok (.iinc 3 1, 3) := by decide +kernel
theorem d_Mo_within_55 : decode b_Mo_within 55 = .ok (.goto (-30), 3) := by decide +kernel
theorem d_Mo_within_58 : decode b_Mo_within 58 = .ok (.iconst 1, 1) := by decide +kernel
theorem d_Mo_within_59 : decode b_Mo_within 59 = .ok (.ireturn, 1) := by decide +kernel
theorem d_Mo_decides_0 : decode b_Mo_decides 0 = .ok (.aload_n 0, 1) := by decide +kernel
theorem d_Mo_decides_1 : decode b_Mo_decides 1 = .ok (.iconst 0, 1) := by decide +kernel
theorem d_Mo_decides_2 : decode b_Mo_decides 2 = .ok (.putfield 41, 3) := by decide +kernel
theorem d_Mo_decides_5 : decode b_Mo_decides 5 = .ok (.aload_n 0, 1) := by decide +kernel
theorem d_Mo_decides_6 : decode b_Mo_decides 6 = .ok (.iload_n 1, 1) := by decide +kernel
theorem d_Mo_decides_7 : decode b_Mo_decides 7 = .ok (.invokevirtual 91, 3) := by decide +kernel
theorem d_Mo_decides_10 : decode b_Mo_decides 10 = .ok (.ifCond .ne 5, 3) := by decide +kernel
theorem d_Mo_decides_13 : decode b_Mo_decides 13 = .ok (.iconst (-1), 1) := by decide +kernel
theorem d_Mo_decides_14 : decode b_Mo_decides 14 = .ok (.ireturn, 1) := by decide +kernel
theorem d_Mo_decides_15 : decode b_Mo_decides 15 = .ok (.aload_n 0, 1) := by decide +kernel
theorem d_Mo_decides_16 : decode b_Mo_decides 16 = .ok (.invokevirtual 101, 3) := by decide +kernel
theorem d_Mo_decides_19 : decode b_Mo_decides 19 = .ok (.iconst 0, 1) := by decide +kernel
theorem d_Mo_decides_20 : decode b_Mo_decides 20 = .ok (.istore_n 2, 1) := by decide +kernel
theorem d_Mo_decides_21 : decode b_Mo_decides 21 = .ok (.iconst 0, 1) := by decide +kernel
theorem d_Mo_decides_22 : decode b_Mo_decides 22 = .ok (.istore_n 3, 1) := by decide +kernel
theorem d_Mo_decides_23 : decode b_Mo_decides 23 = .ok (.iload_n 3, 1) := by decide +kernel
theorem d_Mo_decides_24 : decode b_Mo_decides 24 = .ok (.sipush 6144, 3) := by decide +kernel
theorem d_Mo_decides_27 : decode b_Mo_decides 27 = .ok (.if_icmp .ge 27, 3) := by decide +kernel
theorem d_Mo_decides_30 : decode b_Mo_decides 30 = .ok (.iload_n 2, 1) := by decide +kernel
theorem d_Mo_decides_31 : decode b_Mo_decides 31 = .ok (.aload_n 0, 1) := by decide +kernel
theorem d_Mo_decides_32 : decode b_Mo_decides 32 = .ok (.getfield 38, 3) := by decide +kernel
theorem d_Mo_decides_35 : decode b_Mo_decides 35 = .ok (.iload_n 3, 1) := by decide +kernel
theorem d_Mo_decides_36 : decode b_Mo_decides 36 = .ok (.iaload, 1) := by decide +kernel
theorem d_Mo_decides_37 : decode b_Mo_decides 37 = .ok (.iload_n 1, 1) := by decide +kernel
theorem d_Mo_decides_38 : decode b_Mo_decides 38 = .ok (.if_icmp .ne 7, 3) := by decide +kernel
theorem d_Mo_decides_41 : decode b_Mo_decides 41 = .ok (.iconst 1, 1) := by decide +kernel
theorem d_Mo_decides_42 : decode b_Mo_decides 42 = .ok (.goto 4, 3) := by decide +kernel
theorem d_Mo_decides_45 : decode b_Mo_decides 45 = .ok (.iconst 0, 1) := by decide +kernel
theorem d_Mo_decides_46 : decode b_Mo_decides 46 = .ok (.iadd, 1) := by decide +kernel
theorem d_Mo_decides_47 : decode b_Mo_decides 47 = .ok (.istore_n 2, 1) := by decide +kernel
theorem d_Mo_decides_48 : decode b_Mo_decides 48 = .ok (.iinc 3 1, 3) := by decide +kernel
theorem d_Mo_decides_51 : decode b_Mo_decides 51 = .ok (.goto (-28), 3) := by decide +kernel
theorem d_Mo_decides_54 : decode b_Mo_decides 54 = .ok (.iload_n 2, 1) := by decide +kernel
theorem d_Mo_decides_55 : decode b_Mo_decides 55 = .ok (.ireturn, 1) := by decide +kernel
theorem d_Mo_sees_0 : decode b_Mo_sees 0 = .ok (.aload_n 0, 1) := by decide +kernel
theorem d_Mo_sees_1 : decode b_Mo_sees 1 = .ok (.iconst 0, 1) := by decide +kernel
theorem d_Mo_sees_2 : decode b_Mo_sees 2 = .ok (.putfield 41, 3) := by decide +kernel
theorem d_Mo_sees_5 : decode b_Mo_sees 5 = .ok (.iload_n 1, 1) := by decide +kernel
theorem d_Mo_sees_6 : decode b_Mo_sees 6 = .ok (.iconst 0, 1) := by decide +kernel
theorem d_Mo_sees_7 : decode b_Mo_sees 7 = .ok (.bipush 7, 2) := by decide +kernel
theorem d_Mo_sees_9 : decode b_Mo_sees 9 = .ok (.invokestatic 48, 3) := by decide +kernel
theorem d_Mo_sees_12 : decode b_Mo_sees 12 = .ok (.ifCond .eq 13, 3) := by decide +kernel
theorem d_Mo_sees_15 : decode b_Mo_sees 15 = .ok (.iload_n 2, 1) := by decide +kernel
theorem d_Mo_sees_16 : decode b_Mo_sees 16 = .ok (.iconst 0, 1) := by decide +kernel
theorem d_Mo_sees_17 : decode b_Mo_sees 17 = .ok (.bipush 7, 2) := by decide +kernel
theorem d_Mo_sees_19 : decode b_Mo_sees 19 = .ok (.invokestatic 48, 3) := by decide +kernel
theorem d_Mo_sees_22 : decode b_Mo_sees 22 = .ok (.ifCond .ne 5, 3) := by decide +kernel
theorem d_Mo_sees_25 : decode b_Mo_sees 25 = .ok (.iconst (-1), 1) := by decide +kernel
theorem d_Mo_sees_26 : decode b_Mo_sees 26 = .ok (.ireturn, 1) := by decide +kernel
theorem d_Mo_sees_27 : decode b_Mo_sees 27 = .ok (.aload_n 0, 1) := by decide +kernel
theorem d_Mo_sees_28 : decode b_Mo_sees 28 = .ok (.invokevirtual 101, 3) := by decide +kernel
theorem d_Mo_sees_31 : decode b_Mo_sees 31 = .ok (.iconst 0, 1) := by decide +kernel
theorem d_Mo_sees_32 : decode b_Mo_sees 32 = .ok (.istore_n 3, 1) := by decide +kernel
theorem d_Mo_sees_33 : decode b_Mo_sees 33 = .ok (.iconst 0, 1) := by decide +kernel
theorem d_Mo_sees_34 : decode b_Mo_sees 34 = .ok (.istore 4, 2) := by decide +kernel
theorem d_Mo_sees_36 : decode b_Mo_sees 36 = .ok (.iload 4, 2) := by decide +kernel
theorem d_Mo_sees_38 : decode b_Mo_sees 38 = .ok (.bipush 96, 2) := by decide +kernel
theorem d_Mo_sees_40 : decode b_Mo_sees 40 = .ok (.if_icmp .ge 42, 3) := by decide +kernel
theorem d_Mo_sees_43 : decode b_Mo_sees 43 = .ok (.iload_n 3, 1) := by decide +kernel
theorem d_Mo_sees_44 : decode b_Mo_sees 44 = .ok (.aload_n 0, 1) := by decide +kernel
theorem d_Mo_sees_45 : decode b_Mo_sees 45 = .ok (.aload_n 0, 1) := by decide +kernel
theorem d_Mo_sees_46 : decode b_Mo_sees 46 = .ok (.getfield 38, 3) := by decide +kernel
theorem d_Mo_sees_49 : decode b_Mo_sees 49 = .ok (.sipush 768, 3) := by decide +kernel
theorem d_Mo_sees_52 : decode b_Mo_sees 52 = .ok (.iload_n 1, 1) := by decide +kernel
theorem d_Mo_sees_53 : decode b_Mo_sees 53 = .ok (.imul, 1) := by decide +kernel
theorem d_Mo_sees_54 : decode b_Mo_sees 54 = .ok (.bipush 8, 2) := by decide +kernel
theorem d_Mo_sees_56 : decode b_Mo_sees 56 = .ok (.iload 4, 2) := by decide +kernel
theorem d_Mo_sees_58 : decode b_Mo_sees 58 = .ok (.imul, 1) := by decide +kernel
theorem d_Mo_sees_59 : decode b_Mo_sees 59 = .ok (.iadd, 1) := by decide +kernel
theorem d_Mo_sees_60 : decode b_Mo_sees 60 = .ok (.iload_n 2, 1) := by decide +kernel
theorem d_Mo_sees_61 : decode b_Mo_sees 61 = .ok (.iadd, 1) := by decide +kernel
theorem d_Mo_sees_62 : decode b_Mo_sees 62 = .ok (.iaload, 1) := by decide +kernel
theorem d_Mo_sees_63 : decode b_Mo_sees 63 = .ok (.invokevirtual 104, 3) := by decide +kernel
theorem d_Mo_sees_66 : decode b_Mo_sees 66 = .ok (.ifCond .eq 7, 3) := by decide +kernel
theorem d_Mo_sees_69 : decode b_Mo_sees 69 = .ok (.iconst 1, 1) := by decide +kernel
theorem d_Mo_sees_70 : decode b_Mo_sees 70 = .ok (.goto 4, 3) := by decide +kernel
theorem d_Mo_sees_73 : decode b_Mo_sees 73 = .ok (.iconst 0, 1) := by decide +kernel
theorem d_Mo_sees_74 : decode b_Mo_sees 74 = .ok (.iadd, 1) := by decide +kernel
theorem d_Mo_sees_75 : decode b_Mo_sees 75 = .ok (.istore_n 3, 1) := by decide +kernel
theorem d_Mo_sees_76 : decode b_Mo_sees 76 = .ok (.iinc 4 1, 3) := by decide +kernel
theorem d_Mo_sees_79 : decode b_Mo_sees 79 = .ok (.goto (-43), 3) := by decide +kernel
theorem d_Mo_sees_82 : decode b_Mo_sees 82 = .ok (.iload_n 3, 1) := by decide +kernel
theorem d_Mo_sees_83 : decode b_Mo_sees 83 = .ok (.ireturn, 1) := by decide +kernel
theorem d_Mo_matters_0 : decode b_Mo_matters 0 = .ok (.aload_n 0, 1) := by decide +kernel
theorem d_Mo_matters_1 : decode b_Mo_matters 1 = .ok (.iconst 0, 1) := by decide +kernel
theorem d_Mo_matters_2 : decode b_Mo_matters 2 = .ok (.putfield 41, 3) := by decide +kernel
theorem d_Mo_matters_5 : decode b_Mo_matters 5 = .ok (.aload_n 0, 1) := by decide +kernel
theorem d_Mo_matters_6 : decode b_Mo_matters 6 = .ok (.iload_n 1, 1) := by decide +kernel
theorem d_Mo_matters_7 : decode b_Mo_matters 7 = .ok (.invokevirtual 91, 3) := by decide +kernel
theorem d_Mo_matters_10 : decode b_Mo_matters 10 = .ok (.ifCond .ne 5, 3) := by decide +kernel
theorem d_Mo_matters_13 : decode b_Mo_matters 13 = .ok (.iconst (-1), 1) := by decide +kernel
theorem d_Mo_matters_14 : decode b_Mo_matters 14 = .ok (.ireturn, 1) := by decide +kernel
theorem d_Mo_matters_15 : decode b_Mo_matters 15 = .ok (.aload_n 0, 1) := by decide +kernel
theorem d_Mo_matters_16 : decode b_Mo_matters 16 = .ok (.invokevirtual 101, 3) := by decide +kernel
theorem d_Mo_matters_19 : decode b_Mo_matters 19 = .ok (.iconst 0, 1) := by decide +kernel
theorem d_Mo_matters_20 : decode b_Mo_matters 20 = .ok (.istore_n 2, 1) := by decide +kernel
theorem d_Mo_matters_21 : decode b_Mo_matters 21 = .ok (.iconst 0, 1) := by decide +kernel
theorem d_Mo_matters_22 : decode b_Mo_matters 22 = .ok (.istore_n 3, 1) := by decide +kernel
theorem d_Mo_matters_23 : decode b_Mo_matters 23 = .ok (.iload_n 3, 1) := by decide +kernel
theorem d_Mo_matters_24 : decode b_Mo_matters 24 = .ok (.sipush 6144, 3) := by decide +kernel
theorem d_Mo_matters_27 : decode b_Mo_matters 27 = .ok (.if_icmp .ge 40, 3) := by decide +kernel
theorem d_Mo_matters_30 : decode b_Mo_matters 30 = .ok (.iload_n 2, 1) := by decide +kernel
theorem d_Mo_matters_31 : decode b_Mo_matters 31 = .ok (.aload_n 0, 1) := by decide +kernel
theorem d_Mo_matters_32 : decode b_Mo_matters 32 = .ok (.aload_n 0, 1) := by decide +kernel
theorem d_Mo_matters_33 : decode b_Mo_matters 33 = .ok (.getfield 38, 3) := by decide +kernel
theorem d_Mo_matters_36 : decode b_Mo_matters 36 = .ok (.iload_n 3, 1) := by decide +kernel
theorem d_Mo_matters_37 : decode b_Mo_matters 37 = .ok (.iaload, 1) := by decide +kernel
theorem d_Mo_matters_38 : decode b_Mo_matters 38 = .ok (.invokevirtual 104, 3) := by decide +kernel
theorem d_Mo_matters_41 : decode b_Mo_matters 41 = .ok (.aload_n 0, 1) := by decide +kernel
theorem d_Mo_matters_42 : decode b_Mo_matters 42 = .ok (.aload_n 0, 1) := by decide +kernel
theorem d_Mo_matters_43 : decode b_Mo_matters 43 = .ok (.iload_n 3, 1) := by decide +kernel
theorem d_Mo_matters_44 : decode b_Mo_matters 44 = .ok (.iload_n 1, 1) := by decide +kernel
theorem d_Mo_matters_45 : decode b_Mo_matters 45 = .ok (.invokevirtual 98, 3) := by decide +kernel
theorem d_Mo_matters_48 : decode b_Mo_matters 48 = .ok (.invokevirtual 104, 3) := by decide +kernel
theorem d_Mo_matters_51 : decode b_Mo_matters 51 = .ok (.if_icmp .eq 7, 3) := by decide +kernel
theorem d_Mo_matters_54 : decode b_Mo_matters 54 = .ok (.iconst 1, 1) := by decide +kernel
theorem d_Mo_matters_55 : decode b_Mo_matters 55 = .ok (.goto 4, 3) := by decide +kernel
theorem d_Mo_matters_58 : decode b_Mo_matters 58 = .ok (.iconst 0, 1) := by decide +kernel
theorem d_Mo_matters_59 : decode b_Mo_matters 59 = .ok (.iadd, 1) := by decide +kernel
theorem d_Mo_matters_60 : decode b_Mo_matters 60 = .ok (.istore_n 2, 1) := by decide +kernel
theorem d_Mo_matters_61 : decode b_Mo_matters 61 = .ok (.iinc 3 1, 3) := by decide +kernel
theorem d_Mo_matters_64 : decode b_Mo_matters 64 = .ok (.goto (-41), 3) := by decide +kernel
theorem d_Mo_matters_67 : decode b_Mo_matters 67 = .ok (.iload_n 2, 1) := by decide +kernel
theorem d_Mo_matters_68 : decode b_Mo_matters 68 = .ok (.ireturn, 1) := by decide +kernel
theorem d_Mo_wouldDecide_0 : decode b_Mo_wouldDecide 0 = .ok (.aload_n 0, 1) := by decide +kernel
theorem d_Mo_wouldDecide_1 : decode b_Mo_wouldDecide 1 = .ok (.iload_n 3, 1) := by decide +kernel
theorem d_Mo_wouldDecide_2 : decode b_Mo_wouldDecide 2 = .ok (.bipush (-2), 2) := by decide +kernel
theorem d_Mo_wouldDecide_4 : decode b_Mo_wouldDecide 4 = .ok (.invokevirtual 94, 3) := by decide +kernel
theorem d_Mo_wouldDecide_7 : decode b_Mo_wouldDecide 7 = .ok (.istore 4, 2) := by decide +kernel
theorem d_Mo_wouldDecide_9 : decode b_Mo_wouldDecide 9 = .ok (.iload_n 1, 1) := by decide +kernel
theorem d_Mo_wouldDecide_10 : decode b_Mo_wouldDecide 10 = .ok (.iload 4, 2) := by decide +kernel
theorem d_Mo_wouldDecide_12 : decode b_Mo_wouldDecide 12 = .ok (.if_icmp .lt 26, 3) := by decide +kernel
theorem d_Mo_wouldDecide_15 : decode b_Mo_wouldDecide 15 = .ok (.iload_n 1, 1) := by decide +kernel
theorem d_Mo_wouldDecide_16 : decode b_Mo_wouldDecide 16 = .ok (.iload 4, 2) := by decide +kernel
theorem d_Mo_wouldDecide_18 : decode b_Mo_wouldDecide 18 = .ok (.if_icmp .ne 24, 3) := by decide +kernel
theorem d_Mo_wouldDecide_21 : decode b_Mo_wouldDecide 21 = .ok (.iload_n 2, 1) := by decide +kernel
theorem d_Mo_wouldDecide_22 : decode b_Mo_wouldDecide 22 = .ok (.ifCond .eq 20, 3) := by decide +kernel
theorem d_Mo_wouldDecide_25 : decode b_Mo_wouldDecide 25 = .ok (.aload_n 0, 1) := by decide +kernel
theorem d_Mo_wouldDecide_26 : decode b_Mo_wouldDecide 26 = .ok (.aload_n 0, 1) := by decide +kernel
theorem d_Mo_wouldDecide_27 : decode b_Mo_wouldDecide 27 = .ok (.getfield 38, 3) := by decide +kernel
theorem d_Mo_wouldDecide_30 : decode b_Mo_wouldDecide 30 = .ok (.iload_n 3, 1) := by decide +kernel
theorem d_Mo_wouldDecide_31 : decode b_Mo_wouldDecide 31 = .ok (.iaload, 1) := by decide +kernel
theorem d_Mo_wouldDecide_32 : decode b_Mo_wouldDecide 32 = .ok (.invokevirtual 104, 3) := by decide +kernel
theorem d_Mo_wouldDecide_35 : decode b_Mo_wouldDecide 35 = .ok (.ifCond .eq 7, 3) := by decide +kernel
theorem d_Mo_wouldDecide_38 : decode b_Mo_wouldDecide 38 = .ok (.iconst 1, 1) := by decide +kernel
theorem d_Mo_wouldDecide_39 : decode b_Mo_wouldDecide 39 = .ok (.goto 4, 3) := by decide +kernel
theorem d_Mo_wouldDecide_42 : decode b_Mo_wouldDecide 42 = .ok (.iconst 0, 1) := by decide +kernel
theorem d_Mo_wouldDecide_43 : decode b_Mo_wouldDecide 43 = .ok (.ireturn, 1) := by decide +kernel
theorem d_Mo_idle_0 : decode b_Mo_idle 0 = .ok (.aload_n 0, 1) := by decide +kernel
theorem d_Mo_idle_1 : decode b_Mo_idle 1 = .ok (.iconst 0, 1) := by decide +kernel
theorem d_Mo_idle_2 : decode b_Mo_idle 2 = .ok (.putfield 41, 3) := by decide +kernel
theorem d_Mo_idle_5 : decode b_Mo_idle 5 = .ok (.aload_n 0, 1) := by decide +kernel
theorem d_Mo_idle_6 : decode b_Mo_idle 6 = .ok (.iload_n 2, 1) := by decide +kernel
theorem d_Mo_idle_7 : decode b_Mo_idle 7 = .ok (.invokevirtual 83, 3) := by decide +kernel
theorem d_Mo_idle_10 : decode b_Mo_idle 10 = .ok (.ifCond .ne 5, 3) := by decide +kernel
theorem d_Mo_idle_13 : decode b_Mo_idle 13 = .ok (.iconst (-1), 1) := by decide +kernel
theorem d_Mo_idle_14 : decode b_Mo_idle 14 = .ok (.ireturn, 1) := by decide +kernel
theorem d_Mo_idle_15 : decode b_Mo_idle 15 = .ok (.aload_n 0, 1) := by decide +kernel
theorem d_Mo_idle_16 : decode b_Mo_idle 16 = .ok (.invokevirtual 101, 3) := by decide +kernel
theorem d_Mo_idle_19 : decode b_Mo_idle 19 = .ok (.iconst 0, 1) := by decide +kernel
theorem d_Mo_idle_20 : decode b_Mo_idle 20 = .ok (.istore_n 3, 1) := by decide +kernel
theorem d_Mo_idle_21 : decode b_Mo_idle 21 = .ok (.iload_n 3, 1) := by decide +kernel
theorem d_Mo_idle_22 : decode b_Mo_idle 22 = .ok (.bipush 10, 2) := by decide +kernel
theorem d_Mo_idle_24 : decode b_Mo_idle 24 = .ok (.if_icmp .ge 69, 3) := by decide +kernel
theorem d_Mo_idle_27 : decode b_Mo_idle 27 = .ok (.iconst 0, 1) := by decide +kernel
theorem d_Mo_idle_28 : decode b_Mo_idle 28 = .ok (.istore 4, 2) := by decide +kernel
theorem d_Mo_idle_30 : decode b_Mo_idle 30 = .ok (.iconst 0, 1) := by decide +kernel
theorem d_Mo_idle_31 : decode b_Mo_idle 31 = .ok (.istore 5, 2) := by decide +kernel
theorem d_Mo_idle_33 : decode b_Mo_idle 33 = .ok (.iload 5, 2) := by decide +kernel
theorem d_Mo_idle_35 : decode b_Mo_idle 35 = .ok (.sipush 6144, 3) := by decide +kernel
theorem d_Mo_idle_38 : decode b_Mo_idle 38 = .ok (.if_icmp .ge 42, 3) := by decide +kernel
theorem d_Mo_idle_41 : decode b_Mo_idle 41 = .ok (.iload 4, 2) := by decide +kernel
theorem d_Mo_idle_43 : decode b_Mo_idle 43 = .ok (.ifCond .ne 37, 3) := by decide +kernel
theorem d_Mo_idle_46 : decode b_Mo_idle 46 = .ok (.aload_n 0, 1) := by decide +kernel
theorem d_Mo_idle_47 : decode b_Mo_idle 47 = .ok (.iload_n 2, 1) := by decide +kernel
theorem d_Mo_idle_48 : decode b_Mo_idle 48 = .ok (.iload 5, 2) := by decide +kernel
theorem d_Mo_idle_50 : decode b_Mo_idle 50 = .ok (.invokevirtual 68, 3) := by decide +kernel
theorem d_Mo_idle_53 : decode b_Mo_idle 53 = .ok (.ifCond .eq 18, 3) := by decide +kernel
theorem d_Mo_idle_56 : decode b_Mo_idle 56 = .ok (.aload_n 0, 1) := by decide +kernel
theorem d_Mo_idle_57 : decode b_Mo_idle 57 = .ok (.iload_n 3, 1) := by decide +kernel
theorem d_Mo_idle_58 : decode b_Mo_idle 58 = .ok (.iload_n 1, 1) := by decide +kernel
theorem d_Mo_idle_59 : decode b_Mo_idle 59 = .ok (.iload 5, 2) := by decide +kernel
theorem d_Mo_idle_61 : decode b_Mo_idle 61 = .ok (.invokevirtual 107, 3) := by decide +kernel
theorem d_Mo_idle_64 : decode b_Mo_idle 64 = .ok (.ifCond .eq 7, 3) := by decide +kernel
theorem d_Mo_idle_67 : decode b_Mo_idle 67 = .ok (.iconst 1, 1) := by decide +kernel
theorem d_Mo_idle_68 : decode b_Mo_idle 68 = .ok (.goto 4, 3) := by decide +kernel
theorem d_Mo_idle_71 : decode b_Mo_idle 71 = .ok (.iconst 0, 1) := by decide +kernel
theorem d_Mo_idle_72 : decode b_Mo_idle 72 = .ok (.istore 4, 2) := by decide +kernel
theorem d_Mo_idle_74 : decode b_Mo_idle 74 = .ok (.iinc 5 1, 3) := by decide +kernel
theorem d_Mo_idle_77 : decode b_Mo_idle 77 = .ok (.goto (-44), 3) := by decide +kernel
theorem d_Mo_idle_80 : decode b_Mo_idle 80 = .ok (.iload 4, 2) := by decide +kernel
theorem d_Mo_idle_82 : decode b_Mo_idle 82 = .ok (.ifCond .ne 5, 3) := by decide +kernel
theorem d_Mo_idle_85 : decode b_Mo_idle 85 = .ok (.iload_n 3, 1) := by decide +kernel
theorem d_Mo_idle_86 : decode b_Mo_idle 86 = .ok (.ireturn, 1) := by decide +kernel
theorem d_Mo_idle_87 : decode b_Mo_idle 87 = .ok (.iinc 3 1, 3) := by decide +kernel
theorem d_Mo_idle_90 : decode b_Mo_idle 90 = .ok (.goto (-69), 3) := by decide +kernel
theorem d_Mo_idle_93 : decode b_Mo_idle 93 = .ok (.bipush 10, 2) := by decide +kernel
theorem d_Mo_idle_95 : decode b_Mo_idle 95 = .ok (.ireturn, 1) := by decide +kernel
theorem d_Mo_apart_0 : decode b_Mo_apart 0 = .ok (.aload_n 0, 1) := by decide +kernel
theorem d_Mo_apart_1 : decode b_Mo_apart 1 = .ok (.iconst 0, 1) := by decide +kernel
theorem d_Mo_apart_2 : decode b_Mo_apart 2 = .ok (.putfield 41, 3) := by decide +kernel
theorem d_Mo_apart_5 : decode b_Mo_apart 5 = .ok (.iload_n 1, 1) := by decide +kernel
theorem d_Mo_apart_6 : decode b_Mo_apart 6 = .ok (.iconst 0, 1) := by decide +kernel
theorem d_Mo_apart_7 : decode b_Mo_apart 7 = .ok (.bipush 7, 2) := by decide +kernel
theorem d_Mo_apart_9 : decode b_Mo_apart 9 = .ok (.invokestatic 48, 3) := by decide +kernel
theorem d_Mo_apart_12 : decode b_Mo_apart 12 = .ok (.ifCond .eq 13, 3) := by decide +kernel
theorem d_Mo_apart_15 : decode b_Mo_apart 15 = .ok (.iload_n 2, 1) := by decide +kernel
theorem d_Mo_apart_16 : decode b_Mo_apart 16 = .ok (.iconst 0, 1) := by decide +kernel
theorem d_Mo_apart_17 : decode b_Mo_apart 17 = .ok (.bipush 7, 2) := by decide +kernel
theorem d_Mo_apart_19 : decode b_Mo_apart 19 = .ok (.invokestatic 48, 3) := by decide +kernel
theorem d_Mo_apart_22 : decode b_Mo_apart 22 = .ok (.ifCond .ne 5, 3) := by decide +kernel
theorem d_Mo_apart_25 : decode b_Mo_apart 25 = .ok (.iconst (-1), 1) := by decide +kernel
theorem d_Mo_apart_26 : decode b_Mo_apart 26 = .ok (.ireturn, 1) := by decide +kernel
theorem d_Mo_apart_27 : decode b_Mo_apart 27 = .ok (.aload_n 0, 1) := by decide +kernel
theorem d_Mo_apart_28 : decode b_Mo_apart 28 = .ok (.invokevirtual 101, 3) := by decide +kernel
theorem d_Mo_apart_31 : decode b_Mo_apart 31 = .ok (.iconst 0, 1) := by decide +kernel
theorem d_Mo_apart_32 : decode b_Mo_apart 32 = .ok (.istore_n 3, 1) := by decide +kernel
theorem d_Mo_apart_33 : decode b_Mo_apart 33 = .ok (.iload_n 3, 1) := by decide +kernel
theorem d_Mo_apart_34 : decode b_Mo_apart 34 = .ok (.sipush 768, 3) := by decide +kernel
theorem d_Mo_apart_37 : decode b_Mo_apart 37 = .ok (.if_icmp .ge 52, 3) := by decide +kernel
theorem d_Mo_apart_40 : decode b_Mo_apart 40 = .ok (.aload_n 0, 1) := by decide +kernel
theorem d_Mo_apart_41 : decode b_Mo_apart 41 = .ok (.aload_n 0, 1) := by decide +kernel
theorem d_Mo_apart_42 : decode b_Mo_apart 42 = .ok (.getfield 38, 3) := by decide +kernel
theorem d_Mo_apart_45 : decode b_Mo_apart 45 = .ok (.sipush 768, 3) := by decide +kernel
theorem d_Mo_apart_48 : decode b_Mo_apart 48 = .ok (.iload_n 1, 1) := by decide +kernel
theorem d_Mo_apart_49 : decode b_Mo_apart 49 = .ok (.imul, 1) := by decide +kernel
theorem d_Mo_apart_50 : decode b_Mo_apart 50 = .ok (.iload_n 3, 1) := by decide +kernel
theorem d_Mo_apart_51 : decode b_Mo_apart 51 = .ok (.iadd, 1) := by decide +kernel
theorem d_Mo_apart_52 : decode b_Mo_apart 52 = .ok (.iaload, 1) := by decide +kernel
theorem d_Mo_apart_53 : decode b_Mo_apart 53 = .ok (.invokevirtual 104, 3) := by decide +kernel
theorem d_Mo_apart_56 : decode b_Mo_apart 56 = .ok (.aload_n 0, 1) := by decide +kernel
theorem d_Mo_apart_57 : decode b_Mo_apart 57 = .ok (.aload_n 0, 1) := by decide +kernel
theorem d_Mo_apart_58 : decode b_Mo_apart 58 = .ok (.getfield 38, 3) := by decide +kernel
theorem d_Mo_apart_61 : decode b_Mo_apart 61 = .ok (.sipush 768, 3) := by decide +kernel
theorem d_Mo_apart_64 : decode b_Mo_apart 64 = .ok (.iload_n 2, 1) := by decide +kernel
theorem d_Mo_apart_65 : decode b_Mo_apart 65 = .ok (.imul, 1) := by decide +kernel
theorem d_Mo_apart_66 : decode b_Mo_apart 66 = .ok (.iload_n 3, 1) := by decide +kernel
theorem d_Mo_apart_67 : decode b_Mo_apart 67 = .ok (.iadd, 1) := by decide +kernel
theorem d_Mo_apart_68 : decode b_Mo_apart 68 = .ok (.iaload, 1) := by decide +kernel
theorem d_Mo_apart_69 : decode b_Mo_apart 69 = .ok (.invokevirtual 104, 3) := by decide +kernel
theorem d_Mo_apart_72 : decode b_Mo_apart 72 = .ok (.if_icmp .eq 11, 3) := by decide +kernel
theorem d_Mo_apart_75 : decode b_Mo_apart 75 = .ok (.sipush 768, 3) := by decide +kernel
theorem d_Mo_apart_78 : decode b_Mo_apart 78 = .ok (.iload_n 1, 1) := by decide +kernel
theorem d_Mo_apart_79 : decode b_Mo_apart 79 = .ok (.imul, 1) := by decide +kernel
theorem d_Mo_apart_80 : decode b_Mo_apart 80 = .ok (.iload_n 3, 1) := by decide +kernel
theorem d_Mo_apart_81 : decode b_Mo_apart 81 = .ok (.iadd, 1) := by decide +kernel
theorem d_Mo_apart_82 : decode b_Mo_apart 82 = .ok (.ireturn, 1) := by decide +kernel
theorem d_Mo_apart_83 : decode b_Mo_apart 83 = .ok (.iinc 3 1, 3) := by decide +kernel
theorem d_Mo_apart_86 : decode b_Mo_apart 86 = .ok (.goto (-53), 3) := by decide +kernel
theorem d_Mo_apart_89 : decode b_Mo_apart 89 = .ok (.bipush (-2), 2) := by decide +kernel
theorem d_Mo_apart_91 : decode b_Mo_apart 91 = .ok (.ireturn, 1) := by decide +kernel
theorem d_Mo_allowed_0 : decode b_Mo_allowed 0 = .ok (.aload_n 0, 1) := by decide +kernel
theorem d_Mo_allowed_1 : decode b_Mo_allowed 1 = .ok (.iconst 0, 1) := by decide +kernel
theorem d_Mo_allowed_2 : decode b_Mo_allowed 2 = .ok (.putfield 41, 3) := by decide +kernel
theorem d_Mo_allowed_5 : decode b_Mo_allowed 5 = .ok (.aload_n 0, 1) := by decide +kernel
theorem d_Mo_allowed_6 : decode b_Mo_allowed 6 = .ok (.invokevirtual 101, 3) := by decide +kernel
theorem d_Mo_allowed_9 : decode b_Mo_allowed 9 = .ok (.iconst 0, 1) := by decide +kernel
theorem d_Mo_allowed_10 : decode b_Mo_allowed 10 = .ok (.istore_n 1, 1) := by decide +kernel
theorem d_Mo_allowed_11 : decode b_Mo_allowed 11 = .ok (.iconst 0, 1) := by decide +kernel
theorem d_Mo_allowed_12 : decode b_Mo_allowed 12 = .ok (.istore_n 2, 1) := by decide +kernel
theorem d_Mo_allowed_13 : decode b_Mo_allowed 13 = .ok (.iload_n 2, 1) := by decide +kernel
theorem d_Mo_allowed_14 : decode b_Mo_allowed 14 = .ok (.sipush 6144, 3) := by decide +kernel
theorem d_Mo_allowed_17 : decode b_Mo_allowed 17 = .ok (.if_icmp .ge 30, 3) := by decide +kernel
theorem d_Mo_allowed_20 : decode b_Mo_allowed 20 = .ok (.iload_n 1, 1) := by decide +kernel
theorem d_Mo_allowed_21 : decode b_Mo_allowed 21 = .ok (.aload_n 0, 1) := by decide +kernel
theorem d_Mo_allowed_22 : decode b_Mo_allowed 22 = .ok (.aload_n 0, 1) := by decide +kernel
theorem d_Mo_allowed_23 : decode b_Mo_allowed 23 = .ok (.getfield 38, 3) := by decide +kernel
theorem d_Mo_allowed_26 : decode b_Mo_allowed 26 = .ok (.iload_n 2, 1) := by decide +kernel
theorem d_Mo_allowed_27 : decode b_Mo_allowed 27 = .ok (.iaload, 1) := by decide +kernel
theorem d_Mo_allowed_28 : decode b_Mo_allowed 28 = .ok (.invokevirtual 104, 3) := by decide +kernel
theorem d_Mo_allowed_31 : decode b_Mo_allowed 31 = .ok (.ifCond .eq 7, 3) := by decide +kernel
theorem d_Mo_allowed_34 : decode b_Mo_allowed 34 = .ok (.iconst 1, 1) := by decide +kernel
theorem d_Mo_allowed_35 : decode b_Mo_allowed 35 = .ok (.goto 4, 3) := by decide +kernel
theorem d_Mo_allowed_38 : decode b_Mo_allowed 38 = .ok (.iconst 0, 1) := by decide +kernel
theorem d_Mo_allowed_39 : decode b_Mo_allowed 39 = .ok (.iadd, 1) := by decide +kernel
theorem d_Mo_allowed_40 : decode b_Mo_allowed 40 = .ok (.istore_n 1, 1) := by decide +kernel
theorem d_Mo_allowed_41 : decode b_Mo_allowed 41 = .ok (.iinc 2 1, 3) := by decide +kernel
theorem d_Mo_allowed_44 : decode b_Mo_allowed 44 = .ok (.goto (-31), 3) := by decide +kernel
theorem d_Mo_allowed_47 : decode b_Mo_allowed 47 = .ok (.iload_n 1, 1) := by decide +kernel
theorem d_Mo_allowed_48 : decode b_Mo_allowed 48 = .ok (.ireturn, 1) := by decide +kernel
theorem d_Mo_conditions_0 : decode b_Mo_conditions 0 = .ok (.aload_n 0, 1) := by decide +kernel
theorem d_Mo_conditions_1 : decode b_Mo_conditions 1 = .ok (.iconst 0, 1) := by decide +kernel
theorem d_Mo_conditions_2 : decode b_Mo_conditions 2 = .ok (.putfield 41, 3) := by decide +kernel
theorem d_Mo_conditions_5 : decode b_Mo_conditions 5 = .ok (.aload_n 0, 1) := by decide +kernel
theorem d_Mo_conditions_6 : decode b_Mo_conditions 6 = .ok (.getfield 45, 3) := by decide +kernel
theorem d_Mo_conditions_9 : decode b_Mo_conditions 9 = .ok (.ireturn, 1) := by decide +kernel
theorem d_Mo_rules_0 : decode b_Mo_rules 0 = .ok (.aload_n 0, 1) := by decide +kernel
theorem d_Mo_rules_1 : decode b_Mo_rules 1 = .ok (.iconst 0, 1) := by decide +kernel
theorem d_Mo_rules_2 : decode b_Mo_rules 2 = .ok (.putfield 41, 3) := by decide +kernel
theorem d_Mo_rules_5 : decode b_Mo_rules 5 = .ok (.aload_n 0, 1) := by decide +kernel
theorem d_Mo_rules_6 : decode b_Mo_rules 6 = .ok (.getfield 52, 3) := by decide +kernel
theorem d_Mo_rules_9 : decode b_Mo_rules 9 = .ok (.ireturn, 1) := by decide +kernel
