theorem d_Co_init_0 : decode b_Co_init 0 = .ok (.aload_n 0, 1) := by decide +kernel
theorem d_Co_init_1 : decode b_Co_init 1 = .ok (.invokespecial 3, 3) := by decide +kernel
theorem d_Co_init_4 : decode b_Co_init 4 = .ok (.aload_n 0, 1) := by decide +kernel
theorem d_Co_init_5 : decode b_Co_init 5 = .ok (.iload_n 1, 1) := by decide +kernel
theorem d_Co_init_6 : decode b_Co_init 6 = .ok (.putfield 9, 3) := by decide +kernel
theorem d_Co_init_9 : decode b_Co_init 9 = .ok (.aload_n 0, 1) := by decide +kernel
theorem d_Co_init_10 : decode b_Co_init 10 = .ok (.iload_n 2, 1) := by decide +kernel
theorem d_Co_init_11 : decode b_Co_init 11 = .ok (.putfield 15, 3) := by decide +kernel
theorem d_Co_init_14 : decode b_Co_init 14 = .ok (.aload_n 0, 1) := by decide +kernel
theorem d_Co_init_15 : decode b_Co_init 15 = .ok (.iload_n 3, 1) := by decide +kernel
theorem d_Co_init_16 : decode b_Co_init 16 = .ok (.putfield 18, 3) := by decide +kernel
theorem d_Co_init_19 : decode b_Co_init 19 = .ok (.aload_n 0, 1) := by decide +kernel
theorem d_Co_init_20 : decode b_Co_init 20 = .ok (.iload 4, 2) := by decide +kernel
theorem d_Co_init_22 : decode b_Co_init 22 = .ok (.putfield 21, 3) := by decide +kernel
theorem d_Co_init_25 : decode b_Co_init 25 = .ok (.aload_n 0, 1) := by decide +kernel
theorem d_Co_init_26 : decode b_Co_init 26 = .ok (.bipush 96, 2) := by decide +kernel
theorem d_Co_init_28 : decode b_Co_init 28 = .ok (.newarray .long, 2) := by decide +kernel
theorem d_Co_init_30 : decode b_Co_init 30 = .ok (.putfield 24, 3) := by decide +kernel
theorem d_Co_init_33 : decode b_Co_init 33 = .ok (.return_, 1) := by decide +kernel
theorem d_Co_word_0 : decode b_Co_word 0 = .ok (.iload_n 1, 1) := by decide +kernel
theorem d_Co_word_1 : decode b_Co_word 1 = .ok (.aload_n 0, 1) := by decide +kernel
theorem d_Co_word_2 : decode b_Co_word 2 = .ok (.getfield 24, 3) := by decide +kernel
theorem d_Co_word_5 : decode b_Co_word 5 = .ok (.arraylength, 1) := by decide +kernel
theorem d_Co_word_6 : decode b_Co_word 6 = .ok (.invokestatic 28, 3) := by decide +kernel
theorem d_Co_word_9 : decode b_Co_word 9 = .ok (.ifCond .eq 12, 3) := by decide +kernel
theorem d_Co_word_12 : decode b_Co_word 12 = .ok (.aload_n 0, 1) := by decide +kernel
theorem d_Co_word_13 : decode b_Co_word 13 = .ok (.getfield 24, 3) := by decide +kernel
theorem d_Co_word_16 : decode b_Co_word 16 = .ok (.iload_n 1, 1) := by decide +kernel
theorem d_Co_word_17 : decode b_Co_word 17 = .ok (.laload, 1) := by decide +kernel
theorem d_Co_word_18 : decode b_Co_word 18 = .ok (.goto 4, 3) := by decide +kernel
theorem d_Co_word_21 : decode b_Co_word 21 = .ok (.lconst 0, 1) := by decide +kernel
theorem d_Co_word_22 : decode b_Co_word 22 = .ok (.lreturn, 1) := by decide +kernel
theorem d_Co_setWord_0 : decode b_Co_setWord 0 = .ok (.iload_n 1, 1) := by decide +kernel
theorem d_Co_setWord_1 : decode b_Co_setWord 1 = .ok (.aload_n 0, 1) := by decide +kernel
theorem d_Co_setWord_2 : decode b_Co_setWord 2 = .ok (.getfield 24, 3) := by decide +kernel
theorem d_Co_setWord_5 : decode b_Co_setWord 5 = .ok (.arraylength, 1) := by decide +kernel
theorem d_Co_setWord_6 : decode b_Co_setWord 6 = .ok (.invokestatic 28, 3) := by decide +kernel
theorem d_Co_setWord_9 : decode b_Co_setWord 9 = .ok (.ifCond .eq 10, 3) := by decide +kernel
theorem d_Co_setWord_12 : decode b_Co_setWord 12 = .ok (.aload_n 0, 1) := by decide +kernel
theorem d_Co_setWord_13 : decode b_Co_setWord 13 = .ok (.getfield 24, 3) := by decide +kernel
theorem d_Co_setWord_16 : decode b_Co_setWord 16 = .ok (.iload_n 1, 1) := by decide +kernel
theorem d_Co_setWord_17 : decode b_Co_setWord 17 = .ok (.lload_n 2, 1) := by decide +kernel
theorem d_Co_setWord_18 : decode b_Co_setWord 18 = .ok (.lastore, 1) := by decide +kernel
theorem d_Co_setWord_19 : decode b_Co_setWord 19 = .ok (.return_, 1) := by decide +kernel
theorem d_Cb_init_0 : decode b_Cb_init 0 = .ok (.aload_n 0, 1) := by decide +kernel
theorem d_Cb_init_1 : decode b_Cb_init 1 = .ok (.invokespecial 3, 3) := by decide +kernel
theorem d_Cb_init_4 : decode b_Cb_init 4 = .ok (.aload_n 0, 1) := by decide +kernel
theorem d_Cb_init_5 : decode b_Cb_init 5 = .ok (.bipush 60, 2) := by decide +kernel
theorem d_Cb_init_7 : decode b_Cb_init 7 = .ok (.anewarray 9, 3) := by decide +kernel
theorem d_Cb_init_10 : decode b_Cb_init 10 = .ok (.putfield 11, 3) := by decide +kernel
theorem d_Cb_init_13 : decode b_Cb_init 13 = .ok (.aload_n 0, 1) := by decide +kernel
theorem d_Cb_init_14 : decode b_Cb_init 14 = .ok (.bipush 64, 2) := by decide +kernel
theorem d_Cb_init_16 : decode b_Cb_init 16 = .ok (.newarray .boolean, 2) := by decide +kernel
theorem d_Cb_init_18 : decode b_Cb_init 18 = .ok (.putfield 17, 3) := by decide +kernel
theorem d_Cb_init_21 : decode b_Cb_init 21 = .ok (.aload_n 0, 1) := by decide +kernel
theorem d_Cb_init_22 : decode b_Cb_init 22 = .ok (.iconst 0, 1) := by decide +kernel
theorem d_Cb_init_23 : decode b_Cb_init 23 = .ok (.putfield 21, 3) := by decide +kernel
theorem d_Cb_init_26 : decode b_Cb_init 26 = .ok (.return_, 1) := by decide +kernel
theorem d_Cb_at_0 : decode b_Cb_at 0 = .ok (.iload_n 1, 1) := by decide +kernel
theorem d_Cb_at_1 : decode b_Cb_at 1 = .ok (.aload_n 0, 1) := by decide +kernel
theorem d_Cb_at_2 : decode b_Cb_at 2 = .ok (.getfield 11, 3) := by decide +kernel
theorem d_Cb_at_5 : decode b_Cb_at 5 = .ok (.arraylength, 1) := by decide +kernel
theorem d_Cb_at_6 : decode b_Cb_at 6 = .ok (.invokestatic 25, 3) := by decide +kernel
theorem d_Cb_at_9 : decode b_Cb_at 9 = .ok (.ifCond .eq 12, 3) := by decide +kernel
theorem d_Cb_at_12 : decode b_Cb_at 12 = .ok (.aload_n 0, 1) := by decide +kernel
theorem d_Cb_at_13 : decode b_Cb_at 13 = .ok (.getfield 11, 3) := by decide +kernel
theorem d_Cb_at_16 : decode b_Cb_at 16 = .ok (.iload_n 1, 1) := by decide +kernel
theorem d_Cb_at_17 : decode b_Cb_at 17 = .ok (.aaload, 1) := by decide +kernel
theorem d_Cb_at_18 : decode b_Cb_at 18 = .ok (.goto 4, 3) := by decide +kernel
theorem d_Cb_at_21 : decode b_Cb_at 21 = .ok (.aconst_null, 1) := by decide +kernel
theorem d_Cb_at_22 : decode b_Cb_at 22 = .ok (.areturn, 1) := by decide +kernel
theorem d_Cb_canBe_0 : decode b_Cb_canBe 0 = .ok (.iload_n 1, 1) := by decide +kernel
theorem d_Cb_canBe_1 : decode b_Cb_canBe 1 = .ok (.tableswitch 200 0 10 #[59, 66, 73, 79, 86, 92, 121, 130, 130, 158, 160], 59) := by decide +kernel
theorem d_Cb_canBe_60 : decode b_Cb_canBe 60 = .ok (.iload_n 2, 1) := by decide +kernel
theorem d_Cb_canBe_61 : decode b_Cb_canBe 61 = .ok (.bipush 8, 2) := by decide +kernel
theorem d_Cb_canBe_63 : decode b_Cb_canBe 63 = .ok (.invokestatic 25, 3) := by decide +kernel
theorem d_Cb_canBe_66 : decode b_Cb_canBe 66 = .ok (.ireturn, 1) := by decide +kernel
theorem d_Cb_canBe_67 : decode b_Cb_canBe 67 = .ok (.iload_n 2, 1) := by decide +kernel
theorem d_Cb_canBe_68 : decode b_Cb_canBe 68 = .ok (.bipush 8, 2) := by decide +kernel
theorem d_Cb_canBe_70 : decode b_Cb_canBe 70 = .ok (.invokestatic 25, 3) := by decide +kernel
theorem d_Cb_canBe_73 : decode b_Cb_canBe 73 = .ok (.ireturn, 1) := by decide +kernel
theorem d_Cb_canBe_74 : decode b_Cb_canBe 74 = .ok (.iload_n 2, 1) := by decide +kernel
theorem d_Cb_canBe_75 : decode b_Cb_canBe 75 = .ok (.iconst 4, 1) := by decide +kernel
theorem d_Cb_canBe_76 : decode b_Cb_canBe 76 = .ok (.invokestatic 25, 3) := by decide +kernel
theorem d_Cb_canBe_79 : decode b_Cb_canBe 79 = .ok (.ireturn, 1) := by decide +kernel
theorem d_Cb_canBe_80 : decode b_Cb_canBe 80 = .ok (.iload_n 2, 1) := by decide +kernel
theorem d_Cb_canBe_81 : decode b_Cb_canBe 81 = .ok (.bipush 6, 2) := by decide +kernel
theorem d_Cb_canBe_83 : decode b_Cb_canBe 83 = .ok (.invokestatic 25, 3) := by decide +kernel
theorem d_Cb_canBe_86 : decode b_Cb_canBe 86 = .ok (.ireturn, 1) := by decide +kernel
theorem d_Cb_canBe_87 : decode b_Cb_canBe 87 = .ok (.iload_n 2, 1) := by decide +kernel
theorem d_Cb_canBe_88 : decode b_Cb_canBe 88 = .ok (.iconst 4, 1) := by decide +kernel
theorem d_Cb_canBe_89 : decode b_Cb_canBe 89 = .ok (.invokestatic 25, 3) := by decide +kernel
theorem d_Cb_canBe_92 : decode b_Cb_canBe 92 = .ok (.ireturn, 1) := by decide +kernel
theorem d_Cb_canBe_93 : decode b_Cb_canBe 93 = .ok (.iload_n 2, 1) := by decide +kernel
theorem d_Cb_canBe_94 : decode b_Cb_canBe 94 = .ok (.bipush 8, 2) := by decide +kernel
theorem d_Cb_canBe_96 : decode b_Cb_canBe 96 = .ok (.invokestatic 25, 3) := by decide +kernel
theorem d_Cb_canBe_99 : decode b_Cb_canBe 99 = .ok (.ifCond .eq 21, 3) := by decide +kernel
theorem d_Cb_canBe_102 : decode b_Cb_canBe 102 = .ok (.iload_n 3, 1) := by decide +kernel
theorem d_Cb_canBe_103 : decode b_Cb_canBe 103 = .ok (.bipush 8, 2) := by decide +kernel
theorem d_Cb_canBe_105 : decode b_Cb_canBe 105 = .ok (.invokestatic 25, 3) := by decide +kernel
theorem d_Cb_canBe_108 : decode b_Cb_canBe 108 = .ok (.ifCond .eq 12, 3) := by decide +kernel
theorem d_Cb_canBe_111 : decode b_Cb_canBe 111 = .ok (.iload_n 2, 1) := by decide +kernel
theorem d_Cb_canBe_112 : decode b_Cb_canBe 112 = .ok (.iload_n 3, 1) := by decide +kernel
theorem d_Cb_canBe_113 : decode b_Cb_canBe 113 = .ok (.if_icmp .gt 7, 3) := by decide +kernel
theorem d_Cb_canBe_116 : decode b_Cb_canBe 116 = .ok (.iconst 1, 1) := by decide +kernel
theorem d_Cb_canBe_117 : decode b_Cb_canBe 117 = .ok (.goto 4, 3) := by decide +kernel
theorem d_Cb_canBe_120 : decode b_Cb_canBe 120 = .ok (.iconst 0, 1) := by decide +kernel
theorem d_Cb_canBe_121 : decode b_Cb_canBe 121 = .ok (.ireturn, 1) := by decide +kernel
theorem d_Cb_canBe_122 : decode b_Cb_canBe 122 = .ok (.iload_n 2, 1) := by decide +kernel
theorem d_Cb_canBe_123 : decode b_Cb_canBe 123 = .ok (.aload_n 0, 1) := by decide +kernel
theorem d_Cb_canBe_124 : decode b_Cb_canBe 124 = .ok (.getfield 21, 3) := by decide +kernel
theorem d_Cb_canBe_127 : decode b_Cb_canBe 127 = .ok (.invokestatic 25, 3) := by decide +kernel
theorem d_Cb_canBe_130 : decode b_Cb_canBe 130 = .ok (.ireturn, 1) := by decide +kernel
theorem d_Cb_canBe_131 : decode b_Cb_canBe 131 = .ok (.iload_n 2, 1) := by decide +kernel
theorem d_Cb_canBe_132 : decode b_Cb_canBe 132 = .ok (.aload_n 0, 1) := by decide +kernel
theorem d_Cb_canBe_133 : decode b_Cb_canBe 133 = .ok (.getfield 21, 3) := by decide +kernel
theorem d_Cb_canBe_136 : decode b_Cb_canBe 136 = .ok (.invokestatic 25, 3) := by decide +kernel
theorem d_Cb_canBe_139 : decode b_Cb_canBe 139 = .ok (.ifCond .eq 18, 3) := by decide +kernel
theorem d_Cb_canBe_142 : decode b_Cb_canBe 142 = .ok (.iload_n 3, 1) := by decide +kernel
theorem d_Cb_canBe_143 : decode b_Cb_canBe 143 = .ok (.aload_n 0, 1) := by decide +kernel
theorem d_Cb_canBe_144 : decode b_Cb_canBe 144 = .ok (.getfield 21, 3) := by decide +kernel
theorem d_Cb_canBe_147 : decode b_Cb_canBe 147 = .ok (.invokestatic 25, 3) := by decide +kernel
theorem d_Cb_canBe_150 : decode b_Cb_canBe 150 = .ok (.ifCond .eq 7, 3) := by decide +kernel
theorem d_Cb_canBe_153 : decode b_Cb_canBe 153 = .ok (.iconst 1, 1) := by decide +kernel
theorem d_Cb_canBe_154 : decode b_Cb_canBe 154 = .ok (.goto 4, 3) := by decide +kernel
theorem d_Cb_canBe_157 : decode b_Cb_canBe 157 = .ok (.iconst 0, 1) := by decide +kernel
theorem d_Cb_canBe_158 : decode b_Cb_canBe 158 = .ok (.ireturn, 1) := by decide +kernel
theorem d_Cb_canBe_159 : decode b_Cb_canBe 159 = .ok (.iconst 1, 1) := by decide +kernel
theorem d_Cb_canBe_160 : decode b_Cb_canBe 160 = .ok (.ireturn, 1) := by decide +kernel
theorem d_Cb_canBe_161 : decode b_Cb_canBe 161 = .ok (.iload_n 2, 1) := by decide +kernel
theorem d_Cb_canBe_162 : decode b_Cb_canBe 162 = .ok (.aload_n 0, 1) := by decide +kernel
theorem d_Cb_canBe_163 : decode b_Cb_canBe 163 = .ok (.getfield 21, 3) := by decide +kernel
theorem d_Cb_canBe_166 : decode b_Cb_canBe 166 = .ok (.invokestatic 25, 3) := by decide +kernel
theorem d_Cb_canBe_169 : decode b_Cb_canBe 169 = .ok (.ifCond .eq 30, 3) := by decide +kernel
theorem d_Cb_canBe_172 : decode b_Cb_canBe 172 = .ok (.iload_n 3, 1) := by decide +kernel
theorem d_Cb_canBe_173 : decode b_Cb_canBe 173 = .ok (.aload_n 0, 1) := by decide +kernel
theorem d_Cb_canBe_174 : decode b_Cb_canBe 174 = .ok (.getfield 21, 3) := by decide +kernel
theorem d_Cb_canBe_177 : decode b_Cb_canBe 177 = .ok (.invokestatic 25, 3) := by decide +kernel
theorem d_Cb_canBe_180 : decode b_Cb_canBe 180 = .ok (.ifCond .eq 19, 3) := by decide +kernel
theorem d_Cb_canBe_183 : decode b_Cb_canBe 183 = .ok (.iload 4, 2) := by decide +kernel
theorem d_Cb_canBe_185 : decode b_Cb_canBe 185 = .ok (.aload_n 0, 1) := by decide +kernel
theorem d_Cb_canBe_186 : decode b_Cb_canBe 186 = .ok (.getfield 21, 3) := by decide +kernel
theorem d_Cb_canBe_189 : decode b_Cb_canBe 189 = .ok (.invokestatic 25, 3) := by decide +kernel
theorem d_Cb_canBe_192 : decode b_Cb_canBe 192 = .ok (.ifCond .eq 7, 3) := by decide +kernel
theorem d_Cb_canBe_195 : decode b_Cb_canBe 195 = .ok (.iconst 1, 1) := by decide +kernel
theorem d_Cb_canBe_196 : decode b_Cb_canBe 196 = .ok (.goto 4, 3) := by decide +kernel
theorem d_Cb_canBe_199 : decode b_Cb_canBe 199 = .ok (.iconst 0, 1) := by decide +kernel
theorem d_Cb_canBe_200 : decode b_Cb_canBe 200 = .ok (.ireturn, 1) := by decide +kernel
theorem d_Cb_canBe_201 : decode b_Cb_canBe 201 = .ok (.iconst 0, 1) := by decide +kernel
theorem d_Cb_canBe_202 : decode b_Cb_canBe 202 = .ok (.ireturn, 1) := by decide +kernel
theorem d_Cb_add_0 : decode b_Cb_add 0 = .ok (.aload_n 0, 1) := by decide +kernel
theorem d_Cb_add_1 : decode b_Cb_add 1 = .ok (.getfield 21, 3) := by decide +kernel
theorem d_Cb_add_4 : decode b_Cb_add 4 = .ok (.aload_n 0, 1) := by decide +kernel
theorem d_Cb_add_5 : decode b_Cb_add 5 = .ok (.getfield 11, 3) := by decide +kernel
theorem d_Cb_add_8 : decode b_Cb_add 8 = .ok (.arraylength, 1) := by decide +kernel
theorem d_Cb_add_9 : decode b_Cb_add 9 = .ok (.invokestatic 25, 3) := by decide +kernel
theorem d_Cb_add_12 : decode b_Cb_add 12 = .ok (.ifCond .ne 6, 3) := by decide +kernel
theorem d_Cb_add_15 : decode b_Cb_add 15 = .ok (.bipush (-3), 2) := by decide +kernel
theorem d_Cb_add_17 : decode b_Cb_add 17 = .ok (.ireturn, 1) := by decide +kernel
theorem d_Cb_add_18 : decode b_Cb_add 18 = .ok (.new 9, 3) := by decide +kernel
theorem d_Cb_add_21 : decode b_Cb_add 21 = .ok (.dup, 1) := by decide +kernel
theorem d_Cb_add_22 : decode b_Cb_add 22 = .ok (.iload_n 1, 1) := by decide +kernel
theorem d_Cb_add_23 : decode b_Cb_add 23 = .ok (.iload_n 2, 1) := by decide +kernel
theorem d_Cb_add_24 : decode b_Cb_add 24 = .ok (.iload_n 3, 1) := by decide +kernel
theorem d_Cb_add_25 : decode b_Cb_add 25 = .ok (.iload 4, 2) := by decide +kernel
theorem d_Cb_add_27 : decode b_Cb_add 27 = .ok (.invokespecial 29, 3) := by decide +kernel
theorem d_Cb_add_30 : decode b_Cb_add 30 = .ok (.astore 5, 2) := by decide +kernel
theorem d_Cb_add_32 : decode b_Cb_add 32 = .ok (.iconst 0, 1) := by decide +kernel
theorem d_Cb_add_33 : decode b_Cb_add 33 = .ok (.istore 6, 2) := by decide +kernel
theorem d_Cb_add_35 : decode b_Cb_add 35 = .ok (.iload 6, 2) := by decide +kernel
theorem d_Cb_add_37 : decode b_Cb_add 37 = .ok (.bipush 96, 2) := by decide +kernel
theorem d_Cb_add_39 : decode b_Cb_add 39 = .ok (.if_icmp .ge 24, 3) := by decide +kernel
theorem d_Cb_add_42 : decode b_Cb_add 42 = .ok (.aload 5, 2) := by decide +kernel
theorem d_Cb_add_44 : decode b_Cb_add 44 = .ok (.iload 6, 2) := by decide +kernel
theorem d_Cb_add_46 : decode b_Cb_add 46 = .ok (.aload_n 0, 1) := by decide +kernel
theorem d_Cb_add_47 : decode b_Cb_add 47 = .ok (.aload 5, 2) := by decide +kernel
theorem d_Cb_add_49 : decode b_Cb_add 49 = .ok (.iload 6, 2) := by decide +kernel
theorem d_Cb_add_51 : decode b_Cb_add 51 = .ok (.invokevirtual 32, 3) := by decide +kernel
theorem d_Cb_add_54 : decode b_Cb_add 54 = .ok (.invokevirtual 36, 3) := by decide +kernel
theorem d_Cb_add_57 : decode b_Cb_add 57 = .ok (.iinc 6 1, 3) := by decide +kernel
theorem d_Cb_add_60 : decode b_Cb_add 60 = .ok (.goto (-25), 3) := by decide +kernel
theorem d_Cb_add_63 : decode b_Cb_add 63 = .ok (.aload_n 0, 1) := by decide +kernel
theorem d_Cb_add_64 : decode b_Cb_add 64 = .ok (.getfield 11, 3) := by decide +kernel
theorem d_Cb_add_67 : decode b_Cb_add 67 = .ok (.aload_n 0, 1) := by decide +kernel
theorem d_Cb_add_68 : decode b_Cb_add 68 = .ok (.getfield 21, 3) := by decide +kernel
theorem d_Cb_add_71 : decode b_Cb_add 71 = .ok (.aload 5, 2) := by decide +kernel
theorem d_Cb_add_73 : decode b_Cb_add 73 = .ok (.aastore, 1) := by decide +kernel
theorem d_Cb_add_74 : decode b_Cb_add 74 = .ok (.aload_n 0, 1) := by decide +kernel
theorem d_Cb_add_75 : decode b_Cb_add 75 = .ok (.dup, 1) := by decide +kernel
theorem d_Cb_add_76 : decode b_Cb_add 76 = .ok (.getfield 21, 3) := by decide +kernel
theorem d_Cb_add_79 : decode b_Cb_add 79 = .ok (.iconst 1, 1) := by decide +kernel
theorem d_Cb_add_80 : decode b_Cb_add 80 = .ok (.iadd, 1) := by decide +kernel
theorem d_Cb_add_81 : decode b_Cb_add 81 = .ok (.putfield 21, 3) := by decide +kernel
theorem d_Cb_add_84 : decode b_Cb_add 84 = .ok (.aload_n 0, 1) := by decide +kernel
theorem d_Cb_add_85 : decode b_Cb_add 85 = .ok (.getfield 21, 3) := by decide +kernel
theorem d_Cb_add_88 : decode b_Cb_add 88 = .ok (.iconst 1, 1) := by decide +kernel
theorem d_Cb_add_89 : decode b_Cb_add 89 = .ok (.isub, 1) := by decide +kernel
theorem d_Cb_add_90 : decode b_Cb_add 90 = .ok (.ireturn, 1) := by decide +kernel
theorem d_Cb_setMember_0 : decode b_Cb_setMember 0 = .ok (.aload_n 0, 1) := by decide +kernel
theorem d_Cb_setMember_1 : decode b_Cb_setMember 1 = .ok (.iload_n 1, 1) := by decide +kernel
theorem d_Cb_setMember_2 : decode b_Cb_setMember 2 = .ok (.iload_n 2, 1) := by decide +kernel
theorem d_Cb_setMember_3 : decode b_Cb_setMember 3 = .ok (.invokevirtual 40, 3) := by decide +kernel
theorem d_Cb_setMember_6 : decode b_Cb_setMember 6 = .ok (.iload_n 3, 1) := by decide +kernel
theorem d_Cb_setMember_7 : decode b_Cb_setMember 7 = .ok (.if_icmp .ne 5, 3) := by decide +kernel
theorem d_Cb_setMember_10 : decode b_Cb_setMember 10 = .ok (.iconst 0, 1) := by decide +kernel
theorem d_Cb_setMember_11 : decode b_Cb_setMember 11 = .ok (.ireturn, 1) := by decide +kernel
theorem d_Cb_setMember_12 : decode b_Cb_setMember 12 = .ok (.iload_n 1, 1) := by decide +kernel
theorem d_Cb_setMember_13 : decode b_Cb_setMember 13 = .ok (.bipush 8, 2) := by decide +kernel
theorem d_Cb_setMember_15 : decode b_Cb_setMember 15 = .ok (.imul, 1) := by decide +kernel
theorem d_Cb_setMember_16 : decode b_Cb_setMember 16 = .ok (.iload_n 2, 1) := by decide +kernel
theorem d_Cb_setMember_17 : decode b_Cb_setMember 17 = .ok (.iadd, 1) := by decide +kernel
theorem d_Cb_setMember_18 : decode b_Cb_setMember 18 = .ok (.istore 4, 2) := by decide +kernel
theorem d_Cb_setMember_20 : decode b_Cb_setMember 20 = .ok (.iload 4, 2) := by decide +kernel
theorem d_Cb_setMember_22 : decode b_Cb_setMember 22 = .ok (.aload_n 0, 1) := by decide +kernel
theorem d_Cb_setMember_23 : decode b_Cb_setMember 23 = .ok (.getfield 17, 3) := by decide +kernel
theorem d_Cb_setMember_26 : decode b_Cb_setMember 26 = .ok (.arraylength, 1) := by decide +kernel
theorem d_Cb_setMember_27 : decode b_Cb_setMember 27 = .ok (.invokestatic 25, 3) := by decide +kernel
theorem d_Cb_setMember_30 : decode b_Cb_setMember 30 = .ok (.ifCond .eq 11, 3) := by decide +kernel
theorem d_Cb_setMember_33 : decode b_Cb_setMember 33 = .ok (.aload_n 0, 1) := by decide +kernel
theorem d_Cb_setMember_34 : decode b_Cb_setMember 34 = .ok (.getfield 17, 3) := by decide +kernel
theorem d_Cb_setMember_37 : decode b_Cb_setMember 37 = .ok (.iload 4, 2) := by decide +kernel
theorem d_Cb_setMember_39 : decode b_Cb_setMember 39 = .ok (.iload_n 3, 1) := by decide +kernel
theorem d_Cb_setMember_40 : decode b_Cb_setMember 40 = .ok (.bastore, 1) := by decide +kernel
theorem d_Cb_setMember_41 : decode b_Cb_setMember 41 = .ok (.aload_n 0, 1) := by decide +kernel
theorem d_Cb_setMember_42 : decode b_Cb_setMember 42 = .ok (.iload_n 1, 1) := by decide +kernel
theorem d_Cb_setMember_43 : decode b_Cb_setMember 43 = .ok (.invokevirtual 43, 3) := by decide +kernel
theorem d_Cb_setMember_46 : decode b_Cb_setMember 46 = .ok (.iconst 1, 1) := by decide +kernel
theorem d_Cb_setMember_47 : decode b_Cb_setMember 47 = .ok (.ireturn, 1) := by decide +kernel
theorem d_Cb_isMember_0 : decode b_Cb_isMember 0 = .ok (.iload_n 1, 1) := by decide +kernel
theorem d_Cb_isMember_1 : decode b_Cb_isMember 1 = .ok (.bipush 8, 2) := by decide +kernel
theorem d_Cb_isMember_3 : decode b_Cb_isMember 3 = .ok (.imul, 1) := by decide +kernel
theorem d_Cb_isMember_4 : decode b_Cb_isMember 4 = .ok (.iload_n 2, 1) := by decide +kernel
theorem d_Cb_isMember_5 : decode b_Cb_isMember 5 = .ok (.iadd, 1) := by decide +kernel
theorem d_Cb_isMember_6 : decode b_Cb_isMember 6 = .ok (.istore_n 3, 1) := by decide +kernel
theorem d_Cb_isMember_7 : decode b_Cb_isMember 7 = .ok (.iload_n 3, 1) := by decide +kernel
theorem d_Cb_isMember_8 : decode b_Cb_isMember 8 = .ok (.aload_n 0, 1) := by decide +kernel
theorem d_Cb_isMember_9 : decode b_Cb_isMember 9 = .ok (.getfield 17, 3) := by decide +kernel
theorem d_Cb_isMember_12 : decode b_Cb_isMember 12 = .ok (.arraylength, 1) := by decide +kernel
theorem d_Cb_isMember_13 : decode b_Cb_isMember 13 = .ok (.invokestatic 25, 3) := by decide +kernel
theorem d_Cb_isMember_16 : decode b_Cb_isMember 16 = .ok (.ifCond .eq 16, 3) := by decide +kernel
theorem d_Cb_isMember_19 : decode b_Cb_isMember 19 = .ok (.aload_n 0, 1) := by decide +kernel
theorem d_Cb_isMember_20 : decode b_Cb_isMember 20 = .ok (.getfield 17, 3) := by decide +kernel
theorem d_Cb_isMember_23 : decode b_Cb_isMember 23 = .ok (.iload_n 3, 1) := by decide +kernel
theorem d_Cb_isMember_24 : decode b_Cb_isMember 24 = .ok (.baload, 1) := by decide +kernel
theorem d_Cb_isMember_25 : decode b_Cb_isMember 25 = .ok (.ifCond .eq 7, 3) := by decide +kernel
theorem d_Cb_isMember_28 : decode b_Cb_isMember 28 = .ok (.iconst 1, 1) := by decide +kernel
theorem d_Cb_isMember_29 : decode b_Cb_isMember 29 = .ok (.goto 4, 3) := by decide +kernel
theorem d_Cb_isMember_32 : decode b_Cb_isMember 32 = .ok (.iconst 0, 1) := by decide +kernel
theorem d_Cb_isMember_33 : decode b_Cb_isMember 33 = .ok (.ireturn, 1) := by decide +kernel
theorem d_Cb_workOutAgain_0 : decode b_Cb_workOutAgain 0 = .ok (.iconst 0, 1) := by decide +kernel
theorem d_Cb_workOutAgain_1 : decode b_Cb_workOutAgain 1 = .ok (.istore_n 2, 1) := by decide +kernel
theorem d_Cb_workOutAgain_2 : decode b_Cb_workOutAgain 2 = .ok (.iload_n 2, 1) := by decide +kernel
theorem d_Cb_workOutAgain_3 : decode b_Cb_workOutAgain 3 = .ok (.bipush 60, 2) := by decide +kernel
theorem d_Cb_workOutAgain_5 : decode b_Cb_workOutAgain 5 = .ok (.if_icmp .ge 58, 3) := by decide +kernel
theorem d_Cb_workOutAgain_8 : decode b_Cb_workOutAgain 8 = .ok (.aload_n 0, 1) := by decide +kernel
theorem d_Cb_workOutAgain_9 : decode b_Cb_workOutAgain 9 = .ok (.iload_n 2, 1) := by decide +kernel
theorem d_Cb_workOutAgain_10 : decode b_Cb_workOutAgain 10 = .ok (.invokevirtual 47, 3) := by decide +kernel
theorem d_Cb_workOutAgain_13 : decode b_Cb_workOutAgain 13 = .ok (.astore_n 3, 1) := by decide +kernel
theorem d_Cb_workOutAgain_14 : decode b_Cb_workOutAgain 14 = .ok (.aload_n 3, 1) := by decide +kernel
theorem d_Cb_workOutAgain_15 : decode b_Cb_workOutAgain 15 = .ok (.ifnonnull 4, 3) := by decide +kernel
theorem d_Cb_workOutAgain_18 : decode b_Cb_workOutAgain 18 = .ok (.return_, 1) := by decide +kernel
theorem d_Cb_workOutAgain_19 : decode b_Cb_workOutAgain 19 = .ok (.iconst 0, 1) := by decide +kernel
theorem d_Cb_workOutAgain_20 : decode b_Cb_workOutAgain 20 = .ok (.istore 4, 2) := by decide +kernel
theorem d_Cb_workOutAgain_22 : decode b_Cb_workOutAgain 22 = .ok (.iload 4, 2) := by decide +kernel
theorem d_Cb_workOutAgain_24 : decode b_Cb_workOutAgain 24 = .ok (.bipush 12, 2) := by decide +kernel
theorem d_Cb_workOutAgain_26 : decode b_Cb_workOutAgain 26 = .ok (.if_icmp .ge 31, 3) := by decide +kernel
theorem d_Cb_workOutAgain_29 : decode b_Cb_workOutAgain 29 = .ok (.iload_n 1, 1) := by decide +kernel
theorem d_Cb_workOutAgain_30 : decode b_Cb_workOutAgain 30 = .ok (.bipush 12, 2) := by decide +kernel
theorem d_Cb_workOutAgain_32 : decode b_Cb_workOutAgain 32 = .ok (.imul, 1) := by decide +kernel
theorem d_Cb_workOutAgain_33 : decode b_Cb_workOutAgain 33 = .ok (.iload 4, 2) := by decide +kernel
theorem d_Cb_workOutAgain_35 : decode b_Cb_workOutAgain 35 = .ok (.iadd, 1) := by decide +kernel
theorem d_Cb_workOutAgain_36 : decode b_Cb_workOutAgain 36 = .ok (.istore 5, 2) := by decide +kernel
theorem d_Cb_workOutAgain_38 : decode b_Cb_workOutAgain 38 = .ok (.aload_n 3, 1) := by decide +kernel
theorem d_Cb_workOutAgain_39 : decode b_Cb_workOutAgain 39 = .ok (.iload 5, 2) := by decide +kernel
theorem d_Cb_workOutAgain_41 : decode b_Cb_workOutAgain 41 = .ok (.aload_n 0, 1) := by decide +kernel
theorem d_Cb_workOutAgain_42 : decode b_Cb_workOutAgain 42 = .ok (.aload_n 3, 1) := by decide +kernel
theorem d_Cb_workOutAgain_43 : decode b_Cb_workOutAgain 43 = .ok (.iload 5, 2) := by decide +kernel
theorem d_Cb_workOutAgain_45 : decode b_Cb_workOutAgain 45 = .ok (.invokevirtual 32, 3) := by decide +kernel
theorem d_Cb_workOutAgain_48 : decode b_Cb_workOutAgain 48 = .ok (.invokevirtual 36, 3) := by decide +kernel
theorem d_Cb_workOutAgain_51 : decode b_Cb_workOutAgain 51 = .ok (.iinc 4 1, 3) := by decide +kernel
theorem d_Cb_workOutAgain_54 : decode b_Cb_workOutAgain 54 = .ok (.goto (-32), 3) := by decide +kernel
theorem d_Cb_workOutAgain_57 : decode b_Cb_workOutAgain 57 = .ok (.iinc 2 1, 3) := by decide +kernel
theorem d_Cb_workOutAgain_60 : decode b_Cb_workOutAgain 60 = .ok (.goto (-58), 3) := by decide +kernel
theorem d_Cb_workOutAgain_63 : decode b_Cb_workOutAgain 63 = .ok (.return_, 1) := by decide +kernel
theorem d_Cb_workOut_0 : decode b_Cb_workOut 0 = .ok (.aload_n 1, 1) := by decide +kernel
theorem d_Cb_workOut_1 : decode b_Cb_workOut 1 = .ok (.getfield 51, 3) := by decide +kernel
theorem d_Cb_workOut_4 : decode b_Cb_workOut 4 = .ok (.tableswitch 136 0 5 #[40, 59, 82, 103, 112, 124], 40) := by decide +kernel
theorem d_Cb_workOut_44 : decode b_Cb_workOut 44 = .ok (.iload_n 2, 1) := by decide +kernel
theorem d_Cb_workOut_45 : decode b_Cb_workOut 45 = .ok (.bipush 12, 2) := by decide +kernel
theorem d_Cb_workOut_47 : decode b_Cb_workOut 47 = .ok (.idiv, 1) := by decide +kernel
theorem d_Cb_workOut_48 : decode b_Cb_workOut 48 = .ok (.aload_n 1, 1) := by decide +kernel
theorem d_Cb_workOut_49 : decode b_Cb_workOut 49 = .ok (.getfield 54, 3) := by decide +kernel
theorem d_Cb_workOut_52 : decode b_Cb_workOut 52 = .ok (.if_icmp .ne 9, 3) := by decide +kernel
theorem d_Cb_workOut_55 : decode b_Cb_workOut 55 = .ok (.ldc2_w 57, 3) := by decide +kernel
theorem d_Cb_workOut_58 : decode b_Cb_workOut 58 = .ok (.goto 4, 3) := by decide +kernel
theorem d_Cb_workOut_61 : decode b_Cb_workOut 61 = .ok (.lconst 0, 1) := by decide +kernel
theorem d_Cb_workOut_62 : decode b_Cb_workOut 62 = .ok (.lreturn, 1) := by decide +kernel
theorem d_Cb_workOut_63 : decode b_Cb_workOut 63 = .ok (.aload_n 0, 1) := by decide +kernel
theorem d_Cb_workOut_64 : decode b_Cb_workOut 64 = .ok (.iload_n 2, 1) := by decide +kernel
theorem d_Cb_workOut_65 : decode b_Cb_workOut 65 = .ok (.bipush 12, 2) := by decide +kernel
theorem d_Cb_workOut_67 : decode b_Cb_workOut 67 = .ok (.idiv, 1) := by decide +kernel
theorem d_Cb_workOut_68 : decode b_Cb_workOut 68 = .ok (.aload_n 1, 1) := by decide +kernel
theorem d_Cb_workOut_69 : decode b_Cb_workOut 69 = .ok (.getfield 54, 3) := by decide +kernel
theorem d_Cb_workOut_72 : decode b_Cb_workOut 72 = .ok (.invokevirtual 40, 3) := by decide +kernel
theorem d_Cb_workOut_75 : decode b_Cb_workOut 75 = .ok (.ifCond .eq 9, 3) := by decide +kernel
theorem d_Cb_workOut_78 : decode b_Cb_workOut 78 = .ok (.ldc2_w 57, 3) := by decide +kernel
theorem d_Cb_workOut_81 : decode b_Cb_workOut 81 = .ok (.goto 4, 3) := by decide +kernel
theorem d_Cb_workOut_84 : decode b_Cb_workOut 84 = .ok (.lconst 0, 1) := by decide +kernel
theorem d_Cb_workOut_85 : decode b_Cb_workOut 85 = .ok (.lreturn, 1) := by decide +kernel
theorem d_Cb_workOut_86 : decode b_Cb_workOut 86 = .ok (.iload_n 2, 1) := by decide +kernel
theorem d_Cb_workOut_87 : decode b_Cb_workOut 87 = .ok (.bipush 12, 2) := by decide +kernel
theorem d_Cb_workOut_89 : decode b_Cb_workOut 89 = .ok (.irem, 1) := by decide +kernel
theorem d_Cb_workOut_90 : decode b_Cb_workOut 90 = .ok (.iconst 3, 1) := by decide +kernel
theorem d_Cb_workOut_91 : decode b_Cb_workOut 91 = .ok (.idiv, 1) := by decide +kernel
theorem d_Cb_workOut_92 : decode b_Cb_workOut 92 = .ok (.aload_n 1, 1) := by decide +kernel
theorem d_Cb_workOut_93 : decode b_Cb_workOut 93 = .ok (.getfield 54, 3) := by decide +kernel
theorem d_Cb_workOut_96 : decode b_Cb_workOut 96 = .ok (.if_icmp .ne 9, 3) := by decide +kernel
theorem d_Cb_workOut_99 : decode b_Cb_workOut 99 = .ok (.ldc2_w 57, 3) := by decide +kernel
theorem d_Cb_workOut_102 : decode b_Cb_workOut 102 = .ok (.goto 4, 3) := by decide +kernel
theorem d_Cb_workOut_105 : decode b_Cb_workOut 105 = .ok (.lconst 0, 1) := by decide +kernel
theorem d_Cb_workOut_106 : decode b_Cb_workOut 106 = .ok (.lreturn, 1) := by decide +kernel
theorem d_Cb_workOut_107 : decode b_Cb_workOut 107 = .ok (.iload_n 2, 1) := by decide +kernel
theorem d_Cb_workOut_108 : decode b_Cb_workOut 108 = .ok (.aload_n 1, 1) := by decide +kernel
theorem d_Cb_workOut_109 : decode b_Cb_workOut 109 = .ok (.getfield 54, 3) := by decide +kernel
theorem d_Cb_workOut_112 : decode b_Cb_workOut 112 = .ok (.invokestatic 59, 3) := by decide +kernel
theorem d_Cb_workOut_115 : decode b_Cb_workOut 115 = .ok (.lreturn, 1) := by decide +kernel
theorem d_Cb_workOut_116 : decode b_Cb_workOut 116 = .ok (.ldc2_w 63, 3) := by decide +kernel
theorem d_Cb_workOut_119 : decode b_Cb_workOut 119 = .ok (.aload_n 1, 1) := by decide +kernel
theorem d_Cb_workOut_120 : decode b_Cb_workOut 120 = .ok (.getfield 54, 3) := by decide +kernel
theorem d_Cb_workOut_123 : decode b_Cb_workOut 123 = .ok (.bipush 8, 2) := by decide +kernel
theorem d_Cb_workOut_125 : decode b_Cb_workOut 125 = .ok (.imul, 1) := by decide +kernel
theorem d_Cb_workOut_126 : decode b_Cb_workOut 126 = .ok (.lshl, 1) := by decide +kernel
theorem d_Cb_workOut_127 : decode b_Cb_workOut 127 = .ok (.lreturn, 1) := by decide +kernel
theorem d_Cb_workOut_128 : decode b_Cb_workOut 128 = .ok (.aload_n 1, 1) := by decide +kernel
theorem d_Cb_workOut_129 : decode b_Cb_workOut 129 = .ok (.getfield 54, 3) := by decide +kernel
theorem d_Cb_workOut_132 : decode b_Cb_workOut 132 = .ok (.aload_n 1, 1) := by decide +kernel
theorem d_Cb_workOut_133 : decode b_Cb_workOut 133 = .ok (.getfield 65, 3) := by decide +kernel
theorem d_Cb_workOut_136 : decode b_Cb_workOut 136 = .ok (.invokestatic 68, 3) := by decide +kernel
theorem d_Cb_workOut_139 : decode b_Cb_workOut 139 = .ok (.lreturn, 1) := by decide +kernel
theorem d_Cb_workOut_140 : decode b_Cb_workOut 140 = .ok (.aload_n 0, 1) := by decide +kernel
theorem d_Cb_workOut_141 : decode b_Cb_workOut 141 = .ok (.aload_n 1, 1) := by decide +kernel
theorem d_Cb_workOut_142 : decode b_Cb_workOut 142 = .ok (.iload_n 2, 1) := by decide +kernel
theorem d_Cb_workOut_143 : decode b_Cb_workOut 143 = .ok (.invokevirtual 71, 3) := by decide +kernel
theorem d_Cb_workOut_146 : decode b_Cb_workOut 146 = .ok (.lreturn, 1) := by decide +kernel
theorem d_Cb_predicateIn_0 : decode b_Cb_predicateIn 0 = .ok (.iload_n 0, 1) := by decide +kernel
theorem d_Cb_predicateIn_1 : decode b_Cb_predicateIn 1 = .ok (.iconst 3, 1) := by decide +kernel
theorem d_Cb_predicateIn_2 : decode b_Cb_predicateIn 2 = .ok (.irem, 1) := by decide +kernel
theorem d_Cb_predicateIn_3 : decode b_Cb_predicateIn 3 = .ok (.iload_n 1, 1) := by decide +kernel
theorem d_Cb_predicateIn_4 : decode b_Cb_predicateIn 4 = .ok (.iconst 2, 1) := by decide +kernel
theorem d_Cb_predicateIn_5 : decode b_Cb_predicateIn 5 = .ok (.idiv, 1) := by decide +kernel
theorem d_Cb_predicateIn_6 : decode b_Cb_predicateIn 6 = .ok (.if_icmp .eq 5, 3) := by decide +kernel
theorem d_Cb_predicateIn_9 : decode b_Cb_predicateIn 9 = .ok (.lconst 0, 1) := by decide +kernel
theorem d_Cb_predicateIn_10 : decode b_Cb_predicateIn 10 = .ok (.lreturn, 1) := by decide +kernel
theorem d_Cb_predicateIn_11 : decode b_Cb_predicateIn 11 = .ok (.ldc2_w 74, 3) := by decide +kernel
theorem d_Cb_predicateIn_14 : decode b_Cb_predicateIn 14 = .ok (.iload_n 1, 1) := by decide +kernel
theorem d_Cb_predicateIn_15 : decode b_Cb_predicateIn 15 = .ok (.iconst 2, 1) := by decide +kernel
theorem d_Cb_predicateIn_16 : decode b_Cb_predicateIn 16 = .ok (.irem, 1) := by decide +kernel
theorem d_Cb_predicateIn_17 : decode b_Cb_predicateIn 17 = .ok (.iconst 4, 1) := by decide +kernel
theorem d_Cb_predicateIn_18 : decode b_Cb_predicateIn 18 = .ok (.imul, 1) := by decide +kernel
theorem d_Cb_predicateIn_19 : decode b_Cb_predicateIn 19 = .ok (.bipush 8, 2) := by decide +kernel
theorem d_Cb_predicateIn_21 : decode b_Cb_predicateIn 21 = .ok (.imul, 1) := by decide +kernel
theorem d_Cb_predicateIn_22 : decode b_Cb_predicateIn 22 = .ok (.lshl, 1) := by decide +kernel
theorem d_Cb_predicateIn_23 : decode b_Cb_predicateIn 23 = .ok (.lreturn, 1) := by decide +kernel
theorem d_Cb_putTogether_0 : decode b_Cb_putTogether 0 = .ok (.aload_n 1, 1) := by decide +kernel
theorem d_Cb_putTogether_1 : decode b_Cb_putTogether 1 = .ok (.getfield 51, 3) := by decide +kernel
theorem d_Cb_putTogether_4 : decode b_Cb_putTogether 4 = .ok (.tableswitch 125 6 10 #[36, 50, 70, 90, 94], 36) := by decide +kernel
theorem d_Cb_putTogether_40 : decode b_Cb_putTogether 40 = .ok (.aload_n 0, 1) := by decide +kernel
theorem d_Cb_putTogether_41 : decode b_Cb_putTogether 41 = .ok (.aload_n 1, 1) := by decide +kernel
theorem d_Cb_putTogether_42 : decode b_Cb_putTogether 42 = .ok (.getfield 54, 3) := by decide +kernel
theorem d_Cb_putTogether_45 : decode b_Cb_putTogether 45 = .ok (.iload_n 2, 1) := by decide +kernel
theorem d_Cb_putTogether_46 : decode b_Cb_putTogether 46 = .ok (.invokevirtual 76, 3) := by decide +kernel
theorem d_Cb_putTogether_49 : decode b_Cb_putTogether 49 = .ok (.ldc2_w 57, 3) := by decide +kernel
theorem d_Cb_putTogether_52 : decode b_Cb_putTogether 52 = .ok (.lxor, 1) := by decide +kernel
theorem d_Cb_putTogether_53 : decode b_Cb_putTogether 53 = .ok (.lreturn, 1) := by decide +kernel
theorem d_Cb_putTogether_54 : decode b_Cb_putTogether 54 = .ok (.aload_n 0, 1) := by decide +kernel
theorem d_Cb_putTogether_55 : decode b_Cb_putTogether 55 = .ok (.aload_n 1, 1) := by decide +kernel
theorem d_Cb_putTogether_56 : decode b_Cb_putTogether 56 = .ok (.getfield 54, 3) := by decide +kernel
theorem d_Cb_putTogether_59 : decode b_Cb_putTogether 59 = .ok (.iload_n 2, 1) := by decide +kernel
theorem d_Cb_putTogether_60 : decode b_Cb_putTogether 60 = .ok (.invokevirtual 76, 3) := by decide +kernel
theorem d_Cb_putTogether_63 : decode b_Cb_putTogether 63 = .ok (.aload_n 0, 1) := by decide +kernel
theorem d_Cb_putTogether_64 : decode b_Cb_putTogether 64 = .ok (.aload_n 1, 1) := by decide +kernel
theorem d_Cb_putTogether_65 : decode b_Cb_putTogether 65 = .ok (.getfield 65, 3) := by decide +kernel
theorem d_Cb_putTogether_68 : decode b_Cb_putTogether 68 = .ok (.iload_n 2, 1) := by decide +kernel
theorem d_Cb_putTogether_69 : decode b_Cb_putTogether 69 = .ok (.invokevirtual 76, 3) := by decide +kernel
theorem d_Cb_putTogether_72 : decode b_Cb_putTogether 72 = .ok (.land, 1) := by decide +kernel
theorem d_Cb_putTogether_73 : decode b_Cb_putTogether 73 = .ok (.lreturn, 1) := by decide +kernel
theorem d_Cb_putTogether_74 : decode b_Cb_putTogether 74 = .ok (.aload_n 0, 1) := by decide +kernel
theorem d_Cb_putTogether_75 : decode b_Cb_putTogether 75 = .ok (.aload_n 1, 1) := by decide +kernel
theorem d_Cb_putTogether_76 : decode b_Cb_putTogether 76 = .ok (.getfield 54, 3) := by decide +kernel
theorem d_Cb_putTogether_79 : decode b_Cb_putTogether 79 = .ok (.iload_n 2, 1) := by decide +kernel
theorem d_Cb_putTogether_80 : decode b_Cb_putTogether 80 = .ok (.invokevirtual 76, 3) := by decide +kernel
theorem d_Cb_putTogether_83 : decode b_Cb_putTogether 83 = .ok (.aload_n 0, 1) := by decide +kernel
theorem d_Cb_putTogether_84 : decode b_Cb_putTogether 84 = .ok (.aload_n 1, 1) := by decide +kernel
theorem d_Cb_putTogether_85 : decode b_Cb_putTogether 85 = .ok (.getfield 65, 3) := by decide +kernel
theorem d_Cb_putTogether_88 : decode b_Cb_putTogether 88 = .ok (.iload_n 2, 1) := by decide +kernel
theorem d_Cb_putTogether_89 : decode b_Cb_putTogether 89 = .ok (.invokevirtual 76, 3) := by decide +kernel
theorem d_Cb_putTogether_92 : decode b_Cb_putTogether 92 = .ok (.lor, 1) := by decide +kernel
theorem d_Cb_putTogether_93 : decode b_Cb_putTogether 93 = .ok (.lreturn, 1) := by decide +kernel
theorem d_Cb_putTogether_94 : decode b_Cb_putTogether 94 = .ok (.ldc2_w 57, 3) := by decide +kernel
theorem d_Cb_putTogether_97 : decode b_Cb_putTogether 97 = .ok (.lreturn, 1) := by decide +kernel
theorem d_Cb_putTogether_98 : decode b_Cb_putTogether 98 = .ok (.aload_n 0, 1) := by decide +kernel
theorem d_Cb_putTogether_99 : decode b_Cb_putTogether 99 = .ok (.aload_n 1, 1) := by decide +kernel
theorem d_Cb_putTogether_100 : decode b_Cb_putTogether 100 = .ok (.getfield 54, 3) := by decide +kernel
theorem d_Cb_putTogether_103 : decode b_Cb_putTogether 103 = .ok (.iload_n 2, 1) := by decide +kernel
theorem d_Cb_putTogether_104 : decode b_Cb_putTogether 104 = .ok (.invokevirtual 76, 3) := by decide +kernel
theorem d_Cb_putTogether_107 : decode b_Cb_putTogether 107 = .ok (.aload_n 0, 1) := by decide +kernel
theorem d_Cb_putTogether_108 : decode b_Cb_putTogether 108 = .ok (.aload_n 1, 1) := by decide +kernel
theorem d_Cb_putTogether_109 : decode b_Cb_putTogether 109 = .ok (.getfield 65, 3) := by decide +kernel
theorem d_Cb_putTogether_112 : decode b_Cb_putTogether 112 = .ok (.iload_n 2, 1) := by decide +kernel
theorem d_Cb_putTogether_113 : decode b_Cb_putTogether 113 = .ok (.invokevirtual 76, 3) := by decide +kernel
theorem d_Cb_putTogether_116 : decode b_Cb_putTogether 116 = .ok (.aload_n 0, 1) := by decide +kernel
theorem d_Cb_putTogether_117 : decode b_Cb_putTogether 117 = .ok (.aload_n 1, 1) := by decide +kernel
theorem d_Cb_putTogether_118 : decode b_Cb_putTogether 118 = .ok (.getfield 79, 3) := by decide +kernel
theorem d_Cb_putTogether_121 : decode b_Cb_putTogether 121 = .ok (.iload_n 2, 1) := by decide +kernel
theorem d_Cb_putTogether_122 : decode b_Cb_putTogether 122 = .ok (.invokevirtual 76, 3) := by decide +kernel
theorem d_Cb_putTogether_125 : decode b_Cb_putTogether 125 = .ok (.invokestatic 82, 3) := by decide +kernel
theorem d_Cb_putTogether_128 : decode b_Cb_putTogether 128 = .ok (.lreturn, 1) := by decide +kernel
theorem d_Cb_putTogether_129 : decode b_Cb_putTogether 129 = .ok (.lconst 0, 1) := by decide +kernel
theorem d_Cb_putTogether_130 : decode b_Cb_putTogether 130 = .ok (.lreturn, 1) := by decide +kernel
theorem d_Cb_twoOfThree_0 : decode b_Cb_twoOfThree 0 = .ok (.lload_n 0, 1) := by decide +kernel
theorem d_Cb_twoOfThree_1 : decode b_Cb_twoOfThree 1 = .ok (.lload_n 2, 1) := by decide +kernel
theorem d_Cb_twoOfThree_2 : decode b_Cb_twoOfThree 2 = .ok (.land, 1) := by decide +kernel
theorem d_Cb_twoOfThree_3 : decode b_Cb_twoOfThree 3 = .ok (.lload_n 0, 1) := by decide +kernel
theorem d_Cb_twoOfThree_4 : decode b_Cb_twoOfThree 4 = .ok (.lload 4, 2) := by decide +kernel
theorem d_Cb_twoOfThree_6 : decode b_Cb_twoOfThree 6 = .ok (.land, 1) := by decide +kernel
theorem d_Cb_twoOfThree_7 : decode b_Cb_twoOfThree 7 = .ok (.lor, 1) := by decide +kernel
theorem d_Cb_twoOfThree_8 : decode b_Cb_twoOfThree 8 = .ok (.lload_n 2, 1) := by decide +kernel
theorem d_Cb_twoOfThree_9 : decode b_Cb_twoOfThree 9 = .ok (.lload 4, 2) := by decide +kernel
theorem d_Cb_twoOfThree_11 : decode b_Cb_twoOfThree 11 = .ok (.land, 1) := by decide +kernel
theorem d_Cb_twoOfThree_12 : decode b_Cb_twoOfThree 12 = .ok (.lor, 1) := by decide +kernel
theorem d_Cb_twoOfThree_13 : decode b_Cb_twoOfThree 13 = .ok (.lreturn, 1) := by decide +kernel
theorem d_Cb_wordOf_0 : decode b_Cb_wordOf 0 = .ok (.aload_n 0, 1) := by decide +kernel
theorem d_Cb_wordOf_1 : decode b_Cb_wordOf 1 = .ok (.iload_n 1, 1) := by decide +kernel
theorem d_Cb_wordOf_2 : decode b_Cb_wordOf 2 = .ok (.invokevirtual 47, 3) := by decide +kernel
theorem d_Cb_wordOf_5 : decode b_Cb_wordOf 5 = .ok (.astore_n 3, 1) := by decide +kernel
theorem d_Cb_wordOf_6 : decode b_Cb_wordOf 6 = .ok (.aload_n 3, 1) := by decide +kernel
theorem d_Cb_wordOf_7 : decode b_Cb_wordOf 7 = .ok (.ifnonnull 7, 3) := by decide +kernel
theorem d_Cb_wordOf_10 : decode b_Cb_wordOf 10 = .ok (.lconst 0, 1) := by decide +kernel
theorem d_Cb_wordOf_11 : decode b_Cb_wordOf 11 = .ok (.goto 8, 3) := by decide +kernel
theorem d_Cb_wordOf_14 : decode b_Cb_wordOf 14 = .ok (.aload_n 3, 1) := by decide +kernel
theorem d_Cb_wordOf_15 : decode b_Cb_wordOf 15 = .ok (.iload_n 2, 1) := by decide +kernel
theorem d_Cb_wordOf_16 : decode b_Cb_wordOf 16 = .ok (.invokevirtual 86, 3) := by decide +kernel
theorem d_Cb_wordOf_19 : decode b_Cb_wordOf 19 = .ok (.lreturn, 1) := by decide +kernel
theorem d_Ru_init_0 : decode b_Ru_init 0 = .ok (.aload_n 0, 1) := by decide +kernel
theorem d_Ru_init_1 : decode b_Ru_init 1 = .ok (.invokespecial 1, 3) := by decide +kernel
theorem d_Ru_init_4 : decode b_Ru_init 4 = .ok (.aload_n 0, 1) := by decide +kernel
theorem d_Ru_init_5 : decode b_Ru_init 5 = .ok (.iload_n 1, 1) := by decide +kernel
theorem d_Ru_init_6 : decode b_Ru_init 6 = .ok (.putfield 7, 3) := by decide +kernel
theorem d_Ru_init_9 : decode b_Ru_init 9 = .ok (.aload_n 0, 1) := by decide +kernel
theorem d_Ru_init_10 : decode b_Ru_init 10 = .ok (.iload_n 2, 1) := by decide +kernel
theorem d_Ru_init_11 : decode b_Ru_init 11 = .ok (.putfield 13, 3) := by decide +kernel
theorem d_Ru_init_14 : decode b_Ru_init 14 = .ok (.aload_n 0, 1) := by decide +kernel
theorem d_Ru_init_15 : decode b_Ru_init 15 = .ok (.iload_n 3, 1) := by decide +kernel
theorem d_Ru_init_16 : decode b_Ru_init 16 = .ok (.putfield 16, 3) := by decide +kernel
theorem d_Ru_init_19 : decode b_Ru_init 19 = .ok (.aload_n 0, 1) := by decide +kernel
theorem d_Ru_init_20 : decode b_Ru_init 20 = .ok (.aload 4, 2) := by decide +kernel
theorem d_Ru_init_22 : decode b_Ru_init 22 = .ok (.putfield 20, 3) := by decide +kernel
theorem d_Ru_init_25 : decode b_Ru_init 25 = .ok (.return_, 1) := by decide +kernel
theorem d_Ru_word_0 : decode b_Ru_word 0 = .ok (.aload_n 0, 1) := by decide +kernel
theorem d_Ru_word_1 : decode b_Ru_word 1 = .ok (.getfield 20, 3) := by decide +kernel
theorem d_Ru_word_4 : decode b_Ru_word 4 = .ok (.iload_n 1, 1) := by decide +kernel
theorem d_Ru_word_5 : decode b_Ru_word 5 = .ok (.invokevirtual 24, 3) := by decide +kernel
theorem d_Ru_word_8 : decode b_Ru_word 8 = .ok (.lreturn, 1) := by decide +kernel
theorem d_Ru_goesBefore_0 : decode b_Ru_goesBefore 0 = .ok (.aload_n 0, 1) := by decide +kernel
theorem d_Ru_goesBefore_1 : decode b_Ru_goesBefore 1 = .ok (.getfield 13, 3) := by decide +kernel
theorem d_Ru_goesBefore_4 : decode b_Ru_goesBefore 4 = .ok (.aload_n 1, 1) := by decide +kernel
theorem d_Ru_goesBefore_5 : decode b_Ru_goesBefore 5 = .ok (.getfield 13, 3) := by decide +kernel
theorem d_Ru_goesBefore_8 : decode b_Ru_goesBefore 8 = .ok (.if_icmp .lt 28, 3) := by decide +kernel
theorem d_Ru_goesBefore_11 : decode b_Ru_goesBefore 11 = .ok (.aload_n 0, 1) := by decide +kernel
theorem d_Ru_goesBefore_12 : decode b_Ru_goesBefore 12 = .ok (.getfield 13, 3) := by decide +kernel
theorem d_Ru_goesBefore_15 : decode b_Ru_goesBefore 15 = .ok (.aload_n 1, 1) := by decide +kernel
theorem d_Ru_goesBefore_16 : decode b_Ru_goesBefore 16 = .ok (.getfield 13, 3) := by decide +kernel
theorem d_Ru_goesBefore_19 : decode b_Ru_goesBefore 19 = .ok (.if_icmp .ne 21, 3) := by decide +kernel
theorem d_Ru_goesBefore_22 : decode b_Ru_goesBefore 22 = .ok (.aload_n 0, 1) := by decide +kernel
theorem d_Ru_goesBefore_23 : decode b_Ru_goesBefore 23 = .ok (.getfield 16, 3) := by decide +kernel
theorem d_Ru_goesBefore_26 : decode b_Ru_goesBefore 26 = .ok (.ifCond .eq 14, 3) := by decide +kernel
theorem d_Ru_goesBefore_29 : decode b_Ru_goesBefore 29 = .ok (.aload_n 1, 1) := by decide +kernel
theorem d_Ru_goesBefore_30 : decode b_Ru_goesBefore 30 = .ok (.getfield 16, 3) := by decide +kernel
theorem d_Ru_goesBefore_33 : decode b_Ru_goesBefore 33 = .ok (.ifCond .ne 7, 3) := by decide +kernel
theorem d_Ru_goesBefore_36 : decode b_Ru_goesBefore 36 = .ok (.iconst 1, 1) := by decide +kernel
theorem d_Ru_goesBefore_37 : decode b_Ru_goesBefore 37 = .ok (.goto 4, 3) := by decide +kernel
theorem d_Ru_goesBefore_40 : decode b_Ru_goesBefore 40 = .ok (.iconst 0, 1) := by decide +kernel
theorem d_Ru_goesBefore_41 : decode b_Ru_goesBefore 41 = .ok (.ireturn, 1) := by decide +kernel
theorem d_Ru_rankBehind_0 : decode b_Ru_rankBehind 0 = .ok (.iload_n 1, 1) := by decide +kernel
theorem d_Ru_rankBehind_1 : decode b_Ru_rankBehind 1 = .ok (.ifCond .eq 19, 3) := by decide +kernel
theorem d_Ru_rankBehind_4 : decode b_Ru_rankBehind 4 = .ok (.aload_n 0, 1) := by decide +kernel
theorem d_Ru_rankBehind_5 : decode b_Ru_rankBehind 5 = .ok (.getfield 16, 3) := by decide +kernel
theorem d_Ru_rankBehind_8 : decode b_Ru_rankBehind 8 = .ok (.ifCond .ne 12, 3) := by decide +kernel
theorem d_Ru_rankBehind_11 : decode b_Ru_rankBehind 11 = .ok (.aload_n 0, 1) := by decide +kernel
theorem d_Ru_rankBehind_12 : decode b_Ru_rankBehind 12 = .ok (.getfield 13, 3) := by decide +kernel
theorem d_Ru_rankBehind_15 : decode b_Ru_rankBehind 15 = .ok (.iconst 1, 1) := by decide +kernel
theorem d_Ru_rankBehind_16 : decode b_Ru_rankBehind 16 = .ok (.iadd, 1) := by decide +kernel
theorem d_Ru_rankBehind_17 : decode b_Ru_rankBehind 17 = .ok (.goto 7, 3) := by decide +kernel
theorem d_Ru_rankBehind_20 : decode b_Ru_rankBehind 20 = .ok (.aload_n 0, 1) := by decide +kernel
theorem d_Ru_rankBehind_21 : decode b_Ru_rankBehind 21 = .ok (.getfield 13, 3) := by decide +kernel
theorem d_Ru_rankBehind_24 : decode b_Ru_rankBehind 24 = .ok (.ireturn, 1) := by decide +kernel
theorem d_Lo_bitCount_0 : decode b_Lo_bitCount 0 = .ok (.lload_n 0, 1) := by decide +kernel
theorem d_Lo_bitCount_1 : decode b_Lo_bitCount 1 = .ok (.lload_n 0, 1) := by decide +kernel
theorem d_Lo_bitCount_2 : decode b_Lo_bitCount 2 = .ok (.iconst 1, 1) := by decide +kernel
theorem d_Lo_bitCount_3 : decode b_Lo_bitCount 3 = .ok (.lushr, 1) := by decide +kernel
theorem d_Lo_bitCount_4 : decode b_Lo_bitCount 4 = .ok (.ldc2_w 314, 3) := by decide +kernel
theorem d_Lo_bitCount_7 : decode b_Lo_bitCount 7 = .ok (.land, 1) := by decide +kernel
theorem d_Lo_bitCount_8 : decode b_Lo_bitCount 8 = .ok (.lsub, 1) := by decide +kernel
theorem d_Lo_bitCount_9 : decode b_Lo_bitCount 9 = .ok (.lstore_n 0, 1) := by decide +kernel
theorem d_Lo_bitCount_10 : decode b_Lo_bitCount 10 = .ok (.lload_n 0, 1) := by decide +kernel
theorem d_Lo_bitCount_11 : decode b_Lo_bitCount 11 = .ok (.ldc2_w 316, 3) := by decide +kernel
theorem d_Lo_bitCount_14 : decode b_Lo_bitCount 14 = .ok (.land, 1) := by decide +kernel
theorem d_Lo_bitCount_15 : decode b_Lo_bitCount 15 = .ok (.lload_n 0, 1) := by decide +kernel
theorem d_Lo_bitCount_16 : decode b_Lo_bitCount 16 = .ok (.iconst 2, 1) := by decide +kernel
theorem d_Lo_bitCount_17 : decode b_Lo_bitCount 17 = .ok (.lushr, 1) := by decide +kernel
theorem d_Lo_bitCount_18 : decode b_Lo_bitCount 18 = .ok (.ldc2_w 316, 3) := by decide +kernel
theorem d_Lo_bitCount_21 : decode b_Lo_bitCount 21 = .ok (.land, 1) := by decide +kernel
theorem d_Lo_bitCount_22 : decode b_Lo_bitCount 22 = .ok (.ladd, 1) := by decide +kernel
theorem d_Lo_bitCount_23 : decode b_Lo_bitCount 23 = .ok (.lstore_n 0, 1) := by decide +kernel
theorem d_Lo_bitCount_24 : decode b_Lo_bitCount 24 = .ok (.lload_n 0, 1) := by decide +kernel
theorem d_Lo_bitCount_25 : decode b_Lo_bitCount 25 = .ok (.lload_n 0, 1) := by decide +kernel
theorem d_Lo_bitCount_26 : decode b_Lo_bitCount 26 = .ok (.iconst 4, 1) := by decide +kernel
theorem d_Lo_bitCount_27 : decode b_Lo_bitCount 27 = .ok (.lushr, 1) := by decide +kernel
theorem d_Lo_bitCount_28 : decode b_Lo_bitCount 28 = .ok (.ladd, 1) := by decide +kernel
theorem d_Lo_bitCount_29 : decode b_Lo_bitCount 29 = .ok (.ldc2_w 318, 3) := by decide +kernel
theorem d_Lo_bitCount_32 : decode b_Lo_bitCount 32 = .ok (.land, 1) := by decide +kernel
theorem d_Lo_bitCount_33 : decode b_Lo_bitCount 33 = .ok (.lstore_n 0, 1) := by decide +kernel
theorem d_Lo_bitCount_34 : decode b_Lo_bitCount 34 = .ok (.lload_n 0, 1) := by decide +kernel
theorem d_Lo_bitCount_35 : decode b_Lo_bitCount 35 = .ok (.lload_n 0, 1) := by decide +kernel
theorem d_Lo_bitCount_36 : decode b_Lo_bitCount 36 = .ok (.bipush 8, 2) := by decide +kernel
theorem d_Lo_bitCount_38 : decode b_Lo_bitCount 38 = .ok (.lushr, 1) := by decide +kernel
theorem d_Lo_bitCount_39 : decode b_Lo_bitCount 39 = .ok (.ladd, 1) := by decide +kernel
theorem d_Lo_bitCount_40 : decode b_Lo_bitCount 40 = .ok (.lstore_n 0, 1) := by decide +kernel
theorem d_Lo_bitCount_41 : decode b_Lo_bitCount 41 = .ok (.lload_n 0, 1) := by decide +kernel
theorem d_Lo_bitCount_42 : decode b_Lo_bitCount 42 = .ok (.lload_n 0, 1) := by decide +kernel
theorem d_Lo_bitCount_43 : decode b_Lo_bitCount 43 = .ok (.bipush 16, 2) := by decide +kernel
theorem d_Lo_bitCount_45 : decode b_Lo_bitCount 45 = .ok (.lushr, 1) := by decide +kernel
theorem d_Lo_bitCount_46 : decode b_Lo_bitCount 46 = .ok (.ladd, 1) := by decide +kernel
theorem d_Lo_bitCount_47 : decode b_Lo_bitCount 47 = .ok (.lstore_n 0, 1) := by decide +kernel
theorem d_Lo_bitCount_48 : decode b_Lo_bitCount 48 = .ok (.lload_n 0, 1) := by decide +kernel
theorem d_Lo_bitCount_49 : decode b_Lo_bitCount 49 = .ok (.lload_n 0, 1) := by decide +kernel
theorem d_Lo_bitCount_50 : decode b_Lo_bitCount 50 = .ok (.bipush 32, 2) := by decide +kernel
theorem d_Lo_bitCount_52 : decode b_Lo_bitCount 52 = .ok (.lushr, 1) := by decide +kernel
theorem d_Lo_bitCount_53 : decode b_Lo_bitCount 53 = .ok (.ladd, 1) := by decide +kernel
theorem d_Lo_bitCount_54 : decode b_Lo_bitCount 54 = .ok (.lstore_n 0, 1) := by decide +kernel
theorem d_Lo_bitCount_55 : decode b_Lo_bitCount 55 = .ok (.lload_n 0, 1) := by decide +kernel
theorem d_Lo_bitCount_56 : decode b_Lo_bitCount 56 = .ok (.l2i, 1) := by decide +kernel
theorem d_Lo_bitCount_57 : decode b_Lo_bitCount 57 = .ok (.bipush 127, 2) := by decide +kernel
theorem d_Lo_bitCount_59 : decode b_Lo_bitCount 59 = .ok (.iand, 1) := by decide +kernel
theorem d_Lo_bitCount_60 : decode b_Lo_bitCount 60 = .ok (.ireturn, 1) := by decide +kernel
