theorem dX0_init_0 : decode cX0_init 0 = .ok (.aload_n 0, 1) := by decide +kernel
theorem dX0_init_1 : decode cX0_init 1 = .ok (.invokespecial 3, 3) := by decide +kernel
theorem dX0_init_4 : decode cX0_init 4 = .ok (.aload_n 0, 1) := by decide +kernel
theorem dX0_init_5 : decode cX0_init 5 = .ok (.bipush 20, 2) := by decide +kernel
theorem dX0_init_7 : decode cX0_init 7 = .ok (.newarray .int, 2) := by decide +kernel
theorem dX0_init_9 : decode cX0_init 9 = .ok (.putfield 9, 3) := by decide +kernel
theorem dX0_init_12 : decode cX0_init 12 = .ok (.return_, 1) := by decide +kernel
theorem dX0_begin_0 : decode cX0_begin 0 = .ok (.aload_n 0, 1) := by decide +kernel
theorem dX0_begin_1 : decode cX0_begin 1 = .ok (.iload_n 1, 1) := by decide +kernel
theorem dX0_begin_2 : decode cX0_begin 2 = .ok (.aload_n 0, 1) := by decide +kernel
theorem dX0_begin_3 : decode cX0_begin 3 = .ok (.getfield 15, 3) := by decide +kernel
theorem dX0_begin_6 : decode cX0_begin 6 = .ok (.iload_n 2, 1) := by decide +kernel
theorem dX0_begin_7 : decode cX0_begin 7 = .ok (.iconst 0, 1) := by decide +kernel
theorem dX0_begin_8 : decode cX0_begin 8 = .ok (.invokevirtual 19, 3) := by decide +kernel
theorem dX0_begin_11 : decode cX0_begin 11 = .ok (.ireturn, 1) := by decide +kernel
theorem dX0_run_0 : decode cX0_run 0 = .ok (.iload_n 1, 1) := by decide +kernel
theorem dX0_run_1 : decode cX0_run 1 = .ok (.iload_n 2, 1) := by decide +kernel
theorem dX0_run_2 : decode cX0_run 2 = .ok (.invokestatic 23, 3) := by decide +kernel
theorem dX0_run_5 : decode cX0_run 5 = .ok (.istore 5, 2) := by decide +kernel
theorem dX0_run_7 : decode cX0_run 7 = .ok (.iload 5, 2) := by decide +kernel
theorem dX0_run_9 : decode cX0_run 9 = .ok (.ifCond .lt 10, 3) := by decide +kernel
theorem dX0_run_12 : decode cX0_run 12 = .ok (.iload 4, 2) := by decide +kernel
theorem dX0_run_14 : decode cX0_run 14 = .ok (.bipush 20, 2) := by decide +kernel
theorem dX0_run_16 : decode cX0_run 16 = .ok (.if_icmp .le 5, 3) := by decide +kernel
theorem dX0_run_19 : decode cX0_run 19 = .ok (.iconst 0, 1) := by decide +kernel
theorem dX0_run_20 : decode cX0_run 20 = .ok (.ireturn, 1) := by decide +kernel
theorem dX0_run_21 : decode cX0_run 21 = .ok (.iload_n 1, 1) := by decide +kernel
theorem dX0_run_22 : decode cX0_run 22 = .ok (.iload 5, 2) := by decide +kernel
theorem dX0_run_24 : decode cX0_run 24 = .ok (.invokestatic 27, 3) := by decide +kernel
theorem dX0_run_27 : decode cX0_run 27 = .ok (.istore 6, 2) := by decide +kernel
theorem dX0_run_29 : decode cX0_run 29 = .ok (.aload_n 0, 1) := by decide +kernel
theorem dX0_run_30 : decode cX0_run 30 = .ok (.iload 6, 2) := by decide +kernel
theorem dX0_run_32 : decode cX0_run 32 = .ok (.invokevirtual 30, 3) := by decide +kernel
theorem dX0_run_35 : decode cX0_run 35 = .ok (.aload_n 0, 1) := by decide +kernel
theorem dX0_run_36 : decode cX0_run 36 = .ok (.iload 6, 2) := by decide +kernel
theorem dX0_run_38 : decode cX0_run 38 = .ok (.iload 5, 2) := by decide +kernel
theorem dX0_run_40 : decode cX0_run 40 = .ok (.invokestatic 34, 3) := by decide +kernel
theorem dX0_run_43 : decode cX0_run 43 = .ok (.iload_n 3, 1) := by decide +kernel
theorem dX0_run_44 : decode cX0_run 44 = .ok (.iload 4, 2) := by decide +kernel
theorem dX0_run_46 : decode cX0_run 46 = .ok (.iconst 1, 1) := by decide +kernel
theorem dX0_run_47 : decode cX0_run 47 = .ok (.iadd, 1) := by decide +kernel
theorem dX0_run_48 : decode cX0_run 48 = .ok (.invokevirtual 38, 3) := by decide +kernel
theorem dX0_run_51 : decode cX0_run 51 = .ok (.ireturn, 1) := by decide +kernel
theorem dX0_answer_0 : decode cX0_answer 0 = .ok (.iload_n 1, 1) := by decide +kernel
theorem dX0_answer_1 : decode cX0_answer 1 = .ok (.lookupswitch 191 #[(1, 75), (2, 82), (3, 100), (11, 115), (21, 127), (31, 138), (41, 151), (51, 176)], 75) := by decide +kernel
theorem dX0_answer_76 : decode cX0_answer 76 = .ok (.iload_n 3, 1) := by decide +kernel
theorem dX0_answer_77 : decode cX0_answer 77 = .ok (.aload_n 0, 1) := by decide +kernel
theorem dX0_answer_78 : decode cX0_answer 78 = .ok (.getfield 41, 3) := by decide +kernel
theorem dX0_answer_81 : decode cX0_answer 81 = .ok (.iadd, 1) := by decide +kernel
theorem dX0_answer_82 : decode cX0_answer 82 = .ok (.ireturn, 1) := by decide +kernel
theorem dX0_answer_83 : decode cX0_answer 83 = .ok (.aload_n 0, 1) := by decide +kernel
theorem dX0_answer_84 : decode cX0_answer 84 = .ok (.iconst 0, 1) := by decide +kernel
theorem dX0_answer_85 : decode cX0_answer 85 = .ok (.aload_n 0, 1) := by decide +kernel
theorem dX0_answer_86 : decode cX0_answer 86 = .ok (.getfield 15, 3) := by decide +kernel
theorem dX0_answer_89 : decode cX0_answer 89 = .ok (.iload_n 3, 1) := by decide +kernel
theorem dX0_answer_90 : decode cX0_answer 90 = .ok (.iload 4, 2) := by decide +kernel
theorem dX0_answer_92 : decode cX0_answer 92 = .ok (.invokevirtual 19, 3) := by decide +kernel
theorem dX0_answer_95 : decode cX0_answer 95 = .ok (.aload_n 0, 1) := by decide +kernel
theorem dX0_answer_96 : decode cX0_answer 96 = .ok (.getfield 44, 3) := by decide +kernel
theorem dX0_answer_99 : decode cX0_answer 99 = .ok (.isub, 1) := by decide +kernel
theorem dX0_answer_100 : decode cX0_answer 100 = .ok (.ireturn, 1) := by decide +kernel
theorem dX0_answer_101 : decode cX0_answer 101 = .ok (.aload_n 0, 1) := by decide +kernel
theorem dX0_answer_102 : decode cX0_answer 102 = .ok (.iconst 1, 1) := by decide +kernel
theorem dX0_answer_103 : decode cX0_answer 103 = .ok (.aload_n 0, 1) := by decide +kernel
theorem dX0_answer_104 : decode cX0_answer 104 = .ok (.getfield 15, 3) := by decide +kernel
theorem dX0_answer_107 : decode cX0_answer 107 = .ok (.iload_n 3, 1) := by decide +kernel
theorem dX0_answer_108 : decode cX0_answer 108 = .ok (.iload 4, 2) := by decide +kernel
theorem dX0_answer_110 : decode cX0_answer 110 = .ok (.invokevirtual 19, 3) := by decide +kernel
theorem dX0_answer_113 : decode cX0_answer 113 = .ok (.iconst 2, 1) := by decide +kernel
theorem dX0_answer_114 : decode cX0_answer 114 = .ok (.imul, 1) := by decide +kernel
theorem dX0_answer_115 : decode cX0_answer 115 = .ok (.ireturn, 1) := by decide +kernel
theorem dX0_answer_116 : decode cX0_answer 116 = .ok (.aload_n 0, 1) := by decide +kernel
theorem dX0_answer_117 : decode cX0_answer 117 = .ok (.iconst 0, 1) := by decide +kernel
theorem dX0_answer_118 : decode cX0_answer 118 = .ok (.iload_n 2, 1) := by decide +kernel
theorem dX0_answer_119 : decode cX0_answer 119 = .ok (.iload_n 3, 1) := by decide +kernel
theorem dX0_answer_120 : decode cX0_answer 120 = .ok (.iconst 3, 1) := by decide +kernel
theorem dX0_answer_121 : decode cX0_answer 121 = .ok (.imul, 1) := by decide +kernel
theorem dX0_answer_122 : decode cX0_answer 122 = .ok (.iload 4, 2) := by decide +kernel
theorem dX0_answer_124 : decode cX0_answer 124 = .ok (.invokevirtual 19, 3) := by decide +kernel
theorem dX0_answer_127 : decode cX0_answer 127 = .ok (.ireturn, 1) := by decide +kernel
theorem dX0_answer_128 : decode cX0_answer 128 = .ok (.aload_n 0, 1) := by decide +kernel
theorem dX0_answer_129 : decode cX0_answer 129 = .ok (.iconst 1, 1) := by decide +kernel
theorem dX0_answer_130 : decode cX0_answer 130 = .ok (.iload_n 2, 1) := by decide +kernel
theorem dX0_answer_131 : decode cX0_answer 131 = .ok (.iload_n 3, 1) := by decide +kernel
theorem dX0_answer_132 : decode cX0_answer 132 = .ok (.iload 4, 2) := by decide +kernel
theorem dX0_answer_134 : decode cX0_answer 134 = .ok (.invokevirtual 19, 3) := by decide +kernel
theorem dX0_answer_137 : decode cX0_answer 137 = .ok (.ineg, 1) := by decide +kernel
theorem dX0_answer_138 : decode cX0_answer 138 = .ok (.ireturn, 1) := by decide +kernel
theorem dX0_answer_139 : decode cX0_answer 139 = .ok (.aload_n 0, 1) := by decide +kernel
theorem dX0_answer_140 : decode cX0_answer 140 = .ok (.iconst 2, 1) := by decide +kernel
theorem dX0_answer_141 : decode cX0_answer 141 = .ok (.iload_n 2, 1) := by decide +kernel
theorem dX0_answer_142 : decode cX0_answer 142 = .ok (.iload_n 3, 1) := by decide +kernel
theorem dX0_answer_143 : decode cX0_answer 143 = .ok (.iload 4, 2) := by decide +kernel
theorem dX0_answer_145 : decode cX0_answer 145 = .ok (.invokevirtual 19, 3) := by decide +kernel
theorem dX0_answer_148 : decode cX0_answer 148 = .ok (.bipush 7, 2) := by decide +kernel
theorem dX0_answer_150 : decode cX0_answer 150 = .ok (.ixor, 1) := by decide +kernel
theorem dX0_answer_151 : decode cX0_answer 151 = .ok (.ireturn, 1) := by decide +kernel
theorem dX0_answer_152 : decode cX0_answer 152 = .ok (.aload_n 0, 1) := by decide +kernel
theorem dX0_answer_153 : decode cX0_answer 153 = .ok (.iconst 2, 1) := by decide +kernel
theorem dX0_answer_154 : decode cX0_answer 154 = .ok (.iload_n 2, 1) := by decide +kernel
theorem dX0_answer_155 : decode cX0_answer 155 = .ok (.iload_n 3, 1) := by decide +kernel
theorem dX0_answer_156 : decode cX0_answer 156 = .ok (.iconst 1, 1) := by decide +kernel
theorem dX0_answer_157 : decode cX0_answer 157 = .ok (.isub, 1) := by decide +kernel
theorem dX0_answer_158 : decode cX0_answer 158 = .ok (.iload 4, 2) := by decide +kernel
theorem dX0_answer_160 : decode cX0_answer 160 = .ok (.invokevirtual 19, 3) := by decide +kernel
theorem dX0_answer_163 : decode cX0_answer 163 = .ok (.aload_n 0, 1) := by decide +kernel
theorem dX0_answer_164 : decode cX0_answer 164 = .ok (.iconst 0, 1) := by decide +kernel
theorem dX0_answer_165 : decode cX0_answer 165 = .ok (.aload_n 0, 1) := by decide +kernel
theorem dX0_answer_166 : decode cX0_answer 166 = .ok (.getfield 15, 3) := by decide +kernel
theorem dX0_answer_169 : decode cX0_answer 169 = .ok (.iconst 2, 1) := by decide +kernel
theorem dX0_answer_170 : decode cX0_answer 170 = .ok (.iload 4, 2) := by decide +kernel
theorem dX0_answer_172 : decode cX0_answer 172 = .ok (.invokevirtual 19, 3) := by decide +kernel
theorem dX0_answer_175 : decode cX0_answer 175 = .ok (.iadd, 1) := by decide +kernel
theorem dX0_answer_176 : decode cX0_answer 176 = .ok (.ireturn, 1) := by decide +kernel
theorem dX0_answer_177 : decode cX0_answer 177 = .ok (.aload_n 0, 1) := by decide +kernel
theorem dX0_answer_178 : decode cX0_answer 178 = .ok (.iconst 0, 1) := by decide +kernel
theorem dX0_answer_179 : decode cX0_answer 179 = .ok (.iload_n 2, 1) := by decide +kernel
theorem dX0_answer_180 : decode cX0_answer 180 = .ok (.iload_n 3, 1) := by decide +kernel
theorem dX0_answer_181 : decode cX0_answer 181 = .ok (.iload 4, 2) := by decide +kernel
theorem dX0_answer_183 : decode cX0_answer 183 = .ok (.invokevirtual 19, 3) := by decide +kernel
theorem dX0_answer_186 : decode cX0_answer 186 = .ok (.aload_n 0, 1) := by decide +kernel
theorem dX0_answer_187 : decode cX0_answer 187 = .ok (.getfield 41, 3) := by decide +kernel
theorem dX0_answer_190 : decode cX0_answer 190 = .ok (.ixor, 1) := by decide +kernel
theorem dX0_answer_191 : decode cX0_answer 191 = .ok (.ireturn, 1) := by decide +kernel
theorem dX0_answer_192 : decode cX0_answer 192 = .ok (.aload_n 0, 1) := by decide +kernel
theorem dX0_answer_193 : decode cX0_answer 193 = .ok (.iconst 1, 1) := by decide +kernel
theorem dX0_answer_194 : decode cX0_answer 194 = .ok (.iload_n 2, 1) := by decide +kernel
theorem dX0_answer_195 : decode cX0_answer 195 = .ok (.iload_n 3, 1) := by decide +kernel
theorem dX0_answer_196 : decode cX0_answer 196 = .ok (.iload 4, 2) := by decide +kernel
theorem dX0_answer_198 : decode cX0_answer 198 = .ok (.invokevirtual 19, 3) := by decide +kernel
theorem dX0_answer_201 : decode cX0_answer 201 = .ok (.aload_n 0, 1) := by decide +kernel
theorem dX0_answer_202 : decode cX0_answer 202 = .ok (.getfield 44, 3) := by decide +kernel
theorem dX0_answer_205 : decode cX0_answer 205 = .ok (.iadd, 1) := by decide +kernel
theorem dX0_answer_206 : decode cX0_answer 206 = .ok (.ireturn, 1) := by decide +kernel
theorem dX0_ownerOf_0 : decode cX0_ownerOf 0 = .ok (.iload_n 1, 1) := by decide +kernel
theorem dX0_ownerOf_1 : decode cX0_ownerOf 1 = .ok (.istore_n 2, 1) := by decide +kernel
theorem dX0_ownerOf_2 : decode cX0_ownerOf 2 = .ok (.iconst 0, 1) := by decide +kernel
theorem dX0_ownerOf_3 : decode cX0_ownerOf 3 = .ok (.istore_n 3, 1) := by decide +kernel
theorem dX0_ownerOf_4 : decode cX0_ownerOf 4 = .ok (.iload_n 3, 1) := by decide +kernel
theorem dX0_ownerOf_5 : decode cX0_ownerOf 5 = .ok (.bipush 7, 2) := by decide +kernel
theorem dX0_ownerOf_7 : decode cX0_ownerOf 7 = .ok (.if_icmp .ge 28, 3) := by decide +kernel
theorem dX0_ownerOf_10 : decode cX0_ownerOf 10 = .ok (.iload_n 2, 1) := by decide +kernel
theorem dX0_ownerOf_11 : decode cX0_ownerOf 11 = .ok (.ifCond .lt 24, 3) := by decide +kernel
theorem dX0_ownerOf_14 : decode cX0_ownerOf 14 = .ok (.iload_n 0, 1) := by decide +kernel
theorem dX0_ownerOf_15 : decode cX0_ownerOf 15 = .ok (.iload_n 2, 1) := by decide +kernel
theorem dX0_ownerOf_16 : decode cX0_ownerOf 16 = .ok (.invokestatic 27, 3) := by decide +kernel
theorem dX0_ownerOf_19 : decode cX0_ownerOf 19 = .ok (.ifCond .eq 5, 3) := by decide +kernel
theorem dX0_ownerOf_22 : decode cX0_ownerOf 22 = .ok (.iload_n 2, 1) := by decide +kernel
theorem dX0_ownerOf_23 : decode cX0_ownerOf 23 = .ok (.ireturn, 1) := by decide +kernel
theorem dX0_ownerOf_24 : decode cX0_ownerOf 24 = .ok (.iload_n 2, 1) := by decide +kernel
theorem dX0_ownerOf_25 : decode cX0_ownerOf 25 = .ok (.invokestatic 34, 3) := by decide +kernel
theorem dX0_ownerOf_28 : decode cX0_ownerOf 28 = .ok (.istore_n 2, 1) := by decide +kernel
theorem dX0_ownerOf_29 : decode cX0_ownerOf 29 = .ok (.iinc 3 1, 3) := by decide +kernel
theorem dX0_ownerOf_32 : decode cX0_ownerOf 32 = .ok (.goto (-28), 3) := by decide +kernel
theorem dX0_ownerOf_35 : decode cX0_ownerOf 35 = .ok (.iconst (-1), 1) := by decide +kernel
theorem dX0_ownerOf_36 : decode cX0_ownerOf 36 = .ok (.ireturn, 1) := by decide +kernel
theorem dX0_bodyOf_0 : decode cX0_bodyOf 0 = .ok (.iload_n 0, 1) := by decide +kernel
theorem dX0_bodyOf_1 : decode cX0_bodyOf 1 = .ok (.bipush 7, 2) := by decide +kernel
theorem dX0_bodyOf_3 : decode cX0_bodyOf 3 = .ok (.imul, 1) := by decide +kernel
theorem dX0_bodyOf_4 : decode cX0_bodyOf 4 = .ok (.iload_n 1, 1) := by decide +kernel
theorem dX0_bodyOf_5 : decode cX0_bodyOf 5 = .ok (.iadd, 1) := by decide +kernel
theorem dX0_bodyOf_6 : decode cX0_bodyOf 6 = .ok (.istore_n 2, 1) := by decide +kernel
theorem dX0_bodyOf_7 : decode cX0_bodyOf 7 = .ok (.iload_n 2, 1) := by decide +kernel
theorem dX0_bodyOf_8 : decode cX0_bodyOf 8 = .ok (.ifCond .lt 19, 3) := by decide +kernel
theorem dX0_bodyOf_11 : decode cX0_bodyOf 11 = .ok (.iload_n 2, 1) := by decide +kernel
theorem dX0_bodyOf_12 : decode cX0_bodyOf 12 = .ok (.getstatic 47, 3) := by decide +kernel
theorem dX0_bodyOf_15 : decode cX0_bodyOf 15 = .ok (.arraylength, 1) := by decide +kernel
theorem dX0_bodyOf_16 : decode cX0_bodyOf 16 = .ok (.if_icmp .ge 11, 3) := by decide +kernel
theorem dX0_bodyOf_19 : decode cX0_bodyOf 19 = .ok (.getstatic 47, 3) := by decide +kernel
theorem dX0_bodyOf_22 : decode cX0_bodyOf 22 = .ok (.iload_n 2, 1) := by decide +kernel
theorem dX0_bodyOf_23 : decode cX0_bodyOf 23 = .ok (.iaload, 1) := by decide +kernel
theorem dX0_bodyOf_24 : decode cX0_bodyOf 24 = .ok (.goto 4, 3) := by decide +kernel
theorem dX0_bodyOf_27 : decode cX0_bodyOf 27 = .ok (.iconst 0, 1) := by decide +kernel
theorem dX0_bodyOf_28 : decode cX0_bodyOf 28 = .ok (.ireturn, 1) := by decide +kernel
theorem dX0_note_0 : decode cX0_note 0 = .ok (.aload_n 0, 1) := by decide +kernel
theorem dX0_note_1 : decode cX0_note 1 = .ok (.getfield 50, 3) := by decide +kernel
theorem dX0_note_4 : decode cX0_note 4 = .ok (.ifCond .lt 25, 3) := by decide +kernel
theorem dX0_note_7 : decode cX0_note 7 = .ok (.aload_n 0, 1) := by decide +kernel
theorem dX0_note_8 : decode cX0_note 8 = .ok (.getfield 50, 3) := by decide +kernel
theorem dX0_note_11 : decode cX0_note 11 = .ok (.aload_n 0, 1) := by decide +kernel
theorem dX0_note_12 : decode cX0_note 12 = .ok (.getfield 9, 3) := by decide +kernel
theorem dX0_note_15 : decode cX0_note 15 = .ok (.arraylength, 1) := by decide +kernel
theorem dX0_note_16 : decode cX0_note 16 = .ok (.if_icmp .ge 13, 3) := by decide +kernel
theorem dX0_note_19 : decode cX0_note 19 = .ok (.aload_n 0, 1) := by decide +kernel
theorem dX0_note_20 : decode cX0_note 20 = .ok (.getfield 9, 3) := by decide +kernel
theorem dX0_note_23 : decode cX0_note 23 = .ok (.aload_n 0, 1) := by decide +kernel
theorem dX0_note_24 : decode cX0_note 24 = .ok (.getfield 50, 3) := by decide +kernel
theorem dX0_note_27 : decode cX0_note 27 = .ok (.iload_n 1, 1) := by decide +kernel
theorem dX0_note_28 : decode cX0_note 28 = .ok (.iastore, 1) := by decide +kernel
theorem dX0_note_29 : decode cX0_note 29 = .ok (.aload_n 0, 1) := by decide +kernel
theorem dX0_note_30 : decode cX0_note 30 = .ok (.dup, 1) := by decide +kernel
theorem dX0_note_31 : decode cX0_note 31 = .ok (.getfield 50, 3) := by decide +kernel
theorem dX0_note_34 : decode cX0_note 34 = .ok (.iconst 1, 1) := by decide +kernel
theorem dX0_note_35 : decode cX0_note 35 = .ok (.iadd, 1) := by decide +kernel
theorem dX0_note_36 : decode cX0_note 36 = .ok (.putfield 50, 3) := by decide +kernel
theorem dX0_note_39 : decode cX0_note 39 = .ok (.return_, 1) := by decide +kernel
theorem dX1_init_0 : decode cX1_init 0 = .ok (.aload_n 0, 1) := by decide +kernel
theorem dX1_init_1 : decode cX1_init 1 = .ok (.invokespecial 3, 3) := by decide +kernel
theorem dX1_init_4 : decode cX1_init 4 = .ok (.aload_n 0, 1) := by decide +kernel
theorem dX1_init_5 : decode cX1_init 5 = .ok (.bipush 100, 2) := by decide +kernel
theorem dX1_init_7 : decode cX1_init 7 = .ok (.newarray .int, 2) := by decide +kernel
theorem dX1_init_9 : decode cX1_init 9 = .ok (.putfield 9, 3) := by decide +kernel
theorem dX1_init_12 : decode cX1_init 12 = .ok (.return_, 1) := by decide +kernel
theorem dX1_clear_0 : decode cX1_clear 0 = .ok (.aload_n 0, 1) := by decide +kernel
theorem dX1_clear_1 : decode cX1_clear 1 = .ok (.iconst 0, 1) := by decide +kernel
theorem dX1_clear_2 : decode cX1_clear 2 = .ok (.putfield 15, 3) := by decide +kernel
theorem dX1_clear_5 : decode cX1_clear 5 = .ok (.aload_n 0, 1) := by decide +kernel
theorem dX1_clear_6 : decode cX1_clear 6 = .ok (.bipush 9, 2) := by decide +kernel
theorem dX1_clear_8 : decode cX1_clear 8 = .ok (.putfield 19, 3) := by decide +kernel
theorem dX1_clear_11 : decode cX1_clear 11 = .ok (.return_, 1) := by decide +kernel
theorem dX1_put_0 : decode cX1_put 0 = .ok (.aload_n 0, 1) := by decide +kernel
theorem dX1_put_1 : decode cX1_put 1 = .ok (.getfield 15, 3) := by decide +kernel
theorem dX1_put_4 : decode cX1_put 4 = .ok (.ifCond .lt 40, 3) := by decide +kernel
theorem dX1_put_7 : decode cX1_put 7 = .ok (.aload_n 0, 1) := by decide +kernel
theorem dX1_put_8 : decode cX1_put 8 = .ok (.getfield 15, 3) := by decide +kernel
theorem dX1_put_11 : decode cX1_put 11 = .ok (.aload_n 0, 1) := by decide +kernel
theorem dX1_put_12 : decode cX1_put 12 = .ok (.getfield 9, 3) := by decide +kernel
theorem dX1_put_15 : decode cX1_put 15 = .ok (.arraylength, 1) := by decide +kernel
theorem dX1_put_16 : decode cX1_put 16 = .ok (.if_icmp .ge 28, 3) := by decide +kernel
theorem dX1_put_19 : decode cX1_put 19 = .ok (.aload_n 0, 1) := by decide +kernel
theorem dX1_put_20 : decode cX1_put 20 = .ok (.getfield 9, 3) := by decide +kernel
theorem dX1_put_23 : decode cX1_put 23 = .ok (.aload_n 0, 1) := by decide +kernel
theorem dX1_put_24 : decode cX1_put 24 = .ok (.getfield 15, 3) := by decide +kernel
theorem dX1_put_27 : decode cX1_put 27 = .ok (.iload_n 2, 1) := by decide +kernel
theorem dX1_put_28 : decode cX1_put 28 = .ok (.bipush 16, 2) := by decide +kernel
theorem dX1_put_30 : decode cX1_put 30 = .ok (.imul, 1) := by decide +kernel
theorem dX1_put_31 : decode cX1_put 31 = .ok (.iload_n 1, 1) := by decide +kernel
theorem dX1_put_32 : decode cX1_put 32 = .ok (.iadd, 1) := by decide +kernel
theorem dX1_put_33 : decode cX1_put 33 = .ok (.iastore, 1) := by decide +kernel
theorem dX1_put_34 : decode cX1_put 34 = .ok (.aload_n 0, 1) := by decide +kernel
theorem dX1_put_35 : decode cX1_put 35 = .ok (.dup, 1) := by decide +kernel
theorem dX1_put_36 : decode cX1_put 36 = .ok (.getfield 15, 3) := by decide +kernel
theorem dX1_put_39 : decode cX1_put 39 = .ok (.iconst 1, 1) := by decide +kernel
theorem dX1_put_40 : decode cX1_put 40 = .ok (.iadd, 1) := by decide +kernel
theorem dX1_put_41 : decode cX1_put 41 = .ok (.putfield 15, 3) := by decide +kernel
theorem dX1_put_44 : decode cX1_put 44 = .ok (.return_, 1) := by decide +kernel
theorem dX1_weigh_0 : decode cX1_weigh 0 = .ok (.iconst 0, 1) := by decide +kernel
theorem dX1_weigh_1 : decode cX1_weigh 1 = .ok (.istore_n 2, 1) := by decide +kernel
theorem dX1_weigh_2 : decode cX1_weigh 2 = .ok (.iconst 0, 1) := by decide +kernel
theorem dX1_weigh_3 : decode cX1_weigh 3 = .ok (.istore_n 3, 1) := by decide +kernel
theorem dX1_weigh_4 : decode cX1_weigh 4 = .ok (.iconst 0, 1) := by decide +kernel
theorem dX1_weigh_5 : decode cX1_weigh 5 = .ok (.istore 4, 2) := by decide +kernel
theorem dX1_weigh_7 : decode cX1_weigh 7 = .ok (.iload 4, 2) := by decide +kernel
theorem dX1_weigh_9 : decode cX1_weigh 9 = .ok (.aload_n 0, 1) := by decide +kernel
theorem dX1_weigh_10 : decode cX1_weigh 10 = .ok (.getfield 15, 3) := by decide +kernel
theorem dX1_weigh_13 : decode cX1_weigh 13 = .ok (.if_icmp .ge 149, 3) := by decide +kernel
theorem dX1_weigh_16 : decode cX1_weigh 16 = .ok (.iload 4, 2) := by decide +kernel
theorem dX1_weigh_18 : decode cX1_weigh 18 = .ok (.aload_n 0, 1) := by decide +kernel
theorem dX1_weigh_19 : decode cX1_weigh 19 = .ok (.getfield 9, 3) := by decide +kernel
theorem dX1_weigh_22 : decode cX1_weigh 22 = .ok (.arraylength, 1) := by decide +kernel
theorem dX1_weigh_23 : decode cX1_weigh 23 = .ok (.if_icmp .ge 139, 3) := by decide +kernel
theorem dX1_weigh_26 : decode cX1_weigh 26 = .ok (.aload_n 0, 1) := by decide +kernel
theorem dX1_weigh_27 : decode cX1_weigh 27 = .ok (.getfield 9, 3) := by decide +kernel
theorem dX1_weigh_30 : decode cX1_weigh 30 = .ok (.iload 4, 2) := by decide +kernel
theorem dX1_weigh_32 : decode cX1_weigh 32 = .ok (.iaload, 1) := by decide +kernel
theorem dX1_weigh_33 : decode cX1_weigh 33 = .ok (.bipush 15, 2) := by decide +kernel
theorem dX1_weigh_35 : decode cX1_weigh 35 = .ok (.iand, 1) := by decide +kernel
theorem dX1_weigh_36 : decode cX1_weigh 36 = .ok (.istore 5, 2) := by decide +kernel
theorem dX1_weigh_38 : decode cX1_weigh 38 = .ok (.aload_n 0, 1) := by decide +kernel
theorem dX1_weigh_39 : decode cX1_weigh 39 = .ok (.getfield 9, 3) := by decide +kernel
theorem dX1_weigh_42 : decode cX1_weigh 42 = .ok (.iload 4, 2) := by decide +kernel
theorem dX1_weigh_44 : decode cX1_weigh 44 = .ok (.iaload, 1) := by decide +kernel
theorem dX1_weigh_45 : decode cX1_weigh 45 = .ok (.iconst 4, 1) := by decide +kernel
theorem dX1_weigh_46 : decode cX1_weigh 46 = .ok (.ishr, 1) := by decide +kernel
theorem dX1_weigh_47 : decode cX1_weigh 47 = .ok (.istore 6, 2) := by decide +kernel
theorem dX1_weigh_49 : decode cX1_weigh 49 = .ok (.iload 5, 2) := by decide +kernel
theorem dX1_weigh_51 : decode cX1_weigh 51 = .ok (.aload_n 1, 1) := by decide +kernel
theorem dX1_weigh_52 : decode cX1_weigh 52 = .ok (.arraylength, 1) := by decide +kernel
theorem dX1_weigh_53 : decode cX1_weigh 53 = .ok (.if_icmp .ge 20, 3) := by decide +kernel
theorem dX1_weigh_56 : decode cX1_weigh 56 = .ok (.iload_n 3, 1) := by decide +kernel
theorem dX1_weigh_57 : decode cX1_weigh 57 = .ok (.iconst 1, 1) := by decide +kernel
theorem dX1_weigh_58 : decode cX1_weigh 58 = .ok (.ishl, 1) := by decide +kernel
theorem dX1_weigh_59 : decode cX1_weigh 59 = .ok (.iload 6, 2) := by decide +kernel
theorem dX1_weigh_61 : decode cX1_weigh 61 = .ok (.aload_n 1, 1) := by decide +kernel
theorem dX1_weigh_62 : decode cX1_weigh 62 = .ok (.iload 5, 2) := by decide +kernel
theorem dX1_weigh_64 : decode cX1_weigh 64 = .ok (.iaload, 1) := by decide +kernel
theorem dX1_weigh_65 : decode cX1_weigh 65 = .ok (.ishr, 1) := by decide +kernel
theorem dX1_weigh_66 : decode cX1_weigh 66 = .ok (.iconst 1, 1) := by decide +kernel
theorem dX1_weigh_67 : decode cX1_weigh 67 = .ok (.iand, 1) := by decide +kernel
theorem dX1_weigh_68 : decode cX1_weigh 68 = .ok (.ior, 1) := by decide +kernel
theorem dX1_weigh_69 : decode cX1_weigh 69 = .ok (.istore_n 3, 1) := by decide +kernel
theorem dX1_weigh_70 : decode cX1_weigh 70 = .ok (.goto 86, 3) := by decide +kernel
theorem dX1_weigh_73 : decode cX1_weigh 73 = .ok (.iload 5, 2) := by decide +kernel
theorem dX1_weigh_75 : decode cX1_weigh 75 = .ok (.bipush 6, 2) := by decide +kernel
theorem dX1_weigh_77 : decode cX1_weigh 77 = .ok (.if_icmp .ne 10, 3) := by decide +kernel
theorem dX1_weigh_80 : decode cX1_weigh 80 = .ok (.iload_n 3, 1) := by decide +kernel
theorem dX1_weigh_81 : decode cX1_weigh 81 = .ok (.iconst 1, 1) := by decide +kernel
theorem dX1_weigh_82 : decode cX1_weigh 82 = .ok (.ixor, 1) := by decide +kernel
theorem dX1_weigh_83 : decode cX1_weigh 83 = .ok (.istore_n 3, 1) := by decide +kernel
theorem dX1_weigh_84 : decode cX1_weigh 84 = .ok (.goto 72, 3) := by decide +kernel
theorem dX1_weigh_87 : decode cX1_weigh 87 = .ok (.iload 5, 2) := by decide +kernel
theorem dX1_weigh_89 : decode cX1_weigh 89 = .ok (.bipush 7, 2) := by decide +kernel
theorem dX1_weigh_91 : decode cX1_weigh 91 = .ok (.if_icmp .ne 15, 3) := by decide +kernel
theorem dX1_weigh_94 : decode cX1_weigh 94 = .ok (.iload_n 3, 1) := by decide +kernel
theorem dX1_weigh_95 : decode cX1_weigh 95 = .ok (.iconst 1, 1) := by decide +kernel
theorem dX1_weigh_96 : decode cX1_weigh 96 = .ok (.ishr, 1) := by decide +kernel
theorem dX1_weigh_97 : decode cX1_weigh 97 = .ok (.iload_n 3, 1) := by decide +kernel
theorem dX1_weigh_98 : decode cX1_weigh 98 = .ok (.bipush (-2), 2) := by decide +kernel
theorem dX1_weigh_100 : decode cX1_weigh 100 = .ok (.ior, 1) := by decide +kernel
theorem dX1_weigh_101 : decode cX1_weigh 101 = .ok (.iand, 1) := by decide +kernel
theorem dX1_weigh_102 : decode cX1_weigh 102 = .ok (.istore_n 3, 1) := by decide +kernel
theorem dX1_weigh_103 : decode cX1_weigh 103 = .ok (.goto 53, 3) := by decide +kernel
theorem dX1_weigh_106 : decode cX1_weigh 106 = .ok (.iload 5, 2) := by decide +kernel
theorem dX1_weigh_108 : decode cX1_weigh 108 = .ok (.bipush 8, 2) := by decide +kernel
theorem dX1_weigh_110 : decode cX1_weigh 110 = .ok (.if_icmp .ne 14, 3) := by decide +kernel
theorem dX1_weigh_113 : decode cX1_weigh 113 = .ok (.iload_n 3, 1) := by decide +kernel
theorem dX1_weigh_114 : decode cX1_weigh 114 = .ok (.iconst 1, 1) := by decide +kernel
theorem dX1_weigh_115 : decode cX1_weigh 115 = .ok (.ishr, 1) := by decide +kernel
theorem dX1_weigh_116 : decode cX1_weigh 116 = .ok (.iload_n 3, 1) := by decide +kernel
theorem dX1_weigh_117 : decode cX1_weigh 117 = .ok (.iconst 1, 1) := by decide +kernel
theorem dX1_weigh_118 : decode cX1_weigh 118 = .ok (.iand, 1) := by decide +kernel
theorem dX1_weigh_119 : decode cX1_weigh 119 = .ok (.ior, 1) := by decide +kernel
theorem dX1_weigh_120 : decode cX1_weigh 120 = .ok (.istore_n 3, 1) := by decide +kernel
theorem dX1_weigh_121 : decode cX1_weigh 121 = .ok (.goto 35, 3) := by decide +kernel
theorem dX1_weigh_124 : decode cX1_weigh 124 = .ok (.iload_n 3, 1) := by decide +kernel
theorem dX1_weigh_125 : decode cX1_weigh 125 = .ok (.ifCond .ne 7, 3) := by decide +kernel
theorem dX1_weigh_128 : decode cX1_weigh 128 = .ok (.iconst 0, 1) := by decide +kernel
theorem dX1_weigh_129 : decode cX1_weigh 129 = .ok (.goto 5, 3) := by decide +kernel
theorem dX1_weigh_132 : decode cX1_weigh 132 = .ok (.iload 6, 2) := by decide +kernel
theorem dX1_weigh_134 : decode cX1_weigh 134 = .ok (.istore 7, 2) := by decide +kernel
theorem dX1_weigh_136 : decode cX1_weigh 136 = .ok (.iload_n 2, 1) := by decide +kernel
theorem dX1_weigh_137 : decode cX1_weigh 137 = .ok (.iload 5, 2) := by decide +kernel
theorem dX1_weigh_139 : decode cX1_weigh 139 = .ok (.bipush 9, 2) := by decide +kernel
theorem dX1_weigh_141 : decode cX1_weigh 141 = .ok (.if_icmp .ne 8, 3) := by decide +kernel
theorem dX1_weigh_144 : decode cX1_weigh 144 = .ok (.iload 7, 2) := by decide +kernel
theorem dX1_weigh_146 : decode cX1_weigh 146 = .ok (.goto 6, 3) := by decide +kernel
theorem dX1_weigh_149 : decode cX1_weigh 149 = .ok (.iload 7, 2) := by decide +kernel
theorem dX1_weigh_151 : decode cX1_weigh 151 = .ok (.ineg, 1) := by decide +kernel
theorem dX1_weigh_152 : decode cX1_weigh 152 = .ok (.iadd, 1) := by decide +kernel
theorem dX1_weigh_153 : decode cX1_weigh 153 = .ok (.istore_n 2, 1) := by decide +kernel
theorem dX1_weigh_154 : decode cX1_weigh 154 = .ok (.iconst 0, 1) := by decide +kernel
theorem dX1_weigh_155 : decode cX1_weigh 155 = .ok (.istore_n 3, 1) := by decide +kernel
theorem dX1_weigh_156 : decode cX1_weigh 156 = .ok (.iinc 4 1, 3) := by decide +kernel
theorem dX1_weigh_159 : decode cX1_weigh 159 = .ok (.goto (-152), 3) := by decide +kernel
theorem dX1_weigh_162 : decode cX1_weigh 162 = .ok (.iload_n 2, 1) := by decide +kernel
theorem dX1_weigh_163 : decode cX1_weigh 163 = .ok (.ireturn, 1) := by decide +kernel
theorem dX2_init_0 : decode cX2_init 0 = .ok (.aload_n 0, 1) := by decide +kernel
theorem dX2_init_1 : decode cX2_init 1 = .ok (.invokespecial 3, 3) := by decide +kernel
theorem dX2_init_4 : decode cX2_init 4 = .ok (.aload_n 0, 1) := by decide +kernel
theorem dX2_init_5 : decode cX2_init 5 = .ok (.bipush 6, 2) := by decide +kernel
theorem dX2_init_7 : decode cX2_init 7 = .ok (.newarray .int, 2) := by decide +kernel
theorem dX2_init_9 : decode cX2_init 9 = .ok (.putfield 9, 3) := by decide +kernel
theorem dX2_init_12 : decode cX2_init 12 = .ok (.aload_n 0, 1) := by decide +kernel
theorem dX2_init_13 : decode cX2_init 13 = .ok (.iconst 0, 1) := by decide +kernel
theorem dX2_init_14 : decode cX2_init 14 = .ok (.newarray .int, 2) := by decide +kernel
theorem dX2_init_16 : decode cX2_init 16 = .ok (.putfield 15, 3) := by decide +kernel
theorem dX2_init_19 : decode cX2_init 19 = .ok (.aload_n 0, 1) := by decide +kernel
theorem dX2_init_20 : decode cX2_init 20 = .ok (.iconst 1, 1) := by decide +kernel
theorem dX2_init_21 : decode cX2_init 21 = .ok (.putfield 18, 3) := by decide +kernel
theorem dX2_init_24 : decode cX2_init 24 = .ok (.return_, 1) := by decide +kernel
theorem dX2_hold_0 : decode cX2_hold 0 = .ok (.aload_n 0, 1) := by decide +kernel
theorem dX2_hold_1 : decode cX2_hold 1 = .ok (.aload_n 1, 1) := by decide +kernel
theorem dX2_hold_2 : decode cX2_hold 2 = .ok (.putfield 22, 3) := by decide +kernel
theorem dX2_hold_5 : decode cX2_hold 5 = .ok (.aload_n 0, 1) := by decide +kernel
theorem dX2_hold_6 : decode cX2_hold 6 = .ok (.dup, 1) := by decide +kernel
theorem dX2_hold_7 : decode cX2_hold 7 = .ok (.getfield 18, 3) := by decide +kernel
theorem dX2_hold_10 : decode cX2_hold 10 = .ok (.iconst 1, 1) := by decide +kernel
theorem dX2_hold_11 : decode cX2_hold 11 = .ok (.iadd, 1) := by decide +kernel
theorem dX2_hold_12 : decode cX2_hold 12 = .ok (.putfield 18, 3) := by decide +kernel
theorem dX2_hold_15 : decode cX2_hold 15 = .ok (.aload_n 1, 1) := by decide +kernel
theorem dX2_hold_16 : decode cX2_hold 16 = .ok (.ifnull 19, 3) := by decide +kernel
theorem dX2_hold_19 : decode cX2_hold 19 = .ok (.aload_n 0, 1) := by decide +kernel
theorem dX2_hold_20 : decode cX2_hold 20 = .ok (.getfield 15, 3) := by decide +kernel
theorem dX2_hold_23 : decode cX2_hold 23 = .ok (.arraylength, 1) := by decide +kernel
theorem dX2_hold_24 : decode cX2_hold 24 = .ok (.ifCond .ne 11, 3) := by decide +kernel
theorem dX2_hold_27 : decode cX2_hold 27 = .ok (.aload_n 0, 1) := by decide +kernel
theorem dX2_hold_28 : decode cX2_hold 28 = .ok (.ldc 26, 2) := by decide +kernel
theorem dX2_hold_30 : decode cX2_hold 30 = .ok (.newarray .int, 2) := by decide +kernel
theorem dX2_hold_32 : decode cX2_hold 32 = .ok (.putfield 15, 3) := by decide +kernel
theorem dX2_hold_35 : decode cX2_hold 35 = .ok (.return_, 1) := by decide +kernel
theorem dX2_reach_0 : decode cX2_reach 0 = .ok (.aload_n 0, 1) := by decide +kernel
theorem dX2_reach_1 : decode cX2_reach 1 = .ok (.getfield 22, 3) := by decide +kernel
theorem dX2_reach_4 : decode cX2_reach 4 = .ok (.ifnonnull 8, 3) := by decide +kernel
theorem dX2_reach_7 : decode cX2_reach 7 = .ok (.bipush 9, 2) := by decide +kernel
theorem dX2_reach_9 : decode cX2_reach 9 = .ok (.goto 10, 3) := by decide +kernel
theorem dX2_reach_12 : decode cX2_reach 12 = .ok (.aload_n 0, 1) := by decide +kernel
theorem dX2_reach_13 : decode cX2_reach 13 = .ok (.getfield 22, 3) := by decide +kernel
theorem dX2_reach_16 : decode cX2_reach 16 = .ok (.getfield 27, 3) := by decide +kernel
theorem dX2_reach_19 : decode cX2_reach 19 = .ok (.ireturn, 1) := by decide +kernel
theorem dX2_onBy_0 : decode cX2_onBy 0 = .ok (.aload_n 1, 1) := by decide +kernel
theorem dX2_onBy_1 : decode cX2_onBy 1 = .ok (.iload_n 2, 1) := by decide +kernel
theorem dX2_onBy_2 : decode cX2_onBy 2 = .ok (.invokevirtual 32, 3) := by decide +kernel
theorem dX2_onBy_5 : decode cX2_onBy 5 = .ok (.ifCond .eq 11, 3) := by decide +kernel
theorem dX2_onBy_8 : decode cX2_onBy 8 = .ok (.aload_n 1, 1) := by decide +kernel
theorem dX2_onBy_9 : decode cX2_onBy 9 = .ok (.iload_n 3, 1) := by decide +kernel
theorem dX2_onBy_10 : decode cX2_onBy 10 = .ok (.invokevirtual 32, 3) := by decide +kernel
theorem dX2_onBy_13 : decode cX2_onBy 13 = .ok (.ifCond .ne 5, 3) := by decide +kernel
theorem dX2_onBy_16 : decode cX2_onBy 16 = .ok (.iconst 0, 1) := by decide +kernel
theorem dX2_onBy_17 : decode cX2_onBy 17 = .ok (.ireturn, 1) := by decide +kernel
theorem dX2_onBy_18 : decode cX2_onBy 18 = .ok (.aload_n 1, 1) := by decide +kernel
theorem dX2_onBy_19 : decode cX2_onBy 19 = .ok (.iload_n 2, 1) := by decide +kernel
theorem dX2_onBy_20 : decode cX2_onBy 20 = .ok (.iload_n 3, 1) := by decide +kernel
theorem dX2_onBy_21 : decode cX2_onBy 21 = .ok (.invokevirtual 38, 3) := by decide +kernel
theorem dX2_onBy_24 : decode cX2_onBy 24 = .ok (.istore 4, 2) := by decide +kernel
theorem dX2_onBy_26 : decode cX2_onBy 26 = .ok (.aload_n 0, 1) := by decide +kernel
theorem dX2_onBy_27 : decode cX2_onBy 27 = .ok (.getfield 22, 3) := by decide +kernel
theorem dX2_onBy_30 : decode cX2_onBy 30 = .ok (.ifnonnull 9, 3) := by decide +kernel
theorem dX2_onBy_33 : decode cX2_onBy 33 = .ok (.bipush 10, 2) := by decide +kernel
theorem dX2_onBy_35 : decode cX2_onBy 35 = .ok (.iload 4, 2) := by decide +kernel
theorem dX2_onBy_37 : decode cX2_onBy 37 = .ok (.isub, 1) := by decide +kernel
theorem dX2_onBy_38 : decode cX2_onBy 38 = .ok (.ireturn, 1) := by decide +kernel
theorem dX2_onBy_39 : decode cX2_onBy 39 = .ok (.aload_n 1, 1) := by decide +kernel
theorem dX2_onBy_40 : decode cX2_onBy 40 = .ok (.getfield 42, 3) := by decide +kernel
theorem dX2_onBy_43 : decode cX2_onBy 43 = .ok (.bipush 10, 2) := by decide +kernel
theorem dX2_onBy_45 : decode cX2_onBy 45 = .ok (.irem, 1) := by decide +kernel
theorem dX2_onBy_46 : decode cX2_onBy 46 = .ok (.istore 5, 2) := by decide +kernel
theorem dX2_onBy_48 : decode cX2_onBy 48 = .ok (.aload_n 1, 1) := by decide +kernel
theorem dX2_onBy_49 : decode cX2_onBy 49 = .ok (.getfield 45, 3) := by decide +kernel
theorem dX2_onBy_52 : decode cX2_onBy 52 = .ok (.iload_n 3, 1) := by decide +kernel
theorem dX2_onBy_53 : decode cX2_onBy 53 = .ok (.iaload, 1) := by decide +kernel
theorem dX2_onBy_54 : decode cX2_onBy 54 = .ok (.istore 6, 2) := by decide +kernel
theorem dX2_onBy_56 : decode cX2_onBy 56 = .ok (.iload_n 2, 1) := by decide +kernel
theorem dX2_onBy_57 : decode cX2_onBy 57 = .ok (.bipush 6, 2) := by decide +kernel
theorem dX2_onBy_59 : decode cX2_onBy 59 = .ok (.imul, 1) := by decide +kernel
theorem dX2_onBy_60 : decode cX2_onBy 60 = .ok (.iload_n 3, 1) := by decide +kernel
theorem dX2_onBy_61 : decode cX2_onBy 61 = .ok (.iadd, 1) := by decide +kernel
theorem dX2_onBy_62 : decode cX2_onBy 62 = .ok (.bipush 10, 2) := by decide +kernel
theorem dX2_onBy_64 : decode cX2_onBy 64 = .ok (.imul, 1) := by decide +kernel
theorem dX2_onBy_65 : decode cX2_onBy 65 = .ok (.iload 6, 2) := by decide +kernel
theorem dX2_onBy_67 : decode cX2_onBy 67 = .ok (.iadd, 1) := by decide +kernel
theorem dX2_onBy_68 : decode cX2_onBy 68 = .ok (.bipush 10, 2) := by decide +kernel
theorem dX2_onBy_70 : decode cX2_onBy 70 = .ok (.imul, 1) := by decide +kernel
theorem dX2_onBy_71 : decode cX2_onBy 71 = .ok (.iload 4, 2) := by decide +kernel
theorem dX2_onBy_73 : decode cX2_onBy 73 = .ok (.iadd, 1) := by decide +kernel
theorem dX2_onBy_74 : decode cX2_onBy 74 = .ok (.bipush 10, 2) := by decide +kernel
theorem dX2_onBy_76 : decode cX2_onBy 76 = .ok (.imul, 1) := by decide +kernel
theorem dX2_onBy_77 : decode cX2_onBy 77 = .ok (.iload 5, 2) := by decide +kernel
theorem dX2_onBy_79 : decode cX2_onBy 79 = .ok (.iadd, 1) := by decide +kernel
theorem dX2_onBy_80 : decode cX2_onBy 80 = .ok (.istore 7, 2) := by decide +kernel
theorem dX2_onBy_82 : decode cX2_onBy 82 = .ok (.iload 7, 2) := by decide +kernel
theorem dX2_onBy_84 : decode cX2_onBy 84 = .ok (.ifCond .lt 13, 3) := by decide +kernel
theorem dX2_onBy_87 : decode cX2_onBy 87 = .ok (.iload 7, 2) := by decide +kernel
theorem dX2_onBy_89 : decode cX2_onBy 89 = .ok (.aload_n 0, 1) := by decide +kernel
theorem dX2_onBy_90 : decode cX2_onBy 90 = .ok (.getfield 15, 3) := by decide +kernel
theorem dX2_onBy_93 : decode cX2_onBy 93 = .ok (.arraylength, 1) := by decide +kernel
theorem dX2_onBy_94 : decode cX2_onBy 94 = .ok (.if_icmp .lt 9, 3) := by decide +kernel
theorem dX2_onBy_97 : decode cX2_onBy 97 = .ok (.bipush 10, 2) := by decide +kernel
theorem dX2_onBy_99 : decode cX2_onBy 99 = .ok (.iload 4, 2) := by decide +kernel
theorem dX2_onBy_101 : decode cX2_onBy 101 = .ok (.isub, 1) := by decide +kernel
theorem dX2_onBy_102 : decode cX2_onBy 102 = .ok (.ireturn, 1) := by decide +kernel
theorem dX2_onBy_103 : decode cX2_onBy 103 = .ok (.aload_n 0, 1) := by decide +kernel
theorem dX2_onBy_104 : decode cX2_onBy 104 = .ok (.getfield 15, 3) := by decide +kernel
theorem dX2_onBy_107 : decode cX2_onBy 107 = .ok (.iload 7, 2) := by decide +kernel
theorem dX2_onBy_109 : decode cX2_onBy 109 = .ok (.iaload, 1) := by decide +kernel
theorem dX2_onBy_110 : decode cX2_onBy 110 = .ok (.sipush 2048, 3) := by decide +kernel
theorem dX2_onBy_113 : decode cX2_onBy 113 = .ok (.idiv, 1) := by decide +kernel
theorem dX2_onBy_114 : decode cX2_onBy 114 = .ok (.aload_n 0, 1) := by decide +kernel
theorem dX2_onBy_115 : decode cX2_onBy 115 = .ok (.getfield 18, 3) := by decide +kernel
theorem dX2_onBy_118 : decode cX2_onBy 118 = .ok (.if_icmp .eq 84, 3) := by decide +kernel
theorem dX2_onBy_121 : decode cX2_onBy 121 = .ok (.aload_n 0, 1) := by decide +kernel
theorem dX2_onBy_122 : decode cX2_onBy 122 = .ok (.getfield 9, 3) := by decide +kernel
theorem dX2_onBy_125 : decode cX2_onBy 125 = .ok (.iconst 0, 1) := by decide +kernel
theorem dX2_onBy_126 : decode cX2_onBy 126 = .ok (.iload_n 2, 1) := by decide +kernel
theorem dX2_onBy_127 : decode cX2_onBy 127 = .ok (.iastore, 1) := by decide +kernel
theorem dX2_onBy_128 : decode cX2_onBy 128 = .ok (.aload_n 0, 1) := by decide +kernel
theorem dX2_onBy_129 : decode cX2_onBy 129 = .ok (.getfield 9, 3) := by decide +kernel
theorem dX2_onBy_132 : decode cX2_onBy 132 = .ok (.iconst 1, 1) := by decide +kernel
theorem dX2_onBy_133 : decode cX2_onBy 133 = .ok (.iload_n 3, 1) := by decide +kernel
theorem dX2_onBy_134 : decode cX2_onBy 134 = .ok (.iastore, 1) := by decide +kernel
theorem dX2_onBy_135 : decode cX2_onBy 135 = .ok (.aload_n 0, 1) := by decide +kernel
theorem dX2_onBy_136 : decode cX2_onBy 136 = .ok (.getfield 9, 3) := by decide +kernel
theorem dX2_onBy_139 : decode cX2_onBy 139 = .ok (.iconst 2, 1) := by decide +kernel
theorem dX2_onBy_140 : decode cX2_onBy 140 = .ok (.aload_n 1, 1) := by decide +kernel
theorem dX2_onBy_141 : decode cX2_onBy 141 = .ok (.getfield 48, 3) := by decide +kernel
theorem dX2_onBy_144 : decode cX2_onBy 144 = .ok (.iload_n 2, 1) := by decide +kernel
theorem dX2_onBy_145 : decode cX2_onBy 145 = .ok (.iaload, 1) := by decide +kernel
theorem dX2_onBy_146 : decode cX2_onBy 146 = .ok (.iastore, 1) := by decide +kernel
theorem dX2_onBy_147 : decode cX2_onBy 147 = .ok (.aload_n 0, 1) := by decide +kernel
theorem dX2_onBy_148 : decode cX2_onBy 148 = .ok (.getfield 9, 3) := by decide +kernel
theorem dX2_onBy_151 : decode cX2_onBy 151 = .ok (.iconst 3, 1) := by decide +kernel
theorem dX2_onBy_152 : decode cX2_onBy 152 = .ok (.iload 6, 2) := by decide +kernel
theorem dX2_onBy_154 : decode cX2_onBy 154 = .ok (.iastore, 1) := by decide +kernel
theorem dX2_onBy_155 : decode cX2_onBy 155 = .ok (.aload_n 0, 1) := by decide +kernel
theorem dX2_onBy_156 : decode cX2_onBy 156 = .ok (.getfield 9, 3) := by decide +kernel
theorem dX2_onBy_159 : decode cX2_onBy 159 = .ok (.iconst 4, 1) := by decide +kernel
theorem dX2_onBy_160 : decode cX2_onBy 160 = .ok (.iload 4, 2) := by decide +kernel
theorem dX2_onBy_162 : decode cX2_onBy 162 = .ok (.iastore, 1) := by decide +kernel
theorem dX2_onBy_163 : decode cX2_onBy 163 = .ok (.aload_n 0, 1) := by decide +kernel
theorem dX2_onBy_164 : decode cX2_onBy 164 = .ok (.getfield 9, 3) := by decide +kernel
theorem dX2_onBy_167 : decode cX2_onBy 167 = .ok (.iconst 5, 1) := by decide +kernel
theorem dX2_onBy_168 : decode cX2_onBy 168 = .ok (.iload 5, 2) := by decide +kernel
theorem dX2_onBy_170 : decode cX2_onBy 170 = .ok (.iastore, 1) := by decide +kernel
theorem dX2_onBy_171 : decode cX2_onBy 171 = .ok (.aload_n 0, 1) := by decide +kernel
theorem dX2_onBy_172 : decode cX2_onBy 172 = .ok (.getfield 15, 3) := by decide +kernel
theorem dX2_onBy_175 : decode cX2_onBy 175 = .ok (.iload 7, 2) := by decide +kernel
theorem dX2_onBy_177 : decode cX2_onBy 177 = .ok (.aload_n 0, 1) := by decide +kernel
theorem dX2_onBy_178 : decode cX2_onBy 178 = .ok (.getfield 18, 3) := by decide +kernel
theorem dX2_onBy_181 : decode cX2_onBy 181 = .ok (.sipush 2048, 3) := by decide +kernel
theorem dX2_onBy_184 : decode cX2_onBy 184 = .ok (.imul, 1) := by decide +kernel
theorem dX2_onBy_185 : decode cX2_onBy 185 = .ok (.sipush 1024, 3) := by decide +kernel
theorem dX2_onBy_188 : decode cX2_onBy 188 = .ok (.iadd, 1) := by decide +kernel
theorem dX2_onBy_189 : decode cX2_onBy 189 = .ok (.aload_n 0, 1) := by decide +kernel
theorem dX2_onBy_190 : decode cX2_onBy 190 = .ok (.getfield 22, 3) := by decide +kernel
theorem dX2_onBy_193 : decode cX2_onBy 193 = .ok (.aload_n 0, 1) := by decide +kernel
theorem dX2_onBy_194 : decode cX2_onBy 194 = .ok (.getfield 9, 3) := by decide +kernel
theorem dX2_onBy_197 : decode cX2_onBy 197 = .ok (.invokevirtual 51, 3) := by decide +kernel
theorem dX2_onBy_200 : decode cX2_onBy 200 = .ok (.iadd, 1) := by decide +kernel
theorem dX2_onBy_201 : decode cX2_onBy 201 = .ok (.iastore, 1) := by decide +kernel
theorem dX2_onBy_202 : decode cX2_onBy 202 = .ok (.bipush 10, 2) := by decide +kernel
theorem dX2_onBy_204 : decode cX2_onBy 204 = .ok (.iload 4, 2) := by decide +kernel
theorem dX2_onBy_206 : decode cX2_onBy 206 = .ok (.isub, 1) := by decide +kernel
theorem dX2_onBy_207 : decode cX2_onBy 207 = .ok (.aload_n 0, 1) := by decide +kernel
theorem dX2_onBy_208 : decode cX2_onBy 208 = .ok (.getfield 15, 3) := by decide +kernel
theorem dX2_onBy_211 : decode cX2_onBy 211 = .ok (.iload 7, 2) := by decide +kernel
theorem dX2_onBy_213 : decode cX2_onBy 213 = .ok (.iaload, 1) := by decide +kernel
theorem dX2_onBy_214 : decode cX2_onBy 214 = .ok (.sipush 2048, 3) := by decide +kernel
theorem dX2_onBy_217 : decode cX2_onBy 217 = .ok (.irem, 1) := by decide +kernel
theorem dX2_onBy_218 : decode cX2_onBy 218 = .ok (.iadd, 1) := by decide +kernel
theorem dX2_onBy_219 : decode cX2_onBy 219 = .ok (.sipush 1024, 3) := by decide +kernel
theorem dX2_onBy_222 : decode cX2_onBy 222 = .ok (.isub, 1) := by decide +kernel
theorem dX2_onBy_223 : decode cX2_onBy 223 = .ok (.ireturn, 1) := by decide +kernel
theorem dX2_leaderOf_0 : decode cX2_leaderOf 0 = .ok (.iconst (-1), 1) := by decide +kernel
theorem dX2_leaderOf_1 : decode cX2_leaderOf 1 = .ok (.istore_n 3, 1) := by decide +kernel
theorem dX2_leaderOf_2 : decode cX2_leaderOf 2 = .ok (.aload_n 1, 1) := by decide +kernel
theorem dX2_leaderOf_3 : decode cX2_leaderOf 3 = .ok (.iload_n 2, 1) := by decide +kernel
theorem dX2_leaderOf_4 : decode cX2_leaderOf 4 = .ok (.invokevirtual 55, 3) := by decide +kernel
theorem dX2_leaderOf_7 : decode cX2_leaderOf 7 = .ok (.ifCond .eq 5, 3) := by decide +kernel
theorem dX2_leaderOf_10 : decode cX2_leaderOf 10 = .ok (.iload_n 3, 1) := by decide +kernel
theorem dX2_leaderOf_11 : decode cX2_leaderOf 11 = .ok (.ireturn, 1) := by decide +kernel
theorem dX2_leaderOf_12 : decode cX2_leaderOf 12 = .ok (.iconst 0, 1) := by decide +kernel
theorem dX2_leaderOf_13 : decode cX2_leaderOf 13 = .ok (.istore 4, 2) := by decide +kernel
theorem dX2_leaderOf_15 : decode cX2_leaderOf 15 = .ok (.aload_n 0, 1) := by decide +kernel
theorem dX2_leaderOf_16 : decode cX2_leaderOf 16 = .ok (.invokevirtual 58, 3) := by decide +kernel
theorem dX2_leaderOf_19 : decode cX2_leaderOf 19 = .ok (.istore 5, 2) := by decide +kernel
theorem dX2_leaderOf_21 : decode cX2_leaderOf 21 = .ok (.iconst 0, 1) := by decide +kernel
theorem dX2_leaderOf_22 : decode cX2_leaderOf 22 = .ok (.istore 6, 2) := by decide +kernel
theorem dX2_leaderOf_24 : decode cX2_leaderOf 24 = .ok (.iload 6, 2) := by decide +kernel
theorem dX2_leaderOf_26 : decode cX2_leaderOf 26 = .ok (.aload_n 1, 1) := by decide +kernel
theorem dX2_leaderOf_27 : decode cX2_leaderOf 27 = .ok (.getfield 61, 3) := by decide +kernel
theorem dX2_leaderOf_30 : decode cX2_leaderOf 30 = .ok (.if_icmp .ge 60, 3) := by decide +kernel
theorem dX2_leaderOf_33 : decode cX2_leaderOf 33 = .ok (.iload 6, 2) := by decide +kernel
theorem dX2_leaderOf_35 : decode cX2_leaderOf 35 = .ok (.iload_n 2, 1) := by decide +kernel
theorem dX2_leaderOf_36 : decode cX2_leaderOf 36 = .ok (.if_icmp .eq 48, 3) := by decide +kernel
theorem dX2_leaderOf_39 : decode cX2_leaderOf 39 = .ok (.aload_n 1, 1) := by decide +kernel
theorem dX2_leaderOf_40 : decode cX2_leaderOf 40 = .ok (.iload 6, 2) := by decide +kernel
theorem dX2_leaderOf_42 : decode cX2_leaderOf 42 = .ok (.invokevirtual 55, 3) := by decide +kernel
theorem dX2_leaderOf_45 : decode cX2_leaderOf 45 = .ok (.ifCond .ne 39, 3) := by decide +kernel
theorem dX2_leaderOf_48 : decode cX2_leaderOf 48 = .ok (.aload_n 1, 1) := by decide +kernel
theorem dX2_leaderOf_49 : decode cX2_leaderOf 49 = .ok (.iload_n 2, 1) := by decide +kernel
theorem dX2_leaderOf_50 : decode cX2_leaderOf 50 = .ok (.iload 6, 2) := by decide +kernel
theorem dX2_leaderOf_52 : decode cX2_leaderOf 52 = .ok (.invokevirtual 38, 3) := by decide +kernel
theorem dX2_leaderOf_55 : decode cX2_leaderOf 55 = .ok (.iload 5, 2) := by decide +kernel
theorem dX2_leaderOf_57 : decode cX2_leaderOf 57 = .ok (.if_icmp .gt 27, 3) := by decide +kernel
theorem dX2_leaderOf_60 : decode cX2_leaderOf 60 = .ok (.aload_n 0, 1) := by decide +kernel
theorem dX2_leaderOf_61 : decode cX2_leaderOf 61 = .ok (.aload_n 1, 1) := by decide +kernel
theorem dX2_leaderOf_62 : decode cX2_leaderOf 62 = .ok (.iload_n 2, 1) := by decide +kernel
theorem dX2_leaderOf_63 : decode cX2_leaderOf 63 = .ok (.iload 6, 2) := by decide +kernel
theorem dX2_leaderOf_65 : decode cX2_leaderOf 65 = .ok (.invokevirtual 64, 3) := by decide +kernel
theorem dX2_leaderOf_68 : decode cX2_leaderOf 68 = .ok (.istore 7, 2) := by decide +kernel
theorem dX2_leaderOf_70 : decode cX2_leaderOf 70 = .ok (.iload 7, 2) := by decide +kernel
theorem dX2_leaderOf_72 : decode cX2_leaderOf 72 = .ok (.iload 4, 2) := by decide +kernel
theorem dX2_leaderOf_74 : decode cX2_leaderOf 74 = .ok (.if_icmp .le 10, 3) := by decide +kernel
theorem dX2_leaderOf_77 : decode cX2_leaderOf 77 = .ok (.iload 7, 2) := by decide +kernel
theorem dX2_leaderOf_79 : decode cX2_leaderOf 79 = .ok (.istore 4, 2) := by decide +kernel
theorem dX2_leaderOf_81 : decode cX2_leaderOf 81 = .ok (.iload 6, 2) := by decide +kernel
theorem dX2_leaderOf_83 : decode cX2_leaderOf 83 = .ok (.istore_n 3, 1) := by decide +kernel
theorem dX2_leaderOf_84 : decode cX2_leaderOf 84 = .ok (.iinc 6 1, 3) := by decide +kernel
theorem dX2_leaderOf_87 : decode cX2_leaderOf 87 = .ok (.goto (-63), 3) := by decide +kernel
theorem dX2_leaderOf_90 : decode cX2_leaderOf 90 = .ok (.iload_n 3, 1) := by decide +kernel
theorem dX2_leaderOf_91 : decode cX2_leaderOf 91 = .ok (.ireturn, 1) := by decide +kernel
theorem dX3_init_0 : decode cX3_init 0 = .ok (.aload_n 0, 1) := by decide +kernel
theorem dX3_init_1 : decode cX3_init 1 = .ok (.invokespecial 3, 3) := by decide +kernel
theorem dX3_init_4 : decode cX3_init 4 = .ok (.aload_n 0, 1) := by decide +kernel
theorem dX3_init_5 : decode cX3_init 5 = .ok (.aload_n 1, 1) := by decide +kernel
theorem dX3_init_6 : decode cX3_init 6 = .ok (.putfield 9, 3) := by decide +kernel
theorem dX3_init_9 : decode cX3_init 9 = .ok (.aload_n 0, 1) := by decide +kernel
theorem dX3_init_10 : decode cX3_init 10 = .ok (.aload_n 2, 1) := by decide +kernel
theorem dX3_init_11 : decode cX3_init 11 = .ok (.putfield 15, 3) := by decide +kernel
theorem dX3_init_14 : decode cX3_init 14 = .ok (.return_, 1) := by decide +kernel
theorem dX3_readHouse_0 : decode cX3_readHouse 0 = .ok (.aload_n 0, 1) := by decide +kernel
theorem dX3_readHouse_1 : decode cX3_readHouse 1 = .ok (.getfield 15, 3) := by decide +kernel
theorem dX3_readHouse_4 : decode cX3_readHouse 4 = .ok (.invokevirtual 19, 3) := by decide +kernel
theorem dX3_readHouse_7 : decode cX3_readHouse 7 = .ok (.iconst 1, 1) := by decide +kernel
theorem dX3_readHouse_8 : decode cX3_readHouse 8 = .ok (.istore_n 1, 1) := by decide +kernel
theorem dX3_readHouse_9 : decode cX3_readHouse 9 = .ok (.iload_n 1, 1) := by decide +kernel
theorem dX3_readHouse_10 : decode cX3_readHouse 10 = .ok (.bipush 10, 2) := by decide +kernel
theorem dX3_readHouse_12 : decode cX3_readHouse 12 = .ok (.if_icmp .gt 53, 3) := by decide +kernel
theorem dX3_readHouse_15 : decode cX3_readHouse 15 = .ok (.aload_n 0, 1) := by decide +kernel
theorem dX3_readHouse_16 : decode cX3_readHouse 16 = .ok (.invokevirtual 24, 3) := by decide +kernel
theorem dX3_readHouse_19 : decode cX3_readHouse 19 = .ok (.ifCond .ne 5, 3) := by decide +kernel
theorem dX3_readHouse_22 : decode cX3_readHouse 22 = .ok (.iconst 0, 1) := by decide +kernel
theorem dX3_readHouse_23 : decode cX3_readHouse 23 = .ok (.ireturn, 1) := by decide +kernel
theorem dX3_readHouse_24 : decode cX3_readHouse 24 = .ok (.aload_n 0, 1) := by decide +kernel
theorem dX3_readHouse_25 : decode cX3_readHouse 25 = .ok (.invokevirtual 28, 3) := by decide +kernel
theorem dX3_readHouse_28 : decode cX3_readHouse 28 = .ok (.istore_n 2, 1) := by decide +kernel
theorem dX3_readHouse_29 : decode cX3_readHouse 29 = .ok (.iload_n 2, 1) := by decide +kernel
theorem dX3_readHouse_30 : decode cX3_readHouse 30 = .ok (.ifCond .ge 5, 3) := by decide +kernel
theorem dX3_readHouse_33 : decode cX3_readHouse 33 = .ok (.iconst 1, 1) := by decide +kernel
theorem dX3_readHouse_34 : decode cX3_readHouse 34 = .ok (.ireturn, 1) := by decide +kernel
theorem dX3_readHouse_35 : decode cX3_readHouse 35 = .ok (.iload_n 2, 1) := by decide +kernel
theorem dX3_readHouse_36 : decode cX3_readHouse 36 = .ok (.bipush 59, 2) := by decide +kernel
theorem dX3_readHouse_38 : decode cX3_readHouse 38 = .ok (.if_icmp .ne 9, 3) := by decide +kernel
theorem dX3_readHouse_41 : decode cX3_readHouse 41 = .ok (.iload_n 1, 1) := by decide +kernel
theorem dX3_readHouse_42 : decode cX3_readHouse 42 = .ok (.bipush 10, 2) := by decide +kernel
theorem dX3_readHouse_44 : decode cX3_readHouse 44 = .ok (.if_icmp .ne 5, 3) := by decide +kernel
theorem dX3_readHouse_47 : decode cX3_readHouse 47 = .ok (.iconst 0, 1) := by decide +kernel
theorem dX3_readHouse_48 : decode cX3_readHouse 48 = .ok (.ireturn, 1) := by decide +kernel
theorem dX3_readHouse_49 : decode cX3_readHouse 49 = .ok (.aload_n 0, 1) := by decide +kernel
theorem dX3_readHouse_50 : decode cX3_readHouse 50 = .ok (.dup, 1) := by decide +kernel
theorem dX3_readHouse_51 : decode cX3_readHouse 51 = .ok (.getfield 32, 3) := by decide +kernel
theorem dX3_readHouse_54 : decode cX3_readHouse 54 = .ok (.iconst 1, 1) := by decide +kernel
theorem dX3_readHouse_55 : decode cX3_readHouse 55 = .ok (.iadd, 1) := by decide +kernel
theorem dX3_readHouse_56 : decode cX3_readHouse 56 = .ok (.putfield 32, 3) := by decide +kernel
theorem dX3_readHouse_59 : decode cX3_readHouse 59 = .ok (.iinc 1 1, 3) := by decide +kernel
theorem dX3_readHouse_62 : decode cX3_readHouse 62 = .ok (.goto (-53), 3) := by decide +kernel
theorem dX3_readHouse_65 : decode cX3_readHouse 65 = .ok (.iconst 0, 1) := by decide +kernel
theorem dX3_readHouse_66 : decode cX3_readHouse 66 = .ok (.ireturn, 1) := by decide +kernel
theorem dX3_readClause_0 : decode cX3_readClause 0 = .ok (.aload_n 0, 1) := by decide +kernel
theorem dX3_readClause_1 : decode cX3_readClause 1 = .ok (.invokevirtual 28, 3) := by decide +kernel
theorem dX3_readClause_4 : decode cX3_readClause 4 = .ok (.istore_n 1, 1) := by decide +kernel
theorem dX3_readClause_5 : decode cX3_readClause 5 = .ok (.aload_n 0, 1) := by decide +kernel
theorem dX3_readClause_6 : decode cX3_readClause 6 = .ok (.iload_n 1, 1) := by decide +kernel
theorem dX3_readClause_7 : decode cX3_readClause 7 = .ok (.bipush 114, 2) := by decide +kernel
theorem dX3_readClause_9 : decode cX3_readClause 9 = .ok (.if_icmp .ne 8, 3) := by decide +kernel
theorem dX3_readClause_12 : decode cX3_readClause 12 = .ok (.ldc 36, 2) := by decide +kernel
theorem dX3_readClause_14 : decode cX3_readClause 14 = .ok (.goto 16, 3) := by decide +kernel
theorem dX3_readClause_17 : decode cX3_readClause 17 = .ok (.iload_n 1, 1) := by decide +kernel
theorem dX3_readClause_18 : decode cX3_readClause 18 = .ok (.bipush 104, 2) := by decide +kernel
theorem dX3_readClause_20 : decode cX3_readClause 20 = .ok (.if_icmp .ne 8, 3) := by decide +kernel
theorem dX3_readClause_23 : decode cX3_readClause 23 = .ok (.ldc 38, 2) := by decide +kernel
theorem dX3_readClause_25 : decode cX3_readClause 25 = .ok (.goto 5, 3) := by decide +kernel
theorem dX3_readClause_28 : decode cX3_readClause 28 = .ok (.ldc 40, 2) := by decide +kernel
theorem dX3_readClause_30 : decode cX3_readClause 30 = .ok (.invokevirtual 42, 3) := by decide +kernel
theorem dX3_readClause_33 : decode cX3_readClause 33 = .ok (.ifCond .eq 10, 3) := by decide +kernel
theorem dX3_readClause_36 : decode cX3_readClause 36 = .ok (.aload_n 0, 1) := by decide +kernel
theorem dX3_readClause_37 : decode cX3_readClause 37 = .ok (.invokevirtual 46, 3) := by decide +kernel
theorem dX3_readClause_40 : decode cX3_readClause 40 = .ok (.ifCond .ne 5, 3) := by decide +kernel
theorem dX3_readClause_43 : decode cX3_readClause 43 = .ok (.iconst 0, 1) := by decide +kernel
theorem dX3_readClause_44 : decode cX3_readClause 44 = .ok (.ireturn, 1) := by decide +kernel
theorem dX3_readClause_45 : decode cX3_readClause 45 = .ok (.aload_n 0, 1) := by decide +kernel
theorem dX3_readClause_46 : decode cX3_readClause 46 = .ok (.getfield 49, 3) := by decide +kernel
theorem dX3_readClause_49 : decode cX3_readClause 49 = .ok (.istore_n 2, 1) := by decide +kernel
theorem dX3_readClause_50 : decode cX3_readClause 50 = .ok (.iload_n 1, 1) := by decide +kernel
theorem dX3_readClause_51 : decode cX3_readClause 51 = .ok (.bipush 114, 2) := by decide +kernel
theorem dX3_readClause_53 : decode cX3_readClause 53 = .ok (.if_icmp .ne 13, 3) := by decide +kernel
theorem dX3_readClause_56 : decode cX3_readClause 56 = .ok (.aload_n 0, 1) := by decide +kernel
theorem dX3_readClause_57 : decode cX3_readClause 57 = .ok (.getfield 15, 3) := by decide +kernel
theorem dX3_readClause_60 : decode cX3_readClause 60 = .ok (.iload_n 2, 1) := by decide +kernel
theorem dX3_readClause_61 : decode cX3_readClause 61 = .ok (.putfield 52, 3) := by decide +kernel
theorem dX3_readClause_64 : decode cX3_readClause 64 = .ok (.iconst 1, 1) := by decide +kernel
theorem dX3_readClause_65 : decode cX3_readClause 65 = .ok (.ireturn, 1) := by decide +kernel
theorem dX3_readClause_66 : decode cX3_readClause 66 = .ok (.aload_n 0, 1) := by decide +kernel
theorem dX3_readClause_67 : decode cX3_readClause 67 = .ok (.ldc 55, 2) := by decide +kernel
theorem dX3_readClause_69 : decode cX3_readClause 69 = .ok (.invokevirtual 42, 3) := by decide +kernel
theorem dX3_readClause_72 : decode cX3_readClause 72 = .ok (.ifCond .eq 11, 3) := by decide +kernel
theorem dX3_readClause_75 : decode cX3_readClause 75 = .ok (.aload_n 0, 1) := by decide +kernel
theorem dX3_readClause_76 : decode cX3_readClause 76 = .ok (.iconst 0, 1) := by decide +kernel
theorem dX3_readClause_77 : decode cX3_readClause 77 = .ok (.invokevirtual 57, 3) := by decide +kernel
theorem dX3_readClause_80 : decode cX3_readClause 80 = .ok (.ifCond .ne 5, 3) := by decide +kernel
theorem dX3_readClause_83 : decode cX3_readClause 83 = .ok (.iconst 0, 1) := by decide +kernel
theorem dX3_readClause_84 : decode cX3_readClause 84 = .ok (.ireturn, 1) := by decide +kernel
theorem dX3_readClause_85 : decode cX3_readClause 85 = .ok (.aload_n 0, 1) := by decide +kernel
theorem dX3_readClause_86 : decode cX3_readClause 86 = .ok (.getfield 15, 3) := by decide +kernel
theorem dX3_readClause_89 : decode cX3_readClause 89 = .ok (.iload_n 1, 1) := by decide +kernel
theorem dX3_readClause_90 : decode cX3_readClause 90 = .ok (.bipush 104, 2) := by decide +kernel
theorem dX3_readClause_92 : decode cX3_readClause 92 = .ok (.if_icmp .ne 8, 3) := by decide +kernel
theorem dX3_readClause_95 : decode cX3_readClause 95 = .ok (.bipush 9, 2) := by decide +kernel
theorem dX3_readClause_97 : decode cX3_readClause 97 = .ok (.goto 5, 3) := by decide +kernel
theorem dX3_readClause_100 : decode cX3_readClause 100 = .ok (.bipush 10, 2) := by decide +kernel
theorem dX3_readClause_102 : decode cX3_readClause 102 = .ok (.iload_n 2, 1) := by decide +kernel
theorem dX3_readClause_103 : decode cX3_readClause 103 = .ok (.invokevirtual 61, 3) := by decide +kernel
theorem dX3_readClause_106 : decode cX3_readClause 106 = .ok (.iconst 1, 1) := by decide +kernel
theorem dX3_readClause_107 : decode cX3_readClause 107 = .ok (.ireturn, 1) := by decide +kernel
theorem dX3_readEither_0 : decode cX3_readEither 0 = .ok (.iconst 0, 1) := by decide +kernel
theorem dX3_readEither_1 : decode cX3_readEither 1 = .ok (.istore_n 2, 1) := by decide +kernel
theorem dX3_readEither_2 : decode cX3_readEither 2 = .ok (.iconst 0, 1) := by decide +kernel
theorem dX3_readEither_3 : decode cX3_readEither 3 = .ok (.istore_n 3, 1) := by decide +kernel
theorem dX3_readEither_4 : decode cX3_readEither 4 = .ok (.iconst 0, 1) := by decide +kernel
theorem dX3_readEither_5 : decode cX3_readEither 5 = .ok (.istore 4, 2) := by decide +kernel
theorem dX3_readEither_7 : decode cX3_readEither 7 = .ok (.iload 4, 2) := by decide +kernel
theorem dX3_readEither_9 : decode cX3_readEither 9 = .ok (.bipush 100, 2) := by decide +kernel
theorem dX3_readEither_11 : decode cX3_readEither 11 = .ok (.if_icmp .ge 97, 3) := by decide +kernel
theorem dX3_readEither_14 : decode cX3_readEither 14 = .ok (.aload_n 0, 1) := by decide +kernel
theorem dX3_readEither_15 : decode cX3_readEither 15 = .ok (.iload_n 1, 1) := by decide +kernel
theorem dX3_readEither_16 : decode cX3_readEither 16 = .ok (.invokevirtual 65, 3) := by decide +kernel
theorem dX3_readEither_19 : decode cX3_readEither 19 = .ok (.ifCond .ne 5, 3) := by decide +kernel
theorem dX3_readEither_22 : decode cX3_readEither 22 = .ok (.iconst 0, 1) := by decide +kernel
theorem dX3_readEither_23 : decode cX3_readEither 23 = .ok (.ireturn, 1) := by decide +kernel
theorem dX3_readEither_24 : decode cX3_readEither 24 = .ok (.iload_n 2, 1) := by decide +kernel
theorem dX3_readEither_25 : decode cX3_readEither 25 = .ok (.ifCond .eq 13, 3) := by decide +kernel
theorem dX3_readEither_28 : decode cX3_readEither 28 = .ok (.aload_n 0, 1) := by decide +kernel
theorem dX3_readEither_29 : decode cX3_readEither 29 = .ok (.getfield 15, 3) := by decide +kernel
theorem dX3_readEither_32 : decode cX3_readEither 32 = .ok (.bipush 7, 2) := by decide +kernel
theorem dX3_readEither_34 : decode cX3_readEither 34 = .ok (.iconst 0, 1) := by decide +kernel
theorem dX3_readEither_35 : decode cX3_readEither 35 = .ok (.invokevirtual 61, 3) := by decide +kernel
theorem dX3_readEither_38 : decode cX3_readEither 38 = .ok (.aload_n 0, 1) := by decide +kernel
theorem dX3_readEither_39 : decode cX3_readEither 39 = .ok (.invokevirtual 28, 3) := by decide +kernel
theorem dX3_readEither_42 : decode cX3_readEither 42 = .ok (.bipush 38, 2) := by decide +kernel
theorem dX3_readEither_44 : decode cX3_readEither 44 = .ok (.if_icmp .ne 7, 3) := by decide +kernel
theorem dX3_readEither_47 : decode cX3_readEither 47 = .ok (.iconst 1, 1) := by decide +kernel
theorem dX3_readEither_48 : decode cX3_readEither 48 = .ok (.goto 4, 3) := by decide +kernel
theorem dX3_readEither_51 : decode cX3_readEither 51 = .ok (.iconst 0, 1) := by decide +kernel
theorem dX3_readEither_52 : decode cX3_readEither 52 = .ok (.istore_n 2, 1) := by decide +kernel
theorem dX3_readEither_53 : decode cX3_readEither 53 = .ok (.iload_n 2, 1) := by decide +kernel
theorem dX3_readEither_54 : decode cX3_readEither 54 = .ok (.ifCond .ne 38, 3) := by decide +kernel
theorem dX3_readEither_57 : decode cX3_readEither 57 = .ok (.iload_n 3, 1) := by decide +kernel
theorem dX3_readEither_58 : decode cX3_readEither 58 = .ok (.ifCond .eq 13, 3) := by decide +kernel
theorem dX3_readEither_61 : decode cX3_readEither 61 = .ok (.aload_n 0, 1) := by decide +kernel
theorem dX3_readEither_62 : decode cX3_readEither 62 = .ok (.getfield 15, 3) := by decide +kernel
theorem dX3_readEither_65 : decode cX3_readEither 65 = .ok (.bipush 8, 2) := by decide +kernel
theorem dX3_readEither_67 : decode cX3_readEither 67 = .ok (.iconst 0, 1) := by decide +kernel
theorem dX3_readEither_68 : decode cX3_readEither 68 = .ok (.invokevirtual 61, 3) := by decide +kernel
theorem dX3_readEither_71 : decode cX3_readEither 71 = .ok (.aload_n 0, 1) := by decide +kernel
theorem dX3_readEither_72 : decode cX3_readEither 72 = .ok (.invokevirtual 28, 3) := by decide +kernel
theorem dX3_readEither_75 : decode cX3_readEither 75 = .ok (.bipush 124, 2) := by decide +kernel
theorem dX3_readEither_77 : decode cX3_readEither 77 = .ok (.if_icmp .ne 7, 3) := by decide +kernel
theorem dX3_readEither_80 : decode cX3_readEither 80 = .ok (.iconst 1, 1) := by decide +kernel
theorem dX3_readEither_81 : decode cX3_readEither 81 = .ok (.goto 4, 3) := by decide +kernel
theorem dX3_readEither_84 : decode cX3_readEither 84 = .ok (.iconst 0, 1) := by decide +kernel
theorem dX3_readEither_85 : decode cX3_readEither 85 = .ok (.istore_n 3, 1) := by decide +kernel
theorem dX3_readEither_86 : decode cX3_readEither 86 = .ok (.iload_n 3, 1) := by decide +kernel
theorem dX3_readEither_87 : decode cX3_readEither 87 = .ok (.ifCond .ne 5, 3) := by decide +kernel
theorem dX3_readEither_90 : decode cX3_readEither 90 = .ok (.iconst 1, 1) := by decide +kernel
theorem dX3_readEither_91 : decode cX3_readEither 91 = .ok (.ireturn, 1) := by decide +kernel
theorem dX3_readEither_92 : decode cX3_readEither 92 = .ok (.aload_n 0, 1) := by decide +kernel
theorem dX3_readEither_93 : decode cX3_readEither 93 = .ok (.dup, 1) := by decide +kernel
theorem dX3_readEither_94 : decode cX3_readEither 94 = .ok (.getfield 32, 3) := by decide +kernel
theorem dX3_readEither_97 : decode cX3_readEither 97 = .ok (.iconst 1, 1) := by decide +kernel
theorem dX3_readEither_98 : decode cX3_readEither 98 = .ok (.iadd, 1) := by decide +kernel
theorem dX3_readEither_99 : decode cX3_readEither 99 = .ok (.putfield 32, 3) := by decide +kernel
theorem dX3_readEither_102 : decode cX3_readEither 102 = .ok (.iinc 4 1, 3) := by decide +kernel
theorem dX3_readEither_105 : decode cX3_readEither 105 = .ok (.goto (-98), 3) := by decide +kernel
theorem dX3_readEither_108 : decode cX3_readEither 108 = .ok (.iconst 0, 1) := by decide +kernel
theorem dX3_readEither_109 : decode cX3_readEither 109 = .ok (.ireturn, 1) := by decide +kernel
theorem dX3_readOne_0 : decode cX3_readOne 0 = .ok (.iconst 0, 1) := by decide +kernel
theorem dX3_readOne_1 : decode cX3_readOne 1 = .ok (.istore_n 2, 1) := by decide +kernel
theorem dX3_readOne_2 : decode cX3_readOne 2 = .ok (.aload_n 0, 1) := by decide +kernel
theorem dX3_readOne_3 : decode cX3_readOne 3 = .ok (.invokevirtual 28, 3) := by decide +kernel
theorem dX3_readOne_6 : decode cX3_readOne 6 = .ok (.bipush 33, 2) := by decide +kernel
theorem dX3_readOne_8 : decode cX3_readOne 8 = .ok (.if_icmp .ne 26, 3) := by decide +kernel
theorem dX3_readOne_11 : decode cX3_readOne 11 = .ok (.iload_n 1, 1) := by decide +kernel
theorem dX3_readOne_12 : decode cX3_readOne 12 = .ok (.iload_n 2, 1) := by decide +kernel
theorem dX3_readOne_13 : decode cX3_readOne 13 = .ok (.iadd, 1) := by decide +kernel
theorem dX3_readOne_14 : decode cX3_readOne 14 = .ok (.iconst 5, 1) := by decide +kernel
theorem dX3_readOne_15 : decode cX3_readOne 15 = .ok (.if_icmp .ge 19, 3) := by decide +kernel
theorem dX3_readOne_18 : decode cX3_readOne 18 = .ok (.iinc 2 1, 3) := by decide +kernel
theorem dX3_readOne_21 : decode cX3_readOne 21 = .ok (.aload_n 0, 1) := by decide +kernel
theorem dX3_readOne_22 : decode cX3_readOne 22 = .ok (.dup, 1) := by decide +kernel
theorem dX3_readOne_23 : decode cX3_readOne 23 = .ok (.getfield 32, 3) := by decide +kernel
theorem dX3_readOne_26 : decode cX3_readOne 26 = .ok (.iconst 1, 1) := by decide +kernel
theorem dX3_readOne_27 : decode cX3_readOne 27 = .ok (.iadd, 1) := by decide +kernel
theorem dX3_readOne_28 : decode cX3_readOne 28 = .ok (.putfield 32, 3) := by decide +kernel
theorem dX3_readOne_31 : decode cX3_readOne 31 = .ok (.goto (-29), 3) := by decide +kernel
theorem dX3_readOne_34 : decode cX3_readOne 34 = .ok (.aload_n 0, 1) := by decide +kernel
theorem dX3_readOne_35 : decode cX3_readOne 35 = .ok (.invokevirtual 28, 3) := by decide +kernel
theorem dX3_readOne_38 : decode cX3_readOne 38 = .ok (.bipush 40, 2) := by decide +kernel
theorem dX3_readOne_40 : decode cX3_readOne 40 = .ok (.if_icmp .ne 13, 3) := by decide +kernel
theorem dX3_readOne_43 : decode cX3_readOne 43 = .ok (.aload_n 0, 1) := by decide +kernel
theorem dX3_readOne_44 : decode cX3_readOne 44 = .ok (.iload_n 1, 1) := by decide +kernel
theorem dX3_readOne_45 : decode cX3_readOne 45 = .ok (.iload_n 2, 1) := by decide +kernel
theorem dX3_readOne_46 : decode cX3_readOne 46 = .ok (.iadd, 1) := by decide +kernel
theorem dX3_readOne_47 : decode cX3_readOne 47 = .ok (.invokevirtual 68, 3) := by decide +kernel
theorem dX3_readOne_50 : decode cX3_readOne 50 = .ok (.goto 7, 3) := by decide +kernel
theorem dX3_readOne_53 : decode cX3_readOne 53 = .ok (.aload_n 0, 1) := by decide +kernel
theorem dX3_readOne_54 : decode cX3_readOne 54 = .ok (.invokevirtual 71, 3) := by decide +kernel
theorem dX3_readOne_57 : decode cX3_readOne 57 = .ok (.istore_n 3, 1) := by decide +kernel
theorem dX3_readOne_58 : decode cX3_readOne 58 = .ok (.iconst 0, 1) := by decide +kernel
theorem dX3_readOne_59 : decode cX3_readOne 59 = .ok (.istore 4, 2) := by decide +kernel
theorem dX3_readOne_61 : decode cX3_readOne 61 = .ok (.iload 4, 2) := by decide +kernel
theorem dX3_readOne_63 : decode cX3_readOne 63 = .ok (.iload_n 2, 1) := by decide +kernel
theorem dX3_readOne_64 : decode cX3_readOne 64 = .ok (.if_icmp .ge 23, 3) := by decide +kernel
theorem dX3_readOne_67 : decode cX3_readOne 67 = .ok (.iload_n 3, 1) := by decide +kernel
theorem dX3_readOne_68 : decode cX3_readOne 68 = .ok (.ifCond .eq 19, 3) := by decide +kernel
theorem dX3_readOne_71 : decode cX3_readOne 71 = .ok (.aload_n 0, 1) := by decide +kernel
theorem dX3_readOne_72 : decode cX3_readOne 72 = .ok (.getfield 15, 3) := by decide +kernel
theorem dX3_readOne_75 : decode cX3_readOne 75 = .ok (.bipush 6, 2) := by decide +kernel
theorem dX3_readOne_77 : decode cX3_readOne 77 = .ok (.iconst 0, 1) := by decide +kernel
theorem dX3_readOne_78 : decode cX3_readOne 78 = .ok (.invokevirtual 61, 3) := by decide +kernel
theorem dX3_readOne_81 : decode cX3_readOne 81 = .ok (.iinc 4 1, 3) := by decide +kernel
theorem dX3_readOne_84 : decode cX3_readOne 84 = .ok (.goto (-23), 3) := by decide +kernel
theorem dX3_readOne_87 : decode cX3_readOne 87 = .ok (.iload_n 3, 1) := by decide +kernel
theorem dX3_readOne_88 : decode cX3_readOne 88 = .ok (.ireturn, 1) := by decide +kernel
theorem dX3_readInBrackets_0 : decode cX3_readInBrackets 0 = .ok (.iload_n 1, 1) := by decide +kernel
theorem dX3_readInBrackets_1 : decode cX3_readInBrackets 1 = .ok (.iconst 5, 1) := by decide +kernel
theorem dX3_readInBrackets_2 : decode cX3_readInBrackets 2 = .ok (.if_icmp .lt 5, 3) := by decide +kernel
theorem dX3_readInBrackets_5 : decode cX3_readInBrackets 5 = .ok (.iconst 0, 1) := by decide +kernel
theorem dX3_readInBrackets_6 : decode cX3_readInBrackets 6 = .ok (.ireturn, 1) := by decide +kernel
theorem dX3_readInBrackets_7 : decode cX3_readInBrackets 7 = .ok (.aload_n 0, 1) := by decide +kernel
theorem dX3_readInBrackets_8 : decode cX3_readInBrackets 8 = .ok (.dup, 1) := by decide +kernel
theorem dX3_readInBrackets_9 : decode cX3_readInBrackets 9 = .ok (.getfield 32, 3) := by decide +kernel
theorem dX3_readInBrackets_12 : decode cX3_readInBrackets 12 = .ok (.iconst 1, 1) := by decide +kernel
theorem dX3_readInBrackets_13 : decode cX3_readInBrackets 13 = .ok (.iadd, 1) := by decide +kernel
theorem dX3_readInBrackets_14 : decode cX3_readInBrackets 14 = .ok (.putfield 32, 3) := by decide +kernel
theorem dX3_readInBrackets_17 : decode cX3_readInBrackets 17 = .ok (.aload_n 0, 1) := by decide +kernel
theorem dX3_readInBrackets_18 : decode cX3_readInBrackets 18 = .ok (.iload_n 1, 1) := by decide +kernel
theorem dX3_readInBrackets_19 : decode cX3_readInBrackets 19 = .ok (.iconst 1, 1) := by decide +kernel
theorem dX3_readInBrackets_20 : decode cX3_readInBrackets 20 = .ok (.iadd, 1) := by decide +kernel
theorem dX3_readInBrackets_21 : decode cX3_readInBrackets 21 = .ok (.invokevirtual 57, 3) := by decide +kernel
theorem dX3_readInBrackets_24 : decode cX3_readInBrackets 24 = .ok (.ifCond .eq 16, 3) := by decide +kernel
theorem dX3_readInBrackets_27 : decode cX3_readInBrackets 27 = .ok (.aload_n 0, 1) := by decide +kernel
theorem dX3_readInBrackets_28 : decode cX3_readInBrackets 28 = .ok (.ldc 74, 2) := by decide +kernel
theorem dX3_readInBrackets_30 : decode cX3_readInBrackets 30 = .ok (.invokevirtual 42, 3) := by decide +kernel
theorem dX3_readInBrackets_33 : decode cX3_readInBrackets 33 = .ok (.ifCond .eq 7, 3) := by decide +kernel
theorem dX3_readInBrackets_36 : decode cX3_readInBrackets 36 = .ok (.iconst 1, 1) := by decide +kernel
theorem dX3_readInBrackets_37 : decode cX3_readInBrackets 37 = .ok (.goto 4, 3) := by decide +kernel
theorem dX3_readInBrackets_40 : decode cX3_readInBrackets 40 = .ok (.iconst 0, 1) := by decide +kernel
theorem dX3_readInBrackets_41 : decode cX3_readInBrackets 41 = .ok (.ireturn, 1) := by decide +kernel
theorem dX3_readTest_0 : decode cX3_readTest 0 = .ok (.aload_n 0, 1) := by decide +kernel
theorem dX3_readTest_1 : decode cX3_readTest 1 = .ok (.invokevirtual 28, 3) := by decide +kernel
theorem dX3_readTest_4 : decode cX3_readTest 4 = .ok (.invokestatic 76, 3) := by decide +kernel
theorem dX3_readTest_7 : decode cX3_readTest 7 = .ok (.istore_n 1, 1) := by decide +kernel
theorem dX3_readTest_8 : decode cX3_readTest 8 = .ok (.iload_n 1, 1) := by decide +kernel
theorem dX3_readTest_9 : decode cX3_readTest 9 = .ok (.ifCond .ge 5, 3) := by decide +kernel
theorem dX3_readTest_12 : decode cX3_readTest 12 = .ok (.iconst 0, 1) := by decide +kernel
theorem dX3_readTest_13 : decode cX3_readTest 13 = .ok (.ireturn, 1) := by decide +kernel
theorem dX3_readTest_14 : decode cX3_readTest 14 = .ok (.aload_n 0, 1) := by decide +kernel
theorem dX3_readTest_15 : decode cX3_readTest 15 = .ok (.dup, 1) := by decide +kernel
theorem dX3_readTest_16 : decode cX3_readTest 16 = .ok (.getfield 32, 3) := by decide +kernel
theorem dX3_readTest_19 : decode cX3_readTest 19 = .ok (.iconst 1, 1) := by decide +kernel
theorem dX3_readTest_20 : decode cX3_readTest 20 = .ok (.iadd, 1) := by decide +kernel
theorem dX3_readTest_21 : decode cX3_readTest 21 = .ok (.putfield 32, 3) := by decide +kernel
theorem dX3_readTest_24 : decode cX3_readTest 24 = .ok (.aload_n 0, 1) := by decide +kernel
theorem dX3_readTest_25 : decode cX3_readTest 25 = .ok (.invokevirtual 28, 3) := by decide +kernel
theorem dX3_readTest_28 : decode cX3_readTest 28 = .ok (.istore_n 2, 1) := by decide +kernel
theorem dX3_readTest_29 : decode cX3_readTest 29 = .ok (.iload_n 2, 1) := by decide +kernel
theorem dX3_readTest_30 : decode cX3_readTest 30 = .ok (.bipush 60, 2) := by decide +kernel
theorem dX3_readTest_32 : decode cX3_readTest 32 = .ok (.if_icmp .eq 17, 3) := by decide +kernel
theorem dX3_readTest_35 : decode cX3_readTest 35 = .ok (.iload_n 2, 1) := by decide +kernel
theorem dX3_readTest_36 : decode cX3_readTest 36 = .ok (.bipush 61, 2) := by decide +kernel
theorem dX3_readTest_38 : decode cX3_readTest 38 = .ok (.if_icmp .eq 11, 3) := by decide +kernel
theorem dX3_readTest_41 : decode cX3_readTest 41 = .ok (.iload_n 2, 1) := by decide +kernel
theorem dX3_readTest_42 : decode cX3_readTest 42 = .ok (.bipush 62, 2) := by decide +kernel
theorem dX3_readTest_44 : decode cX3_readTest 44 = .ok (.if_icmp .eq 5, 3) := by decide +kernel
theorem dX3_readTest_47 : decode cX3_readTest 47 = .ok (.iconst 0, 1) := by decide +kernel
theorem dX3_readTest_48 : decode cX3_readTest 48 = .ok (.ireturn, 1) := by decide +kernel
theorem dX3_readTest_49 : decode cX3_readTest 49 = .ok (.aload_n 0, 1) := by decide +kernel
theorem dX3_readTest_50 : decode cX3_readTest 50 = .ok (.dup, 1) := by decide +kernel
theorem dX3_readTest_51 : decode cX3_readTest 51 = .ok (.getfield 32, 3) := by decide +kernel
theorem dX3_readTest_54 : decode cX3_readTest 54 = .ok (.iconst 1, 1) := by decide +kernel
theorem dX3_readTest_55 : decode cX3_readTest 55 = .ok (.iadd, 1) := by decide +kernel
theorem dX3_readTest_56 : decode cX3_readTest 56 = .ok (.putfield 32, 3) := by decide +kernel
theorem dX3_readTest_59 : decode cX3_readTest 59 = .ok (.aload_n 0, 1) := by decide +kernel
theorem dX3_readTest_60 : decode cX3_readTest 60 = .ok (.invokevirtual 46, 3) := by decide +kernel
theorem dX3_readTest_63 : decode cX3_readTest 63 = .ok (.ifCond .ne 5, 3) := by decide +kernel
theorem dX3_readTest_66 : decode cX3_readTest 66 = .ok (.iconst 0, 1) := by decide +kernel
theorem dX3_readTest_67 : decode cX3_readTest 67 = .ok (.ireturn, 1) := by decide +kernel
theorem dX3_readTest_68 : decode cX3_readTest 68 = .ok (.aload_n 0, 1) := by decide +kernel
theorem dX3_readTest_69 : decode cX3_readTest 69 = .ok (.getfield 15, 3) := by decide +kernel
theorem dX3_readTest_72 : decode cX3_readTest 72 = .ok (.iload_n 1, 1) := by decide +kernel
theorem dX3_readTest_73 : decode cX3_readTest 73 = .ok (.iload_n 2, 1) := by decide +kernel
theorem dX3_readTest_74 : decode cX3_readTest 74 = .ok (.aload_n 0, 1) := by decide +kernel
theorem dX3_readTest_75 : decode cX3_readTest 75 = .ok (.getfield 49, 3) := by decide +kernel
theorem dX3_readTest_78 : decode cX3_readTest 78 = .ok (.invokestatic 80, 3) := by decide +kernel
theorem dX3_readTest_81 : decode cX3_readTest 81 = .ok (.invokevirtual 61, 3) := by decide +kernel
theorem dX3_readTest_84 : decode cX3_readTest 84 = .ok (.iconst 1, 1) := by decide +kernel
theorem dX3_readTest_85 : decode cX3_readTest 85 = .ok (.ireturn, 1) := by decide +kernel
theorem dX3_readWord_0 : decode cX3_readWord 0 = .ok (.iconst 0, 1) := by decide +kernel
theorem dX3_readWord_1 : decode cX3_readWord 1 = .ok (.istore_n 2, 1) := by decide +kernel
theorem dX3_readWord_2 : decode cX3_readWord 2 = .ok (.iload_n 2, 1) := by decide +kernel
theorem dX3_readWord_3 : decode cX3_readWord 3 = .ok (.aload_n 1, 1) := by decide +kernel
theorem dX3_readWord_4 : decode cX3_readWord 4 = .ok (.invokevirtual 84, 3) := by decide +kernel
theorem dX3_readWord_7 : decode cX3_readWord 7 = .ok (.if_icmp .ge 33, 3) := by decide +kernel
theorem dX3_readWord_10 : decode cX3_readWord 10 = .ok (.aload_n 0, 1) := by decide +kernel
theorem dX3_readWord_11 : decode cX3_readWord 11 = .ok (.invokevirtual 28, 3) := by decide +kernel
theorem dX3_readWord_14 : decode cX3_readWord 14 = .ok (.aload_n 1, 1) := by decide +kernel
theorem dX3_readWord_15 : decode cX3_readWord 15 = .ok (.iload_n 2, 1) := by decide +kernel
theorem dX3_readWord_16 : decode cX3_readWord 16 = .ok (.invokevirtual 89, 3) := by decide +kernel
theorem dX3_readWord_19 : decode cX3_readWord 19 = .ok (.if_icmp .eq 5, 3) := by decide +kernel
theorem dX3_readWord_22 : decode cX3_readWord 22 = .ok (.iconst 0, 1) := by decide +kernel
theorem dX3_readWord_23 : decode cX3_readWord 23 = .ok (.ireturn, 1) := by decide +kernel
theorem dX3_readWord_24 : decode cX3_readWord 24 = .ok (.aload_n 0, 1) := by decide +kernel
theorem dX3_readWord_25 : decode cX3_readWord 25 = .ok (.dup, 1) := by decide +kernel
theorem dX3_readWord_26 : decode cX3_readWord 26 = .ok (.getfield 32, 3) := by decide +kernel
theorem dX3_readWord_29 : decode cX3_readWord 29 = .ok (.iconst 1, 1) := by decide +kernel
theorem dX3_readWord_30 : decode cX3_readWord 30 = .ok (.iadd, 1) := by decide +kernel
theorem dX3_readWord_31 : decode cX3_readWord 31 = .ok (.putfield 32, 3) := by decide +kernel
theorem dX3_readWord_34 : decode cX3_readWord 34 = .ok (.iinc 2 1, 3) := by decide +kernel
theorem dX3_readWord_37 : decode cX3_readWord 37 = .ok (.goto (-35), 3) := by decide +kernel
theorem dX3_readWord_40 : decode cX3_readWord 40 = .ok (.iconst 1, 1) := by decide +kernel
theorem dX3_readWord_41 : decode cX3_readWord 41 = .ok (.ireturn, 1) := by decide +kernel
theorem dX3_readNumber_0 : decode cX3_readNumber 0 = .ok (.aload_n 0, 1) := by decide +kernel
theorem dX3_readNumber_1 : decode cX3_readNumber 1 = .ok (.invokevirtual 28, 3) := by decide +kernel
theorem dX3_readNumber_4 : decode cX3_readNumber 4 = .ok (.istore_n 1, 1) := by decide +kernel
theorem dX3_readNumber_5 : decode cX3_readNumber 5 = .ok (.iload_n 1, 1) := by decide +kernel
theorem dX3_readNumber_6 : decode cX3_readNumber 6 = .ok (.bipush 48, 2) := by decide +kernel
theorem dX3_readNumber_8 : decode cX3_readNumber 8 = .ok (.if_icmp .lt 9, 3) := by decide +kernel
theorem dX3_readNumber_11 : decode cX3_readNumber 11 = .ok (.iload_n 1, 1) := by decide +kernel
theorem dX3_readNumber_12 : decode cX3_readNumber 12 = .ok (.bipush 57, 2) := by decide +kernel
theorem dX3_readNumber_14 : decode cX3_readNumber 14 = .ok (.if_icmp .le 5, 3) := by decide +kernel
theorem dX3_readNumber_17 : decode cX3_readNumber 17 = .ok (.iconst 0, 1) := by decide +kernel
theorem dX3_readNumber_18 : decode cX3_readNumber 18 = .ok (.ireturn, 1) := by decide +kernel
theorem dX3_readNumber_19 : decode cX3_readNumber 19 = .ok (.aload_n 0, 1) := by decide +kernel
theorem dX3_readNumber_20 : decode cX3_readNumber 20 = .ok (.dup, 1) := by decide +kernel
theorem dX3_readNumber_21 : decode cX3_readNumber 21 = .ok (.getfield 32, 3) := by decide +kernel
theorem dX3_readNumber_24 : decode cX3_readNumber 24 = .ok (.iconst 1, 1) := by decide +kernel
theorem dX3_readNumber_25 : decode cX3_readNumber 25 = .ok (.iadd, 1) := by decide +kernel
theorem dX3_readNumber_26 : decode cX3_readNumber 26 = .ok (.putfield 32, 3) := by decide +kernel
theorem dX3_readNumber_29 : decode cX3_readNumber 29 = .ok (.aload_n 0, 1) := by decide +kernel
theorem dX3_readNumber_30 : decode cX3_readNumber 30 = .ok (.iload_n 1, 1) := by decide +kernel
theorem dX3_readNumber_31 : decode cX3_readNumber 31 = .ok (.bipush 48, 2) := by decide +kernel
theorem dX3_readNumber_33 : decode cX3_readNumber 33 = .ok (.isub, 1) := by decide +kernel
theorem dX3_readNumber_34 : decode cX3_readNumber 34 = .ok (.putfield 49, 3) := by decide +kernel
theorem dX3_readNumber_37 : decode cX3_readNumber 37 = .ok (.aload_n 0, 1) := by decide +kernel
theorem dX3_readNumber_38 : decode cX3_readNumber 38 = .ok (.invokevirtual 28, 3) := by decide +kernel
theorem dX3_readNumber_41 : decode cX3_readNumber 41 = .ok (.istore_n 1, 1) := by decide +kernel
theorem dX3_readNumber_42 : decode cX3_readNumber 42 = .ok (.aload_n 0, 1) := by decide +kernel
theorem dX3_readNumber_43 : decode cX3_readNumber 43 = .ok (.getfield 49, 3) := by decide +kernel
theorem dX3_readNumber_46 : decode cX3_readNumber 46 = .ok (.ifCond .eq 41, 3) := by decide +kernel
theorem dX3_readNumber_49 : decode cX3_readNumber 49 = .ok (.iload_n 1, 1) := by decide +kernel
theorem dX3_readNumber_50 : decode cX3_readNumber 50 = .ok (.bipush 48, 2) := by decide +kernel
theorem dX3_readNumber_52 : decode cX3_readNumber 52 = .ok (.if_icmp .lt 35, 3) := by decide +kernel
theorem dX3_readNumber_55 : decode cX3_readNumber 55 = .ok (.iload_n 1, 1) := by decide +kernel
theorem dX3_readNumber_56 : decode cX3_readNumber 56 = .ok (.bipush 57, 2) := by decide +kernel
theorem dX3_readNumber_58 : decode cX3_readNumber 58 = .ok (.if_icmp .gt 29, 3) := by decide +kernel
theorem dX3_readNumber_61 : decode cX3_readNumber 61 = .ok (.aload_n 0, 1) := by decide +kernel
theorem dX3_readNumber_62 : decode cX3_readNumber 62 = .ok (.aload_n 0, 1) := by decide +kernel
theorem dX3_readNumber_63 : decode cX3_readNumber 63 = .ok (.getfield 49, 3) := by decide +kernel
theorem dX3_readNumber_66 : decode cX3_readNumber 66 = .ok (.bipush 10, 2) := by decide +kernel
theorem dX3_readNumber_68 : decode cX3_readNumber 68 = .ok (.imul, 1) := by decide +kernel
theorem dX3_readNumber_69 : decode cX3_readNumber 69 = .ok (.iload_n 1, 1) := by decide +kernel
theorem dX3_readNumber_70 : decode cX3_readNumber 70 = .ok (.iadd, 1) := by decide +kernel
theorem dX3_readNumber_71 : decode cX3_readNumber 71 = .ok (.bipush 48, 2) := by decide +kernel
theorem dX3_readNumber_73 : decode cX3_readNumber 73 = .ok (.isub, 1) := by decide +kernel
theorem dX3_readNumber_74 : decode cX3_readNumber 74 = .ok (.putfield 49, 3) := by decide +kernel
theorem dX3_readNumber_77 : decode cX3_readNumber 77 = .ok (.aload_n 0, 1) := by decide +kernel
theorem dX3_readNumber_78 : decode cX3_readNumber 78 = .ok (.dup, 1) := by decide +kernel
theorem dX3_readNumber_79 : decode cX3_readNumber 79 = .ok (.getfield 32, 3) := by decide +kernel
theorem dX3_readNumber_82 : decode cX3_readNumber 82 = .ok (.iconst 1, 1) := by decide +kernel
theorem dX3_readNumber_83 : decode cX3_readNumber 83 = .ok (.iadd, 1) := by decide +kernel
theorem dX3_readNumber_84 : decode cX3_readNumber 84 = .ok (.putfield 32, 3) := by decide +kernel
theorem dX3_readNumber_87 : decode cX3_readNumber 87 = .ok (.iconst 1, 1) := by decide +kernel
theorem dX3_readNumber_88 : decode cX3_readNumber 88 = .ok (.ireturn, 1) := by decide +kernel
theorem dX3_sign_0 : decode cX3_sign 0 = .ok (.aload_n 0, 1) := by decide +kernel
theorem dX3_sign_1 : decode cX3_sign 1 = .ok (.getfield 32, 3) := by decide +kernel
theorem dX3_sign_4 : decode cX3_sign 4 = .ok (.ifCond .lt 41, 3) := by decide +kernel
theorem dX3_sign_7 : decode cX3_sign 7 = .ok (.aload_n 0, 1) := by decide +kernel
theorem dX3_sign_8 : decode cX3_sign 8 = .ok (.getfield 32, 3) := by decide +kernel
theorem dX3_sign_11 : decode cX3_sign 11 = .ok (.aload_n 0, 1) := by decide +kernel
theorem dX3_sign_12 : decode cX3_sign 12 = .ok (.getfield 9, 3) := by decide +kernel
theorem dX3_sign_15 : decode cX3_sign 15 = .ok (.getfield 93, 3) := by decide +kernel
theorem dX3_sign_18 : decode cX3_sign 18 = .ok (.if_icmp .ge 27, 3) := by decide +kernel
theorem dX3_sign_21 : decode cX3_sign 21 = .ok (.aload_n 0, 1) := by decide +kernel
theorem dX3_sign_22 : decode cX3_sign 22 = .ok (.getfield 32, 3) := by decide +kernel
theorem dX3_sign_25 : decode cX3_sign 25 = .ok (.bipush 100, 2) := by decide +kernel
theorem dX3_sign_27 : decode cX3_sign 27 = .ok (.if_icmp .ge 18, 3) := by decide +kernel
theorem dX3_sign_30 : decode cX3_sign 30 = .ok (.aload_n 0, 1) := by decide +kernel
theorem dX3_sign_31 : decode cX3_sign 31 = .ok (.getfield 9, 3) := by decide +kernel
theorem dX3_sign_34 : decode cX3_sign 34 = .ok (.getfield 98, 3) := by decide +kernel
theorem dX3_sign_37 : decode cX3_sign 37 = .ok (.aload_n 0, 1) := by decide +kernel
theorem dX3_sign_38 : decode cX3_sign 38 = .ok (.getfield 32, 3) := by decide +kernel
theorem dX3_sign_41 : decode cX3_sign 41 = .ok (.iaload, 1) := by decide +kernel
theorem dX3_sign_42 : decode cX3_sign 42 = .ok (.goto 4, 3) := by decide +kernel
theorem dX3_sign_45 : decode cX3_sign 45 = .ok (.iconst (-1), 1) := by decide +kernel
theorem dX3_sign_46 : decode cX3_sign 46 = .ok (.ireturn, 1) := by decide +kernel
theorem dX3_placeOfLetter_0 : decode cX3_placeOfLetter 0 = .ok (.iconst 0, 1) := by decide +kernel
theorem dX3_placeOfLetter_1 : decode cX3_placeOfLetter 1 = .ok (.istore_n 1, 1) := by decide +kernel
theorem dX3_placeOfLetter_2 : decode cX3_placeOfLetter 2 = .ok (.iload_n 1, 1) := by decide +kernel
theorem dX3_placeOfLetter_3 : decode cX3_placeOfLetter 3 = .ok (.ldc 102, 2) := by decide +kernel
theorem dX3_placeOfLetter_5 : decode cX3_placeOfLetter 5 = .ok (.invokevirtual 84, 3) := by decide +kernel
theorem dX3_placeOfLetter_8 : decode cX3_placeOfLetter 8 = .ok (.if_icmp .ge 21, 3) := by decide +kernel
theorem dX3_placeOfLetter_11 : decode cX3_placeOfLetter 11 = .ok (.ldc 102, 2) := by decide +kernel
theorem dX3_placeOfLetter_13 : decode cX3_placeOfLetter 13 = .ok (.iload_n 1, 1) := by decide +kernel
theorem dX3_placeOfLetter_14 : decode cX3_placeOfLetter 14 = .ok (.invokevirtual 89, 3) := by decide +kernel
theorem dX3_placeOfLetter_17 : decode cX3_placeOfLetter 17 = .ok (.iload_n 0, 1) := by decide +kernel
theorem dX3_placeOfLetter_18 : decode cX3_placeOfLetter 18 = .ok (.if_icmp .ne 5, 3) := by decide +kernel
theorem dX3_placeOfLetter_21 : decode cX3_placeOfLetter 21 = .ok (.iload_n 1, 1) := by decide +kernel
theorem dX3_placeOfLetter_22 : decode cX3_placeOfLetter 22 = .ok (.ireturn, 1) := by decide +kernel
theorem dX3_placeOfLetter_23 : decode cX3_placeOfLetter 23 = .ok (.iinc 1 1, 3) := by decide +kernel
theorem dX3_placeOfLetter_26 : decode cX3_placeOfLetter 26 = .ok (.goto (-24), 3) := by decide +kernel
theorem dX3_placeOfLetter_29 : decode cX3_placeOfLetter 29 = .ok (.iconst (-1), 1) := by decide +kernel
theorem dX3_placeOfLetter_30 : decode cX3_placeOfLetter 30 = .ok (.ireturn, 1) := by decide +kernel
theorem dX3_valuesBy_0 : decode cX3_valuesBy 0 = .ok (.iconst 0, 1) := by decide +kernel
theorem dX3_valuesBy_1 : decode cX3_valuesBy 1 = .ok (.istore_n 2, 1) := by decide +kernel
theorem dX3_valuesBy_2 : decode cX3_valuesBy 2 = .ok (.iconst 0, 1) := by decide +kernel
theorem dX3_valuesBy_3 : decode cX3_valuesBy 3 = .ok (.istore_n 3, 1) := by decide +kernel
theorem dX3_valuesBy_4 : decode cX3_valuesBy 4 = .ok (.iload_n 3, 1) := by decide +kernel
theorem dX3_valuesBy_5 : decode cX3_valuesBy 5 = .ok (.bipush 10, 2) := by decide +kernel
theorem dX3_valuesBy_7 : decode cX3_valuesBy 7 = .ok (.if_icmp .ge 74, 3) := by decide +kernel
theorem dX3_valuesBy_10 : decode cX3_valuesBy 10 = .ok (.iload_n 0, 1) := by decide +kernel
theorem dX3_valuesBy_11 : decode cX3_valuesBy 11 = .ok (.bipush 60, 2) := by decide +kernel
theorem dX3_valuesBy_13 : decode cX3_valuesBy 13 = .ok (.if_icmp .ne 16, 3) := by decide +kernel
theorem dX3_valuesBy_16 : decode cX3_valuesBy 16 = .ok (.iload_n 3, 1) := by decide +kernel
theorem dX3_valuesBy_17 : decode cX3_valuesBy 17 = .ok (.iload_n 1, 1) := by decide +kernel
theorem dX3_valuesBy_18 : decode cX3_valuesBy 18 = .ok (.if_icmp .ge 7, 3) := by decide +kernel
theorem dX3_valuesBy_21 : decode cX3_valuesBy 21 = .ok (.iconst 1, 1) := by decide +kernel
theorem dX3_valuesBy_22 : decode cX3_valuesBy 22 = .ok (.goto 36, 3) := by decide +kernel
theorem dX3_valuesBy_25 : decode cX3_valuesBy 25 = .ok (.iconst 0, 1) := by decide +kernel
theorem dX3_valuesBy_26 : decode cX3_valuesBy 26 = .ok (.goto 32, 3) := by decide +kernel
theorem dX3_valuesBy_29 : decode cX3_valuesBy 29 = .ok (.iload_n 0, 1) := by decide +kernel
theorem dX3_valuesBy_30 : decode cX3_valuesBy 30 = .ok (.bipush 61, 2) := by decide +kernel
theorem dX3_valuesBy_32 : decode cX3_valuesBy 32 = .ok (.if_icmp .ne 16, 3) := by decide +kernel
theorem dX3_valuesBy_35 : decode cX3_valuesBy 35 = .ok (.iload_n 3, 1) := by decide +kernel
theorem dX3_valuesBy_36 : decode cX3_valuesBy 36 = .ok (.iload_n 1, 1) := by decide +kernel
theorem dX3_valuesBy_37 : decode cX3_valuesBy 37 = .ok (.if_icmp .ne 7, 3) := by decide +kernel
theorem dX3_valuesBy_40 : decode cX3_valuesBy 40 = .ok (.iconst 1, 1) := by decide +kernel
theorem dX3_valuesBy_41 : decode cX3_valuesBy 41 = .ok (.goto 17, 3) := by decide +kernel
theorem dX3_valuesBy_44 : decode cX3_valuesBy 44 = .ok (.iconst 0, 1) := by decide +kernel
theorem dX3_valuesBy_45 : decode cX3_valuesBy 45 = .ok (.goto 13, 3) := by decide +kernel
theorem dX3_valuesBy_48 : decode cX3_valuesBy 48 = .ok (.iload_n 3, 1) := by decide +kernel
theorem dX3_valuesBy_49 : decode cX3_valuesBy 49 = .ok (.iload_n 1, 1) := by decide +kernel
theorem dX3_valuesBy_50 : decode cX3_valuesBy 50 = .ok (.if_icmp .le 7, 3) := by decide +kernel
theorem dX3_valuesBy_53 : decode cX3_valuesBy 53 = .ok (.iconst 1, 1) := by decide +kernel
theorem dX3_valuesBy_54 : decode cX3_valuesBy 54 = .ok (.goto 4, 3) := by decide +kernel
theorem dX3_valuesBy_57 : decode cX3_valuesBy 57 = .ok (.iconst 0, 1) := by decide +kernel
theorem dX3_valuesBy_58 : decode cX3_valuesBy 58 = .ok (.istore 4, 2) := by decide +kernel
theorem dX3_valuesBy_60 : decode cX3_valuesBy 60 = .ok (.iload_n 2, 1) := by decide +kernel
theorem dX3_valuesBy_61 : decode cX3_valuesBy 61 = .ok (.iload 4, 2) := by decide +kernel
theorem dX3_valuesBy_63 : decode cX3_valuesBy 63 = .ok (.ifCond .eq 9, 3) := by decide +kernel
theorem dX3_valuesBy_66 : decode cX3_valuesBy 66 = .ok (.iconst 1, 1) := by decide +kernel
theorem dX3_valuesBy_67 : decode cX3_valuesBy 67 = .ok (.iload_n 3, 1) := by decide +kernel
theorem dX3_valuesBy_68 : decode cX3_valuesBy 68 = .ok (.ishl, 1) := by decide +kernel
theorem dX3_valuesBy_69 : decode cX3_valuesBy 69 = .ok (.goto 4, 3) := by decide +kernel
theorem dX3_valuesBy_72 : decode cX3_valuesBy 72 = .ok (.iconst 0, 1) := by decide +kernel
theorem dX3_valuesBy_73 : decode cX3_valuesBy 73 = .ok (.ior, 1) := by decide +kernel
theorem dX3_valuesBy_74 : decode cX3_valuesBy 74 = .ok (.istore_n 2, 1) := by decide +kernel
theorem dX3_valuesBy_75 : decode cX3_valuesBy 75 = .ok (.iinc 3 1, 3) := by decide +kernel
theorem dX3_valuesBy_78 : decode cX3_valuesBy 78 = .ok (.goto (-74), 3) := by decide +kernel
theorem dX3_valuesBy_81 : decode cX3_valuesBy 81 = .ok (.iload_n 2, 1) := by decide +kernel
theorem dX3_valuesBy_82 : decode cX3_valuesBy 82 = .ok (.ireturn, 1) := by decide +kernel
theorem dX4_init_0 : decode cX4_init 0 = .ok (.aload_n 0, 1) := by decide +kernel
theorem dX4_init_1 : decode cX4_init 1 = .ok (.invokespecial 3, 3) := by decide +kernel
theorem dX4_init_4 : decode cX4_init 4 = .ok (.aload_n 0, 1) := by decide +kernel
theorem dX4_init_5 : decode cX4_init 5 = .ok (.bipush 8, 2) := by decide +kernel
theorem dX4_init_7 : decode cX4_init 7 = .ok (.newarray .int, 2) := by decide +kernel
theorem dX4_init_9 : decode cX4_init 9 = .ok (.putfield 9, 3) := by decide +kernel
theorem dX4_init_12 : decode cX4_init 12 = .ok (.aload_n 0, 1) := by decide +kernel
theorem dX4_init_13 : decode cX4_init 13 = .ok (.bipush 8, 2) := by decide +kernel
theorem dX4_init_15 : decode cX4_init 15 = .ok (.newarray .int, 2) := by decide +kernel
theorem dX4_init_17 : decode cX4_init 17 = .ok (.putfield 15, 3) := by decide +kernel
theorem dX4_init_20 : decode cX4_init 20 = .ok (.aload_n 0, 1) := by decide +kernel
theorem dX4_init_21 : decode cX4_init 21 = .ok (.bipush 8, 2) := by decide +kernel
theorem dX4_init_23 : decode cX4_init 23 = .ok (.newarray .int, 2) := by decide +kernel
theorem dX4_init_25 : decode cX4_init 25 = .ok (.putfield 18, 3) := by decide +kernel
theorem dX4_init_28 : decode cX4_init 28 = .ok (.return_, 1) := by decide +kernel
theorem dX4_add_0 : decode cX4_add 0 = .ok (.aload_n 0, 1) := by decide +kernel
theorem dX4_add_1 : decode cX4_add 1 = .ok (.getfield 21, 3) := by decide +kernel
theorem dX4_add_4 : decode cX4_add 4 = .ok (.ifCond .lt 20, 3) := by decide +kernel
theorem dX4_add_7 : decode cX4_add 7 = .ok (.aload_n 0, 1) := by decide +kernel
theorem dX4_add_8 : decode cX4_add 8 = .ok (.getfield 21, 3) := by decide +kernel
theorem dX4_add_11 : decode cX4_add 11 = .ok (.iload_n 1, 1) := by decide +kernel
theorem dX4_add_12 : decode cX4_add 12 = .ok (.if_icmp .ge 12, 3) := by decide +kernel
theorem dX4_add_15 : decode cX4_add 15 = .ok (.aload_n 0, 1) := by decide +kernel
theorem dX4_add_16 : decode cX4_add 16 = .ok (.getfield 21, 3) := by decide +kernel
theorem dX4_add_19 : decode cX4_add 19 = .ok (.bipush 8, 2) := by decide +kernel
theorem dX4_add_21 : decode cX4_add 21 = .ok (.if_icmp .lt 6, 3) := by decide +kernel
theorem dX4_add_24 : decode cX4_add 24 = .ok (.bipush (-4), 2) := by decide +kernel
theorem dX4_add_26 : decode cX4_add 26 = .ok (.ireturn, 1) := by decide +kernel
theorem dX4_add_27 : decode cX4_add 27 = .ok (.aload_n 0, 1) := by decide +kernel
theorem dX4_add_28 : decode cX4_add 28 = .ok (.getfield 9, 3) := by decide +kernel
theorem dX4_add_31 : decode cX4_add 31 = .ok (.aload_n 0, 1) := by decide +kernel
theorem dX4_add_32 : decode cX4_add 32 = .ok (.getfield 21, 3) := by decide +kernel
theorem dX4_add_35 : decode cX4_add 35 = .ok (.iload_n 2, 1) := by decide +kernel
theorem dX4_add_36 : decode cX4_add 36 = .ok (.iastore, 1) := by decide +kernel
theorem dX4_add_37 : decode cX4_add 37 = .ok (.aload_n 0, 1) := by decide +kernel
theorem dX4_add_38 : decode cX4_add 38 = .ok (.getfield 15, 3) := by decide +kernel
theorem dX4_add_41 : decode cX4_add 41 = .ok (.aload_n 0, 1) := by decide +kernel
theorem dX4_add_42 : decode cX4_add 42 = .ok (.getfield 21, 3) := by decide +kernel
theorem dX4_add_45 : decode cX4_add 45 = .ok (.iload_n 3, 1) := by decide +kernel
theorem dX4_add_46 : decode cX4_add 46 = .ok (.iastore, 1) := by decide +kernel
theorem dX4_add_47 : decode cX4_add 47 = .ok (.aload_n 0, 1) := by decide +kernel
theorem dX4_add_48 : decode cX4_add 48 = .ok (.getfield 18, 3) := by decide +kernel
theorem dX4_add_51 : decode cX4_add 51 = .ok (.aload_n 0, 1) := by decide +kernel
theorem dX4_add_52 : decode cX4_add 52 = .ok (.getfield 21, 3) := by decide +kernel
theorem dX4_add_55 : decode cX4_add 55 = .ok (.iload 4, 2) := by decide +kernel
theorem dX4_add_57 : decode cX4_add 57 = .ok (.iastore, 1) := by decide +kernel
theorem dX4_add_58 : decode cX4_add 58 = .ok (.aload_n 0, 1) := by decide +kernel
theorem dX4_add_59 : decode cX4_add 59 = .ok (.dup, 1) := by decide +kernel
theorem dX4_add_60 : decode cX4_add 60 = .ok (.getfield 21, 3) := by decide +kernel
theorem dX4_add_63 : decode cX4_add 63 = .ok (.iconst 1, 1) := by decide +kernel
theorem dX4_add_64 : decode cX4_add 64 = .ok (.iadd, 1) := by decide +kernel
theorem dX4_add_65 : decode cX4_add 65 = .ok (.putfield 21, 3) := by decide +kernel
theorem dX4_add_68 : decode cX4_add 68 = .ok (.aload_n 0, 1) := by decide +kernel
theorem dX4_add_69 : decode cX4_add 69 = .ok (.getfield 21, 3) := by decide +kernel
theorem dX4_add_72 : decode cX4_add 72 = .ok (.ireturn, 1) := by decide +kernel
theorem dX4_copyFrom_0 : decode cX4_copyFrom 0 = .ok (.aload_n 1, 1) := by decide +kernel
theorem dX4_copyFrom_1 : decode cX4_copyFrom 1 = .ok (.getfield 9, 3) := by decide +kernel
theorem dX4_copyFrom_4 : decode cX4_copyFrom 4 = .ok (.iconst 0, 1) := by decide +kernel
theorem dX4_copyFrom_5 : decode cX4_copyFrom 5 = .ok (.aload_n 0, 1) := by decide +kernel
theorem dX4_copyFrom_6 : decode cX4_copyFrom 6 = .ok (.getfield 9, 3) := by decide +kernel
theorem dX4_copyFrom_9 : decode cX4_copyFrom 9 = .ok (.iconst 0, 1) := by decide +kernel
theorem dX4_copyFrom_10 : decode cX4_copyFrom 10 = .ok (.bipush 8, 2) := by decide +kernel
theorem dX4_copyFrom_12 : decode cX4_copyFrom 12 = .ok (.invokestatic 25, 3) := by decide +kernel
theorem dX4_copyFrom_15 : decode cX4_copyFrom 15 = .ok (.aload_n 1, 1) := by decide +kernel
theorem dX4_copyFrom_16 : decode cX4_copyFrom 16 = .ok (.getfield 15, 3) := by decide +kernel
theorem dX4_copyFrom_19 : decode cX4_copyFrom 19 = .ok (.iconst 0, 1) := by decide +kernel
theorem dX4_copyFrom_20 : decode cX4_copyFrom 20 = .ok (.aload_n 0, 1) := by decide +kernel
theorem dX4_copyFrom_21 : decode cX4_copyFrom 21 = .ok (.getfield 15, 3) := by decide +kernel
theorem dX4_copyFrom_24 : decode cX4_copyFrom 24 = .ok (.iconst 0, 1) := by decide +kernel
theorem dX4_copyFrom_25 : decode cX4_copyFrom 25 = .ok (.bipush 8, 2) := by decide +kernel
theorem dX4_copyFrom_27 : decode cX4_copyFrom 27 = .ok (.invokestatic 25, 3) := by decide +kernel
theorem dX4_copyFrom_30 : decode cX4_copyFrom 30 = .ok (.aload_n 1, 1) := by decide +kernel
theorem dX4_copyFrom_31 : decode cX4_copyFrom 31 = .ok (.getfield 18, 3) := by decide +kernel
theorem dX4_copyFrom_34 : decode cX4_copyFrom 34 = .ok (.iconst 0, 1) := by decide +kernel
theorem dX4_copyFrom_35 : decode cX4_copyFrom 35 = .ok (.aload_n 0, 1) := by decide +kernel
theorem dX4_copyFrom_36 : decode cX4_copyFrom 36 = .ok (.getfield 18, 3) := by decide +kernel
theorem dX4_copyFrom_39 : decode cX4_copyFrom 39 = .ok (.iconst 0, 1) := by decide +kernel
theorem dX4_copyFrom_40 : decode cX4_copyFrom 40 = .ok (.bipush 8, 2) := by decide +kernel
theorem dX4_copyFrom_42 : decode cX4_copyFrom 42 = .ok (.invokestatic 25, 3) := by decide +kernel
theorem dX4_copyFrom_45 : decode cX4_copyFrom 45 = .ok (.aload_n 0, 1) := by decide +kernel
theorem dX4_copyFrom_46 : decode cX4_copyFrom 46 = .ok (.aload_n 1, 1) := by decide +kernel
theorem dX4_copyFrom_47 : decode cX4_copyFrom 47 = .ok (.getfield 21, 3) := by decide +kernel
theorem dX4_copyFrom_50 : decode cX4_copyFrom 50 = .ok (.putfield 21, 3) := by decide +kernel
theorem dX4_copyFrom_53 : decode cX4_copyFrom 53 = .ok (.return_, 1) := by decide +kernel
theorem dX5_init_0 : decode cX5_init 0 = .ok (.aload_n 0, 1) := by decide +kernel
theorem dX5_init_1 : decode cX5_init 1 = .ok (.invokespecial 3, 3) := by decide +kernel
theorem dX5_init_4 : decode cX5_init 4 = .ok (.aload_n 0, 1) := by decide +kernel
theorem dX5_init_5 : decode cX5_init 5 = .ok (.bipush 6, 2) := by decide +kernel
theorem dX5_init_7 : decode cX5_init 7 = .ok (.newarray .int, 2) := by decide +kernel
theorem dX5_init_9 : decode cX5_init 9 = .ok (.putfield 9, 3) := by decide +kernel
theorem dX5_init_12 : decode cX5_init 12 = .ok (.aload_n 0, 1) := by decide +kernel
theorem dX5_init_13 : decode cX5_init 13 = .ok (.bipush 6, 2) := by decide +kernel
theorem dX5_init_15 : decode cX5_init 15 = .ok (.newarray .int, 2) := by decide +kernel
theorem dX5_init_17 : decode cX5_init 17 = .ok (.putfield 15, 3) := by decide +kernel
theorem dX5_init_20 : decode cX5_init 20 = .ok (.aload_n 0, 1) := by decide +kernel
theorem dX5_init_21 : decode cX5_init 21 = .ok (.bipush 6, 2) := by decide +kernel
theorem dX5_init_23 : decode cX5_init 23 = .ok (.newarray .int, 2) := by decide +kernel
theorem dX5_init_25 : decode cX5_init 25 = .ok (.putfield 18, 3) := by decide +kernel
theorem dX5_init_28 : decode cX5_init 28 = .ok (.aload_n 0, 1) := by decide +kernel
theorem dX5_init_29 : decode cX5_init 29 = .ok (.bipush 6, 2) := by decide +kernel
theorem dX5_init_31 : decode cX5_init 31 = .ok (.newarray .int, 2) := by decide +kernel
theorem dX5_init_33 : decode cX5_init 33 = .ok (.putfield 21, 3) := by decide +kernel
theorem dX5_init_36 : decode cX5_init 36 = .ok (.aload_n 0, 1) := by decide +kernel
theorem dX5_init_37 : decode cX5_init 37 = .ok (.bipush 24, 2) := by decide +kernel
theorem dX5_init_39 : decode cX5_init 39 = .ok (.newarray .int, 2) := by decide +kernel
theorem dX5_init_41 : decode cX5_init 41 = .ok (.putfield 24, 3) := by decide +kernel
theorem dX5_init_44 : decode cX5_init 44 = .ok (.aload_n 0, 1) := by decide +kernel
theorem dX5_init_45 : decode cX5_init 45 = .ok (.bipush 6, 2) := by decide +kernel
theorem dX5_init_47 : decode cX5_init 47 = .ok (.newarray .int, 2) := by decide +kernel
theorem dX5_init_49 : decode cX5_init 49 = .ok (.putfield 27, 3) := by decide +kernel
theorem dX5_init_52 : decode cX5_init 52 = .ok (.return_, 1) := by decide +kernel
theorem dX5_has_0 : decode cX5_has 0 = .ok (.iload_n 1, 1) := by decide +kernel
theorem dX5_has_1 : decode cX5_has 1 = .ok (.ifCond .lt 21, 3) := by decide +kernel
theorem dX5_has_4 : decode cX5_has 4 = .ok (.iload_n 1, 1) := by decide +kernel
theorem dX5_has_5 : decode cX5_has 5 = .ok (.aload_n 0, 1) := by decide +kernel
theorem dX5_has_6 : decode cX5_has 6 = .ok (.getfield 30, 3) := by decide +kernel
theorem dX5_has_9 : decode cX5_has 9 = .ok (.if_icmp .ge 13, 3) := by decide +kernel
theorem dX5_has_12 : decode cX5_has 12 = .ok (.iload_n 1, 1) := by decide +kernel
theorem dX5_has_13 : decode cX5_has 13 = .ok (.bipush 6, 2) := by decide +kernel
theorem dX5_has_15 : decode cX5_has 15 = .ok (.if_icmp .ge 7, 3) := by decide +kernel
theorem dX5_has_18 : decode cX5_has 18 = .ok (.iconst 1, 1) := by decide +kernel
theorem dX5_has_19 : decode cX5_has 19 = .ok (.goto 4, 3) := by decide +kernel
theorem dX5_has_22 : decode cX5_has 22 = .ok (.iconst 0, 1) := by decide +kernel
theorem dX5_has_23 : decode cX5_has 23 = .ok (.ireturn, 1) := by decide +kernel
theorem dX5_isAway_0 : decode cX5_isAway 0 = .ok (.aload_n 0, 1) := by decide +kernel
theorem dX5_isAway_1 : decode cX5_isAway 1 = .ok (.getfield 34, 3) := by decide +kernel
theorem dX5_isAway_4 : decode cX5_isAway 4 = .ok (.iload_n 1, 1) := by decide +kernel
theorem dX5_isAway_5 : decode cX5_isAway 5 = .ok (.ishr, 1) := by decide +kernel
theorem dX5_isAway_6 : decode cX5_isAway 6 = .ok (.iconst 1, 1) := by decide +kernel
theorem dX5_isAway_7 : decode cX5_isAway 7 = .ok (.iand, 1) := by decide +kernel
theorem dX5_isAway_8 : decode cX5_isAway 8 = .ok (.ifCond .eq 7, 3) := by decide +kernel
theorem dX5_isAway_11 : decode cX5_isAway 11 = .ok (.iconst 1, 1) := by decide +kernel
theorem dX5_isAway_12 : decode cX5_isAway 12 = .ok (.goto 4, 3) := by decide +kernel
theorem dX5_isAway_15 : decode cX5_isAway 15 = .ok (.iconst 0, 1) := by decide +kernel
theorem dX5_isAway_16 : decode cX5_isAway 16 = .ok (.ireturn, 1) := by decide +kernel
theorem dX5_add_0 : decode cX5_add 0 = .ok (.aload_n 0, 1) := by decide +kernel
theorem dX5_add_1 : decode cX5_add 1 = .ok (.getfield 30, 3) := by decide +kernel
theorem dX5_add_4 : decode cX5_add 4 = .ok (.ifCond .lt 12, 3) := by decide +kernel
theorem dX5_add_7 : decode cX5_add 7 = .ok (.aload_n 0, 1) := by decide +kernel
theorem dX5_add_8 : decode cX5_add 8 = .ok (.getfield 30, 3) := by decide +kernel
theorem dX5_add_11 : decode cX5_add 11 = .ok (.bipush 6, 2) := by decide +kernel
theorem dX5_add_13 : decode cX5_add 13 = .ok (.if_icmp .lt 5, 3) := by decide +kernel
theorem dX5_add_16 : decode cX5_add 16 = .ok (.iconst (-1), 1) := by decide +kernel
theorem dX5_add_17 : decode cX5_add 17 = .ok (.ireturn, 1) := by decide +kernel
theorem dX5_add_18 : decode cX5_add 18 = .ok (.aload_n 0, 1) := by decide +kernel
theorem dX5_add_19 : decode cX5_add 19 = .ok (.getfield 30, 3) := by decide +kernel
theorem dX5_add_22 : decode cX5_add 22 = .ok (.istore 5, 2) := by decide +kernel
theorem dX5_add_24 : decode cX5_add 24 = .ok (.aload_n 0, 1) := by decide +kernel
theorem dX5_add_25 : decode cX5_add 25 = .ok (.getfield 9, 3) := by decide +kernel
theorem dX5_add_28 : decode cX5_add 28 = .ok (.iload 5, 2) := by decide +kernel
theorem dX5_add_30 : decode cX5_add 30 = .ok (.iload_n 1, 1) := by decide +kernel
theorem dX5_add_31 : decode cX5_add 31 = .ok (.iastore, 1) := by decide +kernel
theorem dX5_add_32 : decode cX5_add 32 = .ok (.aload_n 0, 1) := by decide +kernel
theorem dX5_add_33 : decode cX5_add 33 = .ok (.getfield 15, 3) := by decide +kernel
theorem dX5_add_36 : decode cX5_add 36 = .ok (.iload 5, 2) := by decide +kernel
theorem dX5_add_38 : decode cX5_add 38 = .ok (.iload_n 2, 1) := by decide +kernel
theorem dX5_add_39 : decode cX5_add 39 = .ok (.iastore, 1) := by decide +kernel
theorem dX5_add_40 : decode cX5_add 40 = .ok (.aload_n 0, 1) := by decide +kernel
theorem dX5_add_41 : decode cX5_add 41 = .ok (.getfield 18, 3) := by decide +kernel
theorem dX5_add_44 : decode cX5_add 44 = .ok (.iload 5, 2) := by decide +kernel
theorem dX5_add_46 : decode cX5_add 46 = .ok (.iload_n 3, 1) := by decide +kernel
theorem dX5_add_47 : decode cX5_add 47 = .ok (.iastore, 1) := by decide +kernel
theorem dX5_add_48 : decode cX5_add 48 = .ok (.aload_n 0, 1) := by decide +kernel
theorem dX5_add_49 : decode cX5_add 49 = .ok (.getfield 21, 3) := by decide +kernel
theorem dX5_add_52 : decode cX5_add 52 = .ok (.iload 5, 2) := by decide +kernel
theorem dX5_add_54 : decode cX5_add 54 = .ok (.iload 4, 2) := by decide +kernel
theorem dX5_add_56 : decode cX5_add 56 = .ok (.iastore, 1) := by decide +kernel
theorem dX5_add_57 : decode cX5_add 57 = .ok (.aload_n 0, 1) := by decide +kernel
theorem dX5_add_58 : decode cX5_add 58 = .ok (.dup, 1) := by decide +kernel
theorem dX5_add_59 : decode cX5_add 59 = .ok (.getfield 30, 3) := by decide +kernel
theorem dX5_add_62 : decode cX5_add 62 = .ok (.iconst 1, 1) := by decide +kernel
theorem dX5_add_63 : decode cX5_add 63 = .ok (.iadd, 1) := by decide +kernel
theorem dX5_add_64 : decode cX5_add 64 = .ok (.putfield 30, 3) := by decide +kernel
theorem dX5_add_67 : decode cX5_add 67 = .ok (.iload 5, 2) := by decide +kernel
theorem dX5_add_69 : decode cX5_add 69 = .ok (.ireturn, 1) := by decide +kernel
theorem dX5_copyFrom_0 : decode cX5_copyFrom 0 = .ok (.aload_n 1, 1) := by decide +kernel
theorem dX5_copyFrom_1 : decode cX5_copyFrom 1 = .ok (.getfield 9, 3) := by decide +kernel
theorem dX5_copyFrom_4 : decode cX5_copyFrom 4 = .ok (.iconst 0, 1) := by decide +kernel
theorem dX5_copyFrom_5 : decode cX5_copyFrom 5 = .ok (.aload_n 0, 1) := by decide +kernel
theorem dX5_copyFrom_6 : decode cX5_copyFrom 6 = .ok (.getfield 9, 3) := by decide +kernel
theorem dX5_copyFrom_9 : decode cX5_copyFrom 9 = .ok (.iconst 0, 1) := by decide +kernel
theorem dX5_copyFrom_10 : decode cX5_copyFrom 10 = .ok (.bipush 6, 2) := by decide +kernel
theorem dX5_copyFrom_12 : decode cX5_copyFrom 12 = .ok (.invokestatic 37, 3) := by decide +kernel
theorem dX5_copyFrom_15 : decode cX5_copyFrom 15 = .ok (.aload_n 1, 1) := by decide +kernel
theorem dX5_copyFrom_16 : decode cX5_copyFrom 16 = .ok (.getfield 15, 3) := by decide +kernel
theorem dX5_copyFrom_19 : decode cX5_copyFrom 19 = .ok (.iconst 0, 1) := by decide +kernel
theorem dX5_copyFrom_20 : decode cX5_copyFrom 20 = .ok (.aload_n 0, 1) := by decide +kernel
theorem dX5_copyFrom_21 : decode cX5_copyFrom 21 = .ok (.getfield 15, 3) := by decide +kernel
theorem dX5_copyFrom_24 : decode cX5_copyFrom 24 = .ok (.iconst 0, 1) := by decide +kernel
theorem dX5_copyFrom_25 : decode cX5_copyFrom 25 = .ok (.bipush 6, 2) := by decide +kernel
theorem dX5_copyFrom_27 : decode cX5_copyFrom 27 = .ok (.invokestatic 37, 3) := by decide +kernel
theorem dX5_copyFrom_30 : decode cX5_copyFrom 30 = .ok (.aload_n 1, 1) := by decide +kernel
theorem dX5_copyFrom_31 : decode cX5_copyFrom 31 = .ok (.getfield 18, 3) := by decide +kernel
theorem dX5_copyFrom_34 : decode cX5_copyFrom 34 = .ok (.iconst 0, 1) := by decide +kernel
theorem dX5_copyFrom_35 : decode cX5_copyFrom 35 = .ok (.aload_n 0, 1) := by decide +kernel
theorem dX5_copyFrom_36 : decode cX5_copyFrom 36 = .ok (.getfield 18, 3) := by decide +kernel
theorem dX5_copyFrom_39 : decode cX5_copyFrom 39 = .ok (.iconst 0, 1) := by decide +kernel
theorem dX5_copyFrom_40 : decode cX5_copyFrom 40 = .ok (.bipush 6, 2) := by decide +kernel
theorem dX5_copyFrom_42 : decode cX5_copyFrom 42 = .ok (.invokestatic 37, 3) := by decide +kernel
theorem dX5_copyFrom_45 : decode cX5_copyFrom 45 = .ok (.aload_n 1, 1) := by decide +kernel
theorem dX5_copyFrom_46 : decode cX5_copyFrom 46 = .ok (.getfield 21, 3) := by decide +kernel
theorem dX5_copyFrom_49 : decode cX5_copyFrom 49 = .ok (.iconst 0, 1) := by decide +kernel
theorem dX5_copyFrom_50 : decode cX5_copyFrom 50 = .ok (.aload_n 0, 1) := by decide +kernel
theorem dX5_copyFrom_51 : decode cX5_copyFrom 51 = .ok (.getfield 21, 3) := by decide +kernel
theorem dX5_copyFrom_54 : decode cX5_copyFrom 54 = .ok (.iconst 0, 1) := by decide +kernel
theorem dX5_copyFrom_55 : decode cX5_copyFrom 55 = .ok (.bipush 6, 2) := by decide +kernel
theorem dX5_copyFrom_57 : decode cX5_copyFrom 57 = .ok (.invokestatic 37, 3) := by decide +kernel
theorem dX5_copyFrom_60 : decode cX5_copyFrom 60 = .ok (.aload_n 1, 1) := by decide +kernel
theorem dX5_copyFrom_61 : decode cX5_copyFrom 61 = .ok (.getfield 24, 3) := by decide +kernel
theorem dX5_copyFrom_64 : decode cX5_copyFrom 64 = .ok (.iconst 0, 1) := by decide +kernel
theorem dX5_copyFrom_65 : decode cX5_copyFrom 65 = .ok (.aload_n 0, 1) := by decide +kernel
theorem dX5_copyFrom_66 : decode cX5_copyFrom 66 = .ok (.getfield 24, 3) := by decide +kernel
theorem dX5_copyFrom_69 : decode cX5_copyFrom 69 = .ok (.iconst 0, 1) := by decide +kernel
theorem dX5_copyFrom_70 : decode cX5_copyFrom 70 = .ok (.bipush 24, 2) := by decide +kernel
theorem dX5_copyFrom_72 : decode cX5_copyFrom 72 = .ok (.invokestatic 37, 3) := by decide +kernel
theorem dX5_copyFrom_75 : decode cX5_copyFrom 75 = .ok (.aload_n 0, 1) := by decide +kernel
theorem dX5_copyFrom_76 : decode cX5_copyFrom 76 = .ok (.aload_n 1, 1) := by decide +kernel
theorem dX5_copyFrom_77 : decode cX5_copyFrom 77 = .ok (.getfield 34, 3) := by decide +kernel
theorem dX5_copyFrom_80 : decode cX5_copyFrom 80 = .ok (.putfield 34, 3) := by decide +kernel
theorem dX5_copyFrom_83 : decode cX5_copyFrom 83 = .ok (.aload_n 0, 1) := by decide +kernel
theorem dX5_copyFrom_84 : decode cX5_copyFrom 84 = .ok (.aload_n 1, 1) := by decide +kernel
theorem dX5_copyFrom_85 : decode cX5_copyFrom 85 = .ok (.getfield 30, 3) := by decide +kernel
theorem dX5_copyFrom_88 : decode cX5_copyFrom 88 = .ok (.putfield 30, 3) := by decide +kernel
theorem dX5_copyFrom_91 : decode cX5_copyFrom 91 = .ok (.aload_n 0, 1) := by decide +kernel
theorem dX5_copyFrom_92 : decode cX5_copyFrom 92 = .ok (.aload_n 1, 1) := by decide +kernel
theorem dX5_copyFrom_93 : decode cX5_copyFrom 93 = .ok (.getfield 43, 3) := by decide +kernel
theorem dX5_copyFrom_96 : decode cX5_copyFrom 96 = .ok (.putfield 43, 3) := by decide +kernel
theorem dX5_copyFrom_99 : decode cX5_copyFrom 99 = .ok (.return_, 1) := by decide +kernel
theorem dX5_change_0 : decode cX5_change 0 = .ok (.aload_n 0, 1) := by decide +kernel
theorem dX5_change_1 : decode cX5_change 1 = .ok (.iload_n 1, 1) := by decide +kernel
theorem dX5_change_2 : decode cX5_change 2 = .ok (.invokevirtual 46, 3) := by decide +kernel
theorem dX5_change_5 : decode cX5_change 5 = .ok (.ifCond .ne 4, 3) := by decide +kernel
theorem dX5_change_8 : decode cX5_change 8 = .ok (.return_, 1) := by decide +kernel
theorem dX5_change_9 : decode cX5_change 9 = .ok (.iload_n 2, 1) := by decide +kernel
theorem dX5_change_10 : decode cX5_change 10 = .ok (.ifCond .ne 13, 3) := by decide +kernel
theorem dX5_change_13 : decode cX5_change 13 = .ok (.aload_n 0, 1) := by decide +kernel
theorem dX5_change_14 : decode cX5_change 14 = .ok (.getfield 18, 3) := by decide +kernel
theorem dX5_change_17 : decode cX5_change 17 = .ok (.iload_n 1, 1) := by decide +kernel
theorem dX5_change_18 : decode cX5_change 18 = .ok (.iload_n 3, 1) := by decide +kernel
theorem dX5_change_19 : decode cX5_change 19 = .ok (.iastore, 1) := by decide +kernel
theorem dX5_change_20 : decode cX5_change 20 = .ok (.goto 25, 3) := by decide +kernel
theorem dX5_change_23 : decode cX5_change 23 = .ok (.iload_n 2, 1) := by decide +kernel
theorem dX5_change_24 : decode cX5_change 24 = .ok (.iconst 1, 1) := by decide +kernel
theorem dX5_change_25 : decode cX5_change 25 = .ok (.if_icmp .ne 13, 3) := by decide +kernel
theorem dX5_change_28 : decode cX5_change 28 = .ok (.aload_n 0, 1) := by decide +kernel
theorem dX5_change_29 : decode cX5_change 29 = .ok (.getfield 21, 3) := by decide +kernel
theorem dX5_change_32 : decode cX5_change 32 = .ok (.iload_n 1, 1) := by decide +kernel
theorem dX5_change_33 : decode cX5_change 33 = .ok (.iload_n 3, 1) := by decide +kernel
theorem dX5_change_34 : decode cX5_change 34 = .ok (.iastore, 1) := by decide +kernel
theorem dX5_change_35 : decode cX5_change 35 = .ok (.goto 10, 3) := by decide +kernel
theorem dX5_change_38 : decode cX5_change 38 = .ok (.aload_n 0, 1) := by decide +kernel
theorem dX5_change_39 : decode cX5_change 39 = .ok (.getfield 15, 3) := by decide +kernel
theorem dX5_change_42 : decode cX5_change 42 = .ok (.iload_n 1, 1) := by decide +kernel
theorem dX5_change_43 : decode cX5_change 43 = .ok (.iload_n 3, 1) := by decide +kernel
theorem dX5_change_44 : decode cX5_change 44 = .ok (.iastore, 1) := by decide +kernel
theorem dX5_change_45 : decode cX5_change 45 = .ok (.return_, 1) := by decide +kernel
theorem dX5_send_0 : decode cX5_send 0 = .ok (.aload_n 0, 1) := by decide +kernel
theorem dX5_send_1 : decode cX5_send 1 = .ok (.iload_n 1, 1) := by decide +kernel
theorem dX5_send_2 : decode cX5_send 2 = .ok (.invokevirtual 46, 3) := by decide +kernel
theorem dX5_send_5 : decode cX5_send 5 = .ok (.ifCond .eq 32, 3) := by decide +kernel
theorem dX5_send_8 : decode cX5_send 8 = .ok (.aload_n 0, 1) := by decide +kernel
theorem dX5_send_9 : decode cX5_send 9 = .ok (.iload_n 2, 1) := by decide +kernel
theorem dX5_send_10 : decode cX5_send 10 = .ok (.ifCond .eq 14, 3) := by decide +kernel
theorem dX5_send_13 : decode cX5_send 13 = .ok (.aload_n 0, 1) := by decide +kernel
theorem dX5_send_14 : decode cX5_send 14 = .ok (.getfield 34, 3) := by decide +kernel
theorem dX5_send_17 : decode cX5_send 17 = .ok (.iconst 1, 1) := by decide +kernel
theorem dX5_send_18 : decode cX5_send 18 = .ok (.iload_n 1, 1) := by decide +kernel
theorem dX5_send_19 : decode cX5_send 19 = .ok (.ishl, 1) := by decide +kernel
theorem dX5_send_20 : decode cX5_send 20 = .ok (.ior, 1) := by decide +kernel
theorem dX5_send_21 : decode cX5_send 21 = .ok (.goto 13, 3) := by decide +kernel
theorem dX5_send_24 : decode cX5_send 24 = .ok (.aload_n 0, 1) := by decide +kernel
theorem dX5_send_25 : decode cX5_send 25 = .ok (.getfield 34, 3) := by decide +kernel
theorem dX5_send_28 : decode cX5_send 28 = .ok (.iconst 1, 1) := by decide +kernel
theorem dX5_send_29 : decode cX5_send 29 = .ok (.iload_n 1, 1) := by decide +kernel
theorem dX5_send_30 : decode cX5_send 30 = .ok (.ishl, 1) := by decide +kernel
theorem dX5_send_31 : decode cX5_send 31 = .ok (.iconst (-1), 1) := by decide +kernel
theorem dX5_send_32 : decode cX5_send 32 = .ok (.ixor, 1) := by decide +kernel
theorem dX5_send_33 : decode cX5_send 33 = .ok (.iand, 1) := by decide +kernel
theorem dX5_send_34 : decode cX5_send 34 = .ok (.putfield 34, 3) := by decide +kernel
theorem dX5_send_37 : decode cX5_send 37 = .ok (.return_, 1) := by decide +kernel
theorem dX5_apart_0 : decode cX5_apart 0 = .ok (.iload_n 1, 1) := by decide +kernel
theorem dX5_apart_1 : decode cX5_apart 1 = .ok (.ifCond .lt 25, 3) := by decide +kernel
theorem dX5_apart_4 : decode cX5_apart 4 = .ok (.iload_n 2, 1) := by decide +kernel
theorem dX5_apart_5 : decode cX5_apart 5 = .ok (.ifCond .lt 21, 3) := by decide +kernel
theorem dX5_apart_8 : decode cX5_apart 8 = .ok (.iload_n 1, 1) := by decide +kernel
theorem dX5_apart_9 : decode cX5_apart 9 = .ok (.aload_n 0, 1) := by decide +kernel
theorem dX5_apart_10 : decode cX5_apart 10 = .ok (.getfield 18, 3) := by decide +kernel
theorem dX5_apart_13 : decode cX5_apart 13 = .ok (.arraylength, 1) := by decide +kernel
theorem dX5_apart_14 : decode cX5_apart 14 = .ok (.if_icmp .ge 12, 3) := by decide +kernel
theorem dX5_apart_17 : decode cX5_apart 17 = .ok (.iload_n 2, 1) := by decide +kernel
theorem dX5_apart_18 : decode cX5_apart 18 = .ok (.aload_n 0, 1) := by decide +kernel
theorem dX5_apart_19 : decode cX5_apart 19 = .ok (.getfield 18, 3) := by decide +kernel
theorem dX5_apart_22 : decode cX5_apart 22 = .ok (.arraylength, 1) := by decide +kernel
theorem dX5_apart_23 : decode cX5_apart 23 = .ok (.if_icmp .lt 5, 3) := by decide +kernel
theorem dX5_apart_26 : decode cX5_apart 26 = .ok (.iconst 0, 1) := by decide +kernel
theorem dX5_apart_27 : decode cX5_apart 27 = .ok (.ireturn, 1) := by decide +kernel
theorem dX5_apart_28 : decode cX5_apart 28 = .ok (.aload_n 0, 1) := by decide +kernel
theorem dX5_apart_29 : decode cX5_apart 29 = .ok (.getfield 18, 3) := by decide +kernel
theorem dX5_apart_32 : decode cX5_apart 32 = .ok (.iload_n 1, 1) := by decide +kernel
theorem dX5_apart_33 : decode cX5_apart 33 = .ok (.iaload, 1) := by decide +kernel
theorem dX5_apart_34 : decode cX5_apart 34 = .ok (.aload_n 0, 1) := by decide +kernel
theorem dX5_apart_35 : decode cX5_apart 35 = .ok (.getfield 18, 3) := by decide +kernel
theorem dX5_apart_38 : decode cX5_apart 38 = .ok (.iload_n 2, 1) := by decide +kernel
theorem dX5_apart_39 : decode cX5_apart 39 = .ok (.iaload, 1) := by decide +kernel
theorem dX5_apart_40 : decode cX5_apart 40 = .ok (.isub, 1) := by decide +kernel
theorem dX5_apart_41 : decode cX5_apart 41 = .ok (.istore_n 3, 1) := by decide +kernel
theorem dX5_apart_42 : decode cX5_apart 42 = .ok (.iload_n 3, 1) := by decide +kernel
theorem dX5_apart_43 : decode cX5_apart 43 = .ok (.ifCond .ge 8, 3) := by decide +kernel
theorem dX5_apart_46 : decode cX5_apart 46 = .ok (.iload_n 3, 1) := by decide +kernel
theorem dX5_apart_47 : decode cX5_apart 47 = .ok (.ineg, 1) := by decide +kernel
theorem dX5_apart_48 : decode cX5_apart 48 = .ok (.goto 4, 3) := by decide +kernel
theorem dX5_apart_51 : decode cX5_apart 51 = .ok (.iload_n 3, 1) := by decide +kernel
theorem dX5_apart_52 : decode cX5_apart 52 = .ok (.ireturn, 1) := by decide +kernel
theorem dX5_nextOf_0 : decode cX5_nextOf 0 = .ok (.aload_n 0, 1) := by decide +kernel
theorem dX5_nextOf_1 : decode cX5_nextOf 1 = .ok (.iload_n 1, 1) := by decide +kernel
theorem dX5_nextOf_2 : decode cX5_nextOf 2 = .ok (.invokevirtual 46, 3) := by decide +kernel
theorem dX5_nextOf_5 : decode cX5_nextOf 5 = .ok (.ifCond .ne 5, 3) := by decide +kernel
theorem dX5_nextOf_8 : decode cX5_nextOf 8 = .ok (.iconst 0, 1) := by decide +kernel
theorem dX5_nextOf_9 : decode cX5_nextOf 9 = .ok (.ireturn, 1) := by decide +kernel
theorem dX5_nextOf_10 : decode cX5_nextOf 10 = .ok (.aload_n 0, 1) := by decide +kernel
theorem dX5_nextOf_11 : decode cX5_nextOf 11 = .ok (.getfield 21, 3) := by decide +kernel
theorem dX5_nextOf_14 : decode cX5_nextOf 14 = .ok (.iload_n 1, 1) := by decide +kernel
theorem dX5_nextOf_15 : decode cX5_nextOf 15 = .ok (.iaload, 1) := by decide +kernel
theorem dX5_nextOf_16 : decode cX5_nextOf 16 = .ok (.istore_n 3, 1) := by decide +kernel
theorem dX5_nextOf_17 : decode cX5_nextOf 17 = .ok (.aload_n 0, 1) := by decide +kernel
theorem dX5_nextOf_18 : decode cX5_nextOf 18 = .ok (.iload_n 2, 1) := by decide +kernel
theorem dX5_nextOf_19 : decode cX5_nextOf 19 = .ok (.invokevirtual 46, 3) := by decide +kernel
theorem dX5_nextOf_22 : decode cX5_nextOf 22 = .ok (.ifCond .ne 5, 3) := by decide +kernel
theorem dX5_nextOf_25 : decode cX5_nextOf 25 = .ok (.iload_n 3, 1) := by decide +kernel
theorem dX5_nextOf_26 : decode cX5_nextOf 26 = .ok (.ireturn, 1) := by decide +kernel
theorem dX5_nextOf_27 : decode cX5_nextOf 27 = .ok (.aload_n 0, 1) := by decide +kernel
theorem dX5_nextOf_28 : decode cX5_nextOf 28 = .ok (.getfield 21, 3) := by decide +kernel
theorem dX5_nextOf_31 : decode cX5_nextOf 31 = .ok (.iload_n 2, 1) := by decide +kernel
theorem dX5_nextOf_32 : decode cX5_nextOf 32 = .ok (.iaload, 1) := by decide +kernel
theorem dX5_nextOf_33 : decode cX5_nextOf 33 = .ok (.istore 4, 2) := by decide +kernel
theorem dX5_nextOf_35 : decode cX5_nextOf 35 = .ok (.iload 4, 2) := by decide +kernel
theorem dX5_nextOf_37 : decode cX5_nextOf 37 = .ok (.iload_n 3, 1) := by decide +kernel
theorem dX5_nextOf_38 : decode cX5_nextOf 38 = .ok (.if_icmp .le 8, 3) := by decide +kernel
theorem dX5_nextOf_41 : decode cX5_nextOf 41 = .ok (.iload 4, 2) := by decide +kernel
theorem dX5_nextOf_43 : decode cX5_nextOf 43 = .ok (.goto 4, 3) := by decide +kernel
theorem dX5_nextOf_46 : decode cX5_nextOf 46 = .ok (.iload_n 3, 1) := by decide +kernel
theorem dX5_nextOf_47 : decode cX5_nextOf 47 = .ok (.istore 5, 2) := by decide +kernel
theorem dX5_nextOf_49 : decode cX5_nextOf 49 = .ok (.aload_n 0, 1) := by decide +kernel
theorem dX5_nextOf_50 : decode cX5_nextOf 50 = .ok (.getfield 43, 3) := by decide +kernel
theorem dX5_nextOf_53 : decode cX5_nextOf 53 = .ok (.iconst 2, 1) := by decide +kernel
theorem dX5_nextOf_54 : decode cX5_nextOf 54 = .ok (.irem, 1) := by decide +kernel
theorem dX5_nextOf_55 : decode cX5_nextOf 55 = .ok (.ifCond .ne 7, 3) := by decide +kernel
theorem dX5_nextOf_58 : decode cX5_nextOf 58 = .ok (.iconst 1, 1) := by decide +kernel
theorem dX5_nextOf_59 : decode cX5_nextOf 59 = .ok (.goto 4, 3) := by decide +kernel
theorem dX5_nextOf_62 : decode cX5_nextOf 62 = .ok (.iconst 0, 1) := by decide +kernel
theorem dX5_nextOf_63 : decode cX5_nextOf 63 = .ok (.istore 6, 2) := by decide +kernel
theorem dX5_nextOf_65 : decode cX5_nextOf 65 = .ok (.aload_n 0, 1) := by decide +kernel
theorem dX5_nextOf_66 : decode cX5_nextOf 66 = .ok (.getfield 9, 3) := by decide +kernel
theorem dX5_nextOf_69 : decode cX5_nextOf 69 = .ok (.iload_n 1, 1) := by decide +kernel
theorem dX5_nextOf_70 : decode cX5_nextOf 70 = .ok (.iaload, 1) := by decide +kernel
theorem dX5_nextOf_71 : decode cX5_nextOf 71 = .ok (.tableswitch 138 1 6 #[37, 40, 52, 59, 85, 112], 37) := by decide +kernel
theorem dX5_nextOf_108 : decode cX5_nextOf 108 = .ok (.iload 5, 2) := by decide +kernel
theorem dX5_nextOf_110 : decode cX5_nextOf 110 = .ok (.ireturn, 1) := by decide +kernel
theorem dX5_nextOf_111 : decode cX5_nextOf 111 = .ok (.iload 6, 2) := by decide +kernel
theorem dX5_nextOf_113 : decode cX5_nextOf 113 = .ok (.ifCond .eq 8, 3) := by decide +kernel
theorem dX5_nextOf_116 : decode cX5_nextOf 116 = .ok (.iload 4, 2) := by decide +kernel
theorem dX5_nextOf_118 : decode cX5_nextOf 118 = .ok (.goto 4, 3) := by decide +kernel
theorem dX5_nextOf_121 : decode cX5_nextOf 121 = .ok (.iload_n 3, 1) := by decide +kernel
theorem dX5_nextOf_122 : decode cX5_nextOf 122 = .ok (.ireturn, 1) := by decide +kernel
theorem dX5_nextOf_123 : decode cX5_nextOf 123 = .ok (.iload 4, 2) := by decide +kernel
theorem dX5_nextOf_125 : decode cX5_nextOf 125 = .ok (.iload_n 3, 1) := by decide +kernel
theorem dX5_nextOf_126 : decode cX5_nextOf 126 = .ok (.iadd, 1) := by decide +kernel
theorem dX5_nextOf_127 : decode cX5_nextOf 127 = .ok (.iconst 2, 1) := by decide +kernel
theorem dX5_nextOf_128 : decode cX5_nextOf 128 = .ok (.idiv, 1) := by decide +kernel
theorem dX5_nextOf_129 : decode cX5_nextOf 129 = .ok (.ireturn, 1) := by decide +kernel
theorem dX5_nextOf_130 : decode cX5_nextOf 130 = .ok (.aload_n 0, 1) := by decide +kernel
theorem dX5_nextOf_131 : decode cX5_nextOf 131 = .ok (.getfield 43, 3) := by decide +kernel
theorem dX5_nextOf_134 : decode cX5_nextOf 134 = .ok (.iconst 5, 1) := by decide +kernel
theorem dX5_nextOf_135 : decode cX5_nextOf 135 = .ok (.irem, 1) := by decide +kernel
theorem dX5_nextOf_136 : decode cX5_nextOf 136 = .ok (.ifCond .ne 17, 3) := by decide +kernel
theorem dX5_nextOf_139 : decode cX5_nextOf 139 = .ok (.iload 5, 2) := by decide +kernel
theorem dX5_nextOf_141 : decode cX5_nextOf 141 = .ok (.bipush 9, 2) := by decide +kernel
theorem dX5_nextOf_143 : decode cX5_nextOf 143 = .ok (.if_icmp .ge 10, 3) := by decide +kernel
theorem dX5_nextOf_146 : decode cX5_nextOf 146 = .ok (.iload 5, 2) := by decide +kernel
theorem dX5_nextOf_148 : decode cX5_nextOf 148 = .ok (.iconst 1, 1) := by decide +kernel
theorem dX5_nextOf_149 : decode cX5_nextOf 149 = .ok (.iadd, 1) := by decide +kernel
theorem dX5_nextOf_150 : decode cX5_nextOf 150 = .ok (.goto 5, 3) := by decide +kernel
theorem dX5_nextOf_153 : decode cX5_nextOf 153 = .ok (.iload 5, 2) := by decide +kernel
theorem dX5_nextOf_155 : decode cX5_nextOf 155 = .ok (.ireturn, 1) := by decide +kernel
theorem dX5_nextOf_156 : decode cX5_nextOf 156 = .ok (.iload 6, 2) := by decide +kernel
theorem dX5_nextOf_158 : decode cX5_nextOf 158 = .ok (.ifCond .eq 23, 3) := by decide +kernel
theorem dX5_nextOf_161 : decode cX5_nextOf 161 = .ok (.aload_n 0, 1) := by decide +kernel
theorem dX5_nextOf_162 : decode cX5_nextOf 162 = .ok (.iload_n 1, 1) := by decide +kernel
theorem dX5_nextOf_163 : decode cX5_nextOf 163 = .ok (.iload_n 2, 1) := by decide +kernel
theorem dX5_nextOf_164 : decode cX5_nextOf 164 = .ok (.invokevirtual 50, 3) := by decide +kernel
theorem dX5_nextOf_167 : decode cX5_nextOf 167 = .ok (.aload_n 0, 1) := by decide +kernel
theorem dX5_nextOf_168 : decode cX5_nextOf 168 = .ok (.getfield 15, 3) := by decide +kernel
theorem dX5_nextOf_171 : decode cX5_nextOf 171 = .ok (.iload_n 1, 1) := by decide +kernel
theorem dX5_nextOf_172 : decode cX5_nextOf 172 = .ok (.iaload, 1) := by decide +kernel
theorem dX5_nextOf_173 : decode cX5_nextOf 173 = .ok (.if_icmp .gt 8, 3) := by decide +kernel
theorem dX5_nextOf_176 : decode cX5_nextOf 176 = .ok (.iload 4, 2) := by decide +kernel
theorem dX5_nextOf_178 : decode cX5_nextOf 178 = .ok (.goto 4, 3) := by decide +kernel
theorem dX5_nextOf_181 : decode cX5_nextOf 181 = .ok (.iload_n 3, 1) := by decide +kernel
theorem dX5_nextOf_182 : decode cX5_nextOf 182 = .ok (.ireturn, 1) := by decide +kernel
theorem dX5_nextOf_183 : decode cX5_nextOf 183 = .ok (.iload 4, 2) := by decide +kernel
theorem dX5_nextOf_185 : decode cX5_nextOf 185 = .ok (.iload_n 3, 1) := by decide +kernel
theorem dX5_nextOf_186 : decode cX5_nextOf 186 = .ok (.iadd, 1) := by decide +kernel
theorem dX5_nextOf_187 : decode cX5_nextOf 187 = .ok (.iconst 2, 1) := by decide +kernel
theorem dX5_nextOf_188 : decode cX5_nextOf 188 = .ok (.idiv, 1) := by decide +kernel
theorem dX5_nextOf_189 : decode cX5_nextOf 189 = .ok (.aload_n 0, 1) := by decide +kernel
theorem dX5_nextOf_190 : decode cX5_nextOf 190 = .ok (.getfield 24, 3) := by decide +kernel
theorem dX5_nextOf_193 : decode cX5_nextOf 193 = .ok (.iload_n 1, 1) := by decide +kernel
theorem dX5_nextOf_194 : decode cX5_nextOf 194 = .ok (.iconst 4, 1) := by decide +kernel
theorem dX5_nextOf_195 : decode cX5_nextOf 195 = .ok (.imul, 1) := by decide +kernel
theorem dX5_nextOf_196 : decode cX5_nextOf 196 = .ok (.aload_n 0, 1) := by decide +kernel
theorem dX5_nextOf_197 : decode cX5_nextOf 197 = .ok (.getfield 43, 3) := by decide +kernel
theorem dX5_nextOf_200 : decode cX5_nextOf 200 = .ok (.iconst 4, 1) := by decide +kernel
theorem dX5_nextOf_201 : decode cX5_nextOf 201 = .ok (.irem, 1) := by decide +kernel
theorem dX5_nextOf_202 : decode cX5_nextOf 202 = .ok (.iadd, 1) := by decide +kernel
theorem dX5_nextOf_203 : decode cX5_nextOf 203 = .ok (.iaload, 1) := by decide +kernel
theorem dX5_nextOf_204 : decode cX5_nextOf 204 = .ok (.iadd, 1) := by decide +kernel
theorem dX5_nextOf_205 : decode cX5_nextOf 205 = .ok (.bipush 10, 2) := by decide +kernel
theorem dX5_nextOf_207 : decode cX5_nextOf 207 = .ok (.irem, 1) := by decide +kernel
theorem dX5_nextOf_208 : decode cX5_nextOf 208 = .ok (.ireturn, 1) := by decide +kernel
theorem dX5_nextOf_209 : decode cX5_nextOf 209 = .ok (.iload 4, 2) := by decide +kernel
theorem dX5_nextOf_211 : decode cX5_nextOf 211 = .ok (.ireturn, 1) := by decide +kernel
theorem dX5_goOneStep_0 : decode cX5_goOneStep 0 = .ok (.iconst 0, 1) := by decide +kernel
theorem dX5_goOneStep_1 : decode cX5_goOneStep 1 = .ok (.istore_n 2, 1) := by decide +kernel
theorem dX5_goOneStep_2 : decode cX5_goOneStep 2 = .ok (.iload_n 2, 1) := by decide +kernel
theorem dX5_goOneStep_3 : decode cX5_goOneStep 3 = .ok (.aload_n 0, 1) := by decide +kernel
theorem dX5_goOneStep_4 : decode cX5_goOneStep 4 = .ok (.getfield 30, 3) := by decide +kernel
theorem dX5_goOneStep_7 : decode cX5_goOneStep 7 = .ok (.if_icmp .ge 32, 3) := by decide +kernel
theorem dX5_goOneStep_10 : decode cX5_goOneStep 10 = .ok (.iload_n 2, 1) := by decide +kernel
theorem dX5_goOneStep_11 : decode cX5_goOneStep 11 = .ok (.bipush 6, 2) := by decide +kernel
theorem dX5_goOneStep_13 : decode cX5_goOneStep 13 = .ok (.if_icmp .ge 26, 3) := by decide +kernel
theorem dX5_goOneStep_16 : decode cX5_goOneStep 16 = .ok (.aload_n 0, 1) := by decide +kernel
theorem dX5_goOneStep_17 : decode cX5_goOneStep 17 = .ok (.getfield 27, 3) := by decide +kernel
theorem dX5_goOneStep_20 : decode cX5_goOneStep 20 = .ok (.iload_n 2, 1) := by decide +kernel
theorem dX5_goOneStep_21 : decode cX5_goOneStep 21 = .ok (.aload_n 0, 1) := by decide +kernel
theorem dX5_goOneStep_22 : decode cX5_goOneStep 22 = .ok (.iload_n 2, 1) := by decide +kernel
theorem dX5_goOneStep_23 : decode cX5_goOneStep 23 = .ok (.aload_n 1, 1) := by decide +kernel
theorem dX5_goOneStep_24 : decode cX5_goOneStep 24 = .ok (.aload_n 0, 1) := by decide +kernel
theorem dX5_goOneStep_25 : decode cX5_goOneStep 25 = .ok (.iload_n 2, 1) := by decide +kernel
theorem dX5_goOneStep_26 : decode cX5_goOneStep 26 = .ok (.invokevirtual 54, 3) := by decide +kernel
theorem dX5_goOneStep_29 : decode cX5_goOneStep 29 = .ok (.invokevirtual 60, 3) := by decide +kernel
theorem dX5_goOneStep_32 : decode cX5_goOneStep 32 = .ok (.iastore, 1) := by decide +kernel
theorem dX5_goOneStep_33 : decode cX5_goOneStep 33 = .ok (.iinc 2 1, 3) := by decide +kernel
theorem dX5_goOneStep_36 : decode cX5_goOneStep 36 = .ok (.goto (-34), 3) := by decide +kernel
theorem dX5_goOneStep_39 : decode cX5_goOneStep 39 = .ok (.aload_n 0, 1) := by decide +kernel
theorem dX5_goOneStep_40 : decode cX5_goOneStep 40 = .ok (.getfield 27, 3) := by decide +kernel
theorem dX5_goOneStep_43 : decode cX5_goOneStep 43 = .ok (.iconst 0, 1) := by decide +kernel
theorem dX5_goOneStep_44 : decode cX5_goOneStep 44 = .ok (.aload_n 0, 1) := by decide +kernel
theorem dX5_goOneStep_45 : decode cX5_goOneStep 45 = .ok (.getfield 21, 3) := by decide +kernel
theorem dX5_goOneStep_48 : decode cX5_goOneStep 48 = .ok (.iconst 0, 1) := by decide +kernel
theorem dX5_goOneStep_49 : decode cX5_goOneStep 49 = .ok (.bipush 6, 2) := by decide +kernel
theorem dX5_goOneStep_51 : decode cX5_goOneStep 51 = .ok (.invokestatic 37, 3) := by decide +kernel
theorem dX5_goOneStep_54 : decode cX5_goOneStep 54 = .ok (.aload_n 0, 1) := by decide +kernel
theorem dX5_goOneStep_55 : decode cX5_goOneStep 55 = .ok (.dup, 1) := by decide +kernel
theorem dX5_goOneStep_56 : decode cX5_goOneStep 56 = .ok (.getfield 43, 3) := by decide +kernel
theorem dX5_goOneStep_59 : decode cX5_goOneStep 59 = .ok (.iconst 1, 1) := by decide +kernel
theorem dX5_goOneStep_60 : decode cX5_goOneStep 60 = .ok (.iadd, 1) := by decide +kernel
theorem dX5_goOneStep_61 : decode cX5_goOneStep 61 = .ok (.putfield 43, 3) := by decide +kernel
theorem dX5_goOneStep_64 : decode cX5_goOneStep 64 = .ok (.return_, 1) := by decide +kernel
theorem dX5_unlikeStates_0 : decode cX5_unlikeStates 0 = .ok (.iconst 0, 1) := by decide +kernel
theorem dX5_unlikeStates_1 : decode cX5_unlikeStates 1 = .ok (.istore_n 1, 1) := by decide +kernel
theorem dX5_unlikeStates_2 : decode cX5_unlikeStates 2 = .ok (.iconst 0, 1) := by decide +kernel
theorem dX5_unlikeStates_3 : decode cX5_unlikeStates 3 = .ok (.istore_n 2, 1) := by decide +kernel
theorem dX5_unlikeStates_4 : decode cX5_unlikeStates 4 = .ok (.iload_n 2, 1) := by decide +kernel
theorem dX5_unlikeStates_5 : decode cX5_unlikeStates 5 = .ok (.aload_n 0, 1) := by decide +kernel
theorem dX5_unlikeStates_6 : decode cX5_unlikeStates 6 = .ok (.getfield 30, 3) := by decide +kernel
theorem dX5_unlikeStates_9 : decode cX5_unlikeStates 9 = .ok (.if_icmp .ge 38, 3) := by decide +kernel
theorem dX5_unlikeStates_12 : decode cX5_unlikeStates 12 = .ok (.iload_n 2, 1) := by decide +kernel
theorem dX5_unlikeStates_13 : decode cX5_unlikeStates 13 = .ok (.bipush 6, 2) := by decide +kernel
theorem dX5_unlikeStates_15 : decode cX5_unlikeStates 15 = .ok (.if_icmp .ge 32, 3) := by decide +kernel
theorem dX5_unlikeStates_18 : decode cX5_unlikeStates 18 = .ok (.iload_n 1, 1) := by decide +kernel
theorem dX5_unlikeStates_19 : decode cX5_unlikeStates 19 = .ok (.aload_n 0, 1) := by decide +kernel
theorem dX5_unlikeStates_20 : decode cX5_unlikeStates 20 = .ok (.iload_n 2, 1) := by decide +kernel
theorem dX5_unlikeStates_21 : decode cX5_unlikeStates 21 = .ok (.invokevirtual 63, 3) := by decide +kernel
theorem dX5_unlikeStates_24 : decode cX5_unlikeStates 24 = .ok (.ifCond .eq 7, 3) := by decide +kernel
theorem dX5_unlikeStates_27 : decode cX5_unlikeStates 27 = .ok (.iconst 0, 1) := by decide +kernel
theorem dX5_unlikeStates_28 : decode cX5_unlikeStates 28 = .ok (.goto 11, 3) := by decide +kernel
theorem dX5_unlikeStates_31 : decode cX5_unlikeStates 31 = .ok (.iconst 1, 1) := by decide +kernel
theorem dX5_unlikeStates_32 : decode cX5_unlikeStates 32 = .ok (.aload_n 0, 1) := by decide +kernel
theorem dX5_unlikeStates_33 : decode cX5_unlikeStates 33 = .ok (.getfield 21, 3) := by decide +kernel
theorem dX5_unlikeStates_36 : decode cX5_unlikeStates 36 = .ok (.iload_n 2, 1) := by decide +kernel
theorem dX5_unlikeStates_37 : decode cX5_unlikeStates 37 = .ok (.iaload, 1) := by decide +kernel
theorem dX5_unlikeStates_38 : decode cX5_unlikeStates 38 = .ok (.ishl, 1) := by decide +kernel
theorem dX5_unlikeStates_39 : decode cX5_unlikeStates 39 = .ok (.ior, 1) := by decide +kernel
theorem dX5_unlikeStates_40 : decode cX5_unlikeStates 40 = .ok (.istore_n 1, 1) := by decide +kernel
theorem dX5_unlikeStates_41 : decode cX5_unlikeStates 41 = .ok (.iinc 2 1, 3) := by decide +kernel
theorem dX5_unlikeStates_44 : decode cX5_unlikeStates 44 = .ok (.goto (-40), 3) := by decide +kernel
theorem dX5_unlikeStates_47 : decode cX5_unlikeStates 47 = .ok (.iload_n 1, 1) := by decide +kernel
theorem dX5_unlikeStates_48 : decode cX5_unlikeStates 48 = .ok (.invokestatic 66, 3) := by decide +kernel
theorem dX5_unlikeStates_51 : decode cX5_unlikeStates 51 = .ok (.ireturn, 1) := by decide +kernel
theorem dX5_present_0 : decode cX5_present 0 = .ok (.aload_n 0, 1) := by decide +kernel
theorem dX5_present_1 : decode cX5_present 1 = .ok (.getfield 30, 3) := by decide +kernel
theorem dX5_present_4 : decode cX5_present 4 = .ok (.aload_n 0, 1) := by decide +kernel
theorem dX5_present_5 : decode cX5_present 5 = .ok (.getfield 34, 3) := by decide +kernel
theorem dX5_present_8 : decode cX5_present 8 = .ok (.invokestatic 66, 3) := by decide +kernel
theorem dX5_present_11 : decode cX5_present 11 = .ok (.isub, 1) := by decide +kernel
theorem dX5_present_12 : decode cX5_present 12 = .ok (.ireturn, 1) := by decide +kernel
theorem dX5_sumOfStates_0 : decode cX5_sumOfStates 0 = .ok (.iconst 0, 1) := by decide +kernel
theorem dX5_sumOfStates_1 : decode cX5_sumOfStates 1 = .ok (.istore_n 2, 1) := by decide +kernel
theorem dX5_sumOfStates_2 : decode cX5_sumOfStates 2 = .ok (.iconst 0, 1) := by decide +kernel
theorem dX5_sumOfStates_3 : decode cX5_sumOfStates 3 = .ok (.istore_n 3, 1) := by decide +kernel
theorem dX5_sumOfStates_4 : decode cX5_sumOfStates 4 = .ok (.iload_n 3, 1) := by decide +kernel
theorem dX5_sumOfStates_5 : decode cX5_sumOfStates 5 = .ok (.aload_n 0, 1) := by decide +kernel
theorem dX5_sumOfStates_6 : decode cX5_sumOfStates 6 = .ok (.getfield 30, 3) := by decide +kernel
theorem dX5_sumOfStates_9 : decode cX5_sumOfStates 9 = .ok (.if_icmp .ge 40, 3) := by decide +kernel
theorem dX5_sumOfStates_12 : decode cX5_sumOfStates 12 = .ok (.iload_n 3, 1) := by decide +kernel
theorem dX5_sumOfStates_13 : decode cX5_sumOfStates 13 = .ok (.bipush 6, 2) := by decide +kernel
theorem dX5_sumOfStates_15 : decode cX5_sumOfStates 15 = .ok (.if_icmp .ge 34, 3) := by decide +kernel
theorem dX5_sumOfStates_18 : decode cX5_sumOfStates 18 = .ok (.iload_n 2, 1) := by decide +kernel
theorem dX5_sumOfStates_19 : decode cX5_sumOfStates 19 = .ok (.iload_n 1, 1) := by decide +kernel
theorem dX5_sumOfStates_20 : decode cX5_sumOfStates 20 = .ok (.ifCond .ne 11, 3) := by decide +kernel
theorem dX5_sumOfStates_23 : decode cX5_sumOfStates 23 = .ok (.aload_n 0, 1) := by decide +kernel
theorem dX5_sumOfStates_24 : decode cX5_sumOfStates 24 = .ok (.iload_n 3, 1) := by decide +kernel
theorem dX5_sumOfStates_25 : decode cX5_sumOfStates 25 = .ok (.invokevirtual 63, 3) := by decide +kernel
theorem dX5_sumOfStates_28 : decode cX5_sumOfStates 28 = .ok (.ifCond .ne 12, 3) := by decide +kernel
theorem dX5_sumOfStates_31 : decode cX5_sumOfStates 31 = .ok (.aload_n 0, 1) := by decide +kernel
theorem dX5_sumOfStates_32 : decode cX5_sumOfStates 32 = .ok (.getfield 21, 3) := by decide +kernel
theorem dX5_sumOfStates_35 : decode cX5_sumOfStates 35 = .ok (.iload_n 3, 1) := by decide +kernel
theorem dX5_sumOfStates_36 : decode cX5_sumOfStates 36 = .ok (.iaload, 1) := by decide +kernel
theorem dX5_sumOfStates_37 : decode cX5_sumOfStates 37 = .ok (.goto 4, 3) := by decide +kernel
theorem dX5_sumOfStates_40 : decode cX5_sumOfStates 40 = .ok (.iconst 0, 1) := by decide +kernel
theorem dX5_sumOfStates_41 : decode cX5_sumOfStates 41 = .ok (.iadd, 1) := by decide +kernel
theorem dX5_sumOfStates_42 : decode cX5_sumOfStates 42 = .ok (.istore_n 2, 1) := by decide +kernel
theorem dX5_sumOfStates_43 : decode cX5_sumOfStates 43 = .ok (.iinc 3 1, 3) := by decide +kernel
theorem dX5_sumOfStates_46 : decode cX5_sumOfStates 46 = .ok (.goto (-42), 3) := by decide +kernel
theorem dX5_sumOfStates_49 : decode cX5_sumOfStates 49 = .ok (.iload_n 2, 1) := by decide +kernel
theorem dX5_sumOfStates_50 : decode cX5_sumOfStates 50 = .ok (.ireturn, 1) := by decide +kernel
theorem dX6_init_0 : decode cX6_init 0 = .ok (.aload_n 0, 1) := by decide +kernel
theorem dX6_init_1 : decode cX6_init 1 = .ok (.invokespecial 3, 3) := by decide +kernel
theorem dX6_init_4 : decode cX6_init 4 = .ok (.aload_n 0, 1) := by decide +kernel
theorem dX6_init_5 : decode cX6_init 5 = .ok (.bipush 100, 2) := by decide +kernel
theorem dX6_init_7 : decode cX6_init 7 = .ok (.newarray .int, 2) := by decide +kernel
theorem dX6_init_9 : decode cX6_init 9 = .ok (.putfield 9, 3) := by decide +kernel
theorem dX6_init_12 : decode cX6_init 12 = .ok (.return_, 1) := by decide +kernel
theorem dX6_add_0 : decode cX6_add 0 = .ok (.aload_n 0, 1) := by decide +kernel
theorem dX6_add_1 : decode cX6_add 1 = .ok (.getfield 15, 3) := by decide +kernel
theorem dX6_add_4 : decode cX6_add 4 = .ok (.ifCond .lt 15, 3) := by decide +kernel
theorem dX6_add_7 : decode cX6_add 7 = .ok (.aload_n 0, 1) := by decide +kernel
theorem dX6_add_8 : decode cX6_add 8 = .ok (.getfield 15, 3) := by decide +kernel
theorem dX6_add_11 : decode cX6_add 11 = .ok (.aload_n 0, 1) := by decide +kernel
theorem dX6_add_12 : decode cX6_add 12 = .ok (.getfield 9, 3) := by decide +kernel
theorem dX6_add_15 : decode cX6_add 15 = .ok (.arraylength, 1) := by decide +kernel
theorem dX6_add_16 : decode cX6_add 16 = .ok (.if_icmp .lt 5, 3) := by decide +kernel
theorem dX6_add_19 : decode cX6_add 19 = .ok (.iconst 0, 1) := by decide +kernel
theorem dX6_add_20 : decode cX6_add 20 = .ok (.ireturn, 1) := by decide +kernel
theorem dX6_add_21 : decode cX6_add 21 = .ok (.aload_n 0, 1) := by decide +kernel
theorem dX6_add_22 : decode cX6_add 22 = .ok (.getfield 9, 3) := by decide +kernel
theorem dX6_add_25 : decode cX6_add 25 = .ok (.aload_n 0, 1) := by decide +kernel
theorem dX6_add_26 : decode cX6_add 26 = .ok (.getfield 15, 3) := by decide +kernel
theorem dX6_add_29 : decode cX6_add 29 = .ok (.iload_n 1, 1) := by decide +kernel
theorem dX6_add_30 : decode cX6_add 30 = .ok (.iastore, 1) := by decide +kernel
theorem dX6_add_31 : decode cX6_add 31 = .ok (.aload_n 0, 1) := by decide +kernel
theorem dX6_add_32 : decode cX6_add 32 = .ok (.dup, 1) := by decide +kernel
theorem dX6_add_33 : decode cX6_add 33 = .ok (.getfield 15, 3) := by decide +kernel
theorem dX6_add_36 : decode cX6_add 36 = .ok (.iconst 1, 1) := by decide +kernel
theorem dX6_add_37 : decode cX6_add 37 = .ok (.iadd, 1) := by decide +kernel
theorem dX6_add_38 : decode cX6_add 38 = .ok (.putfield 15, 3) := by decide +kernel
theorem dX6_add_41 : decode cX6_add 41 = .ok (.iconst 1, 1) := by decide +kernel
theorem dX6_add_42 : decode cX6_add 42 = .ok (.ireturn, 1) := by decide +kernel
theorem dX6_copyFrom_0 : decode cX6_copyFrom 0 = .ok (.aload_n 1, 1) := by decide +kernel
theorem dX6_copyFrom_1 : decode cX6_copyFrom 1 = .ok (.getfield 9, 3) := by decide +kernel
theorem dX6_copyFrom_4 : decode cX6_copyFrom 4 = .ok (.iconst 0, 1) := by decide +kernel
theorem dX6_copyFrom_5 : decode cX6_copyFrom 5 = .ok (.aload_n 0, 1) := by decide +kernel
theorem dX6_copyFrom_6 : decode cX6_copyFrom 6 = .ok (.getfield 9, 3) := by decide +kernel
theorem dX6_copyFrom_9 : decode cX6_copyFrom 9 = .ok (.iconst 0, 1) := by decide +kernel
theorem dX6_copyFrom_10 : decode cX6_copyFrom 10 = .ok (.bipush 100, 2) := by decide +kernel
theorem dX6_copyFrom_12 : decode cX6_copyFrom 12 = .ok (.invokestatic 19, 3) := by decide +kernel
theorem dX6_copyFrom_15 : decode cX6_copyFrom 15 = .ok (.aload_n 0, 1) := by decide +kernel
theorem dX6_copyFrom_16 : decode cX6_copyFrom 16 = .ok (.aload_n 1, 1) := by decide +kernel
theorem dX6_copyFrom_17 : decode cX6_copyFrom 17 = .ok (.getfield 15, 3) := by decide +kernel
theorem dX6_copyFrom_20 : decode cX6_copyFrom 20 = .ok (.putfield 15, 3) := by decide +kernel
theorem dX6_copyFrom_23 : decode cX6_copyFrom 23 = .ok (.return_, 1) := by decide +kernel
theorem dX7_init_0 : decode cX7_init 0 = .ok (.aload_n 0, 1) := by decide +kernel
theorem dX7_init_1 : decode cX7_init 1 = .ok (.invokespecial 3, 3) := by decide +kernel
theorem dX7_init_4 : decode cX7_init 4 = .ok (.aload_n 0, 1) := by decide +kernel
theorem dX7_init_5 : decode cX7_init 5 = .ok (.new 9, 3) := by decide +kernel
theorem dX7_init_8 : decode cX7_init 8 = .ok (.dup, 1) := by decide +kernel
theorem dX7_init_9 : decode cX7_init 9 = .ok (.invokespecial 11, 3) := by decide +kernel
theorem dX7_init_12 : decode cX7_init 12 = .ok (.putfield 12, 3) := by decide +kernel
theorem dX7_init_15 : decode cX7_init 15 = .ok (.aload_n 0, 1) := by decide +kernel
theorem dX7_init_16 : decode cX7_init 16 = .ok (.bipush 6, 2) := by decide +kernel
theorem dX7_init_18 : decode cX7_init 18 = .ok (.newarray .int, 2) := by decide +kernel
theorem dX7_init_20 : decode cX7_init 20 = .ok (.putfield 18, 3) := by decide +kernel
theorem dX7_init_23 : decode cX7_init 23 = .ok (.aload_n 0, 1) := by decide +kernel
theorem dX7_init_24 : decode cX7_init 24 = .ok (.bipush 6, 2) := by decide +kernel
theorem dX7_init_26 : decode cX7_init 26 = .ok (.newarray .int, 2) := by decide +kernel
theorem dX7_init_28 : decode cX7_init 28 = .ok (.putfield 22, 3) := by decide +kernel
theorem dX7_init_31 : decode cX7_init 31 = .ok (.aload_n 0, 1) := by decide +kernel
theorem dX7_init_32 : decode cX7_init 32 = .ok (.aload_n 1, 1) := by decide +kernel
theorem dX7_init_33 : decode cX7_init 33 = .ok (.putfield 25, 3) := by decide +kernel
theorem dX7_init_36 : decode cX7_init 36 = .ok (.return_, 1) := by decide +kernel
theorem dX7_begin_0 : decode cX7_begin 0 = .ok (.aload_n 0, 1) := by decide +kernel
theorem dX7_begin_1 : decode cX7_begin 1 = .ok (.getfield 12, 3) := by decide +kernel
theorem dX7_begin_4 : decode cX7_begin 4 = .ok (.aload_n 1, 1) := by decide +kernel
theorem dX7_begin_5 : decode cX7_begin 5 = .ok (.invokevirtual 29, 3) := by decide +kernel
theorem dX7_begin_8 : decode cX7_begin 8 = .ok (.return_, 1) := by decide +kernel
theorem dX7_goOn_0 : decode cX7_goOn 0 = .ok (.iconst 0, 1) := by decide +kernel
theorem dX7_goOn_1 : decode cX7_goOn 1 = .ok (.istore_n 2, 1) := by decide +kernel
theorem dX7_goOn_2 : decode cX7_goOn 2 = .ok (.iload_n 2, 1) := by decide +kernel
theorem dX7_goOn_3 : decode cX7_goOn 3 = .ok (.iload_n 1, 1) := by decide +kernel
theorem dX7_goOn_4 : decode cX7_goOn 4 = .ok (.if_icmp .ge 20, 3) := by decide +kernel
theorem dX7_goOn_7 : decode cX7_goOn 7 = .ok (.aload_n 0, 1) := by decide +kernel
theorem dX7_goOn_8 : decode cX7_goOn 8 = .ok (.getfield 12, 3) := by decide +kernel
theorem dX7_goOn_11 : decode cX7_goOn 11 = .ok (.aload_n 0, 1) := by decide +kernel
theorem dX7_goOn_12 : decode cX7_goOn 12 = .ok (.getfield 25, 3) := by decide +kernel
theorem dX7_goOn_15 : decode cX7_goOn 15 = .ok (.invokevirtual 33, 3) := by decide +kernel
theorem dX7_goOn_18 : decode cX7_goOn 18 = .ok (.iinc 2 1, 3) := by decide +kernel
theorem dX7_goOn_21 : decode cX7_goOn 21 = .ok (.goto (-19), 3) := by decide +kernel
theorem dX7_goOn_24 : decode cX7_goOn 24 = .ok (.return_, 1) := by decide +kernel
theorem dX7_settles_0 : decode cX7_settles 0 = .ok (.aload_n 0, 1) := by decide +kernel
theorem dX7_settles_1 : decode cX7_settles 1 = .ok (.aload_n 1, 1) := by decide +kernel
theorem dX7_settles_2 : decode cX7_settles 2 = .ok (.invokevirtual 37, 3) := by decide +kernel
theorem dX7_settles_5 : decode cX7_settles 5 = .ok (.iconst 0, 1) := by decide +kernel
theorem dX7_settles_6 : decode cX7_settles 6 = .ok (.istore_n 2, 1) := by decide +kernel
theorem dX7_settles_7 : decode cX7_settles 7 = .ok (.iload_n 2, 1) := by decide +kernel
theorem dX7_settles_8 : decode cX7_settles 8 = .ok (.bipush 60, 2) := by decide +kernel
theorem dX7_settles_10 : decode cX7_settles 10 = .ok (.if_icmp .gt 33, 3) := by decide +kernel
theorem dX7_settles_13 : decode cX7_settles 13 = .ok (.aload_n 0, 1) := by decide +kernel
theorem dX7_settles_14 : decode cX7_settles 14 = .ok (.getfield 12, 3) := by decide +kernel
theorem dX7_settles_17 : decode cX7_settles 17 = .ok (.invokevirtual 40, 3) := by decide +kernel
theorem dX7_settles_20 : decode cX7_settles 20 = .ok (.iconst 1, 1) := by decide +kernel
theorem dX7_settles_21 : decode cX7_settles 21 = .ok (.if_icmp .gt 5, 3) := by decide +kernel
theorem dX7_settles_24 : decode cX7_settles 24 = .ok (.iload_n 2, 1) := by decide +kernel
theorem dX7_settles_25 : decode cX7_settles 25 = .ok (.ireturn, 1) := by decide +kernel
theorem dX7_settles_26 : decode cX7_settles 26 = .ok (.aload_n 0, 1) := by decide +kernel
theorem dX7_settles_27 : decode cX7_settles 27 = .ok (.getfield 12, 3) := by decide +kernel
theorem dX7_settles_30 : decode cX7_settles 30 = .ok (.aload_n 0, 1) := by decide +kernel
theorem dX7_settles_31 : decode cX7_settles 31 = .ok (.getfield 25, 3) := by decide +kernel
theorem dX7_settles_34 : decode cX7_settles 34 = .ok (.invokevirtual 33, 3) := by decide +kernel
theorem dX7_settles_37 : decode cX7_settles 37 = .ok (.iinc 2 1, 3) := by decide +kernel
theorem dX7_settles_40 : decode cX7_settles 40 = .ok (.goto (-33), 3) := by decide +kernel
theorem dX7_settles_43 : decode cX7_settles 43 = .ok (.bipush (-5), 2) := by decide +kernel
theorem dX7_settles_45 : decode cX7_settles 45 = .ok (.ireturn, 1) := by decide +kernel
theorem dX7_toldOn_0 : decode cX7_toldOn 0 = .ok (.iconst 0, 1) := by decide +kernel
theorem dX7_toldOn_1 : decode cX7_toldOn 1 = .ok (.istore 4, 2) := by decide +kernel
theorem dX7_toldOn_3 : decode cX7_toldOn 3 = .ok (.iconst 0, 1) := by decide +kernel
theorem dX7_toldOn_4 : decode cX7_toldOn 4 = .ok (.istore 5, 2) := by decide +kernel
theorem dX7_toldOn_6 : decode cX7_toldOn 6 = .ok (.iload 5, 2) := by decide +kernel
theorem dX7_toldOn_8 : decode cX7_toldOn 8 = .ok (.bipush 10, 2) := by decide +kernel
theorem dX7_toldOn_10 : decode cX7_toldOn 10 = .ok (.if_icmp .ge 110, 3) := by decide +kernel
theorem dX7_toldOn_13 : decode cX7_toldOn 13 = .ok (.aload_n 0, 1) := by decide +kernel
theorem dX7_toldOn_14 : decode cX7_toldOn 14 = .ok (.aload_n 1, 1) := by decide +kernel
theorem dX7_toldOn_15 : decode cX7_toldOn 15 = .ok (.invokevirtual 37, 3) := by decide +kernel
theorem dX7_toldOn_18 : decode cX7_toldOn 18 = .ok (.aload_n 0, 1) := by decide +kernel
theorem dX7_toldOn_19 : decode cX7_toldOn 19 = .ok (.getfield 12, 3) := by decide +kernel
theorem dX7_toldOn_22 : decode cX7_toldOn 22 = .ok (.iload_n 2, 1) := by decide +kernel
theorem dX7_toldOn_23 : decode cX7_toldOn 23 = .ok (.iconst 1, 1) := by decide +kernel
theorem dX7_toldOn_24 : decode cX7_toldOn 24 = .ok (.iload 5, 2) := by decide +kernel
theorem dX7_toldOn_26 : decode cX7_toldOn 26 = .ok (.invokevirtual 44, 3) := by decide +kernel
theorem dX7_toldOn_29 : decode cX7_toldOn 29 = .ok (.aload_n 0, 1) := by decide +kernel
theorem dX7_toldOn_30 : decode cX7_toldOn 30 = .ok (.iload_n 3, 1) := by decide +kernel
theorem dX7_toldOn_31 : decode cX7_toldOn 31 = .ok (.invokevirtual 48, 3) := by decide +kernel
theorem dX7_toldOn_34 : decode cX7_toldOn 34 = .ok (.iconst 0, 1) := by decide +kernel
theorem dX7_toldOn_35 : decode cX7_toldOn 35 = .ok (.istore 6, 2) := by decide +kernel
theorem dX7_toldOn_37 : decode cX7_toldOn 37 = .ok (.iload 6, 2) := by decide +kernel
theorem dX7_toldOn_39 : decode cX7_toldOn 39 = .ok (.aload_n 1, 1) := by decide +kernel
theorem dX7_toldOn_40 : decode cX7_toldOn 40 = .ok (.getfield 52, 3) := by decide +kernel
theorem dX7_toldOn_43 : decode cX7_toldOn 43 = .ok (.if_icmp .ge 71, 3) := by decide +kernel
theorem dX7_toldOn_46 : decode cX7_toldOn 46 = .ok (.iload 6, 2) := by decide +kernel
theorem dX7_toldOn_48 : decode cX7_toldOn 48 = .ok (.bipush 6, 2) := by decide +kernel
theorem dX7_toldOn_50 : decode cX7_toldOn 50 = .ok (.if_icmp .ge 64, 3) := by decide +kernel
theorem dX7_toldOn_53 : decode cX7_toldOn 53 = .ok (.iload 5, 2) := by decide +kernel
theorem dX7_toldOn_55 : decode cX7_toldOn 55 = .ok (.ifCond .ne 20, 3) := by decide +kernel
theorem dX7_toldOn_58 : decode cX7_toldOn 58 = .ok (.aload_n 0, 1) := by decide +kernel
theorem dX7_toldOn_59 : decode cX7_toldOn 59 = .ok (.getfield 22, 3) := by decide +kernel
theorem dX7_toldOn_62 : decode cX7_toldOn 62 = .ok (.iload 6, 2) := by decide +kernel
theorem dX7_toldOn_64 : decode cX7_toldOn 64 = .ok (.aload_n 0, 1) := by decide +kernel
theorem dX7_toldOn_65 : decode cX7_toldOn 65 = .ok (.getfield 12, 3) := by decide +kernel
theorem dX7_toldOn_68 : decode cX7_toldOn 68 = .ok (.getfield 56, 3) := by decide +kernel
theorem dX7_toldOn_71 : decode cX7_toldOn 71 = .ok (.iload 6, 2) := by decide +kernel
theorem dX7_toldOn_73 : decode cX7_toldOn 73 = .ok (.iaload, 1) := by decide +kernel
theorem dX7_toldOn_74 : decode cX7_toldOn 74 = .ok (.iastore, 1) := by decide +kernel
theorem dX7_toldOn_75 : decode cX7_toldOn 75 = .ok (.iload 4, 2) := by decide +kernel
theorem dX7_toldOn_77 : decode cX7_toldOn 77 = .ok (.aload_n 0, 1) := by decide +kernel
theorem dX7_toldOn_78 : decode cX7_toldOn 78 = .ok (.getfield 22, 3) := by decide +kernel
theorem dX7_toldOn_81 : decode cX7_toldOn 81 = .ok (.iload 6, 2) := by decide +kernel
theorem dX7_toldOn_83 : decode cX7_toldOn 83 = .ok (.iaload, 1) := by decide +kernel
theorem dX7_toldOn_84 : decode cX7_toldOn 84 = .ok (.aload_n 0, 1) := by decide +kernel
theorem dX7_toldOn_85 : decode cX7_toldOn 85 = .ok (.getfield 12, 3) := by decide +kernel
theorem dX7_toldOn_88 : decode cX7_toldOn 88 = .ok (.getfield 56, 3) := by decide +kernel
theorem dX7_toldOn_91 : decode cX7_toldOn 91 = .ok (.iload 6, 2) := by decide +kernel
theorem dX7_toldOn_93 : decode cX7_toldOn 93 = .ok (.iaload, 1) := by decide +kernel
theorem dX7_toldOn_94 : decode cX7_toldOn 94 = .ok (.if_icmp .ne 7, 3) := by decide +kernel
theorem dX7_toldOn_97 : decode cX7_toldOn 97 = .ok (.iconst 0, 1) := by decide +kernel
theorem dX7_toldOn_98 : decode cX7_toldOn 98 = .ok (.goto 7, 3) := by decide +kernel
theorem dX7_toldOn_101 : decode cX7_toldOn 101 = .ok (.iconst 1, 1) := by decide +kernel
theorem dX7_toldOn_102 : decode cX7_toldOn 102 = .ok (.iload 6, 2) := by decide +kernel
theorem dX7_toldOn_104 : decode cX7_toldOn 104 = .ok (.ishl, 1) := by decide +kernel
theorem dX7_toldOn_105 : decode cX7_toldOn 105 = .ok (.ior, 1) := by decide +kernel
theorem dX7_toldOn_106 : decode cX7_toldOn 106 = .ok (.istore 4, 2) := by decide +kernel
theorem dX7_toldOn_108 : decode cX7_toldOn 108 = .ok (.iinc 6 1, 3) := by decide +kernel
theorem dX7_toldOn_111 : decode cX7_toldOn 111 = .ok (.goto (-74), 3) := by decide +kernel
theorem dX7_toldOn_114 : decode cX7_toldOn 114 = .ok (.iinc 5 1, 3) := by decide +kernel
theorem dX7_toldOn_117 : decode cX7_toldOn 117 = .ok (.goto (-111), 3) := by decide +kernel
theorem dX7_toldOn_120 : decode cX7_toldOn 120 = .ok (.iload 4, 2) := by decide +kernel
theorem dX7_toldOn_122 : decode cX7_toldOn 122 = .ok (.ireturn, 1) := by decide +kernel
theorem dX7_findRooms_0 : decode cX7_findRooms 0 = .ok (.aload_n 0, 1) := by decide +kernel
theorem dX7_findRooms_1 : decode cX7_findRooms 1 = .ok (.getfield 59, 3) := by decide +kernel
theorem dX7_findRooms_4 : decode cX7_findRooms 4 = .ok (.ifCond .eq 4, 3) := by decide +kernel
theorem dX7_findRooms_7 : decode cX7_findRooms 7 = .ok (.return_, 1) := by decide +kernel
theorem dX7_findRooms_8 : decode cX7_findRooms 8 = .ok (.iconst 0, 1) := by decide +kernel
theorem dX7_findRooms_9 : decode cX7_findRooms 9 = .ok (.istore_n 2, 1) := by decide +kernel
theorem dX7_findRooms_10 : decode cX7_findRooms 10 = .ok (.iload_n 2, 1) := by decide +kernel
theorem dX7_findRooms_11 : decode cX7_findRooms 11 = .ok (.bipush 6, 2) := by decide +kernel
theorem dX7_findRooms_13 : decode cX7_findRooms 13 = .ok (.if_icmp .ge 16, 3) := by decide +kernel
theorem dX7_findRooms_16 : decode cX7_findRooms 16 = .ok (.aload_n 0, 1) := by decide +kernel
theorem dX7_findRooms_17 : decode cX7_findRooms 17 = .ok (.getfield 22, 3) := by decide +kernel
theorem dX7_findRooms_20 : decode cX7_findRooms 20 = .ok (.iload_n 2, 1) := by decide +kernel
theorem dX7_findRooms_21 : decode cX7_findRooms 21 = .ok (.iload_n 2, 1) := by decide +kernel
theorem dX7_findRooms_22 : decode cX7_findRooms 22 = .ok (.iastore, 1) := by decide +kernel
theorem dX7_findRooms_23 : decode cX7_findRooms 23 = .ok (.iinc 2 1, 3) := by decide +kernel
theorem dX7_findRooms_26 : decode cX7_findRooms 26 = .ok (.goto (-16), 3) := by decide +kernel
theorem dX7_findRooms_29 : decode cX7_findRooms 29 = .ok (.aload_n 0, 1) := by decide +kernel
theorem dX7_findRooms_30 : decode cX7_findRooms 30 = .ok (.bipush 7, 2) := by decide +kernel
theorem dX7_findRooms_32 : decode cX7_findRooms 32 = .ok (.putfield 63, 3) := by decide +kernel
theorem dX7_findRooms_35 : decode cX7_findRooms 35 = .ok (.iconst 1, 1) := by decide +kernel
theorem dX7_findRooms_36 : decode cX7_findRooms 36 = .ok (.istore_n 2, 1) := by decide +kernel
theorem dX7_findRooms_37 : decode cX7_findRooms 37 = .ok (.iconst 0, 1) := by decide +kernel
theorem dX7_findRooms_38 : decode cX7_findRooms 38 = .ok (.istore_n 3, 1) := by decide +kernel
theorem dX7_findRooms_39 : decode cX7_findRooms 39 = .ok (.iload_n 3, 1) := by decide +kernel
theorem dX7_findRooms_40 : decode cX7_findRooms 40 = .ok (.sipush 720, 3) := by decide +kernel
theorem dX7_findRooms_43 : decode cX7_findRooms 43 = .ok (.if_icmp .ge 67, 3) := by decide +kernel
theorem dX7_findRooms_46 : decode cX7_findRooms 46 = .ok (.iload_n 2, 1) := by decide +kernel
theorem dX7_findRooms_47 : decode cX7_findRooms 47 = .ok (.ifCond .eq 63, 3) := by decide +kernel
theorem dX7_findRooms_50 : decode cX7_findRooms 50 = .ok (.aload_n 0, 1) := by decide +kernel
theorem dX7_findRooms_51 : decode cX7_findRooms 51 = .ok (.getfield 63, 3) := by decide +kernel
theorem dX7_findRooms_54 : decode cX7_findRooms 54 = .ok (.iconst 1, 1) := by decide +kernel
theorem dX7_findRooms_55 : decode cX7_findRooms 55 = .ok (.if_icmp .le 55, 3) := by decide +kernel
theorem dX7_findRooms_58 : decode cX7_findRooms 58 = .ok (.aload_n 0, 1) := by decide +kernel
theorem dX7_findRooms_59 : decode cX7_findRooms 59 = .ok (.aload_n 1, 1) := by decide +kernel
theorem dX7_findRooms_60 : decode cX7_findRooms 60 = .ok (.invokevirtual 66, 3) := by decide +kernel
theorem dX7_findRooms_63 : decode cX7_findRooms 63 = .ok (.istore 4, 2) := by decide +kernel
theorem dX7_findRooms_65 : decode cX7_findRooms 65 = .ok (.iload 4, 2) := by decide +kernel
theorem dX7_findRooms_67 : decode cX7_findRooms 67 = .ok (.aload_n 0, 1) := by decide +kernel
theorem dX7_findRooms_68 : decode cX7_findRooms 68 = .ok (.getfield 63, 3) := by decide +kernel
theorem dX7_findRooms_71 : decode cX7_findRooms 71 = .ok (.if_icmp .ge 24, 3) := by decide +kernel
theorem dX7_findRooms_74 : decode cX7_findRooms 74 = .ok (.aload_n 0, 1) := by decide +kernel
theorem dX7_findRooms_75 : decode cX7_findRooms 75 = .ok (.iload 4, 2) := by decide +kernel
theorem dX7_findRooms_77 : decode cX7_findRooms 77 = .ok (.putfield 63, 3) := by decide +kernel
theorem dX7_findRooms_80 : decode cX7_findRooms 80 = .ok (.aload_n 0, 1) := by decide +kernel
theorem dX7_findRooms_81 : decode cX7_findRooms 81 = .ok (.getfield 22, 3) := by decide +kernel
theorem dX7_findRooms_84 : decode cX7_findRooms 84 = .ok (.iconst 0, 1) := by decide +kernel
theorem dX7_findRooms_85 : decode cX7_findRooms 85 = .ok (.aload_n 0, 1) := by decide +kernel
theorem dX7_findRooms_86 : decode cX7_findRooms 86 = .ok (.getfield 18, 3) := by decide +kernel
theorem dX7_findRooms_89 : decode cX7_findRooms 89 = .ok (.iconst 0, 1) := by decide +kernel
theorem dX7_findRooms_90 : decode cX7_findRooms 90 = .ok (.bipush 6, 2) := by decide +kernel
theorem dX7_findRooms_92 : decode cX7_findRooms 92 = .ok (.invokestatic 70, 3) := by decide +kernel
theorem dX7_findRooms_95 : decode cX7_findRooms 95 = .ok (.aload_n 0, 1) := by decide +kernel
theorem dX7_findRooms_96 : decode cX7_findRooms 96 = .ok (.aload_n 1, 1) := by decide +kernel
theorem dX7_findRooms_97 : decode cX7_findRooms 97 = .ok (.getfield 52, 3) := by decide +kernel
theorem dX7_findRooms_100 : decode cX7_findRooms 100 = .ok (.invokevirtual 76, 3) := by decide +kernel
theorem dX7_findRooms_103 : decode cX7_findRooms 103 = .ok (.istore_n 2, 1) := by decide +kernel
theorem dX7_findRooms_104 : decode cX7_findRooms 104 = .ok (.iinc 3 1, 3) := by decide +kernel
theorem dX7_findRooms_107 : decode cX7_findRooms 107 = .ok (.goto (-68), 3) := by decide +kernel
theorem dX7_findRooms_110 : decode cX7_findRooms 110 = .ok (.aload_n 0, 1) := by decide +kernel
theorem dX7_findRooms_111 : decode cX7_findRooms 111 = .ok (.iconst 1, 1) := by decide +kernel
theorem dX7_findRooms_112 : decode cX7_findRooms 112 = .ok (.putfield 59, 3) := by decide +kernel
theorem dX7_findRooms_115 : decode cX7_findRooms 115 = .ok (.return_, 1) := by decide +kernel
theorem dX7_unlikeByWay_0 : decode cX7_unlikeByWay 0 = .ok (.aload_n 0, 1) := by decide +kernel
theorem dX7_unlikeByWay_1 : decode cX7_unlikeByWay 1 = .ok (.aload_n 1, 1) := by decide +kernel
theorem dX7_unlikeByWay_2 : decode cX7_unlikeByWay 2 = .ok (.invokevirtual 37, 3) := by decide +kernel
theorem dX7_unlikeByWay_5 : decode cX7_unlikeByWay 5 = .ok (.iconst 0, 1) := by decide +kernel
theorem dX7_unlikeByWay_6 : decode cX7_unlikeByWay 6 = .ok (.istore_n 2, 1) := by decide +kernel
theorem dX7_unlikeByWay_7 : decode cX7_unlikeByWay 7 = .ok (.iload_n 2, 1) := by decide +kernel
theorem dX7_unlikeByWay_8 : decode cX7_unlikeByWay 8 = .ok (.aload_n 1, 1) := by decide +kernel
theorem dX7_unlikeByWay_9 : decode cX7_unlikeByWay 9 = .ok (.getfield 52, 3) := by decide +kernel
theorem dX7_unlikeByWay_12 : decode cX7_unlikeByWay 12 = .ok (.if_icmp .ge 45, 3) := by decide +kernel
theorem dX7_unlikeByWay_15 : decode cX7_unlikeByWay 15 = .ok (.iload_n 2, 1) := by decide +kernel
theorem dX7_unlikeByWay_16 : decode cX7_unlikeByWay 16 = .ok (.bipush 6, 2) := by decide +kernel
theorem dX7_unlikeByWay_18 : decode cX7_unlikeByWay 18 = .ok (.if_icmp .ge 39, 3) := by decide +kernel
theorem dX7_unlikeByWay_21 : decode cX7_unlikeByWay 21 = .ok (.aload_n 0, 1) := by decide +kernel
theorem dX7_unlikeByWay_22 : decode cX7_unlikeByWay 22 = .ok (.getfield 22, 3) := by decide +kernel
theorem dX7_unlikeByWay_25 : decode cX7_unlikeByWay 25 = .ok (.iload_n 2, 1) := by decide +kernel
theorem dX7_unlikeByWay_26 : decode cX7_unlikeByWay 26 = .ok (.iaload, 1) := by decide +kernel
theorem dX7_unlikeByWay_27 : decode cX7_unlikeByWay 27 = .ok (.istore_n 3, 1) := by decide +kernel
theorem dX7_unlikeByWay_28 : decode cX7_unlikeByWay 28 = .ok (.aload_n 1, 1) := by decide +kernel
theorem dX7_unlikeByWay_29 : decode cX7_unlikeByWay 29 = .ok (.iload_n 3, 1) := by decide +kernel
theorem dX7_unlikeByWay_30 : decode cX7_unlikeByWay 30 = .ok (.invokevirtual 80, 3) := by decide +kernel
theorem dX7_unlikeByWay_33 : decode cX7_unlikeByWay 33 = .ok (.ifCond .eq 18, 3) := by decide +kernel
theorem dX7_unlikeByWay_36 : decode cX7_unlikeByWay 36 = .ok (.aload_n 0, 1) := by decide +kernel
theorem dX7_unlikeByWay_37 : decode cX7_unlikeByWay 37 = .ok (.getfield 12, 3) := by decide +kernel
theorem dX7_unlikeByWay_40 : decode cX7_unlikeByWay 40 = .ok (.iload_n 2, 1) := by decide +kernel
theorem dX7_unlikeByWay_41 : decode cX7_unlikeByWay 41 = .ok (.iconst 0, 1) := by decide +kernel
theorem dX7_unlikeByWay_42 : decode cX7_unlikeByWay 42 = .ok (.aload_n 1, 1) := by decide +kernel
theorem dX7_unlikeByWay_43 : decode cX7_unlikeByWay 43 = .ok (.getfield 83, 3) := by decide +kernel
theorem dX7_unlikeByWay_46 : decode cX7_unlikeByWay 46 = .ok (.iload_n 3, 1) := by decide +kernel
theorem dX7_unlikeByWay_47 : decode cX7_unlikeByWay 47 = .ok (.iaload, 1) := by decide +kernel
theorem dX7_unlikeByWay_48 : decode cX7_unlikeByWay 48 = .ok (.invokevirtual 44, 3) := by decide +kernel
theorem dX7_unlikeByWay_51 : decode cX7_unlikeByWay 51 = .ok (.iinc 2 1, 3) := by decide +kernel
theorem dX7_unlikeByWay_54 : decode cX7_unlikeByWay 54 = .ok (.goto (-47), 3) := by decide +kernel
theorem dX7_unlikeByWay_57 : decode cX7_unlikeByWay 57 = .ok (.iconst 0, 1) := by decide +kernel
theorem dX7_unlikeByWay_58 : decode cX7_unlikeByWay 58 = .ok (.istore_n 2, 1) := by decide +kernel
theorem dX7_unlikeByWay_59 : decode cX7_unlikeByWay 59 = .ok (.iload_n 2, 1) := by decide +kernel
theorem dX7_unlikeByWay_60 : decode cX7_unlikeByWay 60 = .ok (.iconst 3, 1) := by decide +kernel
theorem dX7_unlikeByWay_61 : decode cX7_unlikeByWay 61 = .ok (.if_icmp .ge 20, 3) := by decide +kernel
theorem dX7_unlikeByWay_64 : decode cX7_unlikeByWay 64 = .ok (.aload_n 0, 1) := by decide +kernel
theorem dX7_unlikeByWay_65 : decode cX7_unlikeByWay 65 = .ok (.getfield 12, 3) := by decide +kernel
theorem dX7_unlikeByWay_68 : decode cX7_unlikeByWay 68 = .ok (.aload_n 0, 1) := by decide +kernel
theorem dX7_unlikeByWay_69 : decode cX7_unlikeByWay 69 = .ok (.getfield 25, 3) := by decide +kernel
theorem dX7_unlikeByWay_72 : decode cX7_unlikeByWay 72 = .ok (.invokevirtual 33, 3) := by decide +kernel
theorem dX7_unlikeByWay_75 : decode cX7_unlikeByWay 75 = .ok (.iinc 2 1, 3) := by decide +kernel
theorem dX7_unlikeByWay_78 : decode cX7_unlikeByWay 78 = .ok (.goto (-19), 3) := by decide +kernel
theorem dX7_unlikeByWay_81 : decode cX7_unlikeByWay 81 = .ok (.aload_n 0, 1) := by decide +kernel
theorem dX7_unlikeByWay_82 : decode cX7_unlikeByWay 82 = .ok (.getfield 12, 3) := by decide +kernel
theorem dX7_unlikeByWay_85 : decode cX7_unlikeByWay 85 = .ok (.invokevirtual 40, 3) := by decide +kernel
theorem dX7_unlikeByWay_88 : decode cX7_unlikeByWay 88 = .ok (.ireturn, 1) := by decide +kernel
theorem dX7_turnToNextWay_0 : decode cX7_turnToNextWay 0 = .ok (.iload_n 1, 1) := by decide +kernel
theorem dX7_turnToNextWay_1 : decode cX7_turnToNextWay 1 = .ok (.bipush 6, 2) := by decide +kernel
theorem dX7_turnToNextWay_3 : decode cX7_turnToNextWay 3 = .ok (.if_icmp .ge 9, 3) := by decide +kernel
theorem dX7_turnToNextWay_6 : decode cX7_turnToNextWay 6 = .ok (.iload_n 1, 1) := by decide +kernel
theorem dX7_turnToNextWay_7 : decode cX7_turnToNextWay 7 = .ok (.iconst 1, 1) := by decide +kernel
theorem dX7_turnToNextWay_8 : decode cX7_turnToNextWay 8 = .ok (.isub, 1) := by decide +kernel
theorem dX7_turnToNextWay_9 : decode cX7_turnToNextWay 9 = .ok (.goto 4, 3) := by decide +kernel
theorem dX7_turnToNextWay_12 : decode cX7_turnToNextWay 12 = .ok (.iconst 5, 1) := by decide +kernel
theorem dX7_turnToNextWay_13 : decode cX7_turnToNextWay 13 = .ok (.istore_n 2, 1) := by decide +kernel
theorem dX7_turnToNextWay_14 : decode cX7_turnToNextWay 14 = .ok (.iload_n 2, 1) := by decide +kernel
theorem dX7_turnToNextWay_15 : decode cX7_turnToNextWay 15 = .ok (.iconst 1, 1) := by decide +kernel
theorem dX7_turnToNextWay_16 : decode cX7_turnToNextWay 16 = .ok (.isub, 1) := by decide +kernel
theorem dX7_turnToNextWay_17 : decode cX7_turnToNextWay 17 = .ok (.istore_n 3, 1) := by decide +kernel
theorem dX7_turnToNextWay_18 : decode cX7_turnToNextWay 18 = .ok (.iload_n 3, 1) := by decide +kernel
theorem dX7_turnToNextWay_19 : decode cX7_turnToNextWay 19 = .ok (.ifCond .lt 26, 3) := by decide +kernel
theorem dX7_turnToNextWay_22 : decode cX7_turnToNextWay 22 = .ok (.aload_n 0, 1) := by decide +kernel
theorem dX7_turnToNextWay_23 : decode cX7_turnToNextWay 23 = .ok (.getfield 22, 3) := by decide +kernel
theorem dX7_turnToNextWay_26 : decode cX7_turnToNextWay 26 = .ok (.iload_n 3, 1) := by decide +kernel
theorem dX7_turnToNextWay_27 : decode cX7_turnToNextWay 27 = .ok (.iaload, 1) := by decide +kernel
theorem dX7_turnToNextWay_28 : decode cX7_turnToNextWay 28 = .ok (.aload_n 0, 1) := by decide +kernel
theorem dX7_turnToNextWay_29 : decode cX7_turnToNextWay 29 = .ok (.getfield 22, 3) := by decide +kernel
theorem dX7_turnToNextWay_32 : decode cX7_turnToNextWay 32 = .ok (.iload_n 3, 1) := by decide +kernel
theorem dX7_turnToNextWay_33 : decode cX7_turnToNextWay 33 = .ok (.iconst 1, 1) := by decide +kernel
theorem dX7_turnToNextWay_34 : decode cX7_turnToNextWay 34 = .ok (.iadd, 1) := by decide +kernel
theorem dX7_turnToNextWay_35 : decode cX7_turnToNextWay 35 = .ok (.iaload, 1) := by decide +kernel
theorem dX7_turnToNextWay_36 : decode cX7_turnToNextWay 36 = .ok (.if_icmp .le 9, 3) := by decide +kernel
theorem dX7_turnToNextWay_39 : decode cX7_turnToNextWay 39 = .ok (.iinc 3 (-1), 3) := by decide +kernel
theorem dX7_turnToNextWay_42 : decode cX7_turnToNextWay 42 = .ok (.goto (-24), 3) := by decide +kernel
theorem dX7_turnToNextWay_45 : decode cX7_turnToNextWay 45 = .ok (.iload_n 3, 1) := by decide +kernel
theorem dX7_turnToNextWay_46 : decode cX7_turnToNextWay 46 = .ok (.ifCond .ge 5, 3) := by decide +kernel
theorem dX7_turnToNextWay_49 : decode cX7_turnToNextWay 49 = .ok (.iconst 0, 1) := by decide +kernel
theorem dX7_turnToNextWay_50 : decode cX7_turnToNextWay 50 = .ok (.ireturn, 1) := by decide +kernel
theorem dX7_turnToNextWay_51 : decode cX7_turnToNextWay 51 = .ok (.iload_n 2, 1) := by decide +kernel
theorem dX7_turnToNextWay_52 : decode cX7_turnToNextWay 52 = .ok (.istore 4, 2) := by decide +kernel
theorem dX7_turnToNextWay_54 : decode cX7_turnToNextWay 54 = .ok (.iload 4, 2) := by decide +kernel
theorem dX7_turnToNextWay_56 : decode cX7_turnToNextWay 56 = .ok (.iload_n 3, 1) := by decide +kernel
theorem dX7_turnToNextWay_57 : decode cX7_turnToNextWay 57 = .ok (.iconst 1, 1) := by decide +kernel
theorem dX7_turnToNextWay_58 : decode cX7_turnToNextWay 58 = .ok (.iadd, 1) := by decide +kernel
theorem dX7_turnToNextWay_59 : decode cX7_turnToNextWay 59 = .ok (.if_icmp .le 25, 3) := by decide +kernel
theorem dX7_turnToNextWay_62 : decode cX7_turnToNextWay 62 = .ok (.aload_n 0, 1) := by decide +kernel
theorem dX7_turnToNextWay_63 : decode cX7_turnToNextWay 63 = .ok (.getfield 22, 3) := by decide +kernel
theorem dX7_turnToNextWay_66 : decode cX7_turnToNextWay 66 = .ok (.iload 4, 2) := by decide +kernel
theorem dX7_turnToNextWay_68 : decode cX7_turnToNextWay 68 = .ok (.iaload, 1) := by decide +kernel
theorem dX7_turnToNextWay_69 : decode cX7_turnToNextWay 69 = .ok (.aload_n 0, 1) := by decide +kernel
theorem dX7_turnToNextWay_70 : decode cX7_turnToNextWay 70 = .ok (.getfield 22, 3) := by decide +kernel
theorem dX7_turnToNextWay_73 : decode cX7_turnToNextWay 73 = .ok (.iload_n 3, 1) := by decide +kernel
theorem dX7_turnToNextWay_74 : decode cX7_turnToNextWay 74 = .ok (.iaload, 1) := by decide +kernel
theorem dX7_turnToNextWay_75 : decode cX7_turnToNextWay 75 = .ok (.if_icmp .ge 9, 3) := by decide +kernel
theorem dX7_turnToNextWay_78 : decode cX7_turnToNextWay 78 = .ok (.iinc 4 (-1), 3) := by decide +kernel
theorem dX7_turnToNextWay_81 : decode cX7_turnToNextWay 81 = .ok (.goto (-27), 3) := by decide +kernel
theorem dX7_turnToNextWay_84 : decode cX7_turnToNextWay 84 = .ok (.aload_n 0, 1) := by decide +kernel
theorem dX7_turnToNextWay_85 : decode cX7_turnToNextWay 85 = .ok (.iload_n 3, 1) := by decide +kernel
theorem dX7_turnToNextWay_86 : decode cX7_turnToNextWay 86 = .ok (.iload 4, 2) := by decide +kernel
theorem dX7_turnToNextWay_88 : decode cX7_turnToNextWay 88 = .ok (.invokevirtual 86, 3) := by decide +kernel
theorem dX7_turnToNextWay_91 : decode cX7_turnToNextWay 91 = .ok (.iload_n 2, 1) := by decide +kernel
theorem dX7_turnToNextWay_92 : decode cX7_turnToNextWay 92 = .ok (.istore 5, 2) := by decide +kernel
theorem dX7_turnToNextWay_94 : decode cX7_turnToNextWay 94 = .ok (.iload_n 3, 1) := by decide +kernel
theorem dX7_turnToNextWay_95 : decode cX7_turnToNextWay 95 = .ok (.iconst 1, 1) := by decide +kernel
theorem dX7_turnToNextWay_96 : decode cX7_turnToNextWay 96 = .ok (.iadd, 1) := by decide +kernel
theorem dX7_turnToNextWay_97 : decode cX7_turnToNextWay 97 = .ok (.istore 6, 2) := by decide +kernel
theorem dX7_turnToNextWay_99 : decode cX7_turnToNextWay 99 = .ok (.iload 6, 2) := by decide +kernel
theorem dX7_turnToNextWay_101 : decode cX7_turnToNextWay 101 = .ok (.iload 5, 2) := by decide +kernel
theorem dX7_turnToNextWay_103 : decode cX7_turnToNextWay 103 = .ok (.if_icmp .ge 20, 3) := by decide +kernel
theorem dX7_turnToNextWay_106 : decode cX7_turnToNextWay 106 = .ok (.aload_n 0, 1) := by decide +kernel
theorem dX7_turnToNextWay_107 : decode cX7_turnToNextWay 107 = .ok (.iload 6, 2) := by decide +kernel
theorem dX7_turnToNextWay_109 : decode cX7_turnToNextWay 109 = .ok (.iload 5, 2) := by decide +kernel
theorem dX7_turnToNextWay_111 : decode cX7_turnToNextWay 111 = .ok (.invokevirtual 86, 3) := by decide +kernel
theorem dX7_turnToNextWay_114 : decode cX7_turnToNextWay 114 = .ok (.iinc 5 (-1), 3) := by decide +kernel
theorem dX7_turnToNextWay_117 : decode cX7_turnToNextWay 117 = .ok (.iinc 6 1, 3) := by decide +kernel
theorem dX7_turnToNextWay_120 : decode cX7_turnToNextWay 120 = .ok (.goto (-21), 3) := by decide +kernel
theorem dX7_turnToNextWay_123 : decode cX7_turnToNextWay 123 = .ok (.iconst 1, 1) := by decide +kernel
theorem dX7_turnToNextWay_124 : decode cX7_turnToNextWay 124 = .ok (.ireturn, 1) := by decide +kernel
theorem dX7_swap_0 : decode cX7_swap 0 = .ok (.iload_n 1, 1) := by decide +kernel
theorem dX7_swap_1 : decode cX7_swap 1 = .ok (.ifCond .lt 45, 3) := by decide +kernel
theorem dX7_swap_4 : decode cX7_swap 4 = .ok (.iload_n 1, 1) := by decide +kernel
theorem dX7_swap_5 : decode cX7_swap 5 = .ok (.bipush 6, 2) := by decide +kernel
theorem dX7_swap_7 : decode cX7_swap 7 = .ok (.if_icmp .ge 39, 3) := by decide +kernel
theorem dX7_swap_10 : decode cX7_swap 10 = .ok (.iload_n 2, 1) := by decide +kernel
theorem dX7_swap_11 : decode cX7_swap 11 = .ok (.ifCond .lt 35, 3) := by decide +kernel
theorem dX7_swap_14 : decode cX7_swap 14 = .ok (.iload_n 2, 1) := by decide +kernel
theorem dX7_swap_15 : decode cX7_swap 15 = .ok (.bipush 6, 2) := by decide +kernel
theorem dX7_swap_17 : decode cX7_swap 17 = .ok (.if_icmp .ge 29, 3) := by decide +kernel
theorem dX7_swap_20 : decode cX7_swap 20 = .ok (.aload_n 0, 1) := by decide +kernel
theorem dX7_swap_21 : decode cX7_swap 21 = .ok (.getfield 22, 3) := by decide +kernel
theorem dX7_swap_24 : decode cX7_swap 24 = .ok (.iload_n 1, 1) := by decide +kernel
theorem dX7_swap_25 : decode cX7_swap 25 = .ok (.iaload, 1) := by decide +kernel
theorem dX7_swap_26 : decode cX7_swap 26 = .ok (.istore_n 3, 1) := by decide +kernel
theorem dX7_swap_27 : decode cX7_swap 27 = .ok (.aload_n 0, 1) := by decide +kernel
theorem dX7_swap_28 : decode cX7_swap 28 = .ok (.getfield 22, 3) := by decide +kernel
theorem dX7_swap_31 : decode cX7_swap 31 = .ok (.iload_n 1, 1) := by decide +kernel
theorem dX7_swap_32 : decode cX7_swap 32 = .ok (.aload_n 0, 1) := by decide +kernel
theorem dX7_swap_33 : decode cX7_swap 33 = .ok (.getfield 22, 3) := by decide +kernel
theorem dX7_swap_36 : decode cX7_swap 36 = .ok (.iload_n 2, 1) := by decide +kernel
theorem dX7_swap_37 : decode cX7_swap 37 = .ok (.iaload, 1) := by decide +kernel
theorem dX7_swap_38 : decode cX7_swap 38 = .ok (.iastore, 1) := by decide +kernel
theorem dX7_swap_39 : decode cX7_swap 39 = .ok (.aload_n 0, 1) := by decide +kernel
theorem dX7_swap_40 : decode cX7_swap 40 = .ok (.getfield 22, 3) := by decide +kernel
theorem dX7_swap_43 : decode cX7_swap 43 = .ok (.iload_n 2, 1) := by decide +kernel
theorem dX7_swap_44 : decode cX7_swap 44 = .ok (.iload_n 3, 1) := by decide +kernel
theorem dX7_swap_45 : decode cX7_swap 45 = .ok (.iastore, 1) := by decide +kernel
theorem dX7_swap_46 : decode cX7_swap 46 = .ok (.return_, 1) := by decide +kernel
theorem dX7_fitting_0 : decode cX7_fitting 0 = .ok (.iconst 0, 1) := by decide +kernel
theorem dX7_fitting_1 : decode cX7_fitting 1 = .ok (.istore 4, 2) := by decide +kernel
theorem dX7_fitting_3 : decode cX7_fitting 3 = .ok (.iconst 0, 1) := by decide +kernel
theorem dX7_fitting_4 : decode cX7_fitting 4 = .ok (.istore 5, 2) := by decide +kernel
theorem dX7_fitting_6 : decode cX7_fitting 6 = .ok (.iload 5, 2) := by decide +kernel
theorem dX7_fitting_8 : decode cX7_fitting 8 = .ok (.bipush 10, 2) := by decide +kernel
theorem dX7_fitting_10 : decode cX7_fitting 10 = .ok (.if_icmp .ge 52, 3) := by decide +kernel
theorem dX7_fitting_13 : decode cX7_fitting 13 = .ok (.aload_n 0, 1) := by decide +kernel
theorem dX7_fitting_14 : decode cX7_fitting 14 = .ok (.aload_n 1, 1) := by decide +kernel
theorem dX7_fitting_15 : decode cX7_fitting 15 = .ok (.getfield 90, 3) := by decide +kernel
theorem dX7_fitting_18 : decode cX7_fitting 18 = .ok (.invokevirtual 37, 3) := by decide +kernel
theorem dX7_fitting_21 : decode cX7_fitting 21 = .ok (.aload_n 0, 1) := by decide +kernel
theorem dX7_fitting_22 : decode cX7_fitting 22 = .ok (.getfield 12, 3) := by decide +kernel
theorem dX7_fitting_25 : decode cX7_fitting 25 = .ok (.iload_n 2, 1) := by decide +kernel
theorem dX7_fitting_26 : decode cX7_fitting 26 = .ok (.iload_n 3, 1) := by decide +kernel
theorem dX7_fitting_27 : decode cX7_fitting 27 = .ok (.iload 5, 2) := by decide +kernel
theorem dX7_fitting_29 : decode cX7_fitting 29 = .ok (.invokevirtual 44, 3) := by decide +kernel
theorem dX7_fitting_32 : decode cX7_fitting 32 = .ok (.iload 4, 2) := by decide +kernel
theorem dX7_fitting_34 : decode cX7_fitting 34 = .ok (.aload_n 0, 1) := by decide +kernel
theorem dX7_fitting_35 : decode cX7_fitting 35 = .ok (.aload_n 1, 1) := by decide +kernel
theorem dX7_fitting_36 : decode cX7_fitting 36 = .ok (.getfield 95, 3) := by decide +kernel
theorem dX7_fitting_39 : decode cX7_fitting 39 = .ok (.invokevirtual 99, 3) := by decide +kernel
theorem dX7_fitting_42 : decode cX7_fitting 42 = .ok (.ifCond .eq 10, 3) := by decide +kernel
theorem dX7_fitting_45 : decode cX7_fitting 45 = .ok (.iconst 1, 1) := by decide +kernel
theorem dX7_fitting_46 : decode cX7_fitting 46 = .ok (.iload 5, 2) := by decide +kernel
theorem dX7_fitting_48 : decode cX7_fitting 48 = .ok (.ishl, 1) := by decide +kernel
theorem dX7_fitting_49 : decode cX7_fitting 49 = .ok (.goto 4, 3) := by decide +kernel
theorem dX7_fitting_52 : decode cX7_fitting 52 = .ok (.iconst 0, 1) := by decide +kernel
theorem dX7_fitting_53 : decode cX7_fitting 53 = .ok (.ior, 1) := by decide +kernel
theorem dX7_fitting_54 : decode cX7_fitting 54 = .ok (.istore 4, 2) := by decide +kernel
theorem dX7_fitting_56 : decode cX7_fitting 56 = .ok (.iinc 5 1, 3) := by decide +kernel
theorem dX7_fitting_59 : decode cX7_fitting 59 = .ok (.goto (-53), 3) := by decide +kernel
theorem dX7_fitting_62 : decode cX7_fitting 62 = .ok (.iload 4, 2) := by decide +kernel
theorem dX7_fitting_64 : decode cX7_fitting 64 = .ok (.ireturn, 1) := by decide +kernel
theorem dX7_showsAll_0 : decode cX7_showsAll 0 = .ok (.aload_n 1, 1) := by decide +kernel
theorem dX7_showsAll_1 : decode cX7_showsAll 1 = .ok (.getfield 103, 3) := by decide +kernel
theorem dX7_showsAll_4 : decode cX7_showsAll 4 = .ok (.istore_n 2, 1) := by decide +kernel
theorem dX7_showsAll_5 : decode cX7_showsAll 5 = .ok (.iconst 0, 1) := by decide +kernel
theorem dX7_showsAll_6 : decode cX7_showsAll 6 = .ok (.istore_n 3, 1) := by decide +kernel
theorem dX7_showsAll_7 : decode cX7_showsAll 7 = .ok (.iload_n 3, 1) := by decide +kernel
theorem dX7_showsAll_8 : decode cX7_showsAll 8 = .ok (.bipush 20, 2) := by decide +kernel
theorem dX7_showsAll_10 : decode cX7_showsAll 10 = .ok (.if_icmp .gt 110, 3) := by decide +kernel
theorem dX7_showsAll_13 : decode cX7_showsAll 13 = .ok (.iload_n 2, 1) := by decide +kernel
theorem dX7_showsAll_14 : decode cX7_showsAll 14 = .ok (.ifCond .le 106, 3) := by decide +kernel
theorem dX7_showsAll_17 : decode cX7_showsAll 17 = .ok (.iconst 0, 1) := by decide +kernel
theorem dX7_showsAll_18 : decode cX7_showsAll 18 = .ok (.istore 4, 2) := by decide +kernel
theorem dX7_showsAll_20 : decode cX7_showsAll 20 = .ok (.iload 4, 2) := by decide +kernel
theorem dX7_showsAll_22 : decode cX7_showsAll 22 = .ok (.aload_n 1, 1) := by decide +kernel
theorem dX7_showsAll_23 : decode cX7_showsAll 23 = .ok (.getfield 103, 3) := by decide +kernel
theorem dX7_showsAll_26 : decode cX7_showsAll 26 = .ok (.if_icmp .ge 73, 3) := by decide +kernel
theorem dX7_showsAll_29 : decode cX7_showsAll 29 = .ok (.iload 4, 2) := by decide +kernel
theorem dX7_showsAll_31 : decode cX7_showsAll 31 = .ok (.bipush 8, 2) := by decide +kernel
theorem dX7_showsAll_33 : decode cX7_showsAll 33 = .ok (.if_icmp .ge 66, 3) := by decide +kernel
theorem dX7_showsAll_36 : decode cX7_showsAll 36 = .ok (.aload_n 1, 1) := by decide +kernel
theorem dX7_showsAll_37 : decode cX7_showsAll 37 = .ok (.getfield 108, 3) := by decide +kernel
theorem dX7_showsAll_40 : decode cX7_showsAll 40 = .ok (.iload 4, 2) := by decide +kernel
theorem dX7_showsAll_42 : decode cX7_showsAll 42 = .ok (.iaload, 1) := by decide +kernel
theorem dX7_showsAll_43 : decode cX7_showsAll 43 = .ok (.iload_n 3, 1) := by decide +kernel
theorem dX7_showsAll_44 : decode cX7_showsAll 44 = .ok (.if_icmp .ne 49, 3) := by decide +kernel
theorem dX7_showsAll_47 : decode cX7_showsAll 47 = .ok (.aload_n 1, 1) := by decide +kernel
theorem dX7_showsAll_48 : decode cX7_showsAll 48 = .ok (.getfield 111, 3) := by decide +kernel
theorem dX7_showsAll_51 : decode cX7_showsAll 51 = .ok (.iload 4, 2) := by decide +kernel
theorem dX7_showsAll_53 : decode cX7_showsAll 53 = .ok (.iaload, 1) := by decide +kernel
theorem dX7_showsAll_54 : decode cX7_showsAll 54 = .ok (.istore 5, 2) := by decide +kernel
theorem dX7_showsAll_56 : decode cX7_showsAll 56 = .ok (.aload_n 0, 1) := by decide +kernel
theorem dX7_showsAll_57 : decode cX7_showsAll 57 = .ok (.getfield 12, 3) := by decide +kernel
theorem dX7_showsAll_60 : decode cX7_showsAll 60 = .ok (.iload 5, 2) := by decide +kernel
theorem dX7_showsAll_62 : decode cX7_showsAll 62 = .ok (.invokevirtual 80, 3) := by decide +kernel
theorem dX7_showsAll_65 : decode cX7_showsAll 65 = .ok (.ifCond .eq 25, 3) := by decide +kernel
theorem dX7_showsAll_68 : decode cX7_showsAll 68 = .ok (.aload_n 0, 1) := by decide +kernel
theorem dX7_showsAll_69 : decode cX7_showsAll 69 = .ok (.getfield 12, 3) := by decide +kernel
theorem dX7_showsAll_72 : decode cX7_showsAll 72 = .ok (.getfield 56, 3) := by decide +kernel
theorem dX7_showsAll_75 : decode cX7_showsAll 75 = .ok (.iload 5, 2) := by decide +kernel
theorem dX7_showsAll_77 : decode cX7_showsAll 77 = .ok (.iaload, 1) := by decide +kernel
theorem dX7_showsAll_78 : decode cX7_showsAll 78 = .ok (.aload_n 1, 1) := by decide +kernel
theorem dX7_showsAll_79 : decode cX7_showsAll 79 = .ok (.getfield 114, 3) := by decide +kernel
theorem dX7_showsAll_82 : decode cX7_showsAll 82 = .ok (.iload 4, 2) := by decide +kernel
theorem dX7_showsAll_84 : decode cX7_showsAll 84 = .ok (.iaload, 1) := by decide +kernel
theorem dX7_showsAll_85 : decode cX7_showsAll 85 = .ok (.if_icmp .eq 5, 3) := by decide +kernel
theorem dX7_showsAll_88 : decode cX7_showsAll 88 = .ok (.iconst 0, 1) := by decide +kernel
theorem dX7_showsAll_89 : decode cX7_showsAll 89 = .ok (.ireturn, 1) := by decide +kernel
theorem dX7_showsAll_90 : decode cX7_showsAll 90 = .ok (.iinc 2 (-1), 3) := by decide +kernel
theorem dX7_showsAll_93 : decode cX7_showsAll 93 = .ok (.iinc 4 1, 3) := by decide +kernel
theorem dX7_showsAll_96 : decode cX7_showsAll 96 = .ok (.goto (-76), 3) := by decide +kernel
theorem dX7_showsAll_99 : decode cX7_showsAll 99 = .ok (.iload_n 2, 1) := by decide +kernel
theorem dX7_showsAll_100 : decode cX7_showsAll 100 = .ok (.ifCond .le 14, 3) := by decide +kernel
theorem dX7_showsAll_103 : decode cX7_showsAll 103 = .ok (.aload_n 0, 1) := by decide +kernel
theorem dX7_showsAll_104 : decode cX7_showsAll 104 = .ok (.getfield 12, 3) := by decide +kernel
theorem dX7_showsAll_107 : decode cX7_showsAll 107 = .ok (.aload_n 0, 1) := by decide +kernel
theorem dX7_showsAll_108 : decode cX7_showsAll 108 = .ok (.getfield 25, 3) := by decide +kernel
theorem dX7_showsAll_111 : decode cX7_showsAll 111 = .ok (.invokevirtual 33, 3) := by decide +kernel
theorem dX7_showsAll_114 : decode cX7_showsAll 114 = .ok (.iinc 3 1, 3) := by decide +kernel
theorem dX7_showsAll_117 : decode cX7_showsAll 117 = .ok (.goto (-110), 3) := by decide +kernel
theorem dX7_showsAll_120 : decode cX7_showsAll 120 = .ok (.iconst 1, 1) := by decide +kernel
theorem dX7_showsAll_121 : decode cX7_showsAll 121 = .ok (.ireturn, 1) := by decide +kernel
theorem dX7_waysTo_0 : decode cX7_waysTo 0 = .ok (.iconst 0, 1) := by decide +kernel
theorem dX7_waysTo_1 : decode cX7_waysTo 1 = .ok (.istore 6, 2) := by decide +kernel
theorem dX7_waysTo_3 : decode cX7_waysTo 3 = .ok (.iconst 0, 1) := by decide +kernel
theorem dX7_waysTo_4 : decode cX7_waysTo 4 = .ok (.istore 7, 2) := by decide +kernel
theorem dX7_waysTo_6 : decode cX7_waysTo 6 = .ok (.iload 7, 2) := by decide +kernel
theorem dX7_waysTo_8 : decode cX7_waysTo 8 = .ok (.bipush 10, 2) := by decide +kernel
theorem dX7_waysTo_10 : decode cX7_waysTo 10 = .ok (.if_icmp .ge 66, 3) := by decide +kernel
theorem dX7_waysTo_13 : decode cX7_waysTo 13 = .ok (.aload_n 0, 1) := by decide +kernel
theorem dX7_waysTo_14 : decode cX7_waysTo 14 = .ok (.aload_n 1, 1) := by decide +kernel
theorem dX7_waysTo_15 : decode cX7_waysTo 15 = .ok (.invokevirtual 37, 3) := by decide +kernel
theorem dX7_waysTo_18 : decode cX7_waysTo 18 = .ok (.aload_n 0, 1) := by decide +kernel
theorem dX7_waysTo_19 : decode cX7_waysTo 19 = .ok (.getfield 12, 3) := by decide +kernel
theorem dX7_waysTo_22 : decode cX7_waysTo 22 = .ok (.iload_n 2, 1) := by decide +kernel
theorem dX7_waysTo_23 : decode cX7_waysTo 23 = .ok (.iconst 1, 1) := by decide +kernel
theorem dX7_waysTo_24 : decode cX7_waysTo 24 = .ok (.iload 7, 2) := by decide +kernel
theorem dX7_waysTo_26 : decode cX7_waysTo 26 = .ok (.invokevirtual 44, 3) := by decide +kernel
theorem dX7_waysTo_29 : decode cX7_waysTo 29 = .ok (.aload_n 0, 1) := by decide +kernel
theorem dX7_waysTo_30 : decode cX7_waysTo 30 = .ok (.iload 5, 2) := by decide +kernel
theorem dX7_waysTo_32 : decode cX7_waysTo 32 = .ok (.invokevirtual 48, 3) := by decide +kernel
theorem dX7_waysTo_35 : decode cX7_waysTo 35 = .ok (.iload 6, 2) := by decide +kernel
theorem dX7_waysTo_37 : decode cX7_waysTo 37 = .ok (.aload_n 0, 1) := by decide +kernel
theorem dX7_waysTo_38 : decode cX7_waysTo 38 = .ok (.getfield 12, 3) := by decide +kernel
theorem dX7_waysTo_41 : decode cX7_waysTo 41 = .ok (.iload_n 3, 1) := by decide +kernel
theorem dX7_waysTo_42 : decode cX7_waysTo 42 = .ok (.invokevirtual 80, 3) := by decide +kernel
theorem dX7_waysTo_45 : decode cX7_waysTo 45 = .ok (.ifCond .eq 21, 3) := by decide +kernel
theorem dX7_waysTo_48 : decode cX7_waysTo 48 = .ok (.aload_n 0, 1) := by decide +kernel
theorem dX7_waysTo_49 : decode cX7_waysTo 49 = .ok (.getfield 12, 3) := by decide +kernel
theorem dX7_waysTo_52 : decode cX7_waysTo 52 = .ok (.getfield 56, 3) := by decide +kernel
theorem dX7_waysTo_55 : decode cX7_waysTo 55 = .ok (.iload_n 3, 1) := by decide +kernel
theorem dX7_waysTo_56 : decode cX7_waysTo 56 = .ok (.iaload, 1) := by decide +kernel
theorem dX7_waysTo_57 : decode cX7_waysTo 57 = .ok (.iload 4, 2) := by decide +kernel
theorem dX7_waysTo_59 : decode cX7_waysTo 59 = .ok (.if_icmp .ne 7, 3) := by decide +kernel
theorem dX7_waysTo_62 : decode cX7_waysTo 62 = .ok (.iconst 1, 1) := by decide +kernel
theorem dX7_waysTo_63 : decode cX7_waysTo 63 = .ok (.goto 4, 3) := by decide +kernel
theorem dX7_waysTo_66 : decode cX7_waysTo 66 = .ok (.iconst 0, 1) := by decide +kernel
theorem dX7_waysTo_67 : decode cX7_waysTo 67 = .ok (.iadd, 1) := by decide +kernel
theorem dX7_waysTo_68 : decode cX7_waysTo 68 = .ok (.istore 6, 2) := by decide +kernel
theorem dX7_waysTo_70 : decode cX7_waysTo 70 = .ok (.iinc 7 1, 3) := by decide +kernel
theorem dX7_waysTo_73 : decode cX7_waysTo 73 = .ok (.goto (-67), 3) := by decide +kernel
theorem dX7_waysTo_76 : decode cX7_waysTo 76 = .ok (.iload 6, 2) := by decide +kernel
theorem dX7_waysTo_78 : decode cX7_waysTo 78 = .ok (.ireturn, 1) := by decide +kernel
theorem dX7_goByPlan_0 : decode cX7_goByPlan 0 = .ok (.iconst 0, 1) := by decide +kernel
theorem dX7_goByPlan_1 : decode cX7_goByPlan 1 = .ok (.istore_n 2, 1) := by decide +kernel
theorem dX7_goByPlan_2 : decode cX7_goByPlan 2 = .ok (.iload_n 2, 1) := by decide +kernel
theorem dX7_goByPlan_3 : decode cX7_goByPlan 3 = .ok (.aload_n 1, 1) := by decide +kernel
theorem dX7_goByPlan_4 : decode cX7_goByPlan 4 = .ok (.getfield 103, 3) := by decide +kernel
theorem dX7_goByPlan_7 : decode cX7_goByPlan 7 = .ok (.if_icmp .ge 109, 3) := by decide +kernel
theorem dX7_goByPlan_10 : decode cX7_goByPlan 10 = .ok (.iload_n 2, 1) := by decide +kernel
theorem dX7_goByPlan_11 : decode cX7_goByPlan 11 = .ok (.bipush 8, 2) := by decide +kernel
theorem dX7_goByPlan_13 : decode cX7_goByPlan 13 = .ok (.if_icmp .ge 103, 3) := by decide +kernel
theorem dX7_goByPlan_16 : decode cX7_goByPlan 16 = .ok (.aload_n 1, 1) := by decide +kernel
theorem dX7_goByPlan_17 : decode cX7_goByPlan 17 = .ok (.getfield 108, 3) := by decide +kernel
theorem dX7_goByPlan_20 : decode cX7_goByPlan 20 = .ok (.iload_n 2, 1) := by decide +kernel
theorem dX7_goByPlan_21 : decode cX7_goByPlan 21 = .ok (.iaload, 1) := by decide +kernel
theorem dX7_goByPlan_22 : decode cX7_goByPlan 22 = .ok (.istore_n 3, 1) := by decide +kernel
theorem dX7_goByPlan_23 : decode cX7_goByPlan 23 = .ok (.aload_n 1, 1) := by decide +kernel
theorem dX7_goByPlan_24 : decode cX7_goByPlan 24 = .ok (.getfield 111, 3) := by decide +kernel
theorem dX7_goByPlan_27 : decode cX7_goByPlan 27 = .ok (.iload_n 2, 1) := by decide +kernel
theorem dX7_goByPlan_28 : decode cX7_goByPlan 28 = .ok (.iaload, 1) := by decide +kernel
theorem dX7_goByPlan_29 : decode cX7_goByPlan 29 = .ok (.tableswitch 65 0 2 #[27, 41, 53], 27) := by decide +kernel
theorem dX7_goByPlan_56 : decode cX7_goByPlan 56 = .ok (.aload_n 0, 1) := by decide +kernel
theorem dX7_goByPlan_57 : decode cX7_goByPlan 57 = .ok (.getfield 12, 3) := by decide +kernel
theorem dX7_goByPlan_60 : decode cX7_goByPlan 60 = .ok (.aload_n 0, 1) := by decide +kernel
theorem dX7_goByPlan_61 : decode cX7_goByPlan 61 = .ok (.getfield 25, 3) := by decide +kernel
theorem dX7_goByPlan_64 : decode cX7_goByPlan 64 = .ok (.invokevirtual 33, 3) := by decide +kernel
theorem dX7_goByPlan_67 : decode cX7_goByPlan 67 = .ok (.goto 43, 3) := by decide +kernel
theorem dX7_goByPlan_70 : decode cX7_goByPlan 70 = .ok (.aload_n 0, 1) := by decide +kernel
theorem dX7_goByPlan_71 : decode cX7_goByPlan 71 = .ok (.getfield 12, 3) := by decide +kernel
theorem dX7_goByPlan_74 : decode cX7_goByPlan 74 = .ok (.iload_n 3, 1) := by decide +kernel
theorem dX7_goByPlan_75 : decode cX7_goByPlan 75 = .ok (.iconst 1, 1) := by decide +kernel
theorem dX7_goByPlan_76 : decode cX7_goByPlan 76 = .ok (.invokevirtual 117, 3) := by decide +kernel
theorem dX7_goByPlan_79 : decode cX7_goByPlan 79 = .ok (.goto 31, 3) := by decide +kernel
theorem dX7_goByPlan_82 : decode cX7_goByPlan 82 = .ok (.aload_n 0, 1) := by decide +kernel
theorem dX7_goByPlan_83 : decode cX7_goByPlan 83 = .ok (.getfield 12, 3) := by decide +kernel
theorem dX7_goByPlan_86 : decode cX7_goByPlan 86 = .ok (.iload_n 3, 1) := by decide +kernel
theorem dX7_goByPlan_87 : decode cX7_goByPlan 87 = .ok (.iconst 0, 1) := by decide +kernel
theorem dX7_goByPlan_88 : decode cX7_goByPlan 88 = .ok (.invokevirtual 117, 3) := by decide +kernel
theorem dX7_goByPlan_91 : decode cX7_goByPlan 91 = .ok (.goto 19, 3) := by decide +kernel
theorem dX7_goByPlan_94 : decode cX7_goByPlan 94 = .ok (.aload_n 0, 1) := by decide +kernel
theorem dX7_goByPlan_95 : decode cX7_goByPlan 95 = .ok (.getfield 12, 3) := by decide +kernel
theorem dX7_goByPlan_98 : decode cX7_goByPlan 98 = .ok (.iload_n 3, 1) := by decide +kernel
theorem dX7_goByPlan_99 : decode cX7_goByPlan 99 = .ok (.bipush 10, 2) := by decide +kernel
theorem dX7_goByPlan_101 : decode cX7_goByPlan 101 = .ok (.idiv, 1) := by decide +kernel
theorem dX7_goByPlan_102 : decode cX7_goByPlan 102 = .ok (.iconst 0, 1) := by decide +kernel
theorem dX7_goByPlan_103 : decode cX7_goByPlan 103 = .ok (.iload_n 3, 1) := by decide +kernel
theorem dX7_goByPlan_104 : decode cX7_goByPlan 104 = .ok (.bipush 10, 2) := by decide +kernel
theorem dX7_goByPlan_106 : decode cX7_goByPlan 106 = .ok (.irem, 1) := by decide +kernel
theorem dX7_goByPlan_107 : decode cX7_goByPlan 107 = .ok (.invokevirtual 44, 3) := by decide +kernel
theorem dX7_goByPlan_110 : decode cX7_goByPlan 110 = .ok (.iinc 2 1, 3) := by decide +kernel
theorem dX7_goByPlan_113 : decode cX7_goByPlan 113 = .ok (.goto (-111), 3) := by decide +kernel
theorem dX7_goByPlan_116 : decode cX7_goByPlan 116 = .ok (.return_, 1) := by decide +kernel
theorem dX8_init_0 : decode cX8_init 0 = .ok (.aload_n 0, 1) := by decide +kernel
theorem dX8_init_1 : decode cX8_init 1 = .ok (.invokespecial 1, 3) := by decide +kernel
theorem dX8_init_4 : decode cX8_init 4 = .ok (.aload_n 0, 1) := by decide +kernel
theorem dX8_init_5 : decode cX8_init 5 = .ok (.new 7, 3) := by decide +kernel
theorem dX8_init_8 : decode cX8_init 8 = .ok (.dup, 1) := by decide +kernel
theorem dX8_init_9 : decode cX8_init 9 = .ok (.invokespecial 9, 3) := by decide +kernel
theorem dX8_init_12 : decode cX8_init 12 = .ok (.putfield 10, 3) := by decide +kernel
theorem dX8_init_15 : decode cX8_init 15 = .ok (.aload_n 0, 1) := by decide +kernel
theorem dX8_init_16 : decode cX8_init 16 = .ok (.new 16, 3) := by decide +kernel
theorem dX8_init_19 : decode cX8_init 19 = .ok (.dup, 1) := by decide +kernel
theorem dX8_init_20 : decode cX8_init 20 = .ok (.invokespecial 18, 3) := by decide +kernel
theorem dX8_init_23 : decode cX8_init 23 = .ok (.putfield 19, 3) := by decide +kernel
theorem dX8_init_26 : decode cX8_init 26 = .ok (.aload_n 0, 1) := by decide +kernel
theorem dX8_init_27 : decode cX8_init 27 = .ok (.new 23, 3) := by decide +kernel
theorem dX8_init_30 : decode cX8_init 30 = .ok (.dup, 1) := by decide +kernel
theorem dX8_init_31 : decode cX8_init 31 = .ok (.invokespecial 25, 3) := by decide +kernel
theorem dX8_init_34 : decode cX8_init 34 = .ok (.putfield 26, 3) := by decide +kernel
theorem dX8_init_37 : decode cX8_init 37 = .ok (.aload_n 0, 1) := by decide +kernel
theorem dX8_init_38 : decode cX8_init 38 = .ok (.new 23, 3) := by decide +kernel
theorem dX8_init_41 : decode cX8_init 41 = .ok (.dup, 1) := by decide +kernel
theorem dX8_init_42 : decode cX8_init 42 = .ok (.invokespecial 25, 3) := by decide +kernel
theorem dX8_init_45 : decode cX8_init 45 = .ok (.putfield 30, 3) := by decide +kernel
theorem dX8_init_48 : decode cX8_init 48 = .ok (.aload_n 0, 1) := by decide +kernel
theorem dX8_init_49 : decode cX8_init 49 = .ok (.new 23, 3) := by decide +kernel
theorem dX8_init_52 : decode cX8_init 52 = .ok (.dup, 1) := by decide +kernel
theorem dX8_init_53 : decode cX8_init 53 = .ok (.invokespecial 25, 3) := by decide +kernel
theorem dX8_init_56 : decode cX8_init 56 = .ok (.putfield 33, 3) := by decide +kernel
theorem dX8_init_59 : decode cX8_init 59 = .ok (.return_, 1) := by decide +kernel
theorem dX8_copyFrom_0 : decode cX8_copyFrom 0 = .ok (.aload_n 0, 1) := by decide +kernel
theorem dX8_copyFrom_1 : decode cX8_copyFrom 1 = .ok (.getfield 10, 3) := by decide +kernel
theorem dX8_copyFrom_4 : decode cX8_copyFrom 4 = .ok (.aload_n 1, 1) := by decide +kernel
theorem dX8_copyFrom_5 : decode cX8_copyFrom 5 = .ok (.getfield 10, 3) := by decide +kernel
theorem dX8_copyFrom_8 : decode cX8_copyFrom 8 = .ok (.invokevirtual 36, 3) := by decide +kernel
theorem dX8_copyFrom_11 : decode cX8_copyFrom 11 = .ok (.aload_n 0, 1) := by decide +kernel
theorem dX8_copyFrom_12 : decode cX8_copyFrom 12 = .ok (.getfield 19, 3) := by decide +kernel
theorem dX8_copyFrom_15 : decode cX8_copyFrom 15 = .ok (.aload_n 1, 1) := by decide +kernel
theorem dX8_copyFrom_16 : decode cX8_copyFrom 16 = .ok (.getfield 19, 3) := by decide +kernel
theorem dX8_copyFrom_19 : decode cX8_copyFrom 19 = .ok (.invokevirtual 40, 3) := by decide +kernel
theorem dX8_copyFrom_22 : decode cX8_copyFrom 22 = .ok (.aload_n 0, 1) := by decide +kernel
theorem dX8_copyFrom_23 : decode cX8_copyFrom 23 = .ok (.getfield 26, 3) := by decide +kernel
theorem dX8_copyFrom_26 : decode cX8_copyFrom 26 = .ok (.aload_n 1, 1) := by decide +kernel
theorem dX8_copyFrom_27 : decode cX8_copyFrom 27 = .ok (.getfield 26, 3) := by decide +kernel
theorem dX8_copyFrom_30 : decode cX8_copyFrom 30 = .ok (.invokevirtual 43, 3) := by decide +kernel
theorem dX8_copyFrom_33 : decode cX8_copyFrom 33 = .ok (.aload_n 0, 1) := by decide +kernel
theorem dX8_copyFrom_34 : decode cX8_copyFrom 34 = .ok (.getfield 30, 3) := by decide +kernel
theorem dX8_copyFrom_37 : decode cX8_copyFrom 37 = .ok (.aload_n 1, 1) := by decide +kernel
theorem dX8_copyFrom_38 : decode cX8_copyFrom 38 = .ok (.getfield 30, 3) := by decide +kernel
theorem dX8_copyFrom_41 : decode cX8_copyFrom 41 = .ok (.invokevirtual 43, 3) := by decide +kernel
theorem dX8_copyFrom_44 : decode cX8_copyFrom 44 = .ok (.aload_n 0, 1) := by decide +kernel
theorem dX8_copyFrom_45 : decode cX8_copyFrom 45 = .ok (.getfield 33, 3) := by decide +kernel
theorem dX8_copyFrom_48 : decode cX8_copyFrom 48 = .ok (.aload_n 1, 1) := by decide +kernel
theorem dX8_copyFrom_49 : decode cX8_copyFrom 49 = .ok (.getfield 33, 3) := by decide +kernel
theorem dX8_copyFrom_52 : decode cX8_copyFrom 52 = .ok (.invokevirtual 43, 3) := by decide +kernel
theorem dX8_copyFrom_55 : decode cX8_copyFrom 55 = .ok (.aload_n 0, 1) := by decide +kernel
theorem dX8_copyFrom_56 : decode cX8_copyFrom 56 = .ok (.aload_n 1, 1) := by decide +kernel
theorem dX8_copyFrom_57 : decode cX8_copyFrom 57 = .ok (.getfield 46, 3) := by decide +kernel
theorem dX8_copyFrom_60 : decode cX8_copyFrom 60 = .ok (.putfield 46, 3) := by decide +kernel
theorem dX8_copyFrom_63 : decode cX8_copyFrom 63 = .ok (.return_, 1) := by decide +kernel
theorem dX9_init_0 : decode cX9_init 0 = .ok (.aload_n 0, 1) := by decide +kernel
theorem dX9_init_1 : decode cX9_init 1 = .ok (.invokespecial 3, 3) := by decide +kernel
theorem dX9_init_4 : decode cX9_init 4 = .ok (.aload_n 0, 1) := by decide +kernel
theorem dX9_init_5 : decode cX9_init 5 = .ok (.new 9, 3) := by decide +kernel
theorem dX9_init_8 : decode cX9_init 8 = .ok (.dup, 1) := by decide +kernel
theorem dX9_init_9 : decode cX9_init 9 = .ok (.invokespecial 11, 3) := by decide +kernel
theorem dX9_init_12 : decode cX9_init 12 = .ok (.putfield 12, 3) := by decide +kernel
theorem dX9_init_15 : decode cX9_init 15 = .ok (.aload_n 0, 1) := by decide +kernel
theorem dX9_init_16 : decode cX9_init 16 = .ok (.new 9, 3) := by decide +kernel
theorem dX9_init_19 : decode cX9_init 19 = .ok (.dup, 1) := by decide +kernel
theorem dX9_init_20 : decode cX9_init 20 = .ok (.invokespecial 11, 3) := by decide +kernel
theorem dX9_init_23 : decode cX9_init 23 = .ok (.putfield 18, 3) := by decide +kernel
theorem dX9_init_26 : decode cX9_init 26 = .ok (.aload_n 0, 1) := by decide +kernel
theorem dX9_init_27 : decode cX9_init 27 = .ok (.iconst 5, 1) := by decide +kernel
theorem dX9_init_28 : decode cX9_init 28 = .ok (.anewarray 21, 3) := by decide +kernel
theorem dX9_init_31 : decode cX9_init 31 = .ok (.putfield 23, 3) := by decide +kernel
theorem dX9_init_34 : decode cX9_init 34 = .ok (.aload_n 0, 1) := by decide +kernel
theorem dX9_init_35 : decode cX9_init 35 = .ok (.new 27, 3) := by decide +kernel
theorem dX9_init_38 : decode cX9_init 38 = .ok (.dup, 1) := by decide +kernel
theorem dX9_init_39 : decode cX9_init 39 = .ok (.invokespecial 29, 3) := by decide +kernel
theorem dX9_init_42 : decode cX9_init 42 = .ok (.putfield 30, 3) := by decide +kernel
theorem dX9_init_45 : decode cX9_init 45 = .ok (.aload_n 0, 1) := by decide +kernel
theorem dX9_init_46 : decode cX9_init 46 = .ok (.new 34, 3) := by decide +kernel
theorem dX9_init_49 : decode cX9_init 49 = .ok (.dup, 1) := by decide +kernel
theorem dX9_init_50 : decode cX9_init 50 = .ok (.aload_n 0, 1) := by decide +kernel
theorem dX9_init_51 : decode cX9_init 51 = .ok (.getfield 30, 3) := by decide +kernel
theorem dX9_init_54 : decode cX9_init 54 = .ok (.invokespecial 36, 3) := by decide +kernel
theorem dX9_init_57 : decode cX9_init 57 = .ok (.putfield 39, 3) := by decide +kernel
theorem dX9_init_60 : decode cX9_init 60 = .ok (.aload_n 0, 1) := by decide +kernel
theorem dX9_init_61 : decode cX9_init 61 = .ok (.new 43, 3) := by decide +kernel
theorem dX9_init_64 : decode cX9_init 64 = .ok (.dup, 1) := by decide +kernel
theorem dX9_init_65 : decode cX9_init 65 = .ok (.invokespecial 45, 3) := by decide +kernel
theorem dX9_init_68 : decode cX9_init 68 = .ok (.putfield 46, 3) := by decide +kernel
theorem dX9_init_71 : decode cX9_init 71 = .ok (.iconst 0, 1) := by decide +kernel
theorem dX9_init_72 : decode cX9_init 72 = .ok (.istore_n 1, 1) := by decide +kernel
theorem dX9_init_73 : decode cX9_init 73 = .ok (.iload_n 1, 1) := by decide +kernel
theorem dX9_init_74 : decode cX9_init 74 = .ok (.aload_n 0, 1) := by decide +kernel
theorem dX9_init_75 : decode cX9_init 75 = .ok (.getfield 23, 3) := by decide +kernel
theorem dX9_init_78 : decode cX9_init 78 = .ok (.arraylength, 1) := by decide +kernel
theorem dX9_init_79 : decode cX9_init 79 = .ok (.if_icmp .ge 22, 3) := by decide +kernel
theorem dX9_init_82 : decode cX9_init 82 = .ok (.aload_n 0, 1) := by decide +kernel
theorem dX9_init_83 : decode cX9_init 83 = .ok (.getfield 23, 3) := by decide +kernel
theorem dX9_init_86 : decode cX9_init 86 = .ok (.iload_n 1, 1) := by decide +kernel
theorem dX9_init_87 : decode cX9_init 87 = .ok (.new 21, 3) := by decide +kernel
theorem dX9_init_90 : decode cX9_init 90 = .ok (.dup, 1) := by decide +kernel
theorem dX9_init_91 : decode cX9_init 91 = .ok (.invokespecial 50, 3) := by decide +kernel
theorem dX9_init_94 : decode cX9_init 94 = .ok (.aastore, 1) := by decide +kernel
theorem dX9_init_95 : decode cX9_init 95 = .ok (.iinc 1 1, 3) := by decide +kernel
theorem dX9_init_98 : decode cX9_init 98 = .ok (.goto (-25), 3) := by decide +kernel
theorem dX9_init_101 : decode cX9_init 101 = .ok (.return_, 1) := by decide +kernel
theorem dX9_feed_0 : decode cX9_feed 0 = .ok (.iload_n 1, 1) := by decide +kernel
theorem dX9_feed_1 : decode cX9_feed 1 = .ok (.ifCond .lt 9, 3) := by decide +kernel
theorem dX9_feed_4 : decode cX9_feed 4 = .ok (.iload_n 1, 1) := by decide +kernel
theorem dX9_feed_5 : decode cX9_feed 5 = .ok (.bipush 127, 2) := by decide +kernel
theorem dX9_feed_7 : decode cX9_feed 7 = .ok (.if_icmp .le 6, 3) := by decide +kernel
theorem dX9_feed_10 : decode cX9_feed 10 = .ok (.bipush (-2), 2) := by decide +kernel
theorem dX9_feed_12 : decode cX9_feed 12 = .ok (.ireturn, 1) := by decide +kernel
theorem dX9_feed_13 : decode cX9_feed 13 = .ok (.aload_n 0, 1) := by decide +kernel
theorem dX9_feed_14 : decode cX9_feed 14 = .ok (.getfield 12, 3) := by decide +kernel
theorem dX9_feed_17 : decode cX9_feed 17 = .ok (.getfield 51, 3) := by decide +kernel
theorem dX9_feed_20 : decode cX9_feed 20 = .ok (.iload_n 1, 1) := by decide +kernel
theorem dX9_feed_21 : decode cX9_feed 21 = .ok (.invokevirtual 55, 3) := by decide +kernel
theorem dX9_feed_24 : decode cX9_feed 24 = .ok (.ifCond .eq 16, 3) := by decide +kernel
theorem dX9_feed_27 : decode cX9_feed 27 = .ok (.aload_n 0, 1) := by decide +kernel
theorem dX9_feed_28 : decode cX9_feed 28 = .ok (.getfield 12, 3) := by decide +kernel
theorem dX9_feed_31 : decode cX9_feed 31 = .ok (.getfield 51, 3) := by decide +kernel
theorem dX9_feed_34 : decode cX9_feed 34 = .ok (.getfield 61, 3) := by decide +kernel
theorem dX9_feed_37 : decode cX9_feed 37 = .ok (.goto 5, 3) := by decide +kernel
theorem dX9_feed_40 : decode cX9_feed 40 = .ok (.bipush (-4), 2) := by decide +kernel
theorem dX9_feed_42 : decode cX9_feed 42 = .ok (.ireturn, 1) := by decide +kernel
theorem dX9_house_0 : decode cX9_house 0 = .ok (.aload_n 0, 1) := by decide +kernel
theorem dX9_house_1 : decode cX9_house 1 = .ok (.getfield 12, 3) := by decide +kernel
theorem dX9_house_4 : decode cX9_house 4 = .ok (.getfield 65, 3) := by decide +kernel
theorem dX9_house_7 : decode cX9_house 7 = .ok (.aload_n 0, 1) := by decide +kernel
theorem dX9_house_8 : decode cX9_house 8 = .ok (.getfield 23, 3) := by decide +kernel
theorem dX9_house_11 : decode cX9_house 11 = .ok (.arraylength, 1) := by decide +kernel
theorem dX9_house_12 : decode cX9_house 12 = .ok (.if_icmp .lt 6, 3) := by decide +kernel
theorem dX9_house_15 : decode cX9_house 15 = .ok (.bipush (-4), 2) := by decide +kernel
theorem dX9_house_17 : decode cX9_house 17 = .ok (.ireturn, 1) := by decide +kernel
theorem dX9_house_18 : decode cX9_house 18 = .ok (.new 67, 3) := by decide +kernel
theorem dX9_house_21 : decode cX9_house 21 = .ok (.dup, 1) := by decide +kernel
theorem dX9_house_22 : decode cX9_house 22 = .ok (.aload_n 0, 1) := by decide +kernel
theorem dX9_house_23 : decode cX9_house 23 = .ok (.getfield 12, 3) := by decide +kernel
theorem dX9_house_26 : decode cX9_house 26 = .ok (.getfield 51, 3) := by decide +kernel
theorem dX9_house_29 : decode cX9_house 29 = .ok (.aload_n 0, 1) := by decide +kernel
theorem dX9_house_30 : decode cX9_house 30 = .ok (.getfield 23, 3) := by decide +kernel
theorem dX9_house_33 : decode cX9_house 33 = .ok (.aload_n 0, 1) := by decide +kernel
theorem dX9_house_34 : decode cX9_house 34 = .ok (.getfield 12, 3) := by decide +kernel
theorem dX9_house_37 : decode cX9_house 37 = .ok (.getfield 65, 3) := by decide +kernel
theorem dX9_house_40 : decode cX9_house 40 = .ok (.aaload, 1) := by decide +kernel
theorem dX9_house_41 : decode cX9_house 41 = .ok (.invokespecial 69, 3) := by decide +kernel
theorem dX9_house_44 : decode cX9_house 44 = .ok (.astore_n 1, 1) := by decide +kernel
theorem dX9_house_45 : decode cX9_house 45 = .ok (.aload_n 1, 1) := by decide +kernel
theorem dX9_house_46 : decode cX9_house 46 = .ok (.invokevirtual 72, 3) := by decide +kernel
theorem dX9_house_49 : decode cX9_house 49 = .ok (.istore_n 2, 1) := by decide +kernel
theorem dX9_house_50 : decode cX9_house 50 = .ok (.aload_n 0, 1) := by decide +kernel
theorem dX9_house_51 : decode cX9_house 51 = .ok (.getfield 12, 3) := by decide +kernel
theorem dX9_house_54 : decode cX9_house 54 = .ok (.getfield 51, 3) := by decide +kernel
theorem dX9_house_57 : decode cX9_house 57 = .ok (.iconst 0, 1) := by decide +kernel
theorem dX9_house_58 : decode cX9_house 58 = .ok (.putfield 61, 3) := by decide +kernel
theorem dX9_house_61 : decode cX9_house 61 = .ok (.iload_n 2, 1) := by decide +kernel
theorem dX9_house_62 : decode cX9_house 62 = .ok (.ifCond .ne 11, 3) := by decide +kernel
theorem dX9_house_65 : decode cX9_house 65 = .ok (.bipush (-10), 2) := by decide +kernel
theorem dX9_house_67 : decode cX9_house 67 = .ok (.aload_n 1, 1) := by decide +kernel
theorem dX9_house_68 : decode cX9_house 68 = .ok (.getfield 76, 3) := by decide +kernel
theorem dX9_house_71 : decode cX9_house 71 = .ok (.isub, 1) := by decide +kernel
theorem dX9_house_72 : decode cX9_house 72 = .ok (.ireturn, 1) := by decide +kernel
theorem dX9_house_73 : decode cX9_house 73 = .ok (.aload_n 0, 1) := by decide +kernel
theorem dX9_house_74 : decode cX9_house 74 = .ok (.getfield 12, 3) := by decide +kernel
theorem dX9_house_77 : decode cX9_house 77 = .ok (.dup, 1) := by decide +kernel
theorem dX9_house_78 : decode cX9_house 78 = .ok (.getfield 65, 3) := by decide +kernel
theorem dX9_house_81 : decode cX9_house 81 = .ok (.iconst 1, 1) := by decide +kernel
theorem dX9_house_82 : decode cX9_house 82 = .ok (.iadd, 1) := by decide +kernel
theorem dX9_house_83 : decode cX9_house 83 = .ok (.putfield 65, 3) := by decide +kernel
theorem dX9_house_86 : decode cX9_house 86 = .ok (.aload_n 0, 1) := by decide +kernel
theorem dX9_house_87 : decode cX9_house 87 = .ok (.invokevirtual 79, 3) := by decide +kernel
theorem dX9_house_90 : decode cX9_house 90 = .ok (.aload_n 0, 1) := by decide +kernel
theorem dX9_house_91 : decode cX9_house 91 = .ok (.getfield 12, 3) := by decide +kernel
theorem dX9_house_94 : decode cX9_house 94 = .ok (.getfield 65, 3) := by decide +kernel
theorem dX9_house_97 : decode cX9_house 97 = .ok (.iconst 1, 1) := by decide +kernel
theorem dX9_house_98 : decode cX9_house 98 = .ok (.isub, 1) := by decide +kernel
theorem dX9_house_99 : decode cX9_house 99 = .ok (.ireturn, 1) := by decide +kernel
theorem dX9_man_0 : decode cX9_man 0 = .ok (.iload_n 1, 1) := by decide +kernel
theorem dX9_man_1 : decode cX9_man 1 = .ok (.ifCond .lt 24, 3) := by decide +kernel
theorem dX9_man_4 : decode cX9_man 4 = .ok (.iload_n 1, 1) := by decide +kernel
theorem dX9_man_5 : decode cX9_man 5 = .ok (.bipush 7, 2) := by decide +kernel
theorem dX9_man_7 : decode cX9_man 7 = .ok (.if_icmp .ge 18, 3) := by decide +kernel
theorem dX9_man_10 : decode cX9_man 10 = .ok (.iload_n 3, 1) := by decide +kernel
theorem dX9_man_11 : decode cX9_man 11 = .ok (.invokestatic 82, 3) := by decide +kernel
theorem dX9_man_14 : decode cX9_man 14 = .ok (.ifCond .eq 11, 3) := by decide +kernel
theorem dX9_man_17 : decode cX9_man 17 = .ok (.iload 4, 2) := by decide +kernel
theorem dX9_man_19 : decode cX9_man 19 = .ok (.invokestatic 82, 3) := by decide +kernel
theorem dX9_man_22 : decode cX9_man 22 = .ok (.ifCond .ne 5, 3) := by decide +kernel
theorem dX9_man_25 : decode cX9_man 25 = .ok (.iconst (-1), 1) := by decide +kernel
theorem dX9_man_26 : decode cX9_man 26 = .ok (.ireturn, 1) := by decide +kernel
theorem dX9_man_27 : decode cX9_man 27 = .ok (.iload_n 2, 1) := by decide +kernel
theorem dX9_man_28 : decode cX9_man 28 = .ok (.invokestatic 82, 3) := by decide +kernel
theorem dX9_man_31 : decode cX9_man 31 = .ok (.ifCond .ne 6, 3) := by decide +kernel
theorem dX9_man_34 : decode cX9_man 34 = .ok (.bipush (-2), 2) := by decide +kernel
theorem dX9_man_36 : decode cX9_man 36 = .ok (.ireturn, 1) := by decide +kernel
theorem dX9_man_37 : decode cX9_man 37 = .ok (.aload_n 0, 1) := by decide +kernel
theorem dX9_man_38 : decode cX9_man 38 = .ok (.getfield 12, 3) := by decide +kernel
theorem dX9_man_41 : decode cX9_man 41 = .ok (.getfield 85, 3) := by decide +kernel
theorem dX9_man_44 : decode cX9_man 44 = .ok (.iload_n 1, 1) := by decide +kernel
theorem dX9_man_45 : decode cX9_man 45 = .ok (.iload_n 2, 1) := by decide +kernel
theorem dX9_man_46 : decode cX9_man 46 = .ok (.iload_n 3, 1) := by decide +kernel
theorem dX9_man_47 : decode cX9_man 47 = .ok (.iload 4, 2) := by decide +kernel
theorem dX9_man_49 : decode cX9_man 49 = .ok (.invokevirtual 89, 3) := by decide +kernel
theorem dX9_man_52 : decode cX9_man 52 = .ok (.istore 5, 2) := by decide +kernel
theorem dX9_man_54 : decode cX9_man 54 = .ok (.iload 5, 2) := by decide +kernel
theorem dX9_man_56 : decode cX9_man 56 = .ok (.ifCond .ge 6, 3) := by decide +kernel
theorem dX9_man_59 : decode cX9_man 59 = .ok (.bipush (-4), 2) := by decide +kernel
theorem dX9_man_61 : decode cX9_man 61 = .ok (.ireturn, 1) := by decide +kernel
theorem dX9_man_62 : decode cX9_man 62 = .ok (.aload_n 0, 1) := by decide +kernel
theorem dX9_man_63 : decode cX9_man 63 = .ok (.invokevirtual 79, 3) := by decide +kernel
theorem dX9_man_66 : decode cX9_man 66 = .ok (.iload 5, 2) := by decide +kernel
theorem dX9_man_68 : decode cX9_man 68 = .ok (.ireturn, 1) := by decide +kernel
theorem dX9_of_0 : decode cX9_of 0 = .ok (.aload_n 0, 1) := by decide +kernel
theorem dX9_of_1 : decode cX9_of 1 = .ok (.getfield 12, 3) := by decide +kernel
theorem dX9_of_4 : decode cX9_of 4 = .ok (.getfield 85, 3) := by decide +kernel
theorem dX9_of_7 : decode cX9_of 7 = .ok (.iload_n 1, 1) := by decide +kernel
theorem dX9_of_8 : decode cX9_of 8 = .ok (.invokevirtual 94, 3) := by decide +kernel
theorem dX9_of_11 : decode cX9_of 11 = .ok (.ifCond .ne 5, 3) := by decide +kernel
theorem dX9_of_14 : decode cX9_of 14 = .ok (.iconst (-1), 1) := by decide +kernel
theorem dX9_of_15 : decode cX9_of 15 = .ok (.ireturn, 1) := by decide +kernel
theorem dX9_of_16 : decode cX9_of 16 = .ok (.aload_n 0, 1) := by decide +kernel
theorem dX9_of_17 : decode cX9_of 17 = .ok (.getfield 12, 3) := by decide +kernel
theorem dX9_of_20 : decode cX9_of 20 = .ok (.getfield 85, 3) := by decide +kernel
theorem dX9_of_23 : decode cX9_of 23 = .ok (.astore_n 3, 1) := by decide +kernel
theorem dX9_of_24 : decode cX9_of 24 = .ok (.iload_n 2, 1) := by decide +kernel
theorem dX9_of_25 : decode cX9_of 25 = .ok (.tableswitch 108 0 6 #[43, 50, 57, 64, 71, 80, 93], 43) := by decide +kernel
theorem dX9_of_68 : decode cX9_of 68 = .ok (.aload_n 3, 1) := by decide +kernel
theorem dX9_of_69 : decode cX9_of 69 = .ok (.getfield 97, 3) := by decide +kernel
theorem dX9_of_72 : decode cX9_of 72 = .ok (.iload_n 1, 1) := by decide +kernel
theorem dX9_of_73 : decode cX9_of 73 = .ok (.iaload, 1) := by decide +kernel
theorem dX9_of_74 : decode cX9_of 74 = .ok (.ireturn, 1) := by decide +kernel
theorem dX9_of_75 : decode cX9_of 75 = .ok (.aload_n 3, 1) := by decide +kernel
theorem dX9_of_76 : decode cX9_of 76 = .ok (.getfield 101, 3) := by decide +kernel
theorem dX9_of_79 : decode cX9_of 79 = .ok (.iload_n 1, 1) := by decide +kernel
theorem dX9_of_80 : decode cX9_of 80 = .ok (.iaload, 1) := by decide +kernel
theorem dX9_of_81 : decode cX9_of 81 = .ok (.ireturn, 1) := by decide +kernel
theorem dX9_of_82 : decode cX9_of 82 = .ok (.aload_n 3, 1) := by decide +kernel
theorem dX9_of_83 : decode cX9_of 83 = .ok (.getfield 104, 3) := by decide +kernel
theorem dX9_of_86 : decode cX9_of 86 = .ok (.iload_n 1, 1) := by decide +kernel
theorem dX9_of_87 : decode cX9_of 87 = .ok (.iaload, 1) := by decide +kernel
theorem dX9_of_88 : decode cX9_of 88 = .ok (.ireturn, 1) := by decide +kernel
theorem dX9_of_89 : decode cX9_of 89 = .ok (.aload_n 3, 1) := by decide +kernel
theorem dX9_of_90 : decode cX9_of 90 = .ok (.getfield 107, 3) := by decide +kernel
theorem dX9_of_93 : decode cX9_of 93 = .ok (.iload_n 1, 1) := by decide +kernel
theorem dX9_of_94 : decode cX9_of 94 = .ok (.iaload, 1) := by decide +kernel
theorem dX9_of_95 : decode cX9_of 95 = .ok (.ireturn, 1) := by decide +kernel
theorem dX9_of_96 : decode cX9_of 96 = .ok (.aload_n 3, 1) := by decide +kernel
theorem dX9_of_97 : decode cX9_of 97 = .ok (.getfield 110, 3) := by decide +kernel
theorem dX9_of_100 : decode cX9_of 100 = .ok (.iload_n 1, 1) := by decide +kernel
theorem dX9_of_101 : decode cX9_of 101 = .ok (.ishr, 1) := by decide +kernel
theorem dX9_of_102 : decode cX9_of 102 = .ok (.iconst 1, 1) := by decide +kernel
theorem dX9_of_103 : decode cX9_of 103 = .ok (.iand, 1) := by decide +kernel
theorem dX9_of_104 : decode cX9_of 104 = .ok (.ireturn, 1) := by decide +kernel
theorem dX9_of_105 : decode cX9_of 105 = .ok (.aload_n 0, 1) := by decide +kernel
theorem dX9_of_106 : decode cX9_of 106 = .ok (.getfield 30, 3) := by decide +kernel
theorem dX9_of_109 : decode cX9_of 109 = .ok (.aload_n 3, 1) := by decide +kernel
theorem dX9_of_110 : decode cX9_of 110 = .ok (.iload_n 1, 1) := by decide +kernel
theorem dX9_of_111 : decode cX9_of 111 = .ok (.invokevirtual 113, 3) := by decide +kernel
theorem dX9_of_114 : decode cX9_of 114 = .ok (.invokestatic 117, 3) := by decide +kernel
theorem dX9_of_117 : decode cX9_of 117 = .ok (.ireturn, 1) := by decide +kernel
theorem dX9_of_118 : decode cX9_of 118 = .ok (.aload_n 3, 1) := by decide +kernel
theorem dX9_of_119 : decode cX9_of 119 = .ok (.iload_n 1, 1) := by decide +kernel
theorem dX9_of_120 : decode cX9_of 120 = .ok (.aload_n 0, 1) := by decide +kernel
theorem dX9_of_121 : decode cX9_of 121 = .ok (.getfield 30, 3) := by decide +kernel
theorem dX9_of_124 : decode cX9_of 124 = .ok (.aload_n 3, 1) := by decide +kernel
theorem dX9_of_125 : decode cX9_of 125 = .ok (.iload_n 1, 1) := by decide +kernel
theorem dX9_of_126 : decode cX9_of 126 = .ok (.invokevirtual 113, 3) := by decide +kernel
theorem dX9_of_129 : decode cX9_of 129 = .ok (.invokevirtual 121, 3) := by decide +kernel
theorem dX9_of_132 : decode cX9_of 132 = .ok (.ireturn, 1) := by decide +kernel
theorem dX9_of_133 : decode cX9_of 133 = .ok (.iconst (-1), 1) := by decide +kernel
theorem dX9_of_134 : decode cX9_of 134 = .ok (.ireturn, 1) := by decide +kernel
theorem dX9_pull_0 : decode cX9_pull 0 = .ok (.aload_n 0, 1) := by decide +kernel
theorem dX9_pull_1 : decode cX9_pull 1 = .ok (.getfield 12, 3) := by decide +kernel
theorem dX9_pull_4 : decode cX9_pull 4 = .ok (.getfield 85, 3) := by decide +kernel
theorem dX9_pull_7 : decode cX9_pull 7 = .ok (.iload_n 1, 1) := by decide +kernel
theorem dX9_pull_8 : decode cX9_pull 8 = .ok (.invokevirtual 94, 3) := by decide +kernel
theorem dX9_pull_11 : decode cX9_pull 11 = .ok (.ifCond .eq 22, 3) := by decide +kernel
theorem dX9_pull_14 : decode cX9_pull 14 = .ok (.aload_n 0, 1) := by decide +kernel
theorem dX9_pull_15 : decode cX9_pull 15 = .ok (.getfield 12, 3) := by decide +kernel
theorem dX9_pull_18 : decode cX9_pull 18 = .ok (.getfield 85, 3) := by decide +kernel
theorem dX9_pull_21 : decode cX9_pull 21 = .ok (.iload_n 2, 1) := by decide +kernel
theorem dX9_pull_22 : decode cX9_pull 22 = .ok (.invokevirtual 94, 3) := by decide +kernel
theorem dX9_pull_25 : decode cX9_pull 25 = .ok (.ifCond .eq 8, 3) := by decide +kernel
theorem dX9_pull_28 : decode cX9_pull 28 = .ok (.iload_n 1, 1) := by decide +kernel
theorem dX9_pull_29 : decode cX9_pull 29 = .ok (.iload_n 2, 1) := by decide +kernel
theorem dX9_pull_30 : decode cX9_pull 30 = .ok (.if_icmp .ne 6, 3) := by decide +kernel
theorem dX9_pull_33 : decode cX9_pull 33 = .ok (.ldc 125, 2) := by decide +kernel
theorem dX9_pull_35 : decode cX9_pull 35 = .ok (.ireturn, 1) := by decide +kernel
theorem dX9_pull_36 : decode cX9_pull 36 = .ok (.aload_n 0, 1) := by decide +kernel
theorem dX9_pull_37 : decode cX9_pull 37 = .ok (.getfield 30, 3) := by decide +kernel
theorem dX9_pull_40 : decode cX9_pull 40 = .ok (.aload_n 0, 1) := by decide +kernel
theorem dX9_pull_41 : decode cX9_pull 41 = .ok (.getfield 12, 3) := by decide +kernel
theorem dX9_pull_44 : decode cX9_pull 44 = .ok (.getfield 85, 3) := by decide +kernel
theorem dX9_pull_47 : decode cX9_pull 47 = .ok (.iload_n 1, 1) := by decide +kernel
theorem dX9_pull_48 : decode cX9_pull 48 = .ok (.iload_n 2, 1) := by decide +kernel
theorem dX9_pull_49 : decode cX9_pull 49 = .ok (.invokevirtual 126, 3) := by decide +kernel
theorem dX9_pull_52 : decode cX9_pull 52 = .ok (.ireturn, 1) := by decide +kernel
theorem dX9_row_0 : decode cX9_row 0 = .ok (.aload_n 0, 1) := by decide +kernel
theorem dX9_row_1 : decode cX9_row 1 = .ok (.getfield 12, 3) := by decide +kernel
theorem dX9_row_4 : decode cX9_row 4 = .ok (.getfield 85, 3) := by decide +kernel
theorem dX9_row_7 : decode cX9_row 7 = .ok (.iload_n 1, 1) := by decide +kernel
theorem dX9_row_8 : decode cX9_row 8 = .ok (.invokevirtual 94, 3) := by decide +kernel
theorem dX9_row_11 : decode cX9_row 11 = .ok (.ifCond .eq 12, 3) := by decide +kernel
theorem dX9_row_14 : decode cX9_row 14 = .ok (.iload_n 2, 1) := by decide +kernel
theorem dX9_row_15 : decode cX9_row 15 = .ok (.ifCond .lt 8, 3) := by decide +kernel
theorem dX9_row_18 : decode cX9_row 18 = .ok (.iload_n 2, 1) := by decide +kernel
theorem dX9_row_19 : decode cX9_row 19 = .ok (.iconst 4, 1) := by decide +kernel
theorem dX9_row_20 : decode cX9_row 20 = .ok (.if_icmp .lt 5, 3) := by decide +kernel
theorem dX9_row_23 : decode cX9_row 23 = .ok (.iconst (-1), 1) := by decide +kernel
theorem dX9_row_24 : decode cX9_row 24 = .ok (.ireturn, 1) := by decide +kernel
theorem dX9_row_25 : decode cX9_row 25 = .ok (.iload_n 3, 1) := by decide +kernel
theorem dX9_row_26 : decode cX9_row 26 = .ok (.invokestatic 82, 3) := by decide +kernel
theorem dX9_row_29 : decode cX9_row 29 = .ok (.ifCond .ne 6, 3) := by decide +kernel
theorem dX9_row_32 : decode cX9_row 32 = .ok (.bipush (-2), 2) := by decide +kernel
theorem dX9_row_34 : decode cX9_row 34 = .ok (.ireturn, 1) := by decide +kernel
theorem dX9_row_35 : decode cX9_row 35 = .ok (.aload_n 0, 1) := by decide +kernel
theorem dX9_row_36 : decode cX9_row 36 = .ok (.getfield 12, 3) := by decide +kernel
theorem dX9_row_39 : decode cX9_row 39 = .ok (.getfield 85, 3) := by decide +kernel
theorem dX9_row_42 : decode cX9_row 42 = .ok (.getfield 97, 3) := by decide +kernel
theorem dX9_row_45 : decode cX9_row 45 = .ok (.iload_n 1, 1) := by decide +kernel
theorem dX9_row_46 : decode cX9_row 46 = .ok (.iaload, 1) := by decide +kernel
theorem dX9_row_47 : decode cX9_row 47 = .ok (.bipush 6, 2) := by decide +kernel
theorem dX9_row_49 : decode cX9_row 49 = .ok (.if_icmp .eq 6, 3) := by decide +kernel
theorem dX9_row_52 : decode cX9_row 52 = .ok (.bipush (-3), 2) := by decide +kernel
theorem dX9_row_54 : decode cX9_row 54 = .ok (.ireturn, 1) := by decide +kernel
theorem dX9_row_55 : decode cX9_row 55 = .ok (.iload_n 1, 1) := by decide +kernel
theorem dX9_row_56 : decode cX9_row 56 = .ok (.iconst 4, 1) := by decide +kernel
theorem dX9_row_57 : decode cX9_row 57 = .ok (.imul, 1) := by decide +kernel
theorem dX9_row_58 : decode cX9_row 58 = .ok (.iload_n 2, 1) := by decide +kernel
theorem dX9_row_59 : decode cX9_row 59 = .ok (.iadd, 1) := by decide +kernel
theorem dX9_row_60 : decode cX9_row 60 = .ok (.istore 4, 2) := by decide +kernel
theorem dX9_row_62 : decode cX9_row 62 = .ok (.aload_n 0, 1) := by decide +kernel
theorem dX9_row_63 : decode cX9_row 63 = .ok (.getfield 12, 3) := by decide +kernel
theorem dX9_row_66 : decode cX9_row 66 = .ok (.getfield 85, 3) := by decide +kernel
theorem dX9_row_69 : decode cX9_row 69 = .ok (.getfield 130, 3) := by decide +kernel
theorem dX9_row_72 : decode cX9_row 72 = .ok (.iload 4, 2) := by decide +kernel
theorem dX9_row_74 : decode cX9_row 74 = .ok (.iaload, 1) := by decide +kernel
theorem dX9_row_75 : decode cX9_row 75 = .ok (.istore 5, 2) := by decide +kernel
theorem dX9_row_77 : decode cX9_row 77 = .ok (.aload_n 0, 1) := by decide +kernel
theorem dX9_row_78 : decode cX9_row 78 = .ok (.getfield 12, 3) := by decide +kernel
theorem dX9_row_81 : decode cX9_row 81 = .ok (.getfield 85, 3) := by decide +kernel
theorem dX9_row_84 : decode cX9_row 84 = .ok (.getfield 130, 3) := by decide +kernel
theorem dX9_row_87 : decode cX9_row 87 = .ok (.iload 4, 2) := by decide +kernel
theorem dX9_row_89 : decode cX9_row 89 = .ok (.iload_n 3, 1) := by decide +kernel
theorem dX9_row_90 : decode cX9_row 90 = .ok (.iastore, 1) := by decide +kernel
theorem dX9_row_91 : decode cX9_row 91 = .ok (.aload_n 0, 1) := by decide +kernel
theorem dX9_row_92 : decode cX9_row 92 = .ok (.invokevirtual 79, 3) := by decide +kernel
theorem dX9_row_95 : decode cX9_row 95 = .ok (.iload 5, 2) := by decide +kernel
theorem dX9_row_97 : decode cX9_row 97 = .ok (.ireturn, 1) := by decide +kernel
theorem dX9_set_0 : decode cX9_set 0 = .ok (.aload_n 0, 1) := by decide +kernel
theorem dX9_set_1 : decode cX9_set 1 = .ok (.getfield 12, 3) := by decide +kernel
theorem dX9_set_4 : decode cX9_set 4 = .ok (.getfield 85, 3) := by decide +kernel
theorem dX9_set_7 : decode cX9_set 7 = .ok (.iload_n 1, 1) := by decide +kernel
theorem dX9_set_8 : decode cX9_set 8 = .ok (.invokevirtual 94, 3) := by decide +kernel
theorem dX9_set_11 : decode cX9_set 11 = .ok (.ifCond .eq 19, 3) := by decide +kernel
theorem dX9_set_14 : decode cX9_set 14 = .ok (.iload_n 2, 1) := by decide +kernel
theorem dX9_set_15 : decode cX9_set 15 = .ok (.ifCond .eq 8, 3) := by decide +kernel
theorem dX9_set_18 : decode cX9_set 18 = .ok (.iload_n 2, 1) := by decide +kernel
theorem dX9_set_19 : decode cX9_set 19 = .ok (.iconst 1, 1) := by decide +kernel
theorem dX9_set_20 : decode cX9_set 20 = .ok (.if_icmp .ne 10, 3) := by decide +kernel
theorem dX9_set_23 : decode cX9_set 23 = .ok (.iload_n 3, 1) := by decide +kernel
theorem dX9_set_24 : decode cX9_set 24 = .ok (.invokestatic 82, 3) := by decide +kernel
theorem dX9_set_27 : decode cX9_set 27 = .ok (.ifCond .ne 5, 3) := by decide +kernel
theorem dX9_set_30 : decode cX9_set 30 = .ok (.iconst (-1), 1) := by decide +kernel
theorem dX9_set_31 : decode cX9_set 31 = .ok (.ireturn, 1) := by decide +kernel
theorem dX9_set_32 : decode cX9_set 32 = .ok (.iload_n 2, 1) := by decide +kernel
theorem dX9_set_33 : decode cX9_set 33 = .ok (.ifCond .ne 18, 3) := by decide +kernel
theorem dX9_set_36 : decode cX9_set 36 = .ok (.aload_n 0, 1) := by decide +kernel
theorem dX9_set_37 : decode cX9_set 37 = .ok (.getfield 12, 3) := by decide +kernel
theorem dX9_set_40 : decode cX9_set 40 = .ok (.getfield 85, 3) := by decide +kernel
theorem dX9_set_43 : decode cX9_set 43 = .ok (.getfield 104, 3) := by decide +kernel
theorem dX9_set_46 : decode cX9_set 46 = .ok (.iload_n 1, 1) := by decide +kernel
theorem dX9_set_47 : decode cX9_set 47 = .ok (.iaload, 1) := by decide +kernel
theorem dX9_set_48 : decode cX9_set 48 = .ok (.goto 15, 3) := by decide +kernel
theorem dX9_set_51 : decode cX9_set 51 = .ok (.aload_n 0, 1) := by decide +kernel
theorem dX9_set_52 : decode cX9_set 52 = .ok (.getfield 12, 3) := by decide +kernel
theorem dX9_set_55 : decode cX9_set 55 = .ok (.getfield 85, 3) := by decide +kernel
theorem dX9_set_58 : decode cX9_set 58 = .ok (.getfield 107, 3) := by decide +kernel
theorem dX9_set_61 : decode cX9_set 61 = .ok (.iload_n 1, 1) := by decide +kernel
theorem dX9_set_62 : decode cX9_set 62 = .ok (.iaload, 1) := by decide +kernel
theorem dX9_set_63 : decode cX9_set 63 = .ok (.istore 4, 2) := by decide +kernel
theorem dX9_set_65 : decode cX9_set 65 = .ok (.aload_n 0, 1) := by decide +kernel
theorem dX9_set_66 : decode cX9_set 66 = .ok (.getfield 12, 3) := by decide +kernel
theorem dX9_set_69 : decode cX9_set 69 = .ok (.getfield 85, 3) := by decide +kernel
theorem dX9_set_72 : decode cX9_set 72 = .ok (.iload_n 1, 1) := by decide +kernel
theorem dX9_set_73 : decode cX9_set 73 = .ok (.iload_n 2, 1) := by decide +kernel
theorem dX9_set_74 : decode cX9_set 74 = .ok (.iload_n 3, 1) := by decide +kernel
theorem dX9_set_75 : decode cX9_set 75 = .ok (.invokevirtual 133, 3) := by decide +kernel
theorem dX9_set_78 : decode cX9_set 78 = .ok (.aload_n 0, 1) := by decide +kernel
theorem dX9_set_79 : decode cX9_set 79 = .ok (.invokevirtual 79, 3) := by decide +kernel
theorem dX9_set_82 : decode cX9_set 82 = .ok (.iload 4, 2) := by decide +kernel
theorem dX9_set_84 : decode cX9_set 84 = .ok (.ireturn, 1) := by decide +kernel
theorem dX9_away_0 : decode cX9_away 0 = .ok (.aload_n 0, 1) := by decide +kernel
theorem dX9_away_1 : decode cX9_away 1 = .ok (.getfield 12, 3) := by decide +kernel
theorem dX9_away_4 : decode cX9_away 4 = .ok (.getfield 85, 3) := by decide +kernel
theorem dX9_away_7 : decode cX9_away 7 = .ok (.iload_n 1, 1) := by decide +kernel
theorem dX9_away_8 : decode cX9_away 8 = .ok (.invokevirtual 94, 3) := by decide +kernel
theorem dX9_away_11 : decode cX9_away 11 = .ok (.ifCond .ne 5, 3) := by decide +kernel
theorem dX9_away_14 : decode cX9_away 14 = .ok (.iconst (-1), 1) := by decide +kernel
theorem dX9_away_15 : decode cX9_away 15 = .ok (.ireturn, 1) := by decide +kernel
theorem dX9_away_16 : decode cX9_away 16 = .ok (.aload_n 0, 1) := by decide +kernel
theorem dX9_away_17 : decode cX9_away 17 = .ok (.getfield 12, 3) := by decide +kernel
theorem dX9_away_20 : decode cX9_away 20 = .ok (.getfield 85, 3) := by decide +kernel
theorem dX9_away_23 : decode cX9_away 23 = .ok (.getfield 110, 3) := by decide +kernel
theorem dX9_away_26 : decode cX9_away 26 = .ok (.iload_n 1, 1) := by decide +kernel
theorem dX9_away_27 : decode cX9_away 27 = .ok (.ishr, 1) := by decide +kernel
theorem dX9_away_28 : decode cX9_away 28 = .ok (.iconst 1, 1) := by decide +kernel
theorem dX9_away_29 : decode cX9_away 29 = .ok (.iand, 1) := by decide +kernel
theorem dX9_away_30 : decode cX9_away 30 = .ok (.istore_n 3, 1) := by decide +kernel
theorem dX9_away_31 : decode cX9_away 31 = .ok (.aload_n 0, 1) := by decide +kernel
theorem dX9_away_32 : decode cX9_away 32 = .ok (.getfield 12, 3) := by decide +kernel
theorem dX9_away_35 : decode cX9_away 35 = .ok (.getfield 85, 3) := by decide +kernel
theorem dX9_away_38 : decode cX9_away 38 = .ok (.iload_n 1, 1) := by decide +kernel
theorem dX9_away_39 : decode cX9_away 39 = .ok (.iload_n 2, 1) := by decide +kernel
theorem dX9_away_40 : decode cX9_away 40 = .ok (.invokevirtual 137, 3) := by decide +kernel
theorem dX9_away_43 : decode cX9_away 43 = .ok (.aload_n 0, 1) := by decide +kernel
theorem dX9_away_44 : decode cX9_away 44 = .ok (.invokevirtual 79, 3) := by decide +kernel
theorem dX9_away_47 : decode cX9_away 47 = .ok (.iload_n 3, 1) := by decide +kernel
theorem dX9_away_48 : decode cX9_away 48 = .ok (.ireturn, 1) := by decide +kernel
theorem dX9_told_0 : decode cX9_told 0 = .ok (.iload_n 1, 1) := by decide +kernel
theorem dX9_told_1 : decode cX9_told 1 = .ok (.tableswitch 91 0 4 #[35, 46, 54, 65, 80], 35) := by decide +kernel
theorem dX9_told_36 : decode cX9_told 36 = .ok (.aload_n 0, 1) := by decide +kernel
theorem dX9_told_37 : decode cX9_told 37 = .ok (.getfield 12, 3) := by decide +kernel
theorem dX9_told_40 : decode cX9_told 40 = .ok (.getfield 85, 3) := by decide +kernel
theorem dX9_told_43 : decode cX9_told 43 = .ok (.getfield 141, 3) := by decide +kernel
theorem dX9_told_46 : decode cX9_told 46 = .ok (.ireturn, 1) := by decide +kernel
theorem dX9_told_47 : decode cX9_told 47 = .ok (.aload_n 0, 1) := by decide +kernel
theorem dX9_told_48 : decode cX9_told 48 = .ok (.getfield 30, 3) := by decide +kernel
theorem dX9_told_51 : decode cX9_told 51 = .ok (.invokevirtual 144, 3) := by decide +kernel
theorem dX9_told_54 : decode cX9_told 54 = .ok (.ireturn, 1) := by decide +kernel
theorem dX9_told_55 : decode cX9_told 55 = .ok (.aload_n 0, 1) := by decide +kernel
theorem dX9_told_56 : decode cX9_told 56 = .ok (.getfield 12, 3) := by decide +kernel
theorem dX9_told_59 : decode cX9_told 59 = .ok (.getfield 85, 3) := by decide +kernel
theorem dX9_told_62 : decode cX9_told 62 = .ok (.invokevirtual 148, 3) := by decide +kernel
theorem dX9_told_65 : decode cX9_told 65 = .ok (.ireturn, 1) := by decide +kernel
theorem dX9_told_66 : decode cX9_told 66 = .ok (.aload_n 0, 1) := by decide +kernel
theorem dX9_told_67 : decode cX9_told 67 = .ok (.getfield 39, 3) := by decide +kernel
theorem dX9_told_70 : decode cX9_told 70 = .ok (.aload_n 0, 1) := by decide +kernel
theorem dX9_told_71 : decode cX9_told 71 = .ok (.getfield 12, 3) := by decide +kernel
theorem dX9_told_74 : decode cX9_told 74 = .ok (.getfield 85, 3) := by decide +kernel
theorem dX9_told_77 : decode cX9_told 77 = .ok (.invokevirtual 151, 3) := by decide +kernel
theorem dX9_told_80 : decode cX9_told 80 = .ok (.ireturn, 1) := by decide +kernel
theorem dX9_told_81 : decode cX9_told 81 = .ok (.aload_n 0, 1) := by decide +kernel
theorem dX9_told_82 : decode cX9_told 82 = .ok (.getfield 12, 3) := by decide +kernel
theorem dX9_told_85 : decode cX9_told 85 = .ok (.getfield 85, 3) := by decide +kernel
theorem dX9_told_88 : decode cX9_told 88 = .ok (.getfield 110, 3) := by decide +kernel
theorem dX9_told_91 : decode cX9_told 91 = .ok (.ireturn, 1) := by decide +kernel
theorem dX9_told_92 : decode cX9_told 92 = .ok (.iconst (-1), 1) := by decide +kernel
theorem dX9_told_93 : decode cX9_told 93 = .ok (.ireturn, 1) := by decide +kernel
theorem dX9_pass_0 : decode cX9_pass 0 = .ok (.iload_n 1, 1) := by decide +kernel
theorem dX9_pass_1 : decode cX9_pass 1 = .ok (.ifCond .lt 9, 3) := by decide +kernel
theorem dX9_pass_4 : decode cX9_pass 4 = .ok (.iload_n 1, 1) := by decide +kernel
theorem dX9_pass_5 : decode cX9_pass 5 = .ok (.bipush 60, 2) := by decide +kernel
theorem dX9_pass_7 : decode cX9_pass 7 = .ok (.if_icmp .le 6, 3) := by decide +kernel
theorem dX9_pass_10 : decode cX9_pass 10 = .ok (.bipush (-2), 2) := by decide +kernel
theorem dX9_pass_12 : decode cX9_pass 12 = .ok (.ireturn, 1) := by decide +kernel
theorem dX9_pass_13 : decode cX9_pass 13 = .ok (.aload_n 0, 1) := by decide +kernel
theorem dX9_pass_14 : decode cX9_pass 14 = .ok (.getfield 12, 3) := by decide +kernel
theorem dX9_pass_17 : decode cX9_pass 17 = .ok (.getfield 85, 3) := by decide +kernel
theorem dX9_pass_20 : decode cX9_pass 20 = .ok (.getfield 141, 3) := by decide +kernel
theorem dX9_pass_23 : decode cX9_pass 23 = .ok (.iload_n 1, 1) := by decide +kernel
theorem dX9_pass_24 : decode cX9_pass 24 = .ok (.iadd, 1) := by decide +kernel
theorem dX9_pass_25 : decode cX9_pass 25 = .ok (.sipush 9999, 3) := by decide +kernel
theorem dX9_pass_28 : decode cX9_pass 28 = .ok (.if_icmp .le 6, 3) := by decide +kernel
theorem dX9_pass_31 : decode cX9_pass 31 = .ok (.bipush (-3), 2) := by decide +kernel
theorem dX9_pass_33 : decode cX9_pass 33 = .ok (.ireturn, 1) := by decide +kernel
theorem dX9_pass_34 : decode cX9_pass 34 = .ok (.iconst 0, 1) := by decide +kernel
theorem dX9_pass_35 : decode cX9_pass 35 = .ok (.istore_n 2, 1) := by decide +kernel
theorem dX9_pass_36 : decode cX9_pass 36 = .ok (.iload_n 2, 1) := by decide +kernel
theorem dX9_pass_37 : decode cX9_pass 37 = .ok (.iload_n 1, 1) := by decide +kernel
theorem dX9_pass_38 : decode cX9_pass 38 = .ok (.if_icmp .ge 23, 3) := by decide +kernel
theorem dX9_pass_41 : decode cX9_pass 41 = .ok (.aload_n 0, 1) := by decide +kernel
theorem dX9_pass_42 : decode cX9_pass 42 = .ok (.getfield 12, 3) := by decide +kernel
theorem dX9_pass_45 : decode cX9_pass 45 = .ok (.getfield 85, 3) := by decide +kernel
theorem dX9_pass_48 : decode cX9_pass 48 = .ok (.aload_n 0, 1) := by decide +kernel
theorem dX9_pass_49 : decode cX9_pass 49 = .ok (.getfield 30, 3) := by decide +kernel
theorem dX9_pass_52 : decode cX9_pass 52 = .ok (.invokevirtual 155, 3) := by decide +kernel
theorem dX9_pass_55 : decode cX9_pass 55 = .ok (.iinc 2 1, 3) := by decide +kernel
theorem dX9_pass_58 : decode cX9_pass 58 = .ok (.goto (-22), 3) := by decide +kernel
theorem dX9_pass_61 : decode cX9_pass 61 = .ok (.aload_n 0, 1) := by decide +kernel
theorem dX9_pass_62 : decode cX9_pass 62 = .ok (.invokevirtual 79, 3) := by decide +kernel
theorem dX9_pass_65 : decode cX9_pass 65 = .ok (.aload_n 0, 1) := by decide +kernel
theorem dX9_pass_66 : decode cX9_pass 66 = .ok (.getfield 12, 3) := by decide +kernel
theorem dX9_pass_69 : decode cX9_pass 69 = .ok (.getfield 85, 3) := by decide +kernel
theorem dX9_pass_72 : decode cX9_pass 72 = .ok (.getfield 141, 3) := by decide +kernel
theorem dX9_pass_75 : decode cX9_pass 75 = .ok (.ireturn, 1) := by decide +kernel
theorem dX9_on_0 : decode cX9_on 0 = .ok (.iload_n 2, 1) := by decide +kernel
theorem dX9_on_1 : decode cX9_on 1 = .ok (.ifCond .eq 28, 3) := by decide +kernel
theorem dX9_on_4 : decode cX9_on 4 = .ok (.iload_n 2, 1) := by decide +kernel
theorem dX9_on_5 : decode cX9_on 5 = .ok (.bipush 10, 2) := by decide +kernel
theorem dX9_on_7 : decode cX9_on 7 = .ok (.if_icmp .lt 20, 3) := by decide +kernel
theorem dX9_on_10 : decode cX9_on 10 = .ok (.aload_n 0, 1) := by decide +kernel
theorem dX9_on_11 : decode cX9_on 11 = .ok (.getfield 12, 3) := by decide +kernel
theorem dX9_on_14 : decode cX9_on 14 = .ok (.getfield 85, 3) := by decide +kernel
theorem dX9_on_17 : decode cX9_on 17 = .ok (.iload_n 2, 1) := by decide +kernel
theorem dX9_on_18 : decode cX9_on 18 = .ok (.bipush 10, 2) := by decide +kernel
theorem dX9_on_20 : decode cX9_on 20 = .ok (.isub, 1) := by decide +kernel
theorem dX9_on_21 : decode cX9_on 21 = .ok (.invokevirtual 94, 3) := by decide +kernel
theorem dX9_on_24 : decode cX9_on 24 = .ok (.ifCond .ne 5, 3) := by decide +kernel
theorem dX9_on_27 : decode cX9_on 27 = .ok (.iconst (-1), 1) := by decide +kernel
theorem dX9_on_28 : decode cX9_on 28 = .ok (.ireturn, 1) := by decide +kernel
theorem dX9_on_29 : decode cX9_on 29 = .ok (.iload_n 1, 1) := by decide +kernel
theorem dX9_on_30 : decode cX9_on 30 = .ok (.ifCond .lt 9, 3) := by decide +kernel
theorem dX9_on_33 : decode cX9_on 33 = .ok (.iload_n 1, 1) := by decide +kernel
theorem dX9_on_34 : decode cX9_on 34 = .ok (.bipush 60, 2) := by decide +kernel
theorem dX9_on_36 : decode cX9_on 36 = .ok (.if_icmp .le 6, 3) := by decide +kernel
theorem dX9_on_39 : decode cX9_on 39 = .ok (.bipush (-2), 2) := by decide +kernel
theorem dX9_on_41 : decode cX9_on 41 = .ok (.ireturn, 1) := by decide +kernel
theorem dX9_on_42 : decode cX9_on 42 = .ok (.aload_n 0, 1) := by decide +kernel
theorem dX9_on_43 : decode cX9_on 43 = .ok (.getfield 39, 3) := by decide +kernel
theorem dX9_on_46 : decode cX9_on 46 = .ok (.aload_n 0, 1) := by decide +kernel
theorem dX9_on_47 : decode cX9_on 47 = .ok (.getfield 12, 3) := by decide +kernel
theorem dX9_on_50 : decode cX9_on 50 = .ok (.getfield 85, 3) := by decide +kernel
theorem dX9_on_53 : decode cX9_on 53 = .ok (.invokevirtual 158, 3) := by decide +kernel
theorem dX9_on_56 : decode cX9_on 56 = .ok (.aload_n 0, 1) := by decide +kernel
theorem dX9_on_57 : decode cX9_on 57 = .ok (.getfield 39, 3) := by decide +kernel
theorem dX9_on_60 : decode cX9_on 60 = .ok (.iload_n 1, 1) := by decide +kernel
theorem dX9_on_61 : decode cX9_on 61 = .ok (.invokevirtual 162, 3) := by decide +kernel
theorem dX9_on_64 : decode cX9_on 64 = .ok (.iload_n 2, 1) := by decide +kernel
theorem dX9_on_65 : decode cX9_on 65 = .ok (.ifCond .ne 16, 3) := by decide +kernel
theorem dX9_on_68 : decode cX9_on 68 = .ok (.aload_n 0, 1) := by decide +kernel
theorem dX9_on_69 : decode cX9_on 69 = .ok (.getfield 39, 3) := by decide +kernel
theorem dX9_on_72 : decode cX9_on 72 = .ok (.getfield 166, 3) := by decide +kernel
theorem dX9_on_75 : decode cX9_on 75 = .ok (.invokevirtual 148, 3) := by decide +kernel
theorem dX9_on_78 : decode cX9_on 78 = .ok (.goto 18, 3) := by decide +kernel
theorem dX9_on_81 : decode cX9_on 81 = .ok (.aload_n 0, 1) := by decide +kernel
theorem dX9_on_82 : decode cX9_on 82 = .ok (.getfield 39, 3) := by decide +kernel
theorem dX9_on_85 : decode cX9_on 85 = .ok (.getfield 166, 3) := by decide +kernel
theorem dX9_on_88 : decode cX9_on 88 = .ok (.getfield 107, 3) := by decide +kernel
theorem dX9_on_91 : decode cX9_on 91 = .ok (.iload_n 2, 1) := by decide +kernel
theorem dX9_on_92 : decode cX9_on 92 = .ok (.bipush 10, 2) := by decide +kernel
theorem dX9_on_94 : decode cX9_on 94 = .ok (.isub, 1) := by decide +kernel
theorem dX9_on_95 : decode cX9_on 95 = .ok (.iaload, 1) := by decide +kernel
theorem dX9_on_96 : decode cX9_on 96 = .ok (.ireturn, 1) := by decide +kernel
theorem dX9_steer_0 : decode cX9_steer 0 = .ok (.aload_n 0, 1) := by decide +kernel
theorem dX9_steer_1 : decode cX9_steer 1 = .ok (.getfield 12, 3) := by decide +kernel
theorem dX9_steer_4 : decode cX9_steer 4 = .ok (.getfield 85, 3) := by decide +kernel
theorem dX9_steer_7 : decode cX9_steer 7 = .ok (.iload_n 1, 1) := by decide +kernel
theorem dX9_steer_8 : decode cX9_steer 8 = .ok (.invokevirtual 94, 3) := by decide +kernel
theorem dX9_steer_11 : decode cX9_steer 11 = .ok (.ifCond .eq 10, 3) := by decide +kernel
theorem dX9_steer_14 : decode cX9_steer 14 = .ok (.iload_n 2, 1) := by decide +kernel
theorem dX9_steer_15 : decode cX9_steer 15 = .ok (.invokestatic 82, 3) := by decide +kernel
theorem dX9_steer_18 : decode cX9_steer 18 = .ok (.ifCond .ne 5, 3) := by decide +kernel
theorem dX9_steer_21 : decode cX9_steer 21 = .ok (.iconst (-1), 1) := by decide +kernel
theorem dX9_steer_22 : decode cX9_steer 22 = .ok (.ireturn, 1) := by decide +kernel
theorem dX9_steer_23 : decode cX9_steer 23 = .ok (.aload_n 0, 1) := by decide +kernel
theorem dX9_steer_24 : decode cX9_steer 24 = .ok (.getfield 12, 3) := by decide +kernel
theorem dX9_steer_27 : decode cX9_steer 27 = .ok (.getfield 85, 3) := by decide +kernel
theorem dX9_steer_30 : decode cX9_steer 30 = .ok (.iload_n 1, 1) := by decide +kernel
theorem dX9_steer_31 : decode cX9_steer 31 = .ok (.invokevirtual 169, 3) := by decide +kernel
theorem dX9_steer_34 : decode cX9_steer 34 = .ok (.ifCond .ne 23, 3) := by decide +kernel
theorem dX9_steer_37 : decode cX9_steer 37 = .ok (.aload_n 0, 1) := by decide +kernel
theorem dX9_steer_38 : decode cX9_steer 38 = .ok (.getfield 12, 3) := by decide +kernel
theorem dX9_steer_41 : decode cX9_steer 41 = .ok (.getfield 85, 3) := by decide +kernel
theorem dX9_steer_44 : decode cX9_steer 44 = .ok (.getfield 107, 3) := by decide +kernel
theorem dX9_steer_47 : decode cX9_steer 47 = .ok (.iload_n 1, 1) := by decide +kernel
theorem dX9_steer_48 : decode cX9_steer 48 = .ok (.iaload, 1) := by decide +kernel
theorem dX9_steer_49 : decode cX9_steer 49 = .ok (.iload_n 2, 1) := by decide +kernel
theorem dX9_steer_50 : decode cX9_steer 50 = .ok (.if_icmp .eq 7, 3) := by decide +kernel
theorem dX9_steer_53 : decode cX9_steer 53 = .ok (.iconst 1, 1) := by decide +kernel
theorem dX9_steer_54 : decode cX9_steer 54 = .ok (.goto 4, 3) := by decide +kernel
theorem dX9_steer_57 : decode cX9_steer 57 = .ok (.iconst 0, 1) := by decide +kernel
theorem dX9_steer_58 : decode cX9_steer 58 = .ok (.istore_n 3, 1) := by decide +kernel
theorem dX9_steer_59 : decode cX9_steer 59 = .ok (.iload_n 3, 1) := by decide +kernel
theorem dX9_steer_60 : decode cX9_steer 60 = .ok (.ifCond .eq 12, 3) := by decide +kernel
theorem dX9_steer_63 : decode cX9_steer 63 = .ok (.iload_n 1, 1) := by decide +kernel
theorem dX9_steer_64 : decode cX9_steer 64 = .ok (.bipush 10, 2) := by decide +kernel
theorem dX9_steer_66 : decode cX9_steer 66 = .ok (.imul, 1) := by decide +kernel
theorem dX9_steer_67 : decode cX9_steer 67 = .ok (.iload_n 2, 1) := by decide +kernel
theorem dX9_steer_68 : decode cX9_steer 68 = .ok (.iadd, 1) := by decide +kernel
theorem dX9_steer_69 : decode cX9_steer 69 = .ok (.goto 5, 3) := by decide +kernel
theorem dX9_steer_72 : decode cX9_steer 72 = .ok (.bipush (-5), 2) := by decide +kernel
theorem dX9_steer_74 : decode cX9_steer 74 = .ok (.ireturn, 1) := by decide +kernel
theorem dX9_tells_0 : decode cX9_tells 0 = .ok (.aload_n 0, 1) := by decide +kernel
theorem dX9_tells_1 : decode cX9_tells 1 = .ok (.getfield 12, 3) := by decide +kernel
theorem dX9_tells_4 : decode cX9_tells 4 = .ok (.getfield 85, 3) := by decide +kernel
theorem dX9_tells_7 : decode cX9_tells 7 = .ok (.iload_n 1, 1) := by decide +kernel
theorem dX9_tells_8 : decode cX9_tells 8 = .ok (.invokevirtual 94, 3) := by decide +kernel
theorem dX9_tells_11 : decode cX9_tells 11 = .ok (.ifCond .ne 5, 3) := by decide +kernel
theorem dX9_tells_14 : decode cX9_tells 14 = .ok (.iconst (-1), 1) := by decide +kernel
theorem dX9_tells_15 : decode cX9_tells 15 = .ok (.ireturn, 1) := by decide +kernel
theorem dX9_tells_16 : decode cX9_tells 16 = .ok (.iload_n 2, 1) := by decide +kernel
theorem dX9_tells_17 : decode cX9_tells 17 = .ok (.ifCond .lt 9, 3) := by decide +kernel
theorem dX9_tells_20 : decode cX9_tells 20 = .ok (.iload_n 2, 1) := by decide +kernel
theorem dX9_tells_21 : decode cX9_tells 21 = .ok (.bipush 20, 2) := by decide +kernel
theorem dX9_tells_23 : decode cX9_tells 23 = .ok (.if_icmp .le 6, 3) := by decide +kernel
theorem dX9_tells_26 : decode cX9_tells 26 = .ok (.bipush (-2), 2) := by decide +kernel
theorem dX9_tells_28 : decode cX9_tells 28 = .ok (.ireturn, 1) := by decide +kernel
theorem dX9_tells_29 : decode cX9_tells 29 = .ok (.aload_n 0, 1) := by decide +kernel
theorem dX9_tells_30 : decode cX9_tells 30 = .ok (.getfield 39, 3) := by decide +kernel
theorem dX9_tells_33 : decode cX9_tells 33 = .ok (.aload_n 0, 1) := by decide +kernel
theorem dX9_tells_34 : decode cX9_tells 34 = .ok (.getfield 12, 3) := by decide +kernel
theorem dX9_tells_37 : decode cX9_tells 37 = .ok (.getfield 85, 3) := by decide +kernel
theorem dX9_tells_40 : decode cX9_tells 40 = .ok (.iload_n 1, 1) := by decide +kernel
theorem dX9_tells_41 : decode cX9_tells 41 = .ok (.iload_n 2, 1) := by decide +kernel
theorem dX9_tells_42 : decode cX9_tells 42 = .ok (.invokevirtual 172, 3) := by decide +kernel
theorem dX9_tells_45 : decode cX9_tells 45 = .ok (.ireturn, 1) := by decide +kernel
theorem dX9_roomed_0 : decode cX9_roomed 0 = .ok (.iload_n 1, 1) := by decide +kernel
theorem dX9_roomed_1 : decode cX9_roomed 1 = .ok (.iconst (-1), 1) := by decide +kernel
theorem dX9_roomed_2 : decode cX9_roomed 2 = .ok (.if_icmp .lt 9, 3) := by decide +kernel
theorem dX9_roomed_5 : decode cX9_roomed 5 = .ok (.iload_n 1, 1) := by decide +kernel
theorem dX9_roomed_6 : decode cX9_roomed 6 = .ok (.bipush 6, 2) := by decide +kernel
theorem dX9_roomed_8 : decode cX9_roomed 8 = .ok (.if_icmp .lt 5, 3) := by decide +kernel
theorem dX9_roomed_11 : decode cX9_roomed 11 = .ok (.iconst (-1), 1) := by decide +kernel
theorem dX9_roomed_12 : decode cX9_roomed 12 = .ok (.ireturn, 1) := by decide +kernel
theorem dX9_roomed_13 : decode cX9_roomed 13 = .ok (.aload_n 0, 1) := by decide +kernel
theorem dX9_roomed_14 : decode cX9_roomed 14 = .ok (.getfield 39, 3) := by decide +kernel
theorem dX9_roomed_17 : decode cX9_roomed 17 = .ok (.aload_n 0, 1) := by decide +kernel
theorem dX9_roomed_18 : decode cX9_roomed 18 = .ok (.getfield 12, 3) := by decide +kernel
theorem dX9_roomed_21 : decode cX9_roomed 21 = .ok (.getfield 85, 3) := by decide +kernel
theorem dX9_roomed_24 : decode cX9_roomed 24 = .ok (.invokevirtual 175, 3) := by decide +kernel
theorem dX9_roomed_27 : decode cX9_roomed 27 = .ok (.iload_n 1, 1) := by decide +kernel
theorem dX9_roomed_28 : decode cX9_roomed 28 = .ok (.iconst (-1), 1) := by decide +kernel
theorem dX9_roomed_29 : decode cX9_roomed 29 = .ok (.if_icmp .ne 11, 3) := by decide +kernel
theorem dX9_roomed_32 : decode cX9_roomed 32 = .ok (.aload_n 0, 1) := by decide +kernel
theorem dX9_roomed_33 : decode cX9_roomed 33 = .ok (.getfield 39, 3) := by decide +kernel
theorem dX9_roomed_36 : decode cX9_roomed 36 = .ok (.getfield 178, 3) := by decide +kernel
theorem dX9_roomed_39 : decode cX9_roomed 39 = .ok (.ireturn, 1) := by decide +kernel
theorem dX9_roomed_40 : decode cX9_roomed 40 = .ok (.iload_n 1, 1) := by decide +kernel
theorem dX9_roomed_41 : decode cX9_roomed 41 = .ok (.aload_n 0, 1) := by decide +kernel
theorem dX9_roomed_42 : decode cX9_roomed 42 = .ok (.getfield 12, 3) := by decide +kernel
theorem dX9_roomed_45 : decode cX9_roomed 45 = .ok (.getfield 85, 3) := by decide +kernel
theorem dX9_roomed_48 : decode cX9_roomed 48 = .ok (.getfield 181, 3) := by decide +kernel
theorem dX9_roomed_51 : decode cX9_roomed 51 = .ok (.if_icmp .ge 15, 3) := by decide +kernel
theorem dX9_roomed_54 : decode cX9_roomed 54 = .ok (.aload_n 0, 1) := by decide +kernel
theorem dX9_roomed_55 : decode cX9_roomed 55 = .ok (.getfield 39, 3) := by decide +kernel
theorem dX9_roomed_58 : decode cX9_roomed 58 = .ok (.getfield 184, 3) := by decide +kernel
theorem dX9_roomed_61 : decode cX9_roomed 61 = .ok (.iload_n 1, 1) := by decide +kernel
theorem dX9_roomed_62 : decode cX9_roomed 62 = .ok (.iaload, 1) := by decide +kernel
theorem dX9_roomed_63 : decode cX9_roomed 63 = .ok (.goto 5, 3) := by decide +kernel
theorem dX9_roomed_66 : decode cX9_roomed 66 = .ok (.bipush (-5), 2) := by decide +kernel
theorem dX9_roomed_68 : decode cX9_roomed 68 = .ok (.ireturn, 1) := by decide +kernel
theorem dX9_see_0 : decode cX9_see 0 = .ok (.iload_n 1, 1) := by decide +kernel
theorem dX9_see_1 : decode cX9_see 1 = .ok (.iconst (-1), 1) := by decide +kernel
theorem dX9_see_2 : decode cX9_see 2 = .ok (.if_icmp .ne 16, 3) := by decide +kernel
theorem dX9_see_5 : decode cX9_see 5 = .ok (.aload_n 0, 1) := by decide +kernel
theorem dX9_see_6 : decode cX9_see 6 = .ok (.getfield 12, 3) := by decide +kernel
theorem dX9_see_9 : decode cX9_see 9 = .ok (.getfield 187, 3) := by decide +kernel
theorem dX9_see_12 : decode cX9_see 12 = .ok (.iconst 0, 1) := by decide +kernel
theorem dX9_see_13 : decode cX9_see 13 = .ok (.putfield 191, 3) := by decide +kernel
theorem dX9_see_16 : decode cX9_see 16 = .ok (.iconst 0, 1) := by decide +kernel
theorem dX9_see_17 : decode cX9_see 17 = .ok (.ireturn, 1) := by decide +kernel
theorem dX9_see_18 : decode cX9_see 18 = .ok (.aload_n 0, 1) := by decide +kernel
theorem dX9_see_19 : decode cX9_see 19 = .ok (.getfield 12, 3) := by decide +kernel
theorem dX9_see_22 : decode cX9_see 22 = .ok (.getfield 85, 3) := by decide +kernel
theorem dX9_see_25 : decode cX9_see 25 = .ok (.iload_n 1, 1) := by decide +kernel
theorem dX9_see_26 : decode cX9_see 26 = .ok (.invokevirtual 94, 3) := by decide +kernel
theorem dX9_see_29 : decode cX9_see 29 = .ok (.ifCond .eq 10, 3) := by decide +kernel
theorem dX9_see_32 : decode cX9_see 32 = .ok (.iload_n 3, 1) := by decide +kernel
theorem dX9_see_33 : decode cX9_see 33 = .ok (.invokestatic 82, 3) := by decide +kernel
theorem dX9_see_36 : decode cX9_see 36 = .ok (.ifCond .ne 5, 3) := by decide +kernel
theorem dX9_see_39 : decode cX9_see 39 = .ok (.iconst (-1), 1) := by decide +kernel
theorem dX9_see_40 : decode cX9_see 40 = .ok (.ireturn, 1) := by decide +kernel
theorem dX9_see_41 : decode cX9_see 41 = .ok (.iload_n 2, 1) := by decide +kernel
theorem dX9_see_42 : decode cX9_see 42 = .ok (.ifCond .lt 9, 3) := by decide +kernel
theorem dX9_see_45 : decode cX9_see 45 = .ok (.iload_n 2, 1) := by decide +kernel
theorem dX9_see_46 : decode cX9_see 46 = .ok (.bipush 20, 2) := by decide +kernel
theorem dX9_see_48 : decode cX9_see 48 = .ok (.if_icmp .le 6, 3) := by decide +kernel
theorem dX9_see_51 : decode cX9_see 51 = .ok (.bipush (-2), 2) := by decide +kernel
theorem dX9_see_53 : decode cX9_see 53 = .ok (.ireturn, 1) := by decide +kernel
theorem dX9_see_54 : decode cX9_see 54 = .ok (.aload_n 0, 1) := by decide +kernel
theorem dX9_see_55 : decode cX9_see 55 = .ok (.getfield 12, 3) := by decide +kernel
theorem dX9_see_58 : decode cX9_see 58 = .ok (.getfield 187, 3) := by decide +kernel
theorem dX9_see_61 : decode cX9_see 61 = .ok (.bipush 6, 2) := by decide +kernel
theorem dX9_see_63 : decode cX9_see 63 = .ok (.iload_n 1, 1) := by decide +kernel
theorem dX9_see_64 : decode cX9_see 64 = .ok (.iload_n 2, 1) := by decide +kernel
theorem dX9_see_65 : decode cX9_see 65 = .ok (.iload_n 3, 1) := by decide +kernel
theorem dX9_see_66 : decode cX9_see 66 = .ok (.invokevirtual 194, 3) := by decide +kernel
theorem dX9_see_69 : decode cX9_see 69 = .ok (.ireturn, 1) := by decide +kernel
theorem dX9_states_0 : decode cX9_states 0 = .ok (.aload_n 0, 1) := by decide +kernel
theorem dX9_states_1 : decode cX9_states 1 = .ok (.getfield 12, 3) := by decide +kernel
theorem dX9_states_4 : decode cX9_states 4 = .ok (.getfield 85, 3) := by decide +kernel
theorem dX9_states_7 : decode cX9_states 7 = .ok (.iload_n 1, 1) := by decide +kernel
theorem dX9_states_8 : decode cX9_states 8 = .ok (.invokevirtual 94, 3) := by decide +kernel
theorem dX9_states_11 : decode cX9_states 11 = .ok (.ifCond .eq 19, 3) := by decide +kernel
theorem dX9_states_14 : decode cX9_states 14 = .ok (.aload_n 0, 1) := by decide +kernel
theorem dX9_states_15 : decode cX9_states 15 = .ok (.getfield 39, 3) := by decide +kernel
theorem dX9_states_18 : decode cX9_states 18 = .ok (.aload_n 0, 1) := by decide +kernel
theorem dX9_states_19 : decode cX9_states 19 = .ok (.getfield 12, 3) := by decide +kernel
theorem dX9_states_22 : decode cX9_states 22 = .ok (.iload_n 1, 1) := by decide +kernel
theorem dX9_states_23 : decode cX9_states 23 = .ok (.iconst 1, 1) := by decide +kernel
theorem dX9_states_24 : decode cX9_states 24 = .ok (.invokevirtual 195, 3) := by decide +kernel
theorem dX9_states_27 : decode cX9_states 27 = .ok (.goto 4, 3) := by decide +kernel
theorem dX9_states_30 : decode cX9_states 30 = .ok (.iconst (-1), 1) := by decide +kernel
theorem dX9_states_31 : decode cX9_states 31 = .ok (.ireturn, 1) := by decide +kernel
theorem dX9_where_0 : decode cX9_where 0 = .ok (.aload_n 0, 1) := by decide +kernel
theorem dX9_where_1 : decode cX9_where 1 = .ok (.getfield 12, 3) := by decide +kernel
theorem dX9_where_4 : decode cX9_where 4 = .ok (.getfield 85, 3) := by decide +kernel
theorem dX9_where_7 : decode cX9_where 7 = .ok (.iload_n 1, 1) := by decide +kernel
theorem dX9_where_8 : decode cX9_where 8 = .ok (.invokevirtual 94, 3) := by decide +kernel
theorem dX9_where_11 : decode cX9_where 11 = .ok (.ifCond .eq 19, 3) := by decide +kernel
theorem dX9_where_14 : decode cX9_where 14 = .ok (.aload_n 0, 1) := by decide +kernel
theorem dX9_where_15 : decode cX9_where 15 = .ok (.getfield 39, 3) := by decide +kernel
theorem dX9_where_18 : decode cX9_where 18 = .ok (.aload_n 0, 1) := by decide +kernel
theorem dX9_where_19 : decode cX9_where 19 = .ok (.getfield 12, 3) := by decide +kernel
theorem dX9_where_22 : decode cX9_where 22 = .ok (.iload_n 1, 1) := by decide +kernel
theorem dX9_where_23 : decode cX9_where 23 = .ok (.iconst 0, 1) := by decide +kernel
theorem dX9_where_24 : decode cX9_where 24 = .ok (.invokevirtual 195, 3) := by decide +kernel
theorem dX9_where_27 : decode cX9_where 27 = .ok (.goto 4, 3) := by decide +kernel
theorem dX9_where_30 : decode cX9_where 30 = .ok (.iconst (-1), 1) := by decide +kernel
theorem dX9_where_31 : decode cX9_where 31 = .ok (.ireturn, 1) := by decide +kernel
theorem dX9_firm_0 : decode cX9_firm 0 = .ok (.aload_n 0, 1) := by decide +kernel
theorem dX9_firm_1 : decode cX9_firm 1 = .ok (.getfield 12, 3) := by decide +kernel
theorem dX9_firm_4 : decode cX9_firm 4 = .ok (.getfield 85, 3) := by decide +kernel
theorem dX9_firm_7 : decode cX9_firm 7 = .ok (.iload_n 1, 1) := by decide +kernel
theorem dX9_firm_8 : decode cX9_firm 8 = .ok (.invokevirtual 94, 3) := by decide +kernel
theorem dX9_firm_11 : decode cX9_firm 11 = .ok (.ifCond .eq 12, 3) := by decide +kernel
theorem dX9_firm_14 : decode cX9_firm 14 = .ok (.iload_n 2, 1) := by decide +kernel
theorem dX9_firm_15 : decode cX9_firm 15 = .ok (.ifCond .eq 10, 3) := by decide +kernel
theorem dX9_firm_18 : decode cX9_firm 18 = .ok (.iload_n 2, 1) := by decide +kernel
theorem dX9_firm_19 : decode cX9_firm 19 = .ok (.iconst 1, 1) := by decide +kernel
theorem dX9_firm_20 : decode cX9_firm 20 = .ok (.if_icmp .eq 5, 3) := by decide +kernel
theorem dX9_firm_23 : decode cX9_firm 23 = .ok (.iconst (-1), 1) := by decide +kernel
theorem dX9_firm_24 : decode cX9_firm 24 = .ok (.ireturn, 1) := by decide +kernel
theorem dX9_firm_25 : decode cX9_firm 25 = .ok (.aload_n 0, 1) := by decide +kernel
theorem dX9_firm_26 : decode cX9_firm 26 = .ok (.getfield 39, 3) := by decide +kernel
theorem dX9_firm_29 : decode cX9_firm 29 = .ok (.aload_n 0, 1) := by decide +kernel
theorem dX9_firm_30 : decode cX9_firm 30 = .ok (.getfield 12, 3) := by decide +kernel
theorem dX9_firm_33 : decode cX9_firm 33 = .ok (.iload_n 1, 1) := by decide +kernel
theorem dX9_firm_34 : decode cX9_firm 34 = .ok (.iconst 2, 1) := by decide +kernel
theorem dX9_firm_35 : decode cX9_firm 35 = .ok (.invokevirtual 195, 3) := by decide +kernel
theorem dX9_firm_38 : decode cX9_firm 38 = .ok (.istore_n 3, 1) := by decide +kernel
theorem dX9_firm_39 : decode cX9_firm 39 = .ok (.iload_n 2, 1) := by decide +kernel
theorem dX9_firm_40 : decode cX9_firm 40 = .ok (.ifCond .ne 10, 3) := by decide +kernel
theorem dX9_firm_43 : decode cX9_firm 43 = .ok (.iload_n 3, 1) := by decide +kernel
theorem dX9_firm_44 : decode cX9_firm 44 = .ok (.invokestatic 199, 3) := by decide +kernel
theorem dX9_firm_47 : decode cX9_firm 47 = .ok (.goto 10, 3) := by decide +kernel
theorem dX9_firm_50 : decode cX9_firm 50 = .ok (.iload_n 3, 1) := by decide +kernel
theorem dX9_firm_51 : decode cX9_firm 51 = .ok (.invokestatic 204, 3) := by decide +kernel
theorem dX9_firm_54 : decode cX9_firm 54 = .ok (.invokestatic 117, 3) := by decide +kernel
theorem dX9_firm_57 : decode cX9_firm 57 = .ok (.ireturn, 1) := by decide +kernel
theorem dX9_odds_0 : decode cX9_odds 0 = .ok (.aload_n 0, 1) := by decide +kernel
theorem dX9_odds_1 : decode cX9_odds 1 = .ok (.getfield 12, 3) := by decide +kernel
theorem dX9_odds_4 : decode cX9_odds 4 = .ok (.getfield 85, 3) := by decide +kernel
theorem dX9_odds_7 : decode cX9_odds 7 = .ok (.iload_n 1, 1) := by decide +kernel
theorem dX9_odds_8 : decode cX9_odds 8 = .ok (.invokevirtual 94, 3) := by decide +kernel
theorem dX9_odds_11 : decode cX9_odds 11 = .ok (.ifCond .eq 28, 3) := by decide +kernel
theorem dX9_odds_14 : decode cX9_odds 14 = .ok (.aload_n 0, 1) := by decide +kernel
theorem dX9_odds_15 : decode cX9_odds 15 = .ok (.getfield 12, 3) := by decide +kernel
theorem dX9_odds_18 : decode cX9_odds 18 = .ok (.getfield 85, 3) := by decide +kernel
theorem dX9_odds_21 : decode cX9_odds 21 = .ok (.iload_n 2, 1) := by decide +kernel
theorem dX9_odds_22 : decode cX9_odds 22 = .ok (.invokevirtual 94, 3) := by decide +kernel
theorem dX9_odds_25 : decode cX9_odds 25 = .ok (.ifCond .eq 14, 3) := by decide +kernel
theorem dX9_odds_28 : decode cX9_odds 28 = .ok (.iload_n 3, 1) := by decide +kernel
theorem dX9_odds_29 : decode cX9_odds 29 = .ok (.invokestatic 82, 3) := by decide +kernel
theorem dX9_odds_32 : decode cX9_odds 32 = .ok (.ifCond .eq 7, 3) := by decide +kernel
theorem dX9_odds_35 : decode cX9_odds 35 = .ok (.iconst 1, 1) := by decide +kernel
theorem dX9_odds_36 : decode cX9_odds 36 = .ok (.goto 4, 3) := by decide +kernel
theorem dX9_odds_39 : decode cX9_odds 39 = .ok (.iconst 0, 1) := by decide +kernel
theorem dX9_odds_40 : decode cX9_odds 40 = .ok (.istore 6, 2) := by decide +kernel
theorem dX9_odds_42 : decode cX9_odds 42 = .ok (.iload 6, 2) := by decide +kernel
theorem dX9_odds_44 : decode cX9_odds 44 = .ok (.ifCond .eq 26, 3) := by decide +kernel
theorem dX9_odds_47 : decode cX9_odds 47 = .ok (.iload 4, 2) := by decide +kernel
theorem dX9_odds_49 : decode cX9_odds 49 = .ok (.ifCond .lt 21, 3) := by decide +kernel
theorem dX9_odds_52 : decode cX9_odds 52 = .ok (.iload 4, 2) := by decide +kernel
theorem dX9_odds_54 : decode cX9_odds 54 = .ok (.bipush 60, 2) := by decide +kernel
theorem dX9_odds_56 : decode cX9_odds 56 = .ok (.if_icmp .gt 14, 3) := by decide +kernel
theorem dX9_odds_59 : decode cX9_odds 59 = .ok (.iload 5, 2) := by decide +kernel
theorem dX9_odds_61 : decode cX9_odds 61 = .ok (.ifCond .eq 13, 3) := by decide +kernel
theorem dX9_odds_64 : decode cX9_odds 64 = .ok (.iload 5, 2) := by decide +kernel
theorem dX9_odds_66 : decode cX9_odds 66 = .ok (.iconst 1, 1) := by decide +kernel
theorem dX9_odds_67 : decode cX9_odds 67 = .ok (.if_icmp .eq 7, 3) := by decide +kernel
theorem dX9_odds_70 : decode cX9_odds 70 = .ok (.ldc2_w 207, 3) := by decide +kernel
theorem dX9_odds_73 : decode cX9_odds 73 = .ok (.lreturn, 1) := by decide +kernel
theorem dX9_odds_74 : decode cX9_odds 74 = .ok (.aload_n 0, 1) := by decide +kernel
theorem dX9_odds_75 : decode cX9_odds 75 = .ok (.getfield 39, 3) := by decide +kernel
theorem dX9_odds_78 : decode cX9_odds 78 = .ok (.aload_n 0, 1) := by decide +kernel
theorem dX9_odds_79 : decode cX9_odds 79 = .ok (.getfield 12, 3) := by decide +kernel
theorem dX9_odds_82 : decode cX9_odds 82 = .ok (.getfield 85, 3) := by decide +kernel
theorem dX9_odds_85 : decode cX9_odds 85 = .ok (.iload_n 1, 1) := by decide +kernel
theorem dX9_odds_86 : decode cX9_odds 86 = .ok (.iload_n 2, 1) := by decide +kernel
theorem dX9_odds_87 : decode cX9_odds 87 = .ok (.iload_n 3, 1) := by decide +kernel
theorem dX9_odds_88 : decode cX9_odds 88 = .ok (.iload 4, 2) := by decide +kernel
theorem dX9_odds_90 : decode cX9_odds 90 = .ok (.invokevirtual 209, 3) := by decide +kernel
theorem dX9_odds_93 : decode cX9_odds 93 = .ok (.istore 7, 2) := by decide +kernel
theorem dX9_odds_95 : decode cX9_odds 95 = .ok (.iload 7, 2) := by decide +kernel
theorem dX9_odds_97 : decode cX9_odds 97 = .ok (.bipush 10, 2) := by decide +kernel
theorem dX9_odds_99 : decode cX9_odds 99 = .ok (.iload 5, 2) := by decide +kernel
theorem dX9_odds_101 : decode cX9_odds 101 = .ok (.invokestatic 213, 3) := by decide +kernel
theorem dX9_odds_104 : decode cX9_odds 104 = .ok (.lreturn, 1) := by decide +kernel
theorem dX9_mean_0 : decode cX9_mean 0 = .ok (.aload_n 0, 1) := by decide +kernel
theorem dX9_mean_1 : decode cX9_mean 1 = .ok (.getfield 12, 3) := by decide +kernel
theorem dX9_mean_4 : decode cX9_mean 4 = .ok (.getfield 85, 3) := by decide +kernel
theorem dX9_mean_7 : decode cX9_mean 7 = .ok (.invokevirtual 217, 3) := by decide +kernel
theorem dX9_mean_10 : decode cX9_mean 10 = .ok (.istore_n 2, 1) := by decide +kernel
theorem dX9_mean_11 : decode cX9_mean 11 = .ok (.iload_n 2, 1) := by decide +kernel
theorem dX9_mean_12 : decode cX9_mean 12 = .ok (.ifCond .eq 12, 3) := by decide +kernel
theorem dX9_mean_15 : decode cX9_mean 15 = .ok (.iload_n 1, 1) := by decide +kernel
theorem dX9_mean_16 : decode cX9_mean 16 = .ok (.ifCond .eq 12, 3) := by decide +kernel
theorem dX9_mean_19 : decode cX9_mean 19 = .ok (.iload_n 1, 1) := by decide +kernel
theorem dX9_mean_20 : decode cX9_mean 20 = .ok (.iconst 1, 1) := by decide +kernel
theorem dX9_mean_21 : decode cX9_mean 21 = .ok (.if_icmp .eq 7, 3) := by decide +kernel
theorem dX9_mean_24 : decode cX9_mean 24 = .ok (.ldc2_w 207, 3) := by decide +kernel
theorem dX9_mean_27 : decode cX9_mean 27 = .ok (.lreturn, 1) := by decide +kernel
theorem dX9_mean_28 : decode cX9_mean 28 = .ok (.aload_n 0, 1) := by decide +kernel
theorem dX9_mean_29 : decode cX9_mean 29 = .ok (.getfield 12, 3) := by decide +kernel
theorem dX9_mean_32 : decode cX9_mean 32 = .ok (.getfield 85, 3) := by decide +kernel
theorem dX9_mean_35 : decode cX9_mean 35 = .ok (.iconst 0, 1) := by decide +kernel
theorem dX9_mean_36 : decode cX9_mean 36 = .ok (.invokevirtual 220, 3) := by decide +kernel
theorem dX9_mean_39 : decode cX9_mean 39 = .ok (.iload_n 2, 1) := by decide +kernel
theorem dX9_mean_40 : decode cX9_mean 40 = .ok (.iload_n 1, 1) := by decide +kernel
theorem dX9_mean_41 : decode cX9_mean 41 = .ok (.invokestatic 213, 3) := by decide +kernel
theorem dX9_mean_44 : decode cX9_mean 44 = .ok (.lreturn, 1) := by decide +kernel
theorem dX9_plan_0 : decode cX9_plan 0 = .ok (.iload_n 1, 1) := by decide +kernel
theorem dX9_plan_1 : decode cX9_plan 1 = .ok (.iconst (-1), 1) := by decide +kernel
theorem dX9_plan_2 : decode cX9_plan 2 = .ok (.if_icmp .ne 16, 3) := by decide +kernel
theorem dX9_plan_5 : decode cX9_plan 5 = .ok (.aload_n 0, 1) := by decide +kernel
theorem dX9_plan_6 : decode cX9_plan 6 = .ok (.getfield 12, 3) := by decide +kernel
theorem dX9_plan_9 : decode cX9_plan 9 = .ok (.getfield 224, 3) := by decide +kernel
theorem dX9_plan_12 : decode cX9_plan 12 = .ok (.iconst 0, 1) := by decide +kernel
theorem dX9_plan_13 : decode cX9_plan 13 = .ok (.putfield 191, 3) := by decide +kernel
theorem dX9_plan_16 : decode cX9_plan 16 = .ok (.iconst 0, 1) := by decide +kernel
theorem dX9_plan_17 : decode cX9_plan 17 = .ok (.ireturn, 1) := by decide +kernel
theorem dX9_plan_18 : decode cX9_plan 18 = .ok (.aload_n 0, 1) := by decide +kernel
theorem dX9_plan_19 : decode cX9_plan 19 = .ok (.iload_n 1, 1) := by decide +kernel
theorem dX9_plan_20 : decode cX9_plan 20 = .ok (.iload_n 2, 1) := by decide +kernel
theorem dX9_plan_21 : decode cX9_plan 21 = .ok (.invokevirtual 227, 3) := by decide +kernel
theorem dX9_plan_24 : decode cX9_plan 24 = .ok (.ifCond .ne 5, 3) := by decide +kernel
theorem dX9_plan_27 : decode cX9_plan 27 = .ok (.iconst (-1), 1) := by decide +kernel
theorem dX9_plan_28 : decode cX9_plan 28 = .ok (.ireturn, 1) := by decide +kernel
theorem dX9_plan_29 : decode cX9_plan 29 = .ok (.aload_n 0, 1) := by decide +kernel
theorem dX9_plan_30 : decode cX9_plan 30 = .ok (.getfield 12, 3) := by decide +kernel
theorem dX9_plan_33 : decode cX9_plan 33 = .ok (.getfield 224, 3) := by decide +kernel
theorem dX9_plan_36 : decode cX9_plan 36 = .ok (.bipush 8, 2) := by decide +kernel
theorem dX9_plan_38 : decode cX9_plan 38 = .ok (.iload_n 1, 1) := by decide +kernel
theorem dX9_plan_39 : decode cX9_plan 39 = .ok (.iload_n 2, 1) := by decide +kernel
theorem dX9_plan_40 : decode cX9_plan 40 = .ok (.iconst 0, 1) := by decide +kernel
theorem dX9_plan_41 : decode cX9_plan 41 = .ok (.invokevirtual 194, 3) := by decide +kernel
theorem dX9_plan_44 : decode cX9_plan 44 = .ok (.ireturn, 1) := by decide +kernel
theorem dX9_done_0 : decode cX9_done 0 = .ok (.iload_n 1, 1) := by decide +kernel
theorem dX9_done_1 : decode cX9_done 1 = .ok (.ifCond .eq 10, 3) := by decide +kernel
theorem dX9_done_4 : decode cX9_done 4 = .ok (.iload_n 1, 1) := by decide +kernel
theorem dX9_done_5 : decode cX9_done 5 = .ok (.iconst 1, 1) := by decide +kernel
theorem dX9_done_6 : decode cX9_done 6 = .ok (.if_icmp .eq 5, 3) := by decide +kernel
theorem dX9_done_9 : decode cX9_done 9 = .ok (.iconst (-1), 1) := by decide +kernel
theorem dX9_done_10 : decode cX9_done 10 = .ok (.ireturn, 1) := by decide +kernel
theorem dX9_done_11 : decode cX9_done 11 = .ok (.aload_n 0, 1) := by decide +kernel
theorem dX9_done_12 : decode cX9_done 12 = .ok (.getfield 39, 3) := by decide +kernel
theorem dX9_done_15 : decode cX9_done 15 = .ok (.aload_n 0, 1) := by decide +kernel
theorem dX9_done_16 : decode cX9_done 16 = .ok (.getfield 12, 3) := by decide +kernel
theorem dX9_done_19 : decode cX9_done 19 = .ok (.getfield 85, 3) := by decide +kernel
theorem dX9_done_22 : decode cX9_done 22 = .ok (.invokevirtual 158, 3) := by decide +kernel
theorem dX9_done_25 : decode cX9_done 25 = .ok (.aload_n 0, 1) := by decide +kernel
theorem dX9_done_26 : decode cX9_done 26 = .ok (.getfield 39, 3) := by decide +kernel
theorem dX9_done_29 : decode cX9_done 29 = .ok (.aload_n 0, 1) := by decide +kernel
theorem dX9_done_30 : decode cX9_done 30 = .ok (.getfield 12, 3) := by decide +kernel
theorem dX9_done_33 : decode cX9_done 33 = .ok (.getfield 224, 3) := by decide +kernel
theorem dX9_done_36 : decode cX9_done 36 = .ok (.invokevirtual 231, 3) := by decide +kernel
theorem dX9_done_39 : decode cX9_done 39 = .ok (.iload_n 1, 1) := by decide +kernel
theorem dX9_done_40 : decode cX9_done 40 = .ok (.ifCond .ne 16, 3) := by decide +kernel
theorem dX9_done_43 : decode cX9_done 43 = .ok (.aload_n 0, 1) := by decide +kernel
theorem dX9_done_44 : decode cX9_done 44 = .ok (.getfield 39, 3) := by decide +kernel
theorem dX9_done_47 : decode cX9_done 47 = .ok (.getfield 166, 3) := by decide +kernel
theorem dX9_done_50 : decode cX9_done 50 = .ok (.invokevirtual 148, 3) := by decide +kernel
theorem dX9_done_53 : decode cX9_done 53 = .ok (.goto 14, 3) := by decide +kernel
theorem dX9_done_56 : decode cX9_done 56 = .ok (.aload_n 0, 1) := by decide +kernel
theorem dX9_done_57 : decode cX9_done 57 = .ok (.getfield 39, 3) := by decide +kernel
theorem dX9_done_60 : decode cX9_done 60 = .ok (.getfield 166, 3) := by decide +kernel
theorem dX9_done_63 : decode cX9_done 63 = .ok (.iconst 1, 1) := by decide +kernel
theorem dX9_done_64 : decode cX9_done 64 = .ok (.invokevirtual 220, 3) := by decide +kernel
theorem dX9_done_67 : decode cX9_done 67 = .ok (.ireturn, 1) := by decide +kernel
theorem dX9_book_0 : decode cX9_book 0 = .ok (.iload_n 1, 1) := by decide +kernel
theorem dX9_book_1 : decode cX9_book 1 = .ok (.iconst (-1), 1) := by decide +kernel
theorem dX9_book_2 : decode cX9_book 2 = .ok (.if_icmp .ne 16, 3) := by decide +kernel
theorem dX9_book_5 : decode cX9_book 5 = .ok (.aload_n 0, 1) := by decide +kernel
theorem dX9_book_6 : decode cX9_book 6 = .ok (.getfield 12, 3) := by decide +kernel
theorem dX9_book_9 : decode cX9_book 9 = .ok (.getfield 235, 3) := by decide +kernel
theorem dX9_book_12 : decode cX9_book 12 = .ok (.iconst 0, 1) := by decide +kernel
theorem dX9_book_13 : decode cX9_book 13 = .ok (.putfield 191, 3) := by decide +kernel
theorem dX9_book_16 : decode cX9_book 16 = .ok (.iconst 0, 1) := by decide +kernel
theorem dX9_book_17 : decode cX9_book 17 = .ok (.ireturn, 1) := by decide +kernel
theorem dX9_book_18 : decode cX9_book 18 = .ok (.aload_n 0, 1) := by decide +kernel
theorem dX9_book_19 : decode cX9_book 19 = .ok (.getfield 12, 3) := by decide +kernel
theorem dX9_book_22 : decode cX9_book 22 = .ok (.getfield 85, 3) := by decide +kernel
theorem dX9_book_25 : decode cX9_book 25 = .ok (.iload_n 1, 1) := by decide +kernel
theorem dX9_book_26 : decode cX9_book 26 = .ok (.invokevirtual 94, 3) := by decide +kernel
theorem dX9_book_29 : decode cX9_book 29 = .ok (.ifCond .eq 10, 3) := by decide +kernel
theorem dX9_book_32 : decode cX9_book 32 = .ok (.iload_n 2, 1) := by decide +kernel
theorem dX9_book_33 : decode cX9_book 33 = .ok (.invokestatic 82, 3) := by decide +kernel
theorem dX9_book_36 : decode cX9_book 36 = .ok (.ifCond .ne 5, 3) := by decide +kernel
theorem dX9_book_39 : decode cX9_book 39 = .ok (.iconst (-1), 1) := by decide +kernel
theorem dX9_book_40 : decode cX9_book 40 = .ok (.ireturn, 1) := by decide +kernel
theorem dX9_book_41 : decode cX9_book 41 = .ok (.aload_n 0, 1) := by decide +kernel
theorem dX9_book_42 : decode cX9_book 42 = .ok (.getfield 12, 3) := by decide +kernel
theorem dX9_book_45 : decode cX9_book 45 = .ok (.getfield 235, 3) := by decide +kernel
theorem dX9_book_48 : decode cX9_book 48 = .ok (.bipush 8, 2) := by decide +kernel
theorem dX9_book_50 : decode cX9_book 50 = .ok (.iload_n 1, 1) := by decide +kernel
theorem dX9_book_51 : decode cX9_book 51 = .ok (.iload_n 2, 1) := by decide +kernel
theorem dX9_book_52 : decode cX9_book 52 = .ok (.iconst 0, 1) := by decide +kernel
theorem dX9_book_53 : decode cX9_book 53 = .ok (.invokevirtual 194, 3) := by decide +kernel
theorem dX9_book_56 : decode cX9_book 56 = .ok (.ireturn, 1) := by decide +kernel
theorem dX9_looked_0 : decode cX9_looked 0 = .ok (.aload_n 0, 1) := by decide +kernel
theorem dX9_looked_1 : decode cX9_looked 1 = .ok (.getfield 12, 3) := by decide +kernel
theorem dX9_looked_4 : decode cX9_looked 4 = .ok (.getfield 235, 3) := by decide +kernel
theorem dX9_looked_7 : decode cX9_looked 7 = .ok (.astore_n 1, 1) := by decide +kernel
theorem dX9_looked_8 : decode cX9_looked 8 = .ok (.iconst 0, 1) := by decide +kernel
theorem dX9_looked_9 : decode cX9_looked 9 = .ok (.istore_n 2, 1) := by decide +kernel
theorem dX9_looked_10 : decode cX9_looked 10 = .ok (.iload_n 2, 1) := by decide +kernel
theorem dX9_looked_11 : decode cX9_looked 11 = .ok (.aload_n 1, 1) := by decide +kernel
theorem dX9_looked_12 : decode cX9_looked 12 = .ok (.getfield 191, 3) := by decide +kernel
theorem dX9_looked_15 : decode cX9_looked 15 = .ok (.if_icmp .ge 59, 3) := by decide +kernel
theorem dX9_looked_18 : decode cX9_looked 18 = .ok (.iload_n 2, 1) := by decide +kernel
theorem dX9_looked_19 : decode cX9_looked 19 = .ok (.bipush 8, 2) := by decide +kernel
theorem dX9_looked_21 : decode cX9_looked 21 = .ok (.if_icmp .ge 53, 3) := by decide +kernel
theorem dX9_looked_24 : decode cX9_looked 24 = .ok (.aload_n 1, 1) := by decide +kernel
theorem dX9_looked_25 : decode cX9_looked 25 = .ok (.getfield 238, 3) := by decide +kernel
theorem dX9_looked_28 : decode cX9_looked 28 = .ok (.iload_n 2, 1) := by decide +kernel
theorem dX9_looked_29 : decode cX9_looked 29 = .ok (.iaload, 1) := by decide +kernel
theorem dX9_looked_30 : decode cX9_looked 30 = .ok (.istore_n 3, 1) := by decide +kernel
theorem dX9_looked_31 : decode cX9_looked 31 = .ok (.aload_n 0, 1) := by decide +kernel
theorem dX9_looked_32 : decode cX9_looked 32 = .ok (.getfield 12, 3) := by decide +kernel
theorem dX9_looked_35 : decode cX9_looked 35 = .ok (.getfield 85, 3) := by decide +kernel
theorem dX9_looked_38 : decode cX9_looked 38 = .ok (.iload_n 3, 1) := by decide +kernel
theorem dX9_looked_39 : decode cX9_looked 39 = .ok (.invokevirtual 94, 3) := by decide +kernel
theorem dX9_looked_42 : decode cX9_looked 42 = .ok (.ifCond .eq 26, 3) := by decide +kernel
theorem dX9_looked_45 : decode cX9_looked 45 = .ok (.aload_n 0, 1) := by decide +kernel
theorem dX9_looked_46 : decode cX9_looked 46 = .ok (.getfield 12, 3) := by decide +kernel
theorem dX9_looked_49 : decode cX9_looked 49 = .ok (.getfield 85, 3) := by decide +kernel
theorem dX9_looked_52 : decode cX9_looked 52 = .ok (.getfield 107, 3) := by decide +kernel
theorem dX9_looked_55 : decode cX9_looked 55 = .ok (.iload_n 3, 1) := by decide +kernel
theorem dX9_looked_56 : decode cX9_looked 56 = .ok (.iaload, 1) := by decide +kernel
theorem dX9_looked_57 : decode cX9_looked 57 = .ok (.aload_n 1, 1) := by decide +kernel
theorem dX9_looked_58 : decode cX9_looked 58 = .ok (.getfield 241, 3) := by decide +kernel
theorem dX9_looked_61 : decode cX9_looked 61 = .ok (.iload_n 2, 1) := by decide +kernel
theorem dX9_looked_62 : decode cX9_looked 62 = .ok (.iaload, 1) := by decide +kernel
theorem dX9_looked_63 : decode cX9_looked 63 = .ok (.if_icmp .eq 5, 3) := by decide +kernel
theorem dX9_looked_66 : decode cX9_looked 66 = .ok (.iload_n 2, 1) := by decide +kernel
theorem dX9_looked_67 : decode cX9_looked 67 = .ok (.ireturn, 1) := by decide +kernel
theorem dX9_looked_68 : decode cX9_looked 68 = .ok (.iinc 2 1, 3) := by decide +kernel
theorem dX9_looked_71 : decode cX9_looked 71 = .ok (.goto (-61), 3) := by decide +kernel
theorem dX9_looked_74 : decode cX9_looked 74 = .ok (.bipush (-5), 2) := by decide +kernel
theorem dX9_looked_76 : decode cX9_looked 76 = .ok (.ireturn, 1) := by decide +kernel
theorem dX9_act_0 : decode cX9_act 0 = .ok (.aload_n 0, 1) := by decide +kernel
theorem dX9_act_1 : decode cX9_act 1 = .ok (.getfield 46, 3) := by decide +kernel
theorem dX9_act_4 : decode cX9_act 4 = .ok (.iconst 0, 1) := by decide +kernel
theorem dX9_act_5 : decode cX9_act 5 = .ok (.putfield 244, 3) := by decide +kernel
theorem dX9_act_8 : decode cX9_act 8 = .ok (.aload_n 0, 1) := by decide +kernel
theorem dX9_act_9 : decode cX9_act 9 = .ok (.getfield 12, 3) := by decide +kernel
theorem dX9_act_12 : decode cX9_act 12 = .ok (.getfield 85, 3) := by decide +kernel
theorem dX9_act_15 : decode cX9_act 15 = .ok (.iload_n 1, 1) := by decide +kernel
theorem dX9_act_16 : decode cX9_act 16 = .ok (.invokevirtual 94, 3) := by decide +kernel
theorem dX9_act_19 : decode cX9_act 19 = .ok (.ifCond .eq 12, 3) := by decide +kernel
theorem dX9_act_22 : decode cX9_act 22 = .ok (.iload_n 2, 1) := by decide +kernel
theorem dX9_act_23 : decode cX9_act 23 = .ok (.ifCond .lt 8, 3) := by decide +kernel
theorem dX9_act_26 : decode cX9_act 26 = .ok (.iload_n 2, 1) := by decide +kernel
theorem dX9_act_27 : decode cX9_act 27 = .ok (.iconst 3, 1) := by decide +kernel
theorem dX9_act_28 : decode cX9_act 28 = .ok (.if_icmp .lt 5, 3) := by decide +kernel
theorem dX9_act_31 : decode cX9_act 31 = .ok (.iconst 0, 1) := by decide +kernel
theorem dX9_act_32 : decode cX9_act 32 = .ok (.ireturn, 1) := by decide +kernel
theorem dX9_act_33 : decode cX9_act 33 = .ok (.aload_n 0, 1) := by decide +kernel
theorem dX9_act_34 : decode cX9_act 34 = .ok (.getfield 46, 3) := by decide +kernel
theorem dX9_act_37 : decode cX9_act 37 = .ok (.iload_n 1, 1) := by decide +kernel
theorem dX9_act_38 : decode cX9_act 38 = .ok (.putfield 247, 3) := by decide +kernel
theorem dX9_act_41 : decode cX9_act 41 = .ok (.aload_n 0, 1) := by decide +kernel
theorem dX9_act_42 : decode cX9_act 42 = .ok (.getfield 46, 3) := by decide +kernel
theorem dX9_act_45 : decode cX9_act 45 = .ok (.aload_n 0, 1) := by decide +kernel
theorem dX9_act_46 : decode cX9_act 46 = .ok (.getfield 12, 3) := by decide +kernel
theorem dX9_act_49 : decode cX9_act 49 = .ok (.getfield 85, 3) := by decide +kernel
theorem dX9_act_52 : decode cX9_act 52 = .ok (.getfield 97, 3) := by decide +kernel
theorem dX9_act_55 : decode cX9_act 55 = .ok (.iload_n 1, 1) := by decide +kernel
theorem dX9_act_56 : decode cX9_act 56 = .ok (.iaload, 1) := by decide +kernel
theorem dX9_act_57 : decode cX9_act 57 = .ok (.putfield 250, 3) := by decide +kernel
theorem dX9_act_60 : decode cX9_act 60 = .ok (.aload_n 0, 1) := by decide +kernel
theorem dX9_act_61 : decode cX9_act 61 = .ok (.getfield 46, 3) := by decide +kernel
theorem dX9_act_64 : decode cX9_act 64 = .ok (.aload_n 0, 1) := by decide +kernel
theorem dX9_act_65 : decode cX9_act 65 = .ok (.getfield 12, 3) := by decide +kernel
theorem dX9_act_68 : decode cX9_act 68 = .ok (.getfield 85, 3) := by decide +kernel
theorem dX9_act_71 : decode cX9_act 71 = .ok (.getfield 101, 3) := by decide +kernel
theorem dX9_act_74 : decode cX9_act 74 = .ok (.iload_n 1, 1) := by decide +kernel
theorem dX9_act_75 : decode cX9_act 75 = .ok (.iaload, 1) := by decide +kernel
theorem dX9_act_76 : decode cX9_act 76 = .ok (.putfield 252, 3) := by decide +kernel
theorem dX9_act_79 : decode cX9_act 79 = .ok (.aload_n 0, 1) := by decide +kernel
theorem dX9_act_80 : decode cX9_act 80 = .ok (.getfield 46, 3) := by decide +kernel
theorem dX9_act_83 : decode cX9_act 83 = .ok (.iload_n 2, 1) := by decide +kernel
theorem dX9_act_84 : decode cX9_act 84 = .ok (.iload_n 3, 1) := by decide +kernel
theorem dX9_act_85 : decode cX9_act 85 = .ok (.invokevirtual 254, 3) := by decide +kernel
theorem dX9_act_88 : decode cX9_act 88 = .ok (.ireturn, 1) := by decide +kernel
theorem dX9_trace_0 : decode cX9_trace 0 = .ok (.iload_n 1, 1) := by decide +kernel
theorem dX9_trace_1 : decode cX9_trace 1 = .ok (.ifCond .lt 32, 3) := by decide +kernel
theorem dX9_trace_4 : decode cX9_trace 4 = .ok (.iload_n 1, 1) := by decide +kernel
theorem dX9_trace_5 : decode cX9_trace 5 = .ok (.aload_n 0, 1) := by decide +kernel
theorem dX9_trace_6 : decode cX9_trace 6 = .ok (.getfield 46, 3) := by decide +kernel
theorem dX9_trace_9 : decode cX9_trace 9 = .ok (.getfield 244, 3) := by decide +kernel
theorem dX9_trace_12 : decode cX9_trace 12 = .ok (.if_icmp .ge 21, 3) := by decide +kernel
theorem dX9_trace_15 : decode cX9_trace 15 = .ok (.iload_n 1, 1) := by decide +kernel
theorem dX9_trace_16 : decode cX9_trace 16 = .ok (.bipush 20, 2) := by decide +kernel
theorem dX9_trace_18 : decode cX9_trace 18 = .ok (.if_icmp .ge 15, 3) := by decide +kernel
theorem dX9_trace_21 : decode cX9_trace 21 = .ok (.aload_n 0, 1) := by decide +kernel
theorem dX9_trace_22 : decode cX9_trace 22 = .ok (.getfield 46, 3) := by decide +kernel
theorem dX9_trace_25 : decode cX9_trace 25 = .ok (.getfield 256, 3) := by decide +kernel
theorem dX9_trace_28 : decode cX9_trace 28 = .ok (.iload_n 1, 1) := by decide +kernel
theorem dX9_trace_29 : decode cX9_trace 29 = .ok (.iaload, 1) := by decide +kernel
theorem dX9_trace_30 : decode cX9_trace 30 = .ok (.goto 4, 3) := by decide +kernel
theorem dX9_trace_33 : decode cX9_trace 33 = .ok (.iconst (-1), 1) := by decide +kernel
theorem dX9_trace_34 : decode cX9_trace 34 = .ok (.ireturn, 1) := by decide +kernel
theorem dX9_as_0 : decode cX9_as 0 = .ok (.aload_n 0, 1) := by decide +kernel
theorem dX9_as_1 : decode cX9_as 1 = .ok (.getfield 12, 3) := by decide +kernel
theorem dX9_as_4 : decode cX9_as 4 = .ok (.getfield 85, 3) := by decide +kernel
theorem dX9_as_7 : decode cX9_as 7 = .ok (.iload_n 1, 1) := by decide +kernel
theorem dX9_as_8 : decode cX9_as 8 = .ok (.invokevirtual 94, 3) := by decide +kernel
theorem dX9_as_11 : decode cX9_as 11 = .ok (.ifCond .eq 13, 3) := by decide +kernel
theorem dX9_as_14 : decode cX9_as 14 = .ok (.iload_n 2, 1) := by decide +kernel
theorem dX9_as_15 : decode cX9_as 15 = .ok (.ifCond .lt 9, 3) := by decide +kernel
theorem dX9_as_18 : decode cX9_as 18 = .ok (.iload_n 2, 1) := by decide +kernel
theorem dX9_as_19 : decode cX9_as 19 = .ok (.bipush 7, 2) := by decide +kernel
theorem dX9_as_21 : decode cX9_as 21 = .ok (.if_icmp .lt 5, 3) := by decide +kernel
theorem dX9_as_24 : decode cX9_as 24 = .ok (.iconst (-1), 1) := by decide +kernel
theorem dX9_as_25 : decode cX9_as 25 = .ok (.ireturn, 1) := by decide +kernel
theorem dX9_as_26 : decode cX9_as 26 = .ok (.aload_n 0, 1) := by decide +kernel
theorem dX9_as_27 : decode cX9_as 27 = .ok (.getfield 12, 3) := by decide +kernel
theorem dX9_as_30 : decode cX9_as 30 = .ok (.getfield 85, 3) := by decide +kernel
theorem dX9_as_33 : decode cX9_as 33 = .ok (.getfield 97, 3) := by decide +kernel
theorem dX9_as_36 : decode cX9_as 36 = .ok (.iload_n 1, 1) := by decide +kernel
theorem dX9_as_37 : decode cX9_as 37 = .ok (.iaload, 1) := by decide +kernel
theorem dX9_as_38 : decode cX9_as 38 = .ok (.iload_n 2, 1) := by decide +kernel
theorem dX9_as_39 : decode cX9_as 39 = .ok (.invokestatic 259, 3) := by decide +kernel
theorem dX9_as_42 : decode cX9_as 42 = .ok (.ifCond .eq 18, 3) := by decide +kernel
theorem dX9_as_45 : decode cX9_as 45 = .ok (.aload_n 0, 1) := by decide +kernel
theorem dX9_as_46 : decode cX9_as 46 = .ok (.getfield 12, 3) := by decide +kernel
theorem dX9_as_49 : decode cX9_as 49 = .ok (.getfield 85, 3) := by decide +kernel
theorem dX9_as_52 : decode cX9_as 52 = .ok (.getfield 101, 3) := by decide +kernel
theorem dX9_as_55 : decode cX9_as 55 = .ok (.iload_n 1, 1) := by decide +kernel
theorem dX9_as_56 : decode cX9_as 56 = .ok (.iaload, 1) := by decide +kernel
theorem dX9_as_57 : decode cX9_as 57 = .ok (.goto 5, 3) := by decide +kernel
theorem dX9_as_60 : decode cX9_as 60 = .ok (.bipush (-6), 2) := by decide +kernel
theorem dX9_as_62 : decode cX9_as 62 = .ok (.ireturn, 1) := by decide +kernel
theorem dX9_image_0 : decode cX9_image 0 = .ok (.aload_n 0, 1) := by decide +kernel
theorem dX9_image_1 : decode cX9_image 1 = .ok (.getfield 18, 3) := by decide +kernel
theorem dX9_image_4 : decode cX9_image 4 = .ok (.aload_n 0, 1) := by decide +kernel
theorem dX9_image_5 : decode cX9_image 5 = .ok (.getfield 12, 3) := by decide +kernel
theorem dX9_image_8 : decode cX9_image 8 = .ok (.invokevirtual 262, 3) := by decide +kernel
theorem dX9_image_11 : decode cX9_image 11 = .ok (.aload_n 0, 1) := by decide +kernel
theorem dX9_image_12 : decode cX9_image 12 = .ok (.iconst 1, 1) := by decide +kernel
theorem dX9_image_13 : decode cX9_image 13 = .ok (.putfield 266, 3) := by decide +kernel
theorem dX9_image_16 : decode cX9_image 16 = .ok (.aload_n 0, 1) := by decide +kernel
theorem dX9_image_17 : decode cX9_image 17 = .ok (.getfield 12, 3) := by decide +kernel
theorem dX9_image_20 : decode cX9_image 20 = .ok (.getfield 85, 3) := by decide +kernel
theorem dX9_image_23 : decode cX9_image 23 = .ok (.getfield 181, 3) := by decide +kernel
theorem dX9_image_26 : decode cX9_image 26 = .ok (.ireturn, 1) := by decide +kernel
theorem dX9_undo_0 : decode cX9_undo 0 = .ok (.aload_n 0, 1) := by decide +kernel
theorem dX9_undo_1 : decode cX9_undo 1 = .ok (.getfield 266, 3) := by decide +kernel
theorem dX9_undo_4 : decode cX9_undo 4 = .ok (.ifCond .ne 6, 3) := by decide +kernel
theorem dX9_undo_7 : decode cX9_undo 7 = .ok (.bipush (-3), 2) := by decide +kernel
theorem dX9_undo_9 : decode cX9_undo 9 = .ok (.ireturn, 1) := by decide +kernel
theorem dX9_undo_10 : decode cX9_undo 10 = .ok (.aload_n 0, 1) := by decide +kernel
theorem dX9_undo_11 : decode cX9_undo 11 = .ok (.getfield 12, 3) := by decide +kernel
theorem dX9_undo_14 : decode cX9_undo 14 = .ok (.aload_n 0, 1) := by decide +kernel
theorem dX9_undo_15 : decode cX9_undo 15 = .ok (.getfield 18, 3) := by decide +kernel
theorem dX9_undo_18 : decode cX9_undo 18 = .ok (.invokevirtual 262, 3) := by decide +kernel
theorem dX9_undo_21 : decode cX9_undo 21 = .ok (.aload_n 0, 1) := by decide +kernel
theorem dX9_undo_22 : decode cX9_undo 22 = .ok (.invokevirtual 79, 3) := by decide +kernel
theorem dX9_undo_25 : decode cX9_undo 25 = .ok (.aload_n 0, 1) := by decide +kernel
theorem dX9_undo_26 : decode cX9_undo 26 = .ok (.getfield 12, 3) := by decide +kernel
theorem dX9_undo_29 : decode cX9_undo 29 = .ok (.getfield 85, 3) := by decide +kernel
theorem dX9_undo_32 : decode cX9_undo 32 = .ok (.getfield 181, 3) := by decide +kernel
theorem dX9_undo_35 : decode cX9_undo 35 = .ok (.ireturn, 1) := by decide +kernel
theorem dX9_count_0 : decode cX9_count 0 = .ok (.iload_n 1, 1) := by decide +kernel
theorem dX9_count_1 : decode cX9_count 1 = .ok (.tableswitch 114 0 6 #[43, 54, 62, 73, 84, 95, 106], 43) := by decide +kernel
theorem dX9_count_44 : decode cX9_count 44 = .ok (.aload_n 0, 1) := by decide +kernel
theorem dX9_count_45 : decode cX9_count 45 = .ok (.getfield 12, 3) := by decide +kernel
theorem dX9_count_48 : decode cX9_count 48 = .ok (.getfield 85, 3) := by decide +kernel
theorem dX9_count_51 : decode cX9_count 51 = .ok (.getfield 181, 3) := by decide +kernel
theorem dX9_count_54 : decode cX9_count 54 = .ok (.ireturn, 1) := by decide +kernel
theorem dX9_count_55 : decode cX9_count 55 = .ok (.aload_n 0, 1) := by decide +kernel
theorem dX9_count_56 : decode cX9_count 56 = .ok (.getfield 12, 3) := by decide +kernel
theorem dX9_count_59 : decode cX9_count 59 = .ok (.getfield 65, 3) := by decide +kernel
theorem dX9_count_62 : decode cX9_count 62 = .ok (.ireturn, 1) := by decide +kernel
theorem dX9_count_63 : decode cX9_count 63 = .ok (.aload_n 0, 1) := by decide +kernel
theorem dX9_count_64 : decode cX9_count 64 = .ok (.getfield 12, 3) := by decide +kernel
theorem dX9_count_67 : decode cX9_count 67 = .ok (.getfield 187, 3) := by decide +kernel
theorem dX9_count_70 : decode cX9_count 70 = .ok (.getfield 191, 3) := by decide +kernel
theorem dX9_count_73 : decode cX9_count 73 = .ok (.ireturn, 1) := by decide +kernel
theorem dX9_count_74 : decode cX9_count 74 = .ok (.aload_n 0, 1) := by decide +kernel
theorem dX9_count_75 : decode cX9_count 75 = .ok (.getfield 12, 3) := by decide +kernel
theorem dX9_count_78 : decode cX9_count 78 = .ok (.getfield 224, 3) := by decide +kernel
theorem dX9_count_81 : decode cX9_count 81 = .ok (.getfield 191, 3) := by decide +kernel
theorem dX9_count_84 : decode cX9_count 84 = .ok (.ireturn, 1) := by decide +kernel
theorem dX9_count_85 : decode cX9_count 85 = .ok (.aload_n 0, 1) := by decide +kernel
theorem dX9_count_86 : decode cX9_count 86 = .ok (.getfield 12, 3) := by decide +kernel
theorem dX9_count_89 : decode cX9_count 89 = .ok (.getfield 235, 3) := by decide +kernel
theorem dX9_count_92 : decode cX9_count 92 = .ok (.getfield 191, 3) := by decide +kernel
theorem dX9_count_95 : decode cX9_count 95 = .ok (.ireturn, 1) := by decide +kernel
theorem dX9_count_96 : decode cX9_count 96 = .ok (.aload_n 0, 1) := by decide +kernel
theorem dX9_count_97 : decode cX9_count 97 = .ok (.getfield 12, 3) := by decide +kernel
theorem dX9_count_100 : decode cX9_count 100 = .ok (.getfield 51, 3) := by decide +kernel
theorem dX9_count_103 : decode cX9_count 103 = .ok (.getfield 61, 3) := by decide +kernel
theorem dX9_count_106 : decode cX9_count 106 = .ok (.ireturn, 1) := by decide +kernel
theorem dX9_count_107 : decode cX9_count 107 = .ok (.aload_n 0, 1) := by decide +kernel
theorem dX9_count_108 : decode cX9_count 108 = .ok (.getfield 46, 3) := by decide +kernel
theorem dX9_count_111 : decode cX9_count 111 = .ok (.getfield 244, 3) := by decide +kernel
theorem dX9_count_114 : decode cX9_count 114 = .ok (.ireturn, 1) := by decide +kernel
theorem dX9_count_115 : decode cX9_count 115 = .ok (.iconst (-1), 1) := by decide +kernel
theorem dX9_count_116 : decode cX9_count 116 = .ok (.ireturn, 1) := by decide +kernel
theorem dX9_forgetWorked_0 : decode cX9_forgetWorked 0 = .ok (.aload_n 0, 1) := by decide +kernel
theorem dX9_forgetWorked_1 : decode cX9_forgetWorked 1 = .ok (.getfield 12, 3) := by decide +kernel
theorem dX9_forgetWorked_4 : decode cX9_forgetWorked 4 = .ok (.getfield 65, 3) := by decide +kernel
theorem dX9_forgetWorked_7 : decode cX9_forgetWorked 7 = .ok (.iconst 1, 1) := by decide +kernel
theorem dX9_forgetWorked_8 : decode cX9_forgetWorked 8 = .ok (.isub, 1) := by decide +kernel
theorem dX9_forgetWorked_9 : decode cX9_forgetWorked 9 = .ok (.istore_n 1, 1) := by decide +kernel
theorem dX9_forgetWorked_10 : decode cX9_forgetWorked 10 = .ok (.aload_n 0, 1) := by decide +kernel
theorem dX9_forgetWorked_11 : decode cX9_forgetWorked 11 = .ok (.getfield 30, 3) := by decide +kernel
theorem dX9_forgetWorked_14 : decode cX9_forgetWorked 14 = .ok (.iload_n 1, 1) := by decide +kernel
theorem dX9_forgetWorked_15 : decode cX9_forgetWorked 15 = .ok (.ifCond .lt 21, 3) := by decide +kernel
theorem dX9_forgetWorked_18 : decode cX9_forgetWorked 18 = .ok (.iload_n 1, 1) := by decide +kernel
theorem dX9_forgetWorked_19 : decode cX9_forgetWorked 19 = .ok (.aload_n 0, 1) := by decide +kernel
theorem dX9_forgetWorked_20 : decode cX9_forgetWorked 20 = .ok (.getfield 23, 3) := by decide +kernel
theorem dX9_forgetWorked_23 : decode cX9_forgetWorked 23 = .ok (.arraylength, 1) := by decide +kernel
theorem dX9_forgetWorked_24 : decode cX9_forgetWorked 24 = .ok (.if_icmp .ge 12, 3) := by decide +kernel
theorem dX9_forgetWorked_27 : decode cX9_forgetWorked 27 = .ok (.aload_n 0, 1) := by decide +kernel
theorem dX9_forgetWorked_28 : decode cX9_forgetWorked 28 = .ok (.getfield 23, 3) := by decide +kernel
theorem dX9_forgetWorked_31 : decode cX9_forgetWorked 31 = .ok (.iload_n 1, 1) := by decide +kernel
theorem dX9_forgetWorked_32 : decode cX9_forgetWorked 32 = .ok (.aaload, 1) := by decide +kernel
theorem dX9_forgetWorked_33 : decode cX9_forgetWorked 33 = .ok (.goto 4, 3) := by decide +kernel
theorem dX9_forgetWorked_36 : decode cX9_forgetWorked 36 = .ok (.aconst_null, 1) := by decide +kernel
theorem dX9_forgetWorked_37 : decode cX9_forgetWorked 37 = .ok (.invokevirtual 270, 3) := by decide +kernel
theorem dX9_forgetWorked_40 : decode cX9_forgetWorked 40 = .ok (.aload_n 0, 1) := by decide +kernel
theorem dX9_forgetWorked_41 : decode cX9_forgetWorked 41 = .ok (.getfield 39, 3) := by decide +kernel
theorem dX9_forgetWorked_44 : decode cX9_forgetWorked 44 = .ok (.iconst 0, 1) := by decide +kernel
theorem dX9_forgetWorked_45 : decode cX9_forgetWorked 45 = .ok (.putfield 274, 3) := by decide +kernel
theorem dX9_forgetWorked_48 : decode cX9_forgetWorked 48 = .ok (.return_, 1) := by decide +kernel
theorem dX9_isPlanned_0 : decode cX9_isPlanned 0 = .ok (.iload_n 1, 1) := by decide +kernel
theorem dX9_isPlanned_1 : decode cX9_isPlanned 1 = .ok (.tableswitch 84 0 3 #[31, 33, 45, 57], 31) := by decide +kernel
theorem dX9_isPlanned_32 : decode cX9_isPlanned 32 = .ok (.iconst 1, 1) := by decide +kernel
theorem dX9_isPlanned_33 : decode cX9_isPlanned 33 = .ok (.ireturn, 1) := by decide +kernel
theorem dX9_isPlanned_34 : decode cX9_isPlanned 34 = .ok (.aload_n 0, 1) := by decide +kernel
theorem dX9_isPlanned_35 : decode cX9_isPlanned 35 = .ok (.getfield 12, 3) := by decide +kernel
theorem dX9_isPlanned_38 : decode cX9_isPlanned 38 = .ok (.getfield 85, 3) := by decide +kernel
theorem dX9_isPlanned_41 : decode cX9_isPlanned 41 = .ok (.iload_n 2, 1) := by decide +kernel
theorem dX9_isPlanned_42 : decode cX9_isPlanned 42 = .ok (.invokevirtual 94, 3) := by decide +kernel
theorem dX9_isPlanned_45 : decode cX9_isPlanned 45 = .ok (.ireturn, 1) := by decide +kernel
theorem dX9_isPlanned_46 : decode cX9_isPlanned 46 = .ok (.aload_n 0, 1) := by decide +kernel
theorem dX9_isPlanned_47 : decode cX9_isPlanned 47 = .ok (.getfield 12, 3) := by decide +kernel
theorem dX9_isPlanned_50 : decode cX9_isPlanned 50 = .ok (.getfield 85, 3) := by decide +kernel
theorem dX9_isPlanned_53 : decode cX9_isPlanned 53 = .ok (.iload_n 2, 1) := by decide +kernel
theorem dX9_isPlanned_54 : decode cX9_isPlanned 54 = .ok (.invokevirtual 94, 3) := by decide +kernel
theorem dX9_isPlanned_57 : decode cX9_isPlanned 57 = .ok (.ireturn, 1) := by decide +kernel
theorem dX9_isPlanned_58 : decode cX9_isPlanned 58 = .ok (.iload_n 2, 1) := by decide +kernel
theorem dX9_isPlanned_59 : decode cX9_isPlanned 59 = .ok (.ifCond .lt 24, 3) := by decide +kernel
theorem dX9_isPlanned_62 : decode cX9_isPlanned 62 = .ok (.aload_n 0, 1) := by decide +kernel
theorem dX9_isPlanned_63 : decode cX9_isPlanned 63 = .ok (.getfield 12, 3) := by decide +kernel
theorem dX9_isPlanned_66 : decode cX9_isPlanned 66 = .ok (.getfield 85, 3) := by decide +kernel
theorem dX9_isPlanned_69 : decode cX9_isPlanned 69 = .ok (.iload_n 2, 1) := by decide +kernel
theorem dX9_isPlanned_70 : decode cX9_isPlanned 70 = .ok (.bipush 10, 2) := by decide +kernel
theorem dX9_isPlanned_72 : decode cX9_isPlanned 72 = .ok (.idiv, 1) := by decide +kernel
theorem dX9_isPlanned_73 : decode cX9_isPlanned 73 = .ok (.invokevirtual 94, 3) := by decide +kernel
theorem dX9_isPlanned_76 : decode cX9_isPlanned 76 = .ok (.ifCond .eq 7, 3) := by decide +kernel
theorem dX9_isPlanned_79 : decode cX9_isPlanned 79 = .ok (.iconst 1, 1) := by decide +kernel
theorem dX9_isPlanned_80 : decode cX9_isPlanned 80 = .ok (.goto 4, 3) := by decide +kernel
theorem dX9_isPlanned_83 : decode cX9_isPlanned 83 = .ok (.iconst 0, 1) := by decide +kernel
theorem dX9_isPlanned_84 : decode cX9_isPlanned 84 = .ok (.ireturn, 1) := by decide +kernel
theorem dX9_isPlanned_85 : decode cX9_isPlanned 85 = .ok (.iconst 0, 1) := by decide +kernel
theorem dX9_isPlanned_86 : decode cX9_isPlanned 86 = .ok (.ireturn, 1) := by decide +kernel
theorem dX9_isDigit_0 : decode cX9_isDigit 0 = .ok (.iload_n 0, 1) := by decide +kernel
theorem dX9_isDigit_1 : decode cX9_isDigit 1 = .ok (.ifCond .lt 13, 3) := by decide +kernel
theorem dX9_isDigit_4 : decode cX9_isDigit 4 = .ok (.iload_n 0, 1) := by decide +kernel
theorem dX9_isDigit_5 : decode cX9_isDigit 5 = .ok (.bipush 10, 2) := by decide +kernel
theorem dX9_isDigit_7 : decode cX9_isDigit 7 = .ok (.if_icmp .ge 7, 3) := by decide +kernel
theorem dX9_isDigit_10 : decode cX9_isDigit 10 = .ok (.iconst 1, 1) := by decide +kernel
theorem dX9_isDigit_11 : decode cX9_isDigit 11 = .ok (.goto 4, 3) := by decide +kernel
theorem dX9_isDigit_14 : decode cX9_isDigit 14 = .ok (.iconst 0, 1) := by decide +kernel
theorem dX9_isDigit_15 : decode cX9_isDigit 15 = .ok (.ireturn, 1) := by decide +kernel
theorem dX9_orMissing_0 : decode cX9_orMissing 0 = .ok (.iload_n 0, 1) := by decide +kernel
theorem dX9_orMissing_1 : decode cX9_orMissing 1 = .ok (.ifCond .ge 8, 3) := by decide +kernel
theorem dX9_orMissing_4 : decode cX9_orMissing 4 = .ok (.bipush (-5), 2) := by decide +kernel
theorem dX9_orMissing_6 : decode cX9_orMissing 6 = .ok (.goto 4, 3) := by decide +kernel
theorem dX9_orMissing_9 : decode cX9_orMissing 9 = .ok (.iload_n 0, 1) := by decide +kernel
theorem dX9_orMissing_10 : decode cX9_orMissing 10 = .ok (.ireturn, 1) := by decide +kernel
theorem dX9_leastOf_0 : decode cX9_leastOf 0 = .ok (.iconst 0, 1) := by decide +kernel
theorem dX9_leastOf_1 : decode cX9_leastOf 1 = .ok (.istore_n 1, 1) := by decide +kernel
theorem dX9_leastOf_2 : decode cX9_leastOf 2 = .ok (.iload_n 1, 1) := by decide +kernel
theorem dX9_leastOf_3 : decode cX9_leastOf 3 = .ok (.bipush 10, 2) := by decide +kernel
theorem dX9_leastOf_5 : decode cX9_leastOf 5 = .ok (.if_icmp .ge 19, 3) := by decide +kernel
theorem dX9_leastOf_8 : decode cX9_leastOf 8 = .ok (.iload_n 0, 1) := by decide +kernel
theorem dX9_leastOf_9 : decode cX9_leastOf 9 = .ok (.iload_n 1, 1) := by decide +kernel
theorem dX9_leastOf_10 : decode cX9_leastOf 10 = .ok (.ishr, 1) := by decide +kernel
theorem dX9_leastOf_11 : decode cX9_leastOf 11 = .ok (.iconst 1, 1) := by decide +kernel
theorem dX9_leastOf_12 : decode cX9_leastOf 12 = .ok (.iand, 1) := by decide +kernel
theorem dX9_leastOf_13 : decode cX9_leastOf 13 = .ok (.ifCond .eq 5, 3) := by decide +kernel
theorem dX9_leastOf_16 : decode cX9_leastOf 16 = .ok (.iload_n 1, 1) := by decide +kernel
theorem dX9_leastOf_17 : decode cX9_leastOf 17 = .ok (.ireturn, 1) := by decide +kernel
theorem dX9_leastOf_18 : decode cX9_leastOf 18 = .ok (.iinc 1 1, 3) := by decide +kernel
theorem dX9_leastOf_21 : decode cX9_leastOf 21 = .ok (.goto (-19), 3) := by decide +kernel
theorem dX9_leastOf_24 : decode cX9_leastOf 24 = .ok (.iconst (-1), 1) := by decide +kernel
theorem dX9_leastOf_25 : decode cX9_leastOf 25 = .ok (.ireturn, 1) := by decide +kernel
theorem dX9_partOf_0 : decode cX9_partOf 0 = .ok (.iload_n 1, 1) := by decide +kernel
theorem dX9_partOf_1 : decode cX9_partOf 1 = .ok (.istore_n 3, 1) := by decide +kernel
theorem dX9_partOf_2 : decode cX9_partOf 2 = .ok (.iload_n 3, 1) := by decide +kernel
theorem dX9_partOf_3 : decode cX9_partOf 3 = .ok (.iconst 1, 1) := by decide +kernel
theorem dX9_partOf_4 : decode cX9_partOf 4 = .ok (.if_icmp .le 37, 3) := by decide +kernel
theorem dX9_partOf_7 : decode cX9_partOf 7 = .ok (.iload_n 0, 1) := by decide +kernel
theorem dX9_partOf_8 : decode cX9_partOf 8 = .ok (.iload_n 3, 1) := by decide +kernel
theorem dX9_partOf_9 : decode cX9_partOf 9 = .ok (.irem, 1) := by decide +kernel
theorem dX9_partOf_10 : decode cX9_partOf 10 = .ok (.ifCond .ne 25, 3) := by decide +kernel
theorem dX9_partOf_13 : decode cX9_partOf 13 = .ok (.iload_n 1, 1) := by decide +kernel
theorem dX9_partOf_14 : decode cX9_partOf 14 = .ok (.iload_n 3, 1) := by decide +kernel
theorem dX9_partOf_15 : decode cX9_partOf 15 = .ok (.irem, 1) := by decide +kernel
theorem dX9_partOf_16 : decode cX9_partOf 16 = .ok (.ifCond .ne 19, 3) := by decide +kernel
theorem dX9_partOf_19 : decode cX9_partOf 19 = .ok (.iload_n 2, 1) := by decide +kernel
theorem dX9_partOf_20 : decode cX9_partOf 20 = .ok (.ifCond .ne 10, 3) := by decide +kernel
theorem dX9_partOf_23 : decode cX9_partOf 23 = .ok (.iload_n 0, 1) := by decide +kernel
theorem dX9_partOf_24 : decode cX9_partOf 24 = .ok (.iload_n 3, 1) := by decide +kernel
theorem dX9_partOf_25 : decode cX9_partOf 25 = .ok (.idiv, 1) := by decide +kernel
theorem dX9_partOf_26 : decode cX9_partOf 26 = .ok (.i2l, 1) := by decide +kernel
theorem dX9_partOf_27 : decode cX9_partOf 27 = .ok (.goto 7, 3) := by decide +kernel
theorem dX9_partOf_30 : decode cX9_partOf 30 = .ok (.iload_n 1, 1) := by decide +kernel
theorem dX9_partOf_31 : decode cX9_partOf 31 = .ok (.iload_n 3, 1) := by decide +kernel
theorem dX9_partOf_32 : decode cX9_partOf 32 = .ok (.idiv, 1) := by decide +kernel
theorem dX9_partOf_33 : decode cX9_partOf 33 = .ok (.i2l, 1) := by decide +kernel
theorem dX9_partOf_34 : decode cX9_partOf 34 = .ok (.lreturn, 1) := by decide +kernel
theorem dX9_partOf_35 : decode cX9_partOf 35 = .ok (.iinc 3 (-1), 3) := by decide +kernel
theorem dX9_partOf_38 : decode cX9_partOf 38 = .ok (.goto (-36), 3) := by decide +kernel
theorem dX9_partOf_41 : decode cX9_partOf 41 = .ok (.iload_n 2, 1) := by decide +kernel
theorem dX9_partOf_42 : decode cX9_partOf 42 = .ok (.ifCond .ne 8, 3) := by decide +kernel
theorem dX9_partOf_45 : decode cX9_partOf 45 = .ok (.iload_n 0, 1) := by decide +kernel
theorem dX9_partOf_46 : decode cX9_partOf 46 = .ok (.i2l, 1) := by decide +kernel
theorem dX9_partOf_47 : decode cX9_partOf 47 = .ok (.goto 5, 3) := by decide +kernel
theorem dX9_partOf_50 : decode cX9_partOf 50 = .ok (.iload_n 1, 1) := by decide +kernel
theorem dX9_partOf_51 : decode cX9_partOf 51 = .ok (.i2l, 1) := by decide +kernel
theorem dX9_partOf_52 : decode cX9_partOf 52 = .ok (.lreturn, 1) := by decide +kernel
theorem dX9_kindAbove_0 : decode cX9_kindAbove 0 = .ok (.iload_n 0, 1) := by decide +kernel
theorem dX9_kindAbove_1 : decode cX9_kindAbove 1 = .ok (.ifCond .lt 19, 3) := by decide +kernel
theorem dX9_kindAbove_4 : decode cX9_kindAbove 4 = .ok (.iload_n 0, 1) := by decide +kernel
theorem dX9_kindAbove_5 : decode cX9_kindAbove 5 = .ok (.getstatic 277, 3) := by decide +kernel
theorem dX9_kindAbove_8 : decode cX9_kindAbove 8 = .ok (.arraylength, 1) := by decide +kernel
theorem dX9_kindAbove_9 : decode cX9_kindAbove 9 = .ok (.if_icmp .ge 11, 3) := by decide +kernel
theorem dX9_kindAbove_12 : decode cX9_kindAbove 12 = .ok (.getstatic 277, 3) := by decide +kernel
theorem dX9_kindAbove_15 : decode cX9_kindAbove 15 = .ok (.iload_n 0, 1) := by decide +kernel
theorem dX9_kindAbove_16 : decode cX9_kindAbove 16 = .ok (.iaload, 1) := by decide +kernel
theorem dX9_kindAbove_17 : decode cX9_kindAbove 17 = .ok (.goto 4, 3) := by decide +kernel
theorem dX9_kindAbove_20 : decode cX9_kindAbove 20 = .ok (.iconst (-1), 1) := by decide +kernel
theorem dX9_kindAbove_21 : decode cX9_kindAbove 21 = .ok (.ireturn, 1) := by decide +kernel
theorem dX9_isUnder_0 : decode cX9_isUnder 0 = .ok (.iload_n 0, 1) := by decide +kernel
theorem dX9_isUnder_1 : decode cX9_isUnder 1 = .ok (.istore_n 2, 1) := by decide +kernel
theorem dX9_isUnder_2 : decode cX9_isUnder 2 = .ok (.iconst 0, 1) := by decide +kernel
theorem dX9_isUnder_3 : decode cX9_isUnder 3 = .ok (.istore_n 3, 1) := by decide +kernel
theorem dX9_isUnder_4 : decode cX9_isUnder 4 = .ok (.iload_n 3, 1) := by decide +kernel
theorem dX9_isUnder_5 : decode cX9_isUnder 5 = .ok (.bipush 7, 2) := by decide +kernel
theorem dX9_isUnder_7 : decode cX9_isUnder 7 = .ok (.if_icmp .ge 25, 3) := by decide +kernel
theorem dX9_isUnder_10 : decode cX9_isUnder 10 = .ok (.iload_n 2, 1) := by decide +kernel
theorem dX9_isUnder_11 : decode cX9_isUnder 11 = .ok (.ifCond .lt 21, 3) := by decide +kernel
theorem dX9_isUnder_14 : decode cX9_isUnder 14 = .ok (.iload_n 2, 1) := by decide +kernel
theorem dX9_isUnder_15 : decode cX9_isUnder 15 = .ok (.iload_n 1, 1) := by decide +kernel
theorem dX9_isUnder_16 : decode cX9_isUnder 16 = .ok (.if_icmp .ne 5, 3) := by decide +kernel
theorem dX9_isUnder_19 : decode cX9_isUnder 19 = .ok (.iconst 1, 1) := by decide +kernel
theorem dX9_isUnder_20 : decode cX9_isUnder 20 = .ok (.ireturn, 1) := by decide +kernel
theorem dX9_isUnder_21 : decode cX9_isUnder 21 = .ok (.iload_n 2, 1) := by decide +kernel
theorem dX9_isUnder_22 : decode cX9_isUnder 22 = .ok (.invokestatic 280, 3) := by decide +kernel
theorem dX9_isUnder_25 : decode cX9_isUnder 25 = .ok (.istore_n 2, 1) := by decide +kernel
theorem dX9_isUnder_26 : decode cX9_isUnder 26 = .ok (.iinc 3 1, 3) := by decide +kernel
theorem dX9_isUnder_29 : decode cX9_isUnder 29 = .ok (.goto (-25), 3) := by decide +kernel
theorem dX9_isUnder_32 : decode cX9_isUnder 32 = .ok (.iconst 0, 1) := by decide +kernel
theorem dX9_isUnder_33 : decode cX9_isUnder 33 = .ok (.ireturn, 1) := by decide +kernel
theorem dX10_init_0 : decode cX10_init 0 = .ok (.aload_n 0, 1) := by decide +kernel
theorem dX10_init_1 : decode cX10_init 1 = .ok (.invokespecial 3, 3) := by decide +kernel
theorem dX10_init_4 : decode cX10_init 4 = .ok (.aload_n 0, 1) := by decide +kernel
theorem dX10_init_5 : decode cX10_init 5 = .ok (.sipush 922, 3) := by decide +kernel
theorem dX10_init_8 : decode cX10_init 8 = .ok (.newarray .int, 2) := by decide +kernel
theorem dX10_init_10 : decode cX10_init 10 = .ok (.putfield 9, 3) := by decide +kernel
theorem dX10_init_13 : decode cX10_init 13 = .ok (.aload_n 0, 1) := by decide +kernel
theorem dX10_init_14 : decode cX10_init 14 = .ok (.sipush 922, 3) := by decide +kernel
theorem dX10_init_17 : decode cX10_init 17 = .ok (.newarray .int, 2) := by decide +kernel
theorem dX10_init_19 : decode cX10_init 19 = .ok (.putfield 15, 3) := by decide +kernel
theorem dX10_init_22 : decode cX10_init 22 = .ok (.aload_n 0, 1) := by decide +kernel
theorem dX10_init_23 : decode cX10_init 23 = .ok (.bipush 19, 2) := by decide +kernel
theorem dX10_init_25 : decode cX10_init 25 = .ok (.newarray .int, 2) := by decide +kernel
theorem dX10_init_27 : decode cX10_init 27 = .ok (.putfield 18, 3) := by decide +kernel
theorem dX10_init_30 : decode cX10_init 30 = .ok (.aload_n 0, 1) := by decide +kernel
theorem dX10_init_31 : decode cX10_init 31 = .ok (.bipush 6, 2) := by decide +kernel
theorem dX10_init_33 : decode cX10_init 33 = .ok (.newarray .int, 2) := by decide +kernel
theorem dX10_init_35 : decode cX10_init 35 = .ok (.putfield 21, 3) := by decide +kernel
theorem dX10_init_38 : decode cX10_init 38 = .ok (.aload_n 0, 1) := by decide +kernel
theorem dX10_init_39 : decode cX10_init 39 = .ok (.bipush 64, 2) := by decide +kernel
theorem dX10_init_41 : decode cX10_init 41 = .ok (.newarray .boolean, 2) := by decide +kernel
theorem dX10_init_43 : decode cX10_init 43 = .ok (.putfield 24, 3) := by decide +kernel
theorem dX10_init_46 : decode cX10_init 46 = .ok (.aload_n 0, 1) := by decide +kernel
theorem dX10_init_47 : decode cX10_init 47 = .ok (.ldc 28, 2) := by decide +kernel
theorem dX10_init_49 : decode cX10_init 49 = .ok (.newarray .int, 2) := by decide +kernel
theorem dX10_init_51 : decode cX10_init 51 = .ok (.putfield 29, 3) := by decide +kernel
theorem dX10_init_54 : decode cX10_init 54 = .ok (.aload_n 0, 1) := by decide +kernel
theorem dX10_init_55 : decode cX10_init 55 = .ok (.bipush 6, 2) := by decide +kernel
theorem dX10_init_57 : decode cX10_init 57 = .ok (.newarray .int, 2) := by decide +kernel
theorem dX10_init_59 : decode cX10_init 59 = .ok (.putfield 32, 3) := by decide +kernel
theorem dX10_init_62 : decode cX10_init 62 = .ok (.aload_n 0, 1) := by decide +kernel
theorem dX10_init_63 : decode cX10_init 63 = .ok (.bipush 6, 2) := by decide +kernel
theorem dX10_init_65 : decode cX10_init 65 = .ok (.newarray .int, 2) := by decide +kernel
theorem dX10_init_67 : decode cX10_init 67 = .ok (.putfield 35, 3) := by decide +kernel
theorem dX10_init_70 : decode cX10_init 70 = .ok (.aload_n 0, 1) := by decide +kernel
theorem dX10_init_71 : decode cX10_init 71 = .ok (.bipush 6, 2) := by decide +kernel
theorem dX10_init_73 : decode cX10_init 73 = .ok (.newarray .int, 2) := by decide +kernel
theorem dX10_init_75 : decode cX10_init 75 = .ok (.putfield 38, 3) := by decide +kernel
theorem dX10_init_78 : decode cX10_init 78 = .ok (.aload_n 0, 1) := by decide +kernel
theorem dX10_init_79 : decode cX10_init 79 = .ok (.bipush 6, 2) := by decide +kernel
theorem dX10_init_81 : decode cX10_init 81 = .ok (.newarray .int, 2) := by decide +kernel
theorem dX10_init_83 : decode cX10_init 83 = .ok (.putfield 41, 3) := by decide +kernel
theorem dX10_init_86 : decode cX10_init 86 = .ok (.aload_n 0, 1) := by decide +kernel
theorem dX10_init_87 : decode cX10_init 87 = .ok (.bipush 6, 2) := by decide +kernel
theorem dX10_init_89 : decode cX10_init 89 = .ok (.newarray .int, 2) := by decide +kernel
theorem dX10_init_91 : decode cX10_init 91 = .ok (.putfield 44, 3) := by decide +kernel
theorem dX10_init_94 : decode cX10_init 94 = .ok (.aload_n 0, 1) := by decide +kernel
theorem dX10_init_95 : decode cX10_init 95 = .ok (.bipush 20, 2) := by decide +kernel
theorem dX10_init_97 : decode cX10_init 97 = .ok (.newarray .int, 2) := by decide +kernel
theorem dX10_init_99 : decode cX10_init 99 = .ok (.putfield 47, 3) := by decide +kernel
theorem dX10_init_102 : decode cX10_init 102 = .ok (.aload_n 0, 1) := by decide +kernel
theorem dX10_init_103 : decode cX10_init 103 = .ok (.getfield 9, 3) := by decide +kernel
theorem dX10_init_106 : decode cX10_init 106 = .ok (.bipush 25, 2) := by decide +kernel
theorem dX10_init_108 : decode cX10_init 108 = .ok (.iconst (-1), 1) := by decide +kernel
theorem dX10_init_109 : decode cX10_init 109 = .ok (.iastore, 1) := by decide +kernel
theorem dX10_init_110 : decode cX10_init 110 = .ok (.return_, 1) := by decide +kernel
theorem dX10_in_0 : decode cX10_in 0 = .ok (.iload_n 0, 1) := by decide +kernel
theorem dX10_in_1 : decode cX10_in 1 = .ok (.iload_n 1, 1) := by decide +kernel
theorem dX10_in_2 : decode cX10_in 2 = .ok (.if_icmp .lt 12, 3) := by decide +kernel
theorem dX10_in_5 : decode cX10_in 5 = .ok (.iload_n 0, 1) := by decide +kernel
theorem dX10_in_6 : decode cX10_in 6 = .ok (.iload_n 2, 1) := by decide +kernel
theorem dX10_in_7 : decode cX10_in 7 = .ok (.if_icmp .gt 7, 3) := by decide +kernel
theorem dX10_in_10 : decode cX10_in 10 = .ok (.iconst 1, 1) := by decide +kernel
theorem dX10_in_11 : decode cX10_in 11 = .ok (.goto 4, 3) := by decide +kernel
theorem dX10_in_14 : decode cX10_in 14 = .ok (.iconst 0, 1) := by decide +kernel
theorem dX10_in_15 : decode cX10_in 15 = .ok (.ireturn, 1) := by decide +kernel
theorem dX10_isDigit_0 : decode cX10_isDigit 0 = .ok (.iload_n 0, 1) := by decide +kernel
theorem dX10_isDigit_1 : decode cX10_isDigit 1 = .ok (.iconst 0, 1) := by decide +kernel
theorem dX10_isDigit_2 : decode cX10_isDigit 2 = .ok (.bipush 9, 2) := by decide +kernel
theorem dX10_isDigit_4 : decode cX10_isDigit 4 = .ok (.invokestatic 54, 3) := by decide +kernel
theorem dX10_isDigit_7 : decode cX10_isDigit 7 = .ok (.ireturn, 1) := by decide +kernel
theorem dX10_isMan_0 : decode cX10_isMan 0 = .ok (.iload_n 1, 1) := by decide +kernel
theorem dX10_isMan_1 : decode cX10_isMan 1 = .ok (.iconst 0, 1) := by decide +kernel
theorem dX10_isMan_2 : decode cX10_isMan 2 = .ok (.aload_n 0, 1) := by decide +kernel
theorem dX10_isMan_3 : decode cX10_isMan 3 = .ok (.getfield 9, 3) := by decide +kernel
theorem dX10_isMan_6 : decode cX10_isMan 6 = .ok (.bipush 19, 2) := by decide +kernel
theorem dX10_isMan_8 : decode cX10_isMan 8 = .ok (.iaload, 1) := by decide +kernel
theorem dX10_isMan_9 : decode cX10_isMan 9 = .ok (.iconst 1, 1) := by decide +kernel
theorem dX10_isMan_10 : decode cX10_isMan 10 = .ok (.isub, 1) := by decide +kernel
theorem dX10_isMan_11 : decode cX10_isMan 11 = .ok (.invokestatic 54, 3) := by decide +kernel
theorem dX10_isMan_14 : decode cX10_isMan 14 = .ok (.ireturn, 1) := by decide +kernel
theorem dX10_apart_0 : decode cX10_apart 0 = .ok (.aload_n 0, 1) := by decide +kernel
theorem dX10_apart_1 : decode cX10_apart 1 = .ok (.getfield 9, 3) := by decide +kernel
theorem dX10_apart_4 : decode cX10_apart 4 = .ok (.bipush 13, 2) := by decide +kernel
theorem dX10_apart_6 : decode cX10_apart 6 = .ok (.iload_n 1, 1) := by decide +kernel
theorem dX10_apart_7 : decode cX10_apart 7 = .ok (.iadd, 1) := by decide +kernel
theorem dX10_apart_8 : decode cX10_apart 8 = .ok (.iaload, 1) := by decide +kernel
theorem dX10_apart_9 : decode cX10_apart 9 = .ok (.aload_n 0, 1) := by decide +kernel
theorem dX10_apart_10 : decode cX10_apart 10 = .ok (.getfield 9, 3) := by decide +kernel
theorem dX10_apart_13 : decode cX10_apart 13 = .ok (.bipush 13, 2) := by decide +kernel
theorem dX10_apart_15 : decode cX10_apart 15 = .ok (.iload_n 2, 1) := by decide +kernel
theorem dX10_apart_16 : decode cX10_apart 16 = .ok (.iadd, 1) := by decide +kernel
theorem dX10_apart_17 : decode cX10_apart 17 = .ok (.iaload, 1) := by decide +kernel
theorem dX10_apart_18 : decode cX10_apart 18 = .ok (.isub, 1) := by decide +kernel
theorem dX10_apart_19 : decode cX10_apart 19 = .ok (.istore_n 3, 1) := by decide +kernel
theorem dX10_apart_20 : decode cX10_apart 20 = .ok (.iload_n 3, 1) := by decide +kernel
theorem dX10_apart_21 : decode cX10_apart 21 = .ok (.ifCond .ge 8, 3) := by decide +kernel
theorem dX10_apart_24 : decode cX10_apart 24 = .ok (.iload_n 3, 1) := by decide +kernel
theorem dX10_apart_25 : decode cX10_apart 25 = .ok (.ineg, 1) := by decide +kernel
theorem dX10_apart_26 : decode cX10_apart 26 = .ok (.goto 4, 3) := by decide +kernel
theorem dX10_apart_29 : decode cX10_apart 29 = .ok (.iload_n 3, 1) := by decide +kernel
theorem dX10_apart_30 : decode cX10_apart 30 = .ok (.ireturn, 1) := by decide +kernel
theorem dX10_keeps_0 : decode cX10_keeps 0 = .ok (.iconst 0, 1) := by decide +kernel
theorem dX10_keeps_1 : decode cX10_keeps 1 = .ok (.istore_n 1, 1) := by decide +kernel
theorem dX10_keeps_2 : decode cX10_keeps 2 = .ok (.iload_n 1, 1) := by decide +kernel
theorem dX10_keeps_3 : decode cX10_keeps 3 = .ok (.bipush 19, 2) := by decide +kernel
theorem dX10_keeps_5 : decode cX10_keeps 5 = .ok (.if_icmp .ge 21, 3) := by decide +kernel
theorem dX10_keeps_8 : decode cX10_keeps 8 = .ok (.aload_n 0, 1) := by decide +kernel
theorem dX10_keeps_9 : decode cX10_keeps 9 = .ok (.getfield 18, 3) := by decide +kernel
theorem dX10_keeps_12 : decode cX10_keeps 12 = .ok (.iload_n 1, 1) := by decide +kernel
theorem dX10_keeps_13 : decode cX10_keeps 13 = .ok (.aload_n 0, 1) := by decide +kernel
theorem dX10_keeps_14 : decode cX10_keeps 14 = .ok (.getfield 9, 3) := by decide +kernel
theorem dX10_keeps_17 : decode cX10_keeps 17 = .ok (.iload_n 1, 1) := by decide +kernel
theorem dX10_keeps_18 : decode cX10_keeps 18 = .ok (.iaload, 1) := by decide +kernel
theorem dX10_keeps_19 : decode cX10_keeps 19 = .ok (.iastore, 1) := by decide +kernel
theorem dX10_keeps_20 : decode cX10_keeps 20 = .ok (.iinc 1 1, 3) := by decide +kernel
theorem dX10_keeps_23 : decode cX10_keeps 23 = .ok (.goto (-21), 3) := by decide +kernel
theorem dX10_keeps_26 : decode cX10_keeps 26 = .ok (.return_, 1) := by decide +kernel
theorem dX10_goesBack_0 : decode cX10_goesBack 0 = .ok (.iconst 0, 1) := by decide +kernel
theorem dX10_goesBack_1 : decode cX10_goesBack 1 = .ok (.istore_n 1, 1) := by decide +kernel
theorem dX10_goesBack_2 : decode cX10_goesBack 2 = .ok (.iload_n 1, 1) := by decide +kernel
theorem dX10_goesBack_3 : decode cX10_goesBack 3 = .ok (.bipush 19, 2) := by decide +kernel
theorem dX10_goesBack_5 : decode cX10_goesBack 5 = .ok (.if_icmp .ge 21, 3) := by decide +kernel
theorem dX10_goesBack_8 : decode cX10_goesBack 8 = .ok (.aload_n 0, 1) := by decide +kernel
theorem dX10_goesBack_9 : decode cX10_goesBack 9 = .ok (.getfield 9, 3) := by decide +kernel
theorem dX10_goesBack_12 : decode cX10_goesBack 12 = .ok (.iload_n 1, 1) := by decide +kernel
theorem dX10_goesBack_13 : decode cX10_goesBack 13 = .ok (.aload_n 0, 1) := by decide +kernel
theorem dX10_goesBack_14 : decode cX10_goesBack 14 = .ok (.getfield 18, 3) := by decide +kernel
theorem dX10_goesBack_17 : decode cX10_goesBack 17 = .ok (.iload_n 1, 1) := by decide +kernel
theorem dX10_goesBack_18 : decode cX10_goesBack 18 = .ok (.iaload, 1) := by decide +kernel
theorem dX10_goesBack_19 : decode cX10_goesBack 19 = .ok (.iastore, 1) := by decide +kernel
theorem dX10_goesBack_20 : decode cX10_goesBack 20 = .ok (.iinc 1 1, 3) := by decide +kernel
theorem dX10_goesBack_23 : decode cX10_goesBack 23 = .ok (.goto (-21), 3) := by decide +kernel
theorem dX10_goesBack_26 : decode cX10_goesBack 26 = .ok (.return_, 1) := by decide +kernel
theorem dX10_feed_0 : decode cX10_feed 0 = .ok (.iload_n 1, 1) := by decide +kernel
theorem dX10_feed_1 : decode cX10_feed 1 = .ok (.iconst 0, 1) := by decide +kernel
theorem dX10_feed_2 : decode cX10_feed 2 = .ok (.bipush 127, 2) := by decide +kernel
theorem dX10_feed_4 : decode cX10_feed 4 = .ok (.invokestatic 54, 3) := by decide +kernel
theorem dX10_feed_7 : decode cX10_feed 7 = .ok (.ifCond .ne 6, 3) := by decide +kernel
theorem dX10_feed_10 : decode cX10_feed 10 = .ok (.bipush (-2), 2) := by decide +kernel
theorem dX10_feed_12 : decode cX10_feed 12 = .ok (.ireturn, 1) := by decide +kernel
theorem dX10_feed_13 : decode cX10_feed 13 = .ok (.aload_n 0, 1) := by decide +kernel
theorem dX10_feed_14 : decode cX10_feed 14 = .ok (.getfield 9, 3) := by decide +kernel
theorem dX10_feed_17 : decode cX10_feed 17 = .ok (.bipush 24, 2) := by decide +kernel
theorem dX10_feed_19 : decode cX10_feed 19 = .ok (.iaload, 1) := by decide +kernel
theorem dX10_feed_20 : decode cX10_feed 20 = .ok (.bipush 100, 2) := by decide +kernel
theorem dX10_feed_22 : decode cX10_feed 22 = .ok (.if_icmp .ne 6, 3) := by decide +kernel
theorem dX10_feed_25 : decode cX10_feed 25 = .ok (.bipush (-4), 2) := by decide +kernel
theorem dX10_feed_27 : decode cX10_feed 27 = .ok (.ireturn, 1) := by decide +kernel
theorem dX10_feed_28 : decode cX10_feed 28 = .ok (.aload_n 0, 1) := by decide +kernel
theorem dX10_feed_29 : decode cX10_feed 29 = .ok (.getfield 9, 3) := by decide +kernel
theorem dX10_feed_32 : decode cX10_feed 32 = .ok (.bipush 112, 2) := by decide +kernel
theorem dX10_feed_34 : decode cX10_feed 34 = .ok (.aload_n 0, 1) := by decide +kernel
theorem dX10_feed_35 : decode cX10_feed 35 = .ok (.getfield 9, 3) := by decide +kernel
theorem dX10_feed_38 : decode cX10_feed 38 = .ok (.bipush 24, 2) := by decide +kernel
theorem dX10_feed_40 : decode cX10_feed 40 = .ok (.iaload, 1) := by decide +kernel
theorem dX10_feed_41 : decode cX10_feed 41 = .ok (.iadd, 1) := by decide +kernel
theorem dX10_feed_42 : decode cX10_feed 42 = .ok (.iload_n 1, 1) := by decide +kernel
theorem dX10_feed_43 : decode cX10_feed 43 = .ok (.iastore, 1) := by decide +kernel
theorem dX10_feed_44 : decode cX10_feed 44 = .ok (.aload_n 0, 1) := by decide +kernel
theorem dX10_feed_45 : decode cX10_feed 45 = .ok (.getfield 9, 3) := by decide +kernel
theorem dX10_feed_48 : decode cX10_feed 48 = .ok (.bipush 24, 2) := by decide +kernel
theorem dX10_feed_50 : decode cX10_feed 50 = .ok (.dup2, 1) := by decide +kernel
theorem dX10_feed_51 : decode cX10_feed 51 = .ok (.iaload, 1) := by decide +kernel
theorem dX10_feed_52 : decode cX10_feed 52 = .ok (.iconst 1, 1) := by decide +kernel
theorem dX10_feed_53 : decode cX10_feed 53 = .ok (.iadd, 1) := by decide +kernel
theorem dX10_feed_54 : decode cX10_feed 54 = .ok (.iastore, 1) := by decide +kernel
theorem dX10_feed_55 : decode cX10_feed 55 = .ok (.aload_n 0, 1) := by decide +kernel
theorem dX10_feed_56 : decode cX10_feed 56 = .ok (.getfield 9, 3) := by decide +kernel
theorem dX10_feed_59 : decode cX10_feed 59 = .ok (.bipush 24, 2) := by decide +kernel
theorem dX10_feed_61 : decode cX10_feed 61 = .ok (.iaload, 1) := by decide +kernel
theorem dX10_feed_62 : decode cX10_feed 62 = .ok (.ireturn, 1) := by decide +kernel
theorem dX10_here_0 : decode cX10_here 0 = .ok (.aload_n 0, 1) := by decide +kernel
theorem dX10_here_1 : decode cX10_here 1 = .ok (.getfield 58, 3) := by decide +kernel
theorem dX10_here_4 : decode cX10_here 4 = .ok (.aload_n 0, 1) := by decide +kernel
theorem dX10_here_5 : decode cX10_here 5 = .ok (.getfield 61, 3) := by decide +kernel
theorem dX10_here_8 : decode cX10_here 8 = .ok (.if_icmp .ge 18, 3) := by decide +kernel
theorem dX10_here_11 : decode cX10_here 11 = .ok (.aload_n 0, 1) := by decide +kernel
theorem dX10_here_12 : decode cX10_here 12 = .ok (.getfield 9, 3) := by decide +kernel
theorem dX10_here_15 : decode cX10_here 15 = .ok (.bipush 112, 2) := by decide +kernel
theorem dX10_here_17 : decode cX10_here 17 = .ok (.aload_n 0, 1) := by decide +kernel
theorem dX10_here_18 : decode cX10_here 18 = .ok (.getfield 58, 3) := by decide +kernel
theorem dX10_here_21 : decode cX10_here 21 = .ok (.iadd, 1) := by decide +kernel
theorem dX10_here_22 : decode cX10_here 22 = .ok (.iaload, 1) := by decide +kernel
theorem dX10_here_23 : decode cX10_here 23 = .ok (.goto 4, 3) := by decide +kernel
theorem dX10_here_26 : decode cX10_here 26 = .ok (.iconst (-1), 1) := by decide +kernel
theorem dX10_here_27 : decode cX10_here 27 = .ok (.ireturn, 1) := by decide +kernel
theorem dX10_must_0 : decode cX10_must 0 = .ok (.aload_n 0, 1) := by decide +kernel
theorem dX10_must_1 : decode cX10_must 1 = .ok (.aload_n 0, 1) := by decide +kernel
theorem dX10_must_2 : decode cX10_must 2 = .ok (.getfield 64, 3) := by decide +kernel
theorem dX10_must_5 : decode cX10_must 5 = .ok (.ifCond .ne 11, 3) := by decide +kernel
theorem dX10_must_8 : decode cX10_must 8 = .ok (.aload_n 0, 1) := by decide +kernel
theorem dX10_must_9 : decode cX10_must 9 = .ok (.invokevirtual 68, 3) := by decide +kernel
theorem dX10_must_12 : decode cX10_must 12 = .ok (.iload_n 1, 1) := by decide +kernel
theorem dX10_must_13 : decode cX10_must 13 = .ok (.if_icmp .eq 7, 3) := by decide +kernel
theorem dX10_must_16 : decode cX10_must 16 = .ok (.iconst 1, 1) := by decide +kernel
theorem dX10_must_17 : decode cX10_must 17 = .ok (.goto 4, 3) := by decide +kernel
theorem dX10_must_20 : decode cX10_must 20 = .ok (.iconst 0, 1) := by decide +kernel
theorem dX10_must_21 : decode cX10_must 21 = .ok (.putfield 64, 3) := by decide +kernel
theorem dX10_must_24 : decode cX10_must 24 = .ok (.aload_n 0, 1) := by decide +kernel
theorem dX10_must_25 : decode cX10_must 25 = .ok (.dup, 1) := by decide +kernel
theorem dX10_must_26 : decode cX10_must 26 = .ok (.getfield 58, 3) := by decide +kernel
theorem dX10_must_29 : decode cX10_must 29 = .ok (.aload_n 0, 1) := by decide +kernel
theorem dX10_must_30 : decode cX10_must 30 = .ok (.getfield 64, 3) := by decide +kernel
theorem dX10_must_33 : decode cX10_must 33 = .ok (.ifCond .eq 7, 3) := by decide +kernel
theorem dX10_must_36 : decode cX10_must 36 = .ok (.iconst 0, 1) := by decide +kernel
theorem dX10_must_37 : decode cX10_must 37 = .ok (.goto 4, 3) := by decide +kernel
theorem dX10_must_40 : decode cX10_must 40 = .ok (.iconst 1, 1) := by decide +kernel
theorem dX10_must_41 : decode cX10_must 41 = .ok (.iadd, 1) := by decide +kernel
theorem dX10_must_42 : decode cX10_must 42 = .ok (.putfield 58, 3) := by decide +kernel
theorem dX10_must_45 : decode cX10_must 45 = .ok (.return_, 1) := by decide +kernel
theorem dX10_spells_0 : decode cX10_spells 0 = .ok (.iconst 0, 1) := by decide +kernel
theorem dX10_spells_1 : decode cX10_spells 1 = .ok (.istore_n 2, 1) := by decide +kernel
theorem dX10_spells_2 : decode cX10_spells 2 = .ok (.iload_n 2, 1) := by decide +kernel
theorem dX10_spells_3 : decode cX10_spells 3 = .ok (.aload_n 1, 1) := by decide +kernel
theorem dX10_spells_4 : decode cX10_spells 4 = .ok (.invokevirtual 72, 3) := by decide +kernel
theorem dX10_spells_7 : decode cX10_spells 7 = .ok (.if_icmp .ge 18, 3) := by decide +kernel
theorem dX10_spells_10 : decode cX10_spells 10 = .ok (.aload_n 0, 1) := by decide +kernel
theorem dX10_spells_11 : decode cX10_spells 11 = .ok (.aload_n 1, 1) := by decide +kernel
theorem dX10_spells_12 : decode cX10_spells 12 = .ok (.iload_n 2, 1) := by decide +kernel
theorem dX10_spells_13 : decode cX10_spells 13 = .ok (.invokevirtual 77, 3) := by decide +kernel
theorem dX10_spells_16 : decode cX10_spells 16 = .ok (.invokevirtual 81, 3) := by decide +kernel
theorem dX10_spells_19 : decode cX10_spells 19 = .ok (.iinc 2 1, 3) := by decide +kernel
theorem dX10_spells_22 : decode cX10_spells 22 = .ok (.goto (-20), 3) := by decide +kernel
theorem dX10_spells_25 : decode cX10_spells 25 = .ok (.return_, 1) := by decide +kernel
theorem dX10_figures_0 : decode cX10_figures 0 = .ok (.aload_n 0, 1) := by decide +kernel
theorem dX10_figures_1 : decode cX10_figures 1 = .ok (.aload_n 0, 1) := by decide +kernel
theorem dX10_figures_2 : decode cX10_figures 2 = .ok (.getfield 64, 3) := by decide +kernel
theorem dX10_figures_5 : decode cX10_figures 5 = .ok (.ifCond .ne 17, 3) := by decide +kernel
theorem dX10_figures_8 : decode cX10_figures 8 = .ok (.aload_n 0, 1) := by decide +kernel
theorem dX10_figures_9 : decode cX10_figures 9 = .ok (.invokevirtual 68, 3) := by decide +kernel
theorem dX10_figures_12 : decode cX10_figures 12 = .ok (.bipush 48, 2) := by decide +kernel
theorem dX10_figures_14 : decode cX10_figures 14 = .ok (.bipush 57, 2) := by decide +kernel
theorem dX10_figures_16 : decode cX10_figures 16 = .ok (.invokestatic 54, 3) := by decide +kernel
theorem dX10_figures_19 : decode cX10_figures 19 = .ok (.ifCond .ne 7, 3) := by decide +kernel
theorem dX10_figures_22 : decode cX10_figures 22 = .ok (.iconst 1, 1) := by decide +kernel
theorem dX10_figures_23 : decode cX10_figures 23 = .ok (.goto 4, 3) := by decide +kernel
theorem dX10_figures_26 : decode cX10_figures 26 = .ok (.iconst 0, 1) := by decide +kernel
theorem dX10_figures_27 : decode cX10_figures 27 = .ok (.putfield 64, 3) := by decide +kernel
theorem dX10_figures_30 : decode cX10_figures 30 = .ok (.iconst 0, 1) := by decide +kernel
theorem dX10_figures_31 : decode cX10_figures 31 = .ok (.istore_n 1, 1) := by decide +kernel
theorem dX10_figures_32 : decode cX10_figures 32 = .ok (.iconst 0, 1) := by decide +kernel
theorem dX10_figures_33 : decode cX10_figures 33 = .ok (.istore_n 2, 1) := by decide +kernel
theorem dX10_figures_34 : decode cX10_figures 34 = .ok (.iload_n 2, 1) := by decide +kernel
theorem dX10_figures_35 : decode cX10_figures 35 = .ok (.iconst 2, 1) := by decide +kernel
theorem dX10_figures_36 : decode cX10_figures 36 = .ok (.if_icmp .ge 61, 3) := by decide +kernel
theorem dX10_figures_39 : decode cX10_figures 39 = .ok (.aload_n 0, 1) := by decide +kernel
theorem dX10_figures_40 : decode cX10_figures 40 = .ok (.getfield 64, 3) := by decide +kernel
theorem dX10_figures_43 : decode cX10_figures 43 = .ok (.ifCond .ne 54, 3) := by decide +kernel
theorem dX10_figures_46 : decode cX10_figures 46 = .ok (.aload_n 0, 1) := by decide +kernel
theorem dX10_figures_47 : decode cX10_figures 47 = .ok (.invokevirtual 68, 3) := by decide +kernel
theorem dX10_figures_50 : decode cX10_figures 50 = .ok (.bipush 48, 2) := by decide +kernel
theorem dX10_figures_52 : decode cX10_figures 52 = .ok (.bipush 57, 2) := by decide +kernel
theorem dX10_figures_54 : decode cX10_figures 54 = .ok (.invokestatic 54, 3) := by decide +kernel
theorem dX10_figures_57 : decode cX10_figures 57 = .ok (.ifCond .eq 40, 3) := by decide +kernel
theorem dX10_figures_60 : decode cX10_figures 60 = .ok (.iload_n 2, 1) := by decide +kernel
theorem dX10_figures_61 : decode cX10_figures 61 = .ok (.ifCond .eq 7, 3) := by decide +kernel
theorem dX10_figures_64 : decode cX10_figures 64 = .ok (.iload_n 1, 1) := by decide +kernel
theorem dX10_figures_65 : decode cX10_figures 65 = .ok (.ifCond .le 32, 3) := by decide +kernel
theorem dX10_figures_68 : decode cX10_figures 68 = .ok (.bipush 10, 2) := by decide +kernel
theorem dX10_figures_70 : decode cX10_figures 70 = .ok (.iload_n 1, 1) := by decide +kernel
theorem dX10_figures_71 : decode cX10_figures 71 = .ok (.imul, 1) := by decide +kernel
theorem dX10_figures_72 : decode cX10_figures 72 = .ok (.aload_n 0, 1) := by decide +kernel
theorem dX10_figures_73 : decode cX10_figures 73 = .ok (.invokevirtual 68, 3) := by decide +kernel
theorem dX10_figures_76 : decode cX10_figures 76 = .ok (.iadd, 1) := by decide +kernel
theorem dX10_figures_77 : decode cX10_figures 77 = .ok (.bipush 48, 2) := by decide +kernel
theorem dX10_figures_79 : decode cX10_figures 79 = .ok (.isub, 1) := by decide +kernel
theorem dX10_figures_80 : decode cX10_figures 80 = .ok (.istore_n 1, 1) := by decide +kernel
theorem dX10_figures_81 : decode cX10_figures 81 = .ok (.aload_n 0, 1) := by decide +kernel
theorem dX10_figures_82 : decode cX10_figures 82 = .ok (.dup, 1) := by decide +kernel
theorem dX10_figures_83 : decode cX10_figures 83 = .ok (.getfield 58, 3) := by decide +kernel
theorem dX10_figures_86 : decode cX10_figures 86 = .ok (.iconst 1, 1) := by decide +kernel
theorem dX10_figures_87 : decode cX10_figures 87 = .ok (.iadd, 1) := by decide +kernel
theorem dX10_figures_88 : decode cX10_figures 88 = .ok (.putfield 58, 3) := by decide +kernel
theorem dX10_figures_91 : decode cX10_figures 91 = .ok (.iinc 2 1, 3) := by decide +kernel
theorem dX10_figures_94 : decode cX10_figures 94 = .ok (.goto (-60), 3) := by decide +kernel
theorem dX10_figures_97 : decode cX10_figures 97 = .ok (.iload_n 1, 1) := by decide +kernel
theorem dX10_figures_98 : decode cX10_figures 98 = .ok (.ireturn, 1) := by decide +kernel
theorem dX10_among_0 : decode cX10_among 0 = .ok (.iconst 0, 1) := by decide +kernel
theorem dX10_among_1 : decode cX10_among 1 = .ok (.istore_n 2, 1) := by decide +kernel
theorem dX10_among_2 : decode cX10_among 2 = .ok (.iload_n 2, 1) := by decide +kernel
theorem dX10_among_3 : decode cX10_among 3 = .ok (.aload_n 1, 1) := by decide +kernel
theorem dX10_among_4 : decode cX10_among 4 = .ok (.invokevirtual 72, 3) := by decide +kernel
theorem dX10_among_7 : decode cX10_among 7 = .ok (.if_icmp .ge 33, 3) := by decide +kernel
theorem dX10_among_10 : decode cX10_among 10 = .ok (.aload_n 0, 1) := by decide +kernel
theorem dX10_among_11 : decode cX10_among 11 = .ok (.invokevirtual 68, 3) := by decide +kernel
theorem dX10_among_14 : decode cX10_among 14 = .ok (.aload_n 1, 1) := by decide +kernel
theorem dX10_among_15 : decode cX10_among 15 = .ok (.iload_n 2, 1) := by decide +kernel
theorem dX10_among_16 : decode cX10_among 16 = .ok (.invokevirtual 77, 3) := by decide +kernel
theorem dX10_among_19 : decode cX10_among 19 = .ok (.if_icmp .ne 15, 3) := by decide +kernel
theorem dX10_among_22 : decode cX10_among 22 = .ok (.aload_n 0, 1) := by decide +kernel
theorem dX10_among_23 : decode cX10_among 23 = .ok (.dup, 1) := by decide +kernel
theorem dX10_among_24 : decode cX10_among 24 = .ok (.getfield 58, 3) := by decide +kernel
theorem dX10_among_27 : decode cX10_among 27 = .ok (.iconst 1, 1) := by decide +kernel
theorem dX10_among_28 : decode cX10_among 28 = .ok (.iadd, 1) := by decide +kernel
theorem dX10_among_29 : decode cX10_among 29 = .ok (.putfield 58, 3) := by decide +kernel
theorem dX10_among_32 : decode cX10_among 32 = .ok (.iload_n 2, 1) := by decide +kernel
theorem dX10_among_33 : decode cX10_among 33 = .ok (.ireturn, 1) := by decide +kernel
theorem dX10_among_34 : decode cX10_among 34 = .ok (.iinc 2 1, 3) := by decide +kernel
theorem dX10_among_37 : decode cX10_among 37 = .ok (.goto (-35), 3) := by decide +kernel
theorem dX10_among_40 : decode cX10_among 40 = .ok (.iconst (-1), 1) := by decide +kernel
theorem dX10_among_41 : decode cX10_among 41 = .ok (.ireturn, 1) := by decide +kernel
theorem dX10_emits_0 : decode cX10_emits 0 = .ok (.aload_n 0, 1) := by decide +kernel
theorem dX10_emits_1 : decode cX10_emits 1 = .ok (.getfield 64, 3) := by decide +kernel
theorem dX10_emits_4 : decode cX10_emits 4 = .ok (.ifCond .ne 52, 3) := by decide +kernel
theorem dX10_emits_7 : decode cX10_emits 7 = .ok (.aload_n 0, 1) := by decide +kernel
theorem dX10_emits_8 : decode cX10_emits 8 = .ok (.getfield 9, 3) := by decide +kernel
theorem dX10_emits_11 : decode cX10_emits 11 = .ok (.sipush 222, 3) := by decide +kernel
theorem dX10_emits_14 : decode cX10_emits 14 = .ok (.sipush 140, 3) := by decide +kernel
theorem dX10_emits_17 : decode cX10_emits 17 = .ok (.aload_n 0, 1) := by decide +kernel
theorem dX10_emits_18 : decode cX10_emits 18 = .ok (.getfield 85, 3) := by decide +kernel
theorem dX10_emits_21 : decode cX10_emits 21 = .ok (.imul, 1) := by decide +kernel
theorem dX10_emits_22 : decode cX10_emits 22 = .ok (.iadd, 1) := by decide +kernel
theorem dX10_emits_23 : decode cX10_emits 23 = .ok (.aload_n 0, 1) := by decide +kernel
theorem dX10_emits_24 : decode cX10_emits 24 = .ok (.getfield 9, 3) := by decide +kernel
theorem dX10_emits_27 : decode cX10_emits 27 = .ok (.sipush 217, 3) := by decide +kernel
theorem dX10_emits_30 : decode cX10_emits 30 = .ok (.aload_n 0, 1) := by decide +kernel
theorem dX10_emits_31 : decode cX10_emits 31 = .ok (.getfield 85, 3) := by decide +kernel
theorem dX10_emits_34 : decode cX10_emits 34 = .ok (.iadd, 1) := by decide +kernel
theorem dX10_emits_35 : decode cX10_emits 35 = .ok (.iaload, 1) := by decide +kernel
theorem dX10_emits_36 : decode cX10_emits 36 = .ok (.iadd, 1) := by decide +kernel
theorem dX10_emits_37 : decode cX10_emits 37 = .ok (.iload_n 1, 1) := by decide +kernel
theorem dX10_emits_38 : decode cX10_emits 38 = .ok (.iastore, 1) := by decide +kernel
theorem dX10_emits_39 : decode cX10_emits 39 = .ok (.aload_n 0, 1) := by decide +kernel
theorem dX10_emits_40 : decode cX10_emits 40 = .ok (.getfield 9, 3) := by decide +kernel
theorem dX10_emits_43 : decode cX10_emits 43 = .ok (.sipush 217, 3) := by decide +kernel
theorem dX10_emits_46 : decode cX10_emits 46 = .ok (.aload_n 0, 1) := by decide +kernel
theorem dX10_emits_47 : decode cX10_emits 47 = .ok (.getfield 85, 3) := by decide +kernel
theorem dX10_emits_50 : decode cX10_emits 50 = .ok (.iadd, 1) := by decide +kernel
theorem dX10_emits_51 : decode cX10_emits 51 = .ok (.dup2, 1) := by decide +kernel
theorem dX10_emits_52 : decode cX10_emits 52 = .ok (.iaload, 1) := by decide +kernel
theorem dX10_emits_53 : decode cX10_emits 53 = .ok (.iconst 1, 1) := by decide +kernel
theorem dX10_emits_54 : decode cX10_emits 54 = .ok (.iadd, 1) := by decide +kernel
theorem dX10_emits_55 : decode cX10_emits 55 = .ok (.iastore, 1) := by decide +kernel
theorem dX10_emits_56 : decode cX10_emits 56 = .ok (.return_, 1) := by decide +kernel
theorem dX10_factor_0 : decode cX10_factor 0 = .ok (.aload_n 0, 1) := by decide +kernel
theorem dX10_factor_1 : decode cX10_factor 1 = .ok (.getfield 64, 3) := by decide +kernel
theorem dX10_factor_4 : decode cX10_factor 4 = .ok (.ifCond .eq 4, 3) := by decide +kernel
theorem dX10_factor_7 : decode cX10_factor 7 = .ok (.return_, 1) := by decide +kernel
theorem dX10_factor_8 : decode cX10_factor 8 = .ok (.aload_n 0, 1) := by decide +kernel
theorem dX10_factor_9 : decode cX10_factor 9 = .ok (.invokevirtual 68, 3) := by decide +kernel
theorem dX10_factor_12 : decode cX10_factor 12 = .ok (.istore_n 1, 1) := by decide +kernel
theorem dX10_factor_13 : decode cX10_factor 13 = .ok (.iload_n 1, 1) := by decide +kernel
theorem dX10_factor_14 : decode cX10_factor 14 = .ok (.bipush 33, 2) := by decide +kernel
theorem dX10_factor_16 : decode cX10_factor 16 = .ok (.if_icmp .eq 9, 3) := by decide +kernel
theorem dX10_factor_19 : decode cX10_factor 19 = .ok (.iload_n 1, 1) := by decide +kernel
theorem dX10_factor_20 : decode cX10_factor 20 = .ok (.bipush 40, 2) := by decide +kernel
theorem dX10_factor_22 : decode cX10_factor 22 = .ok (.if_icmp .ne 90, 3) := by decide +kernel
theorem dX10_factor_25 : decode cX10_factor 25 = .ok (.aload_n 0, 1) := by decide +kernel
theorem dX10_factor_26 : decode cX10_factor 26 = .ok (.aload_n 0, 1) := by decide +kernel
theorem dX10_factor_27 : decode cX10_factor 27 = .ok (.getfield 88, 3) := by decide +kernel
theorem dX10_factor_30 : decode cX10_factor 30 = .ok (.iconst 5, 1) := by decide +kernel
theorem dX10_factor_31 : decode cX10_factor 31 = .ok (.if_icmp .ne 7, 3) := by decide +kernel
theorem dX10_factor_34 : decode cX10_factor 34 = .ok (.iconst 1, 1) := by decide +kernel
theorem dX10_factor_35 : decode cX10_factor 35 = .ok (.goto 4, 3) := by decide +kernel
theorem dX10_factor_38 : decode cX10_factor 38 = .ok (.iconst 0, 1) := by decide +kernel
theorem dX10_factor_39 : decode cX10_factor 39 = .ok (.putfield 64, 3) := by decide +kernel
theorem dX10_factor_42 : decode cX10_factor 42 = .ok (.aload_n 0, 1) := by decide +kernel
theorem dX10_factor_43 : decode cX10_factor 43 = .ok (.dup, 1) := by decide +kernel
theorem dX10_factor_44 : decode cX10_factor 44 = .ok (.getfield 88, 3) := by decide +kernel
theorem dX10_factor_47 : decode cX10_factor 47 = .ok (.iconst 1, 1) := by decide +kernel
theorem dX10_factor_48 : decode cX10_factor 48 = .ok (.iadd, 1) := by decide +kernel
theorem dX10_factor_49 : decode cX10_factor 49 = .ok (.putfield 88, 3) := by decide +kernel
theorem dX10_factor_52 : decode cX10_factor 52 = .ok (.aload_n 0, 1) := by decide +kernel
theorem dX10_factor_53 : decode cX10_factor 53 = .ok (.dup, 1) := by decide +kernel
theorem dX10_factor_54 : decode cX10_factor 54 = .ok (.getfield 58, 3) := by decide +kernel
theorem dX10_factor_57 : decode cX10_factor 57 = .ok (.aload_n 0, 1) := by decide +kernel
theorem dX10_factor_58 : decode cX10_factor 58 = .ok (.getfield 64, 3) := by decide +kernel
theorem dX10_factor_61 : decode cX10_factor 61 = .ok (.ifCond .eq 7, 3) := by decide +kernel
theorem dX10_factor_64 : decode cX10_factor 64 = .ok (.iconst 0, 1) := by decide +kernel
theorem dX10_factor_65 : decode cX10_factor 65 = .ok (.goto 4, 3) := by decide +kernel
theorem dX10_factor_68 : decode cX10_factor 68 = .ok (.iconst 1, 1) := by decide +kernel
theorem dX10_factor_69 : decode cX10_factor 69 = .ok (.iadd, 1) := by decide +kernel
theorem dX10_factor_70 : decode cX10_factor 70 = .ok (.putfield 58, 3) := by decide +kernel
theorem dX10_factor_73 : decode cX10_factor 73 = .ok (.iload_n 1, 1) := by decide +kernel
theorem dX10_factor_74 : decode cX10_factor 74 = .ok (.bipush 33, 2) := by decide +kernel
theorem dX10_factor_76 : decode cX10_factor 76 = .ok (.if_icmp .ne 15, 3) := by decide +kernel
theorem dX10_factor_79 : decode cX10_factor 79 = .ok (.aload_n 0, 1) := by decide +kernel
theorem dX10_factor_80 : decode cX10_factor 80 = .ok (.invokevirtual 91, 3) := by decide +kernel
theorem dX10_factor_83 : decode cX10_factor 83 = .ok (.aload_n 0, 1) := by decide +kernel
theorem dX10_factor_84 : decode cX10_factor 84 = .ok (.iconst (-1), 1) := by decide +kernel
theorem dX10_factor_85 : decode cX10_factor 85 = .ok (.invokevirtual 94, 3) := by decide +kernel
theorem dX10_factor_88 : decode cX10_factor 88 = .ok (.goto 13, 3) := by decide +kernel
theorem dX10_factor_91 : decode cX10_factor 91 = .ok (.aload_n 0, 1) := by decide +kernel
theorem dX10_factor_92 : decode cX10_factor 92 = .ok (.invokevirtual 97, 3) := by decide +kernel
theorem dX10_factor_95 : decode cX10_factor 95 = .ok (.aload_n 0, 1) := by decide +kernel
theorem dX10_factor_96 : decode cX10_factor 96 = .ok (.bipush 41, 2) := by decide +kernel
theorem dX10_factor_98 : decode cX10_factor 98 = .ok (.invokevirtual 81, 3) := by decide +kernel
theorem dX10_factor_101 : decode cX10_factor 101 = .ok (.aload_n 0, 1) := by decide +kernel
theorem dX10_factor_102 : decode cX10_factor 102 = .ok (.dup, 1) := by decide +kernel
theorem dX10_factor_103 : decode cX10_factor 103 = .ok (.getfield 88, 3) := by decide +kernel
theorem dX10_factor_106 : decode cX10_factor 106 = .ok (.iconst 1, 1) := by decide +kernel
theorem dX10_factor_107 : decode cX10_factor 107 = .ok (.isub, 1) := by decide +kernel
theorem dX10_factor_108 : decode cX10_factor 108 = .ok (.putfield 88, 3) := by decide +kernel
theorem dX10_factor_111 : decode cX10_factor 111 = .ok (.return_, 1) := by decide +kernel
theorem dX10_factor_112 : decode cX10_factor 112 = .ok (.aload_n 0, 1) := by decide +kernel
theorem dX10_factor_113 : decode cX10_factor 113 = .ok (.ldc 100, 2) := by decide +kernel
theorem dX10_factor_115 : decode cX10_factor 115 = .ok (.invokevirtual 102, 3) := by decide +kernel
theorem dX10_factor_118 : decode cX10_factor 118 = .ok (.istore_n 2, 1) := by decide +kernel
theorem dX10_factor_119 : decode cX10_factor 119 = .ok (.aload_n 0, 1) := by decide +kernel
theorem dX10_factor_120 : decode cX10_factor 120 = .ok (.iload_n 2, 1) := by decide +kernel
theorem dX10_factor_121 : decode cX10_factor 121 = .ok (.iconst (-1), 1) := by decide +kernel
theorem dX10_factor_122 : decode cX10_factor 122 = .ok (.if_icmp .ne 7, 3) := by decide +kernel
theorem dX10_factor_125 : decode cX10_factor 125 = .ok (.iconst 1, 1) := by decide +kernel
theorem dX10_factor_126 : decode cX10_factor 126 = .ok (.goto 4, 3) := by decide +kernel
theorem dX10_factor_129 : decode cX10_factor 129 = .ok (.iconst 0, 1) := by decide +kernel
theorem dX10_factor_130 : decode cX10_factor 130 = .ok (.putfield 64, 3) := by decide +kernel
theorem dX10_factor_133 : decode cX10_factor 133 = .ok (.aload_n 0, 1) := by decide +kernel
theorem dX10_factor_134 : decode cX10_factor 134 = .ok (.getfield 64, 3) := by decide +kernel
theorem dX10_factor_137 : decode cX10_factor 137 = .ok (.ifCond .eq 7, 3) := by decide +kernel
theorem dX10_factor_140 : decode cX10_factor 140 = .ok (.iconst 0, 1) := by decide +kernel
theorem dX10_factor_141 : decode cX10_factor 141 = .ok (.goto 9, 3) := by decide +kernel
theorem dX10_factor_144 : decode cX10_factor 144 = .ok (.aload_n 0, 1) := by decide +kernel
theorem dX10_factor_145 : decode cX10_factor 145 = .ok (.ldc 106, 2) := by decide +kernel
theorem dX10_factor_147 : decode cX10_factor 147 = .ok (.invokevirtual 102, 3) := by decide +kernel
theorem dX10_factor_150 : decode cX10_factor 150 = .ok (.istore_n 3, 1) := by decide +kernel
theorem dX10_factor_151 : decode cX10_factor 151 = .ok (.aload_n 0, 1) := by decide +kernel
theorem dX10_factor_152 : decode cX10_factor 152 = .ok (.aload_n 0, 1) := by decide +kernel
theorem dX10_factor_153 : decode cX10_factor 153 = .ok (.getfield 64, 3) := by decide +kernel
theorem dX10_factor_156 : decode cX10_factor 156 = .ok (.ifCond .ne 8, 3) := by decide +kernel
theorem dX10_factor_159 : decode cX10_factor 159 = .ok (.iload_n 3, 1) := by decide +kernel
theorem dX10_factor_160 : decode cX10_factor 160 = .ok (.iconst (-1), 1) := by decide +kernel
theorem dX10_factor_161 : decode cX10_factor 161 = .ok (.if_icmp .ne 7, 3) := by decide +kernel
theorem dX10_factor_164 : decode cX10_factor 164 = .ok (.iconst 1, 1) := by decide +kernel
theorem dX10_factor_165 : decode cX10_factor 165 = .ok (.goto 4, 3) := by decide +kernel
theorem dX10_factor_168 : decode cX10_factor 168 = .ok (.iconst 0, 1) := by decide +kernel
theorem dX10_factor_169 : decode cX10_factor 169 = .ok (.putfield 64, 3) := by decide +kernel
theorem dX10_factor_172 : decode cX10_factor 172 = .ok (.aload_n 0, 1) := by decide +kernel
theorem dX10_factor_173 : decode cX10_factor 173 = .ok (.invokevirtual 108, 3) := by decide +kernel
theorem dX10_factor_176 : decode cX10_factor 176 = .ok (.istore 4, 2) := by decide +kernel
theorem dX10_factor_178 : decode cX10_factor 178 = .ok (.aload_n 0, 1) := by decide +kernel
theorem dX10_factor_179 : decode cX10_factor 179 = .ok (.iload_n 2, 1) := by decide +kernel
theorem dX10_factor_180 : decode cX10_factor 180 = .ok (.bipush 8, 2) := by decide +kernel
theorem dX10_factor_182 : decode cX10_factor 182 = .ok (.iload_n 3, 1) := by decide +kernel
theorem dX10_factor_183 : decode cX10_factor 183 = .ok (.imul, 1) := by decide +kernel
theorem dX10_factor_184 : decode cX10_factor 184 = .ok (.iadd, 1) := by decide +kernel
theorem dX10_factor_185 : decode cX10_factor 185 = .ok (.bipush 32, 2) := by decide +kernel
theorem dX10_factor_187 : decode cX10_factor 187 = .ok (.iload 4, 2) := by decide +kernel
theorem dX10_factor_189 : decode cX10_factor 189 = .ok (.imul, 1) := by decide +kernel
theorem dX10_factor_190 : decode cX10_factor 190 = .ok (.iadd, 1) := by decide +kernel
theorem dX10_factor_191 : decode cX10_factor 191 = .ok (.invokevirtual 94, 3) := by decide +kernel
theorem dX10_factor_194 : decode cX10_factor 194 = .ok (.return_, 1) := by decide +kernel
theorem dX10_every_0 : decode cX10_every 0 = .ok (.aload_n 0, 1) := by decide +kernel
theorem dX10_every_1 : decode cX10_every 1 = .ok (.invokevirtual 91, 3) := by decide +kernel
theorem dX10_every_4 : decode cX10_every 4 = .ok (.aload_n 0, 1) := by decide +kernel
theorem dX10_every_5 : decode cX10_every 5 = .ok (.getfield 64, 3) := by decide +kernel
theorem dX10_every_8 : decode cX10_every 8 = .ok (.ifCond .ne 35, 3) := by decide +kernel
theorem dX10_every_11 : decode cX10_every 11 = .ok (.aload_n 0, 1) := by decide +kernel
theorem dX10_every_12 : decode cX10_every 12 = .ok (.invokevirtual 68, 3) := by decide +kernel
theorem dX10_every_15 : decode cX10_every 15 = .ok (.bipush 38, 2) := by decide +kernel
theorem dX10_every_17 : decode cX10_every 17 = .ok (.if_icmp .ne 26, 3) := by decide +kernel
theorem dX10_every_20 : decode cX10_every 20 = .ok (.aload_n 0, 1) := by decide +kernel
theorem dX10_every_21 : decode cX10_every 21 = .ok (.dup, 1) := by decide +kernel
theorem dX10_every_22 : decode cX10_every 22 = .ok (.getfield 58, 3) := by decide +kernel
theorem dX10_every_25 : decode cX10_every 25 = .ok (.iconst 1, 1) := by decide +kernel
theorem dX10_every_26 : decode cX10_every 26 = .ok (.iadd, 1) := by decide +kernel
theorem dX10_every_27 : decode cX10_every 27 = .ok (.putfield 58, 3) := by decide +kernel
theorem dX10_every_30 : decode cX10_every 30 = .ok (.aload_n 0, 1) := by decide +kernel
theorem dX10_every_31 : decode cX10_every 31 = .ok (.invokevirtual 91, 3) := by decide +kernel
theorem dX10_every_34 : decode cX10_every 34 = .ok (.aload_n 0, 1) := by decide +kernel
theorem dX10_every_35 : decode cX10_every 35 = .ok (.bipush (-2), 2) := by decide +kernel
theorem dX10_every_37 : decode cX10_every 37 = .ok (.invokevirtual 94, 3) := by decide +kernel
theorem dX10_every_40 : decode cX10_every 40 = .ok (.goto (-36), 3) := by decide +kernel
theorem dX10_every_43 : decode cX10_every 43 = .ok (.return_, 1) := by decide +kernel
theorem dX10_some_0 : decode cX10_some 0 = .ok (.aload_n 0, 1) := by decide +kernel
theorem dX10_some_1 : decode cX10_some 1 = .ok (.invokevirtual 111, 3) := by decide +kernel
theorem dX10_some_4 : decode cX10_some 4 = .ok (.aload_n 0, 1) := by decide +kernel
theorem dX10_some_5 : decode cX10_some 5 = .ok (.getfield 64, 3) := by decide +kernel
theorem dX10_some_8 : decode cX10_some 8 = .ok (.ifCond .ne 35, 3) := by decide +kernel
theorem dX10_some_11 : decode cX10_some 11 = .ok (.aload_n 0, 1) := by decide +kernel
theorem dX10_some_12 : decode cX10_some 12 = .ok (.invokevirtual 68, 3) := by decide +kernel
theorem dX10_some_15 : decode cX10_some 15 = .ok (.bipush 124, 2) := by decide +kernel
theorem dX10_some_17 : decode cX10_some 17 = .ok (.if_icmp .ne 26, 3) := by decide +kernel
theorem dX10_some_20 : decode cX10_some 20 = .ok (.aload_n 0, 1) := by decide +kernel
theorem dX10_some_21 : decode cX10_some 21 = .ok (.dup, 1) := by decide +kernel
theorem dX10_some_22 : decode cX10_some 22 = .ok (.getfield 58, 3) := by decide +kernel
theorem dX10_some_25 : decode cX10_some 25 = .ok (.iconst 1, 1) := by decide +kernel
theorem dX10_some_26 : decode cX10_some 26 = .ok (.iadd, 1) := by decide +kernel
theorem dX10_some_27 : decode cX10_some 27 = .ok (.putfield 58, 3) := by decide +kernel
theorem dX10_some_30 : decode cX10_some 30 = .ok (.aload_n 0, 1) := by decide +kernel
theorem dX10_some_31 : decode cX10_some 31 = .ok (.invokevirtual 111, 3) := by decide +kernel
theorem dX10_some_34 : decode cX10_some 34 = .ok (.aload_n 0, 1) := by decide +kernel
theorem dX10_some_35 : decode cX10_some 35 = .ok (.bipush (-3), 2) := by decide +kernel
theorem dX10_some_37 : decode cX10_some 37 = .ok (.invokevirtual 94, 3) := by decide +kernel
theorem dX10_some_40 : decode cX10_some 40 = .ok (.goto (-36), 3) := by decide +kernel
theorem dX10_some_43 : decode cX10_some 43 = .ok (.return_, 1) := by decide +kernel
theorem dX10_much_0 : decode cX10_much 0 = .ok (.aload_n 0, 1) := by decide +kernel
theorem dX10_much_1 : decode cX10_much 1 = .ok (.aload_n 2, 1) := by decide +kernel
theorem dX10_much_2 : decode cX10_much 2 = .ok (.invokevirtual 114, 3) := by decide +kernel
theorem dX10_much_5 : decode cX10_much 5 = .ok (.aload_n 0, 1) := by decide +kernel
theorem dX10_much_6 : decode cX10_much 6 = .ok (.invokevirtual 108, 3) := by decide +kernel
theorem dX10_much_9 : decode cX10_much 9 = .ok (.istore_n 3, 1) := by decide +kernel
theorem dX10_much_10 : decode cX10_much 10 = .ok (.aload_n 0, 1) := by decide +kernel
theorem dX10_much_11 : decode cX10_much 11 = .ok (.bipush 32, 2) := by decide +kernel
theorem dX10_much_13 : decode cX10_much 13 = .ok (.invokevirtual 81, 3) := by decide +kernel
theorem dX10_much_16 : decode cX10_much 16 = .ok (.aload_n 0, 1) := by decide +kernel
theorem dX10_much_17 : decode cX10_much 17 = .ok (.invokevirtual 97, 3) := by decide +kernel
theorem dX10_much_20 : decode cX10_much 20 = .ok (.aload_n 0, 1) := by decide +kernel
theorem dX10_much_21 : decode cX10_much 21 = .ok (.iload_n 1, 1) := by decide +kernel
theorem dX10_much_22 : decode cX10_much 22 = .ok (.iload_n 3, 1) := by decide +kernel
theorem dX10_much_23 : decode cX10_much 23 = .ok (.isub, 1) := by decide +kernel
theorem dX10_much_24 : decode cX10_much 24 = .ok (.invokevirtual 94, 3) := by decide +kernel
theorem dX10_much_27 : decode cX10_much 27 = .ok (.return_, 1) := by decide +kernel
theorem dX10_tellsHere_0 : decode cX10_tellsHere 0 = .ok (.aload_n 0, 1) := by decide +kernel
theorem dX10_tellsHere_1 : decode cX10_tellsHere 1 = .ok (.aload_n 2, 1) := by decide +kernel
theorem dX10_tellsHere_2 : decode cX10_tellsHere 2 = .ok (.invokevirtual 114, 3) := by decide +kernel
theorem dX10_tellsHere_5 : decode cX10_tellsHere 5 = .ok (.aload_n 0, 1) := by decide +kernel
theorem dX10_tellsHere_6 : decode cX10_tellsHere 6 = .ok (.invokevirtual 108, 3) := by decide +kernel
theorem dX10_tellsHere_9 : decode cX10_tellsHere 9 = .ok (.istore_n 3, 1) := by decide +kernel
theorem dX10_tellsHere_10 : decode cX10_tellsHere 10 = .ok (.aload_n 0, 1) := by decide +kernel
theorem dX10_tellsHere_11 : decode cX10_tellsHere 11 = .ok (.getfield 64, 3) := by decide +kernel
theorem dX10_tellsHere_14 : decode cX10_tellsHere 14 = .ok (.ifCond .ne 15, 3) := by decide +kernel
theorem dX10_tellsHere_17 : decode cX10_tellsHere 17 = .ok (.aload_n 0, 1) := by decide +kernel
theorem dX10_tellsHere_18 : decode cX10_tellsHere 18 = .ok (.getfield 9, 3) := by decide +kernel
theorem dX10_tellsHere_21 : decode cX10_tellsHere 21 = .ok (.iload_n 1, 1) := by decide +kernel
theorem dX10_tellsHere_22 : decode cX10_tellsHere 22 = .ok (.aload_n 0, 1) := by decide +kernel
theorem dX10_tellsHere_23 : decode cX10_tellsHere 23 = .ok (.getfield 85, 3) := by decide +kernel
theorem dX10_tellsHere_26 : decode cX10_tellsHere 26 = .ok (.iadd, 1) := by decide +kernel
theorem dX10_tellsHere_27 : decode cX10_tellsHere 27 = .ok (.iload_n 3, 1) := by decide +kernel
theorem dX10_tellsHere_28 : decode cX10_tellsHere 28 = .ok (.iastore, 1) := by decide +kernel
theorem dX10_tellsHere_29 : decode cX10_tellsHere 29 = .ok (.return_, 1) := by decide +kernel
theorem dX10_clauseHere_0 : decode cX10_clauseHere 0 = .ok (.aload_n 0, 1) := by decide +kernel
theorem dX10_clauseHere_1 : decode cX10_clauseHere 1 = .ok (.invokevirtual 68, 3) := by decide +kernel
theorem dX10_clauseHere_4 : decode cX10_clauseHere 4 = .ok (.lookupswitch 71 #[(104, 48), (114, 36), (115, 59)], 36) := by decide +kernel
theorem dX10_clauseHere_40 : decode cX10_clauseHere 40 = .ok (.aload_n 0, 1) := by decide +kernel
theorem dX10_clauseHere_41 : decode cX10_clauseHere 41 = .ok (.sipush 212, 3) := by decide +kernel
theorem dX10_clauseHere_44 : decode cX10_clauseHere 44 = .ok (.ldc 118, 2) := by decide +kernel
theorem dX10_clauseHere_46 : decode cX10_clauseHere 46 = .ok (.invokevirtual 120, 3) := by decide +kernel
theorem dX10_clauseHere_49 : decode cX10_clauseHere 49 = .ok (.goto 31, 3) := by decide +kernel
theorem dX10_clauseHere_52 : decode cX10_clauseHere 52 = .ok (.aload_n 0, 1) := by decide +kernel
theorem dX10_clauseHere_53 : decode cX10_clauseHere 53 = .ok (.bipush (-10), 2) := by decide +kernel
theorem dX10_clauseHere_55 : decode cX10_clauseHere 55 = .ok (.ldc 124, 2) := by decide +kernel
theorem dX10_clauseHere_57 : decode cX10_clauseHere 57 = .ok (.invokevirtual 126, 3) := by decide +kernel
theorem dX10_clauseHere_60 : decode cX10_clauseHere 60 = .ok (.goto 20, 3) := by decide +kernel
theorem dX10_clauseHere_63 : decode cX10_clauseHere 63 = .ok (.aload_n 0, 1) := by decide +kernel
theorem dX10_clauseHere_64 : decode cX10_clauseHere 64 = .ok (.sipush (-200), 3) := by decide +kernel
theorem dX10_clauseHere_67 : decode cX10_clauseHere 67 = .ok (.ldc 129, 2) := by decide +kernel
theorem dX10_clauseHere_69 : decode cX10_clauseHere 69 = .ok (.invokevirtual 126, 3) := by decide +kernel
theorem dX10_clauseHere_72 : decode cX10_clauseHere 72 = .ok (.goto 8, 3) := by decide +kernel
theorem dX10_clauseHere_75 : decode cX10_clauseHere 75 = .ok (.aload_n 0, 1) := by decide +kernel
theorem dX10_clauseHere_76 : decode cX10_clauseHere 76 = .ok (.iconst 1, 1) := by decide +kernel
theorem dX10_clauseHere_77 : decode cX10_clauseHere 77 = .ok (.putfield 64, 3) := by decide +kernel
theorem dX10_clauseHere_80 : decode cX10_clauseHere 80 = .ok (.return_, 1) := by decide +kernel
theorem dX10_house_0 : decode cX10_house 0 = .ok (.aload_n 0, 1) := by decide +kernel
theorem dX10_house_1 : decode cX10_house 1 = .ok (.getfield 9, 3) := by decide +kernel
theorem dX10_house_4 : decode cX10_house 4 = .ok (.bipush 20, 2) := by decide +kernel
theorem dX10_house_6 : decode cX10_house 6 = .ok (.iaload, 1) := by decide +kernel
theorem dX10_house_7 : decode cX10_house 7 = .ok (.iconst 5, 1) := by decide +kernel
theorem dX10_house_8 : decode cX10_house 8 = .ok (.if_icmp .ne 6, 3) := by decide +kernel
theorem dX10_house_11 : decode cX10_house 11 = .ok (.bipush (-4), 2) := by decide +kernel
theorem dX10_house_13 : decode cX10_house 13 = .ok (.ireturn, 1) := by decide +kernel
theorem dX10_house_14 : decode cX10_house 14 = .ok (.aload_n 0, 1) := by decide +kernel
theorem dX10_house_15 : decode cX10_house 15 = .ok (.aload_n 0, 1) := by decide +kernel
theorem dX10_house_16 : decode cX10_house 16 = .ok (.getfield 9, 3) := by decide +kernel
theorem dX10_house_19 : decode cX10_house 19 = .ok (.bipush 20, 2) := by decide +kernel
theorem dX10_house_21 : decode cX10_house 21 = .ok (.iaload, 1) := by decide +kernel
theorem dX10_house_22 : decode cX10_house 22 = .ok (.putfield 85, 3) := by decide +kernel
theorem dX10_house_25 : decode cX10_house 25 = .ok (.aload_n 0, 1) := by decide +kernel
theorem dX10_house_26 : decode cX10_house 26 = .ok (.aload_n 0, 1) := by decide +kernel
theorem dX10_house_27 : decode cX10_house 27 = .ok (.getfield 9, 3) := by decide +kernel
theorem dX10_house_30 : decode cX10_house 30 = .ok (.bipush 24, 2) := by decide +kernel
theorem dX10_house_32 : decode cX10_house 32 = .ok (.iaload, 1) := by decide +kernel
theorem dX10_house_33 : decode cX10_house 33 = .ok (.putfield 61, 3) := by decide +kernel
theorem dX10_house_36 : decode cX10_house 36 = .ok (.aload_n 0, 1) := by decide +kernel
theorem dX10_house_37 : decode cX10_house 37 = .ok (.getfield 9, 3) := by decide +kernel
theorem dX10_house_40 : decode cX10_house 40 = .ok (.bipush 24, 2) := by decide +kernel
theorem dX10_house_42 : decode cX10_house 42 = .ok (.iconst 0, 1) := by decide +kernel
theorem dX10_house_43 : decode cX10_house 43 = .ok (.iastore, 1) := by decide +kernel
theorem dX10_house_44 : decode cX10_house 44 = .ok (.aload_n 0, 1) := by decide +kernel
theorem dX10_house_45 : decode cX10_house 45 = .ok (.getfield 9, 3) := by decide +kernel
theorem dX10_house_48 : decode cX10_house 48 = .ok (.sipush 212, 3) := by decide +kernel
theorem dX10_house_51 : decode cX10_house 51 = .ok (.aload_n 0, 1) := by decide +kernel
theorem dX10_house_52 : decode cX10_house 52 = .ok (.getfield 85, 3) := by decide +kernel
theorem dX10_house_55 : decode cX10_house 55 = .ok (.iadd, 1) := by decide +kernel
theorem dX10_house_56 : decode cX10_house 56 = .ok (.bipush 9, 2) := by decide +kernel
theorem dX10_house_58 : decode cX10_house 58 = .ok (.iastore, 1) := by decide +kernel
theorem dX10_house_59 : decode cX10_house 59 = .ok (.aload_n 0, 1) := by decide +kernel
theorem dX10_house_60 : decode cX10_house 60 = .ok (.getfield 9, 3) := by decide +kernel
theorem dX10_house_63 : decode cX10_house 63 = .ok (.sipush 217, 3) := by decide +kernel
theorem dX10_house_66 : decode cX10_house 66 = .ok (.aload_n 0, 1) := by decide +kernel
theorem dX10_house_67 : decode cX10_house 67 = .ok (.getfield 85, 3) := by decide +kernel
theorem dX10_house_70 : decode cX10_house 70 = .ok (.iadd, 1) := by decide +kernel
theorem dX10_house_71 : decode cX10_house 71 = .ok (.iconst 0, 1) := by decide +kernel
theorem dX10_house_72 : decode cX10_house 72 = .ok (.iastore, 1) := by decide +kernel
theorem dX10_house_73 : decode cX10_house 73 = .ok (.aload_n 0, 1) := by decide +kernel
theorem dX10_house_74 : decode cX10_house 74 = .ok (.iconst 0, 1) := by decide +kernel
theorem dX10_house_75 : decode cX10_house 75 = .ok (.putfield 58, 3) := by decide +kernel
theorem dX10_house_78 : decode cX10_house 78 = .ok (.aload_n 0, 1) := by decide +kernel
theorem dX10_house_79 : decode cX10_house 79 = .ok (.iconst 0, 1) := by decide +kernel
theorem dX10_house_80 : decode cX10_house 80 = .ok (.putfield 64, 3) := by decide +kernel
theorem dX10_house_83 : decode cX10_house 83 = .ok (.aload_n 0, 1) := by decide +kernel
theorem dX10_house_84 : decode cX10_house 84 = .ok (.iconst 0, 1) := by decide +kernel
theorem dX10_house_85 : decode cX10_house 85 = .ok (.putfield 88, 3) := by decide +kernel
theorem dX10_house_88 : decode cX10_house 88 = .ok (.iconst 1, 1) := by decide +kernel
theorem dX10_house_89 : decode cX10_house 89 = .ok (.istore_n 1, 1) := by decide +kernel
theorem dX10_house_90 : decode cX10_house 90 = .ok (.aload_n 0, 1) := by decide +kernel
theorem dX10_house_91 : decode cX10_house 91 = .ok (.invokevirtual 131, 3) := by decide +kernel
theorem dX10_house_94 : decode cX10_house 94 = .ok (.aload_n 0, 1) := by decide +kernel
theorem dX10_house_95 : decode cX10_house 95 = .ok (.getfield 64, 3) := by decide +kernel
theorem dX10_house_98 : decode cX10_house 98 = .ok (.ifCond .ne 38, 3) := by decide +kernel
theorem dX10_house_101 : decode cX10_house 101 = .ok (.iload_n 1, 1) := by decide +kernel
theorem dX10_house_102 : decode cX10_house 102 = .ok (.bipush 10, 2) := by decide +kernel
theorem dX10_house_104 : decode cX10_house 104 = .ok (.if_icmp .ge 32, 3) := by decide +kernel
theorem dX10_house_107 : decode cX10_house 107 = .ok (.aload_n 0, 1) := by decide +kernel
theorem dX10_house_108 : decode cX10_house 108 = .ok (.invokevirtual 68, 3) := by decide +kernel
theorem dX10_house_111 : decode cX10_house 111 = .ok (.bipush 59, 2) := by decide +kernel
theorem dX10_house_113 : decode cX10_house 113 = .ok (.if_icmp .ne 23, 3) := by decide +kernel
theorem dX10_house_116 : decode cX10_house 116 = .ok (.aload_n 0, 1) := by decide +kernel
theorem dX10_house_117 : decode cX10_house 117 = .ok (.dup, 1) := by decide +kernel
theorem dX10_house_118 : decode cX10_house 118 = .ok (.getfield 58, 3) := by decide +kernel
theorem dX10_house_121 : decode cX10_house 121 = .ok (.iconst 1, 1) := by decide +kernel
theorem dX10_house_122 : decode cX10_house 122 = .ok (.iadd, 1) := by decide +kernel
theorem dX10_house_123 : decode cX10_house 123 = .ok (.putfield 58, 3) := by decide +kernel
theorem dX10_house_126 : decode cX10_house 126 = .ok (.aload_n 0, 1) := by decide +kernel
theorem dX10_house_127 : decode cX10_house 127 = .ok (.invokevirtual 131, 3) := by decide +kernel
theorem dX10_house_130 : decode cX10_house 130 = .ok (.iinc 1 1, 3) := by decide +kernel
theorem dX10_house_133 : decode cX10_house 133 = .ok (.goto (-39), 3) := by decide +kernel
theorem dX10_house_136 : decode cX10_house 136 = .ok (.aload_n 0, 1) := by decide +kernel
theorem dX10_house_137 : decode cX10_house 137 = .ok (.getfield 64, 3) := by decide +kernel
theorem dX10_house_140 : decode cX10_house 140 = .ok (.ifCond .ne 14, 3) := by decide +kernel
theorem dX10_house_143 : decode cX10_house 143 = .ok (.aload_n 0, 1) := by decide +kernel
theorem dX10_house_144 : decode cX10_house 144 = .ok (.getfield 58, 3) := by decide +kernel
theorem dX10_house_147 : decode cX10_house 147 = .ok (.aload_n 0, 1) := by decide +kernel
theorem dX10_house_148 : decode cX10_house 148 = .ok (.getfield 61, 3) := by decide +kernel
theorem dX10_house_151 : decode cX10_house 151 = .ok (.if_icmp .eq 11, 3) := by decide +kernel
theorem dX10_house_154 : decode cX10_house 154 = .ok (.bipush (-10), 2) := by decide +kernel
theorem dX10_house_156 : decode cX10_house 156 = .ok (.aload_n 0, 1) := by decide +kernel
theorem dX10_house_157 : decode cX10_house 157 = .ok (.getfield 58, 3) := by decide +kernel
theorem dX10_house_160 : decode cX10_house 160 = .ok (.isub, 1) := by decide +kernel
theorem dX10_house_161 : decode cX10_house 161 = .ok (.ireturn, 1) := by decide +kernel
theorem dX10_house_162 : decode cX10_house 162 = .ok (.aload_n 0, 1) := by decide +kernel
theorem dX10_house_163 : decode cX10_house 163 = .ok (.getfield 9, 3) := by decide +kernel
theorem dX10_house_166 : decode cX10_house 166 = .ok (.bipush 20, 2) := by decide +kernel
theorem dX10_house_168 : decode cX10_house 168 = .ok (.dup2, 1) := by decide +kernel
theorem dX10_house_169 : decode cX10_house 169 = .ok (.iaload, 1) := by decide +kernel
theorem dX10_house_170 : decode cX10_house 170 = .ok (.iconst 1, 1) := by decide +kernel
theorem dX10_house_171 : decode cX10_house 171 = .ok (.iadd, 1) := by decide +kernel
theorem dX10_house_172 : decode cX10_house 172 = .ok (.iastore, 1) := by decide +kernel
theorem dX10_house_173 : decode cX10_house 173 = .ok (.aload_n 0, 1) := by decide +kernel
theorem dX10_house_174 : decode cX10_house 174 = .ok (.getfield 9, 3) := by decide +kernel
theorem dX10_house_177 : decode cX10_house 177 = .ok (.bipush 25, 2) := by decide +kernel
theorem dX10_house_179 : decode cX10_house 179 = .ok (.aload_n 0, 1) := by decide +kernel
theorem dX10_house_180 : decode cX10_house 180 = .ok (.getfield 85, 3) := by decide +kernel
theorem dX10_house_183 : decode cX10_house 183 = .ok (.iastore, 1) := by decide +kernel
theorem dX10_house_184 : decode cX10_house 184 = .ok (.aload_n 0, 1) := by decide +kernel
theorem dX10_house_185 : decode cX10_house 185 = .ok (.getfield 85, 3) := by decide +kernel
theorem dX10_house_188 : decode cX10_house 188 = .ok (.ireturn, 1) := by decide +kernel
theorem dX10_tellsOf_0 : decode cX10_tellsOf 0 = .ok (.aload_n 0, 1) := by decide +kernel
theorem dX10_tellsOf_1 : decode cX10_tellsOf 1 = .ok (.getfield 9, 3) := by decide +kernel
theorem dX10_tellsOf_4 : decode cX10_tellsOf 4 = .ok (.bipush 25, 2) := by decide +kernel
theorem dX10_tellsOf_6 : decode cX10_tellsOf 6 = .ok (.iaload, 1) := by decide +kernel
theorem dX10_tellsOf_7 : decode cX10_tellsOf 7 = .ok (.iconst (-1), 1) := by decide +kernel
theorem dX10_tellsOf_8 : decode cX10_tellsOf 8 = .ok (.if_icmp .ne 7, 3) := by decide +kernel
theorem dX10_tellsOf_11 : decode cX10_tellsOf 11 = .ok (.iload_n 2, 1) := by decide +kernel
theorem dX10_tellsOf_12 : decode cX10_tellsOf 12 = .ok (.goto 17, 3) := by decide +kernel
theorem dX10_tellsOf_15 : decode cX10_tellsOf 15 = .ok (.aload_n 0, 1) := by decide +kernel
theorem dX10_tellsOf_16 : decode cX10_tellsOf 16 = .ok (.getfield 9, 3) := by decide +kernel
theorem dX10_tellsOf_19 : decode cX10_tellsOf 19 = .ok (.iload_n 1, 1) := by decide +kernel
theorem dX10_tellsOf_20 : decode cX10_tellsOf 20 = .ok (.aload_n 0, 1) := by decide +kernel
theorem dX10_tellsOf_21 : decode cX10_tellsOf 21 = .ok (.getfield 9, 3) := by decide +kernel
theorem dX10_tellsOf_24 : decode cX10_tellsOf 24 = .ok (.bipush 25, 2) := by decide +kernel
theorem dX10_tellsOf_26 : decode cX10_tellsOf 26 = .ok (.iaload, 1) := by decide +kernel
theorem dX10_tellsOf_27 : decode cX10_tellsOf 27 = .ok (.iadd, 1) := by decide +kernel
theorem dX10_tellsOf_28 : decode cX10_tellsOf 28 = .ok (.iaload, 1) := by decide +kernel
theorem dX10_tellsOf_29 : decode cX10_tellsOf 29 = .ok (.ireturn, 1) := by decide +kernel
theorem dX10_pullRead_0 : decode cX10_pullRead 0 = .ok (.aload_n 0, 1) := by decide +kernel
theorem dX10_pullRead_1 : decode cX10_pullRead 1 = .ok (.getfield 21, 3) := by decide +kernel
theorem dX10_pullRead_4 : decode cX10_pullRead 4 = .ok (.iconst 0, 1) := by decide +kernel
theorem dX10_pullRead_5 : decode cX10_pullRead 5 = .ok (.iload_n 1, 1) := by decide +kernel
theorem dX10_pullRead_6 : decode cX10_pullRead 6 = .ok (.iastore, 1) := by decide +kernel
theorem dX10_pullRead_7 : decode cX10_pullRead 7 = .ok (.aload_n 0, 1) := by decide +kernel
theorem dX10_pullRead_8 : decode cX10_pullRead 8 = .ok (.getfield 21, 3) := by decide +kernel
theorem dX10_pullRead_11 : decode cX10_pullRead 11 = .ok (.iconst 1, 1) := by decide +kernel
theorem dX10_pullRead_12 : decode cX10_pullRead 12 = .ok (.iload_n 2, 1) := by decide +kernel
theorem dX10_pullRead_13 : decode cX10_pullRead 13 = .ok (.iastore, 1) := by decide +kernel
theorem dX10_pullRead_14 : decode cX10_pullRead 14 = .ok (.aload_n 0, 1) := by decide +kernel
theorem dX10_pullRead_15 : decode cX10_pullRead 15 = .ok (.getfield 21, 3) := by decide +kernel
theorem dX10_pullRead_18 : decode cX10_pullRead 18 = .ok (.iconst 2, 1) := by decide +kernel
theorem dX10_pullRead_19 : decode cX10_pullRead 19 = .ok (.aload_n 0, 1) := by decide +kernel
theorem dX10_pullRead_20 : decode cX10_pullRead 20 = .ok (.getfield 9, 3) := by decide +kernel
theorem dX10_pullRead_23 : decode cX10_pullRead 23 = .ok (.bipush 26, 2) := by decide +kernel
theorem dX10_pullRead_25 : decode cX10_pullRead 25 = .ok (.iload_n 1, 1) := by decide +kernel
theorem dX10_pullRead_26 : decode cX10_pullRead 26 = .ok (.iadd, 1) := by decide +kernel
theorem dX10_pullRead_27 : decode cX10_pullRead 27 = .ok (.iaload, 1) := by decide +kernel
theorem dX10_pullRead_28 : decode cX10_pullRead 28 = .ok (.iastore, 1) := by decide +kernel
theorem dX10_pullRead_29 : decode cX10_pullRead 29 = .ok (.aload_n 0, 1) := by decide +kernel
theorem dX10_pullRead_30 : decode cX10_pullRead 30 = .ok (.getfield 21, 3) := by decide +kernel
theorem dX10_pullRead_33 : decode cX10_pullRead 33 = .ok (.iconst 3, 1) := by decide +kernel
theorem dX10_pullRead_34 : decode cX10_pullRead 34 = .ok (.aload_n 0, 1) := by decide +kernel
theorem dX10_pullRead_35 : decode cX10_pullRead 35 = .ok (.getfield 9, 3) := by decide +kernel
theorem dX10_pullRead_38 : decode cX10_pullRead 38 = .ok (.iconst 1, 1) := by decide +kernel
theorem dX10_pullRead_39 : decode cX10_pullRead 39 = .ok (.iload_n 2, 1) := by decide +kernel
theorem dX10_pullRead_40 : decode cX10_pullRead 40 = .ok (.iadd, 1) := by decide +kernel
theorem dX10_pullRead_41 : decode cX10_pullRead 41 = .ok (.iaload, 1) := by decide +kernel
theorem dX10_pullRead_42 : decode cX10_pullRead 42 = .ok (.iastore, 1) := by decide +kernel
theorem dX10_pullRead_43 : decode cX10_pullRead 43 = .ok (.aload_n 0, 1) := by decide +kernel
theorem dX10_pullRead_44 : decode cX10_pullRead 44 = .ok (.getfield 21, 3) := by decide +kernel
theorem dX10_pullRead_47 : decode cX10_pullRead 47 = .ok (.iconst 4, 1) := by decide +kernel
theorem dX10_pullRead_48 : decode cX10_pullRead 48 = .ok (.aload_n 0, 1) := by decide +kernel
theorem dX10_pullRead_49 : decode cX10_pullRead 49 = .ok (.iload_n 1, 1) := by decide +kernel
theorem dX10_pullRead_50 : decode cX10_pullRead 50 = .ok (.iload_n 2, 1) := by decide +kernel
theorem dX10_pullRead_51 : decode cX10_pullRead 51 = .ok (.invokevirtual 134, 3) := by decide +kernel
theorem dX10_pullRead_54 : decode cX10_pullRead 54 = .ok (.iastore, 1) := by decide +kernel
theorem dX10_pullRead_55 : decode cX10_pullRead 55 = .ok (.aload_n 0, 1) := by decide +kernel
theorem dX10_pullRead_56 : decode cX10_pullRead 56 = .ok (.getfield 21, 3) := by decide +kernel
theorem dX10_pullRead_59 : decode cX10_pullRead 59 = .ok (.iconst 5, 1) := by decide +kernel
theorem dX10_pullRead_60 : decode cX10_pullRead 60 = .ok (.aload_n 0, 1) := by decide +kernel
theorem dX10_pullRead_61 : decode cX10_pullRead 61 = .ok (.getfield 9, 3) := by decide +kernel
theorem dX10_pullRead_64 : decode cX10_pullRead 64 = .ok (.iconst 0, 1) := by decide +kernel
theorem dX10_pullRead_65 : decode cX10_pullRead 65 = .ok (.iaload, 1) := by decide +kernel
theorem dX10_pullRead_66 : decode cX10_pullRead 66 = .ok (.bipush 10, 2) := by decide +kernel
theorem dX10_pullRead_68 : decode cX10_pullRead 68 = .ok (.irem, 1) := by decide +kernel
theorem dX10_pullRead_69 : decode cX10_pullRead 69 = .ok (.iastore, 1) := by decide +kernel
theorem dX10_pullRead_70 : decode cX10_pullRead 70 = .ok (.bipush 10, 2) := by decide +kernel
theorem dX10_pullRead_72 : decode cX10_pullRead 72 = .ok (.aload_n 0, 1) := by decide +kernel
theorem dX10_pullRead_73 : decode cX10_pullRead 73 = .ok (.getfield 21, 3) := by decide +kernel
theorem dX10_pullRead_76 : decode cX10_pullRead 76 = .ok (.iconst 4, 1) := by decide +kernel
theorem dX10_pullRead_77 : decode cX10_pullRead 77 = .ok (.iaload, 1) := by decide +kernel
theorem dX10_pullRead_78 : decode cX10_pullRead 78 = .ok (.isub, 1) := by decide +kernel
theorem dX10_pullRead_79 : decode cX10_pullRead 79 = .ok (.istore_n 3, 1) := by decide +kernel
theorem dX10_pullRead_80 : decode cX10_pullRead 80 = .ok (.aload_n 0, 1) := by decide +kernel
theorem dX10_pullRead_81 : decode cX10_pullRead 81 = .ok (.sipush 217, 3) := by decide +kernel
theorem dX10_pullRead_84 : decode cX10_pullRead 84 = .ok (.iconst 0, 1) := by decide +kernel
theorem dX10_pullRead_85 : decode cX10_pullRead 85 = .ok (.invokevirtual 138, 3) := by decide +kernel
theorem dX10_pullRead_88 : decode cX10_pullRead 88 = .ok (.istore 4, 2) := by decide +kernel
theorem dX10_pullRead_90 : decode cX10_pullRead 90 = .ok (.sipush 222, 3) := by decide +kernel
theorem dX10_pullRead_93 : decode cX10_pullRead 93 = .ok (.sipush 140, 3) := by decide +kernel
theorem dX10_pullRead_96 : decode cX10_pullRead 96 = .ok (.aload_n 0, 1) := by decide +kernel
theorem dX10_pullRead_97 : decode cX10_pullRead 97 = .ok (.getfield 9, 3) := by decide +kernel
theorem dX10_pullRead_100 : decode cX10_pullRead 100 = .ok (.bipush 25, 2) := by decide +kernel
theorem dX10_pullRead_102 : decode cX10_pullRead 102 = .ok (.iaload, 1) := by decide +kernel
theorem dX10_pullRead_103 : decode cX10_pullRead 103 = .ok (.imul, 1) := by decide +kernel
theorem dX10_pullRead_104 : decode cX10_pullRead 104 = .ok (.iadd, 1) := by decide +kernel
theorem dX10_pullRead_105 : decode cX10_pullRead 105 = .ok (.istore 5, 2) := by decide +kernel
theorem dX10_pullRead_107 : decode cX10_pullRead 107 = .ok (.iconst 0, 1) := by decide +kernel
theorem dX10_pullRead_108 : decode cX10_pullRead 108 = .ok (.istore 6, 2) := by decide +kernel
theorem dX10_pullRead_110 : decode cX10_pullRead 110 = .ok (.iload 5, 2) := by decide +kernel
theorem dX10_pullRead_112 : decode cX10_pullRead 112 = .ok (.istore 7, 2) := by decide +kernel
theorem dX10_pullRead_114 : decode cX10_pullRead 114 = .ok (.iload 7, 2) := by decide +kernel
theorem dX10_pullRead_116 : decode cX10_pullRead 116 = .ok (.iload 5, 2) := by decide +kernel
theorem dX10_pullRead_118 : decode cX10_pullRead 118 = .ok (.iload 4, 2) := by decide +kernel
theorem dX10_pullRead_120 : decode cX10_pullRead 120 = .ok (.iadd, 1) := by decide +kernel
theorem dX10_pullRead_121 : decode cX10_pullRead 121 = .ok (.if_icmp .ge 300, 3) := by decide +kernel
theorem dX10_pullRead_124 : decode cX10_pullRead 124 = .ok (.aload_n 0, 1) := by decide +kernel
theorem dX10_pullRead_125 : decode cX10_pullRead 125 = .ok (.getfield 9, 3) := by decide +kernel
theorem dX10_pullRead_128 : decode cX10_pullRead 128 = .ok (.iload 7, 2) := by decide +kernel
theorem dX10_pullRead_130 : decode cX10_pullRead 130 = .ok (.iaload, 1) := by decide +kernel
theorem dX10_pullRead_131 : decode cX10_pullRead 131 = .ok (.istore 8, 2) := by decide +kernel
theorem dX10_pullRead_133 : decode cX10_pullRead 133 = .ok (.iload 8, 2) := by decide +kernel
theorem dX10_pullRead_135 : decode cX10_pullRead 135 = .ok (.ifCond .lt 97, 3) := by decide +kernel
theorem dX10_pullRead_138 : decode cX10_pullRead 138 = .ok (.aload_n 0, 1) := by decide +kernel
theorem dX10_pullRead_139 : decode cX10_pullRead 139 = .ok (.getfield 21, 3) := by decide +kernel
theorem dX10_pullRead_142 : decode cX10_pullRead 142 = .ok (.iload 8, 2) := by decide +kernel
theorem dX10_pullRead_144 : decode cX10_pullRead 144 = .ok (.bipush 8, 2) := by decide +kernel
theorem dX10_pullRead_146 : decode cX10_pullRead 146 = .ok (.irem, 1) := by decide +kernel
theorem dX10_pullRead_147 : decode cX10_pullRead 147 = .ok (.iaload, 1) := by decide +kernel
theorem dX10_pullRead_148 : decode cX10_pullRead 148 = .ok (.istore 9, 2) := by decide +kernel
theorem dX10_pullRead_150 : decode cX10_pullRead 150 = .ok (.iload 8, 2) := by decide +kernel
theorem dX10_pullRead_152 : decode cX10_pullRead 152 = .ok (.bipush 8, 2) := by decide +kernel
theorem dX10_pullRead_154 : decode cX10_pullRead 154 = .ok (.idiv, 1) := by decide +kernel
theorem dX10_pullRead_155 : decode cX10_pullRead 155 = .ok (.iconst 4, 1) := by decide +kernel
theorem dX10_pullRead_156 : decode cX10_pullRead 156 = .ok (.irem, 1) := by decide +kernel
theorem dX10_pullRead_157 : decode cX10_pullRead 157 = .ok (.istore 10, 2) := by decide +kernel
theorem dX10_pullRead_159 : decode cX10_pullRead 159 = .ok (.iload 8, 2) := by decide +kernel
theorem dX10_pullRead_161 : decode cX10_pullRead 161 = .ok (.bipush 32, 2) := by decide +kernel
theorem dX10_pullRead_163 : decode cX10_pullRead 163 = .ok (.idiv, 1) := by decide +kernel
theorem dX10_pullRead_164 : decode cX10_pullRead 164 = .ok (.istore 11, 2) := by decide +kernel
theorem dX10_pullRead_166 : decode cX10_pullRead 166 = .ok (.aload_n 0, 1) := by decide +kernel
theorem dX10_pullRead_167 : decode cX10_pullRead 167 = .ok (.getfield 24, 3) := by decide +kernel
theorem dX10_pullRead_170 : decode cX10_pullRead 170 = .ok (.iload 6, 2) := by decide +kernel
theorem dX10_pullRead_172 : decode cX10_pullRead 172 = .ok (.iload 10, 2) := by decide +kernel
theorem dX10_pullRead_174 : decode cX10_pullRead 174 = .ok (.ifCond .ne 18, 3) := by decide +kernel
theorem dX10_pullRead_177 : decode cX10_pullRead 177 = .ok (.iload 9, 2) := by decide +kernel
theorem dX10_pullRead_179 : decode cX10_pullRead 179 = .ok (.iload 11, 2) := by decide +kernel
theorem dX10_pullRead_181 : decode cX10_pullRead 181 = .ok (.if_icmp .ge 7, 3) := by decide +kernel
theorem dX10_pullRead_184 : decode cX10_pullRead 184 = .ok (.iconst 1, 1) := by decide +kernel
theorem dX10_pullRead_185 : decode cX10_pullRead 185 = .ok (.goto 40, 3) := by decide +kernel
theorem dX10_pullRead_188 : decode cX10_pullRead 188 = .ok (.iconst 0, 1) := by decide +kernel
theorem dX10_pullRead_189 : decode cX10_pullRead 189 = .ok (.goto 36, 3) := by decide +kernel
theorem dX10_pullRead_192 : decode cX10_pullRead 192 = .ok (.iload 10, 2) := by decide +kernel
theorem dX10_pullRead_194 : decode cX10_pullRead 194 = .ok (.iconst 1, 1) := by decide +kernel
theorem dX10_pullRead_195 : decode cX10_pullRead 195 = .ok (.if_icmp .ne 18, 3) := by decide +kernel
theorem dX10_pullRead_198 : decode cX10_pullRead 198 = .ok (.iload 9, 2) := by decide +kernel
theorem dX10_pullRead_200 : decode cX10_pullRead 200 = .ok (.iload 11, 2) := by decide +kernel
theorem dX10_pullRead_202 : decode cX10_pullRead 202 = .ok (.if_icmp .ne 7, 3) := by decide +kernel
theorem dX10_pullRead_205 : decode cX10_pullRead 205 = .ok (.iconst 1, 1) := by decide +kernel
theorem dX10_pullRead_206 : decode cX10_pullRead 206 = .ok (.goto 19, 3) := by decide +kernel
theorem dX10_pullRead_209 : decode cX10_pullRead 209 = .ok (.iconst 0, 1) := by decide +kernel
theorem dX10_pullRead_210 : decode cX10_pullRead 210 = .ok (.goto 15, 3) := by decide +kernel
theorem dX10_pullRead_213 : decode cX10_pullRead 213 = .ok (.iload 9, 2) := by decide +kernel
theorem dX10_pullRead_215 : decode cX10_pullRead 215 = .ok (.iload 11, 2) := by decide +kernel
theorem dX10_pullRead_217 : decode cX10_pullRead 217 = .ok (.if_icmp .le 7, 3) := by decide +kernel
theorem dX10_pullRead_220 : decode cX10_pullRead 220 = .ok (.iconst 1, 1) := by decide +kernel
theorem dX10_pullRead_221 : decode cX10_pullRead 221 = .ok (.goto 4, 3) := by decide +kernel
theorem dX10_pullRead_224 : decode cX10_pullRead 224 = .ok (.iconst 0, 1) := by decide +kernel
theorem dX10_pullRead_225 : decode cX10_pullRead 225 = .ok (.bastore, 1) := by decide +kernel
theorem dX10_pullRead_226 : decode cX10_pullRead 226 = .ok (.iinc 6 1, 3) := by decide +kernel
theorem dX10_pullRead_229 : decode cX10_pullRead 229 = .ok (.goto 186, 3) := by decide +kernel
theorem dX10_pullRead_232 : decode cX10_pullRead 232 = .ok (.iload 8, 2) := by decide +kernel
theorem dX10_pullRead_234 : decode cX10_pullRead 234 = .ok (.iconst (-1), 1) := by decide +kernel
theorem dX10_pullRead_235 : decode cX10_pullRead 235 = .ok (.if_icmp .ne 32, 3) := by decide +kernel
theorem dX10_pullRead_238 : decode cX10_pullRead 238 = .ok (.aload_n 0, 1) := by decide +kernel
theorem dX10_pullRead_239 : decode cX10_pullRead 239 = .ok (.getfield 24, 3) := by decide +kernel
theorem dX10_pullRead_242 : decode cX10_pullRead 242 = .ok (.iload 6, 2) := by decide +kernel
theorem dX10_pullRead_244 : decode cX10_pullRead 244 = .ok (.iconst 1, 1) := by decide +kernel
theorem dX10_pullRead_245 : decode cX10_pullRead 245 = .ok (.isub, 1) := by decide +kernel
theorem dX10_pullRead_246 : decode cX10_pullRead 246 = .ok (.aload_n 0, 1) := by decide +kernel
theorem dX10_pullRead_247 : decode cX10_pullRead 247 = .ok (.getfield 24, 3) := by decide +kernel
theorem dX10_pullRead_250 : decode cX10_pullRead 250 = .ok (.iload 6, 2) := by decide +kernel
theorem dX10_pullRead_252 : decode cX10_pullRead 252 = .ok (.iconst 1, 1) := by decide +kernel
theorem dX10_pullRead_253 : decode cX10_pullRead 253 = .ok (.isub, 1) := by decide +kernel
theorem dX10_pullRead_254 : decode cX10_pullRead 254 = .ok (.baload, 1) := by decide +kernel
theorem dX10_pullRead_255 : decode cX10_pullRead 255 = .ok (.ifCond .ne 7, 3) := by decide +kernel
theorem dX10_pullRead_258 : decode cX10_pullRead 258 = .ok (.iconst 1, 1) := by decide +kernel
theorem dX10_pullRead_259 : decode cX10_pullRead 259 = .ok (.goto 4, 3) := by decide +kernel
theorem dX10_pullRead_262 : decode cX10_pullRead 262 = .ok (.iconst 0, 1) := by decide +kernel
theorem dX10_pullRead_263 : decode cX10_pullRead 263 = .ok (.bastore, 1) := by decide +kernel
theorem dX10_pullRead_264 : decode cX10_pullRead 264 = .ok (.goto 151, 3) := by decide +kernel
theorem dX10_pullRead_267 : decode cX10_pullRead 267 = .ok (.iload 8, 2) := by decide +kernel
theorem dX10_pullRead_269 : decode cX10_pullRead 269 = .ok (.bipush (-10), 2) := by decide +kernel
theorem dX10_pullRead_271 : decode cX10_pullRead 271 = .ok (.if_icmp .le 82, 3) := by decide +kernel
theorem dX10_pullRead_274 : decode cX10_pullRead 274 = .ok (.iinc 6 (-1), 3) := by decide +kernel
theorem dX10_pullRead_277 : decode cX10_pullRead 277 = .ok (.aload_n 0, 1) := by decide +kernel
theorem dX10_pullRead_278 : decode cX10_pullRead 278 = .ok (.getfield 24, 3) := by decide +kernel
theorem dX10_pullRead_281 : decode cX10_pullRead 281 = .ok (.iload 6, 2) := by decide +kernel
theorem dX10_pullRead_283 : decode cX10_pullRead 283 = .ok (.iconst 1, 1) := by decide +kernel
theorem dX10_pullRead_284 : decode cX10_pullRead 284 = .ok (.isub, 1) := by decide +kernel
theorem dX10_pullRead_285 : decode cX10_pullRead 285 = .ok (.iload 8, 2) := by decide +kernel
theorem dX10_pullRead_287 : decode cX10_pullRead 287 = .ok (.bipush (-2), 2) := by decide +kernel
theorem dX10_pullRead_289 : decode cX10_pullRead 289 = .ok (.if_icmp .ne 33, 3) := by decide +kernel
theorem dX10_pullRead_292 : decode cX10_pullRead 292 = .ok (.aload_n 0, 1) := by decide +kernel
theorem dX10_pullRead_293 : decode cX10_pullRead 293 = .ok (.getfield 24, 3) := by decide +kernel
theorem dX10_pullRead_296 : decode cX10_pullRead 296 = .ok (.iload 6, 2) := by decide +kernel
theorem dX10_pullRead_298 : decode cX10_pullRead 298 = .ok (.iconst 1, 1) := by decide +kernel
theorem dX10_pullRead_299 : decode cX10_pullRead 299 = .ok (.isub, 1) := by decide +kernel
theorem dX10_pullRead_300 : decode cX10_pullRead 300 = .ok (.baload, 1) := by decide +kernel
theorem dX10_pullRead_301 : decode cX10_pullRead 301 = .ok (.ifCond .eq 17, 3) := by decide +kernel
theorem dX10_pullRead_304 : decode cX10_pullRead 304 = .ok (.aload_n 0, 1) := by decide +kernel
theorem dX10_pullRead_305 : decode cX10_pullRead 305 = .ok (.getfield 24, 3) := by decide +kernel
theorem dX10_pullRead_308 : decode cX10_pullRead 308 = .ok (.iload 6, 2) := by decide +kernel
theorem dX10_pullRead_310 : decode cX10_pullRead 310 = .ok (.baload, 1) := by decide +kernel
theorem dX10_pullRead_311 : decode cX10_pullRead 311 = .ok (.ifCond .eq 7, 3) := by decide +kernel
theorem dX10_pullRead_314 : decode cX10_pullRead 314 = .ok (.iconst 1, 1) := by decide +kernel
theorem dX10_pullRead_315 : decode cX10_pullRead 315 = .ok (.goto 34, 3) := by decide +kernel
theorem dX10_pullRead_318 : decode cX10_pullRead 318 = .ok (.iconst 0, 1) := by decide +kernel
theorem dX10_pullRead_319 : decode cX10_pullRead 319 = .ok (.goto 30, 3) := by decide +kernel
theorem dX10_pullRead_322 : decode cX10_pullRead 322 = .ok (.aload_n 0, 1) := by decide +kernel
theorem dX10_pullRead_323 : decode cX10_pullRead 323 = .ok (.getfield 24, 3) := by decide +kernel
theorem dX10_pullRead_326 : decode cX10_pullRead 326 = .ok (.iload 6, 2) := by decide +kernel
theorem dX10_pullRead_328 : decode cX10_pullRead 328 = .ok (.iconst 1, 1) := by decide +kernel
theorem dX10_pullRead_329 : decode cX10_pullRead 329 = .ok (.isub, 1) := by decide +kernel
theorem dX10_pullRead_330 : decode cX10_pullRead 330 = .ok (.baload, 1) := by decide +kernel
theorem dX10_pullRead_331 : decode cX10_pullRead 331 = .ok (.ifCond .ne 13, 3) := by decide +kernel
theorem dX10_pullRead_334 : decode cX10_pullRead 334 = .ok (.aload_n 0, 1) := by decide +kernel
theorem dX10_pullRead_335 : decode cX10_pullRead 335 = .ok (.getfield 24, 3) := by decide +kernel
theorem dX10_pullRead_338 : decode cX10_pullRead 338 = .ok (.iload 6, 2) := by decide +kernel
theorem dX10_pullRead_340 : decode cX10_pullRead 340 = .ok (.baload, 1) := by decide +kernel
theorem dX10_pullRead_341 : decode cX10_pullRead 341 = .ok (.ifCond .eq 7, 3) := by decide +kernel
theorem dX10_pullRead_344 : decode cX10_pullRead 344 = .ok (.iconst 1, 1) := by decide +kernel
theorem dX10_pullRead_345 : decode cX10_pullRead 345 = .ok (.goto 4, 3) := by decide +kernel
theorem dX10_pullRead_348 : decode cX10_pullRead 348 = .ok (.iconst 0, 1) := by decide +kernel
theorem dX10_pullRead_349 : decode cX10_pullRead 349 = .ok (.bastore, 1) := by decide +kernel
theorem dX10_pullRead_350 : decode cX10_pullRead 350 = .ok (.goto 65, 3) := by decide +kernel
theorem dX10_pullRead_353 : decode cX10_pullRead 353 = .ok (.iconst 0, 1) := by decide +kernel
theorem dX10_pullRead_354 : decode cX10_pullRead 354 = .ok (.istore 6, 2) := by decide +kernel
theorem dX10_pullRead_356 : decode cX10_pullRead 356 = .ok (.aload_n 0, 1) := by decide +kernel
theorem dX10_pullRead_357 : decode cX10_pullRead 357 = .ok (.getfield 24, 3) := by decide +kernel
theorem dX10_pullRead_360 : decode cX10_pullRead 360 = .ok (.iconst 0, 1) := by decide +kernel
theorem dX10_pullRead_361 : decode cX10_pullRead 361 = .ok (.baload, 1) := by decide +kernel
theorem dX10_pullRead_362 : decode cX10_pullRead 362 = .ok (.istore 9, 2) := by decide +kernel
theorem dX10_pullRead_364 : decode cX10_pullRead 364 = .ok (.iload_n 3, 1) := by decide +kernel
theorem dX10_pullRead_365 : decode cX10_pullRead 365 = .ok (.iload 9, 2) := by decide +kernel
theorem dX10_pullRead_367 : decode cX10_pullRead 367 = .ok (.ifCond .eq 19, 3) := by decide +kernel
theorem dX10_pullRead_370 : decode cX10_pullRead 370 = .ok (.iload 8, 2) := by decide +kernel
theorem dX10_pullRead_372 : decode cX10_pullRead 372 = .ok (.sipush (-200), 3) := by decide +kernel
theorem dX10_pullRead_375 : decode cX10_pullRead 375 = .ok (.if_icmp .le 11, 3) := by decide +kernel
theorem dX10_pullRead_378 : decode cX10_pullRead 378 = .ok (.bipush (-10), 2) := by decide +kernel
theorem dX10_pullRead_380 : decode cX10_pullRead 380 = .ok (.iload 8, 2) := by decide +kernel
theorem dX10_pullRead_382 : decode cX10_pullRead 382 = .ok (.isub, 1) := by decide +kernel
theorem dX10_pullRead_383 : decode cX10_pullRead 383 = .ok (.goto 4, 3) := by decide +kernel
theorem dX10_pullRead_386 : decode cX10_pullRead 386 = .ok (.iconst 0, 1) := by decide +kernel
theorem dX10_pullRead_387 : decode cX10_pullRead 387 = .ok (.iadd, 1) := by decide +kernel
theorem dX10_pullRead_388 : decode cX10_pullRead 388 = .ok (.istore_n 3, 1) := by decide +kernel
theorem dX10_pullRead_389 : decode cX10_pullRead 389 = .ok (.iload_n 3, 1) := by decide +kernel
theorem dX10_pullRead_390 : decode cX10_pullRead 390 = .ok (.iload 9, 2) := by decide +kernel
theorem dX10_pullRead_392 : decode cX10_pullRead 392 = .ok (.ifCond .eq 20, 3) := by decide +kernel
theorem dX10_pullRead_395 : decode cX10_pullRead 395 = .ok (.iload 8, 2) := by decide +kernel
theorem dX10_pullRead_397 : decode cX10_pullRead 397 = .ok (.sipush (-200), 3) := by decide +kernel
theorem dX10_pullRead_400 : decode cX10_pullRead 400 = .ok (.if_icmp .gt 12, 3) := by decide +kernel
theorem dX10_pullRead_403 : decode cX10_pullRead 403 = .ok (.sipush (-200), 3) := by decide +kernel
theorem dX10_pullRead_406 : decode cX10_pullRead 406 = .ok (.iload 8, 2) := by decide +kernel
theorem dX10_pullRead_408 : decode cX10_pullRead 408 = .ok (.isub, 1) := by decide +kernel
theorem dX10_pullRead_409 : decode cX10_pullRead 409 = .ok (.goto 4, 3) := by decide +kernel
theorem dX10_pullRead_412 : decode cX10_pullRead 412 = .ok (.iconst 0, 1) := by decide +kernel
theorem dX10_pullRead_413 : decode cX10_pullRead 413 = .ok (.isub, 1) := by decide +kernel
theorem dX10_pullRead_414 : decode cX10_pullRead 414 = .ok (.istore_n 3, 1) := by decide +kernel
theorem dX10_pullRead_415 : decode cX10_pullRead 415 = .ok (.iinc 7 1, 3) := by decide +kernel
theorem dX10_pullRead_418 : decode cX10_pullRead 418 = .ok (.goto (-304), 3) := by decide +kernel
theorem dX10_pullRead_421 : decode cX10_pullRead 421 = .ok (.iload_n 3, 1) := by decide +kernel
theorem dX10_pullRead_422 : decode cX10_pullRead 422 = .ok (.ireturn, 1) := by decide +kernel
theorem dX10_begins_0 : decode cX10_begins 0 = .ok (.iconst 0, 1) := by decide +kernel
theorem dX10_begins_1 : decode cX10_begins 1 = .ok (.istore_n 1, 1) := by decide +kernel
theorem dX10_begins_2 : decode cX10_begins 2 = .ok (.iload_n 1, 1) := by decide +kernel
theorem dX10_begins_3 : decode cX10_begins 3 = .ok (.ldc 28, 2) := by decide +kernel
theorem dX10_begins_5 : decode cX10_begins 5 = .ok (.if_icmp .ge 17, 3) := by decide +kernel
theorem dX10_begins_8 : decode cX10_begins 8 = .ok (.aload_n 0, 1) := by decide +kernel
theorem dX10_begins_9 : decode cX10_begins 9 = .ok (.getfield 29, 3) := by decide +kernel
theorem dX10_begins_12 : decode cX10_begins 12 = .ok (.iload_n 1, 1) := by decide +kernel
theorem dX10_begins_13 : decode cX10_begins 13 = .ok (.ldc 141, 2) := by decide +kernel
theorem dX10_begins_15 : decode cX10_begins 15 = .ok (.iastore, 1) := by decide +kernel
theorem dX10_begins_16 : decode cX10_begins 16 = .ok (.iinc 1 1, 3) := by decide +kernel
theorem dX10_begins_19 : decode cX10_begins 19 = .ok (.goto (-17), 3) := by decide +kernel
theorem dX10_begins_22 : decode cX10_begins 22 = .ok (.aload_n 0, 1) := by decide +kernel
theorem dX10_begins_23 : decode cX10_begins 23 = .ok (.iconst 1, 1) := by decide +kernel
theorem dX10_begins_24 : decode cX10_begins 24 = .ok (.putfield 142, 3) := by decide +kernel
theorem dX10_begins_27 : decode cX10_begins 27 = .ok (.return_, 1) := by decide +kernel
theorem dX10_ends_0 : decode cX10_ends 0 = .ok (.aload_n 0, 1) := by decide +kernel
theorem dX10_ends_1 : decode cX10_ends 1 = .ok (.iconst 0, 1) := by decide +kernel
theorem dX10_ends_2 : decode cX10_ends 2 = .ok (.putfield 142, 3) := by decide +kernel
theorem dX10_ends_5 : decode cX10_ends 5 = .ok (.iload_n 1, 1) := by decide +kernel
theorem dX10_ends_6 : decode cX10_ends 6 = .ok (.ireturn, 1) := by decide +kernel
theorem dX10_pullOf_0 : decode cX10_pullOf 0 = .ok (.aload_n 0, 1) := by decide +kernel
theorem dX10_pullOf_1 : decode cX10_pullOf 1 = .ok (.getfield 142, 3) := by decide +kernel
theorem dX10_pullOf_4 : decode cX10_pullOf 4 = .ok (.ifCond .ne 10, 3) := by decide +kernel
theorem dX10_pullOf_7 : decode cX10_pullOf 7 = .ok (.aload_n 0, 1) := by decide +kernel
theorem dX10_pullOf_8 : decode cX10_pullOf 8 = .ok (.iload_n 1, 1) := by decide +kernel
theorem dX10_pullOf_9 : decode cX10_pullOf 9 = .ok (.iload_n 2, 1) := by decide +kernel
theorem dX10_pullOf_10 : decode cX10_pullOf 10 = .ok (.invokevirtual 145, 3) := by decide +kernel
theorem dX10_pullOf_13 : decode cX10_pullOf 13 = .ok (.ireturn, 1) := by decide +kernel
theorem dX10_pullOf_14 : decode cX10_pullOf 14 = .ok (.iload_n 1, 1) := by decide +kernel
theorem dX10_pullOf_15 : decode cX10_pullOf 15 = .ok (.bipush 6, 2) := by decide +kernel
theorem dX10_pullOf_17 : decode cX10_pullOf 17 = .ok (.imul, 1) := by decide +kernel
theorem dX10_pullOf_18 : decode cX10_pullOf 18 = .ok (.iload_n 2, 1) := by decide +kernel
theorem dX10_pullOf_19 : decode cX10_pullOf 19 = .ok (.iadd, 1) := by decide +kernel
theorem dX10_pullOf_20 : decode cX10_pullOf 20 = .ok (.bipush 10, 2) := by decide +kernel
theorem dX10_pullOf_22 : decode cX10_pullOf 22 = .ok (.imul, 1) := by decide +kernel
theorem dX10_pullOf_23 : decode cX10_pullOf 23 = .ok (.aload_n 0, 1) := by decide +kernel
theorem dX10_pullOf_24 : decode cX10_pullOf 24 = .ok (.getfield 9, 3) := by decide +kernel
theorem dX10_pullOf_27 : decode cX10_pullOf 27 = .ok (.iconst 1, 1) := by decide +kernel
theorem dX10_pullOf_28 : decode cX10_pullOf 28 = .ok (.iload_n 2, 1) := by decide +kernel
theorem dX10_pullOf_29 : decode cX10_pullOf 29 = .ok (.iadd, 1) := by decide +kernel
theorem dX10_pullOf_30 : decode cX10_pullOf 30 = .ok (.iaload, 1) := by decide +kernel
theorem dX10_pullOf_31 : decode cX10_pullOf 31 = .ok (.iadd, 1) := by decide +kernel
theorem dX10_pullOf_32 : decode cX10_pullOf 32 = .ok (.bipush 10, 2) := by decide +kernel
theorem dX10_pullOf_34 : decode cX10_pullOf 34 = .ok (.imul, 1) := by decide +kernel
theorem dX10_pullOf_35 : decode cX10_pullOf 35 = .ok (.aload_n 0, 1) := by decide +kernel
theorem dX10_pullOf_36 : decode cX10_pullOf 36 = .ok (.iload_n 1, 1) := by decide +kernel
theorem dX10_pullOf_37 : decode cX10_pullOf 37 = .ok (.iload_n 2, 1) := by decide +kernel
theorem dX10_pullOf_38 : decode cX10_pullOf 38 = .ok (.invokevirtual 134, 3) := by decide +kernel
theorem dX10_pullOf_41 : decode cX10_pullOf 41 = .ok (.iadd, 1) := by decide +kernel
theorem dX10_pullOf_42 : decode cX10_pullOf 42 = .ok (.bipush 10, 2) := by decide +kernel
theorem dX10_pullOf_44 : decode cX10_pullOf 44 = .ok (.imul, 1) := by decide +kernel
theorem dX10_pullOf_45 : decode cX10_pullOf 45 = .ok (.aload_n 0, 1) := by decide +kernel
theorem dX10_pullOf_46 : decode cX10_pullOf 46 = .ok (.getfield 9, 3) := by decide +kernel
theorem dX10_pullOf_49 : decode cX10_pullOf 49 = .ok (.iconst 0, 1) := by decide +kernel
theorem dX10_pullOf_50 : decode cX10_pullOf 50 = .ok (.iaload, 1) := by decide +kernel
theorem dX10_pullOf_51 : decode cX10_pullOf 51 = .ok (.bipush 10, 2) := by decide +kernel
theorem dX10_pullOf_53 : decode cX10_pullOf 53 = .ok (.irem, 1) := by decide +kernel
theorem dX10_pullOf_54 : decode cX10_pullOf 54 = .ok (.iadd, 1) := by decide +kernel
theorem dX10_pullOf_55 : decode cX10_pullOf 55 = .ok (.istore_n 3, 1) := by decide +kernel
theorem dX10_pullOf_56 : decode cX10_pullOf 56 = .ok (.aload_n 0, 1) := by decide +kernel
theorem dX10_pullOf_57 : decode cX10_pullOf 57 = .ok (.getfield 29, 3) := by decide +kernel
theorem dX10_pullOf_60 : decode cX10_pullOf 60 = .ok (.iload_n 3, 1) := by decide +kernel
theorem dX10_pullOf_61 : decode cX10_pullOf 61 = .ok (.iaload, 1) := by decide +kernel
theorem dX10_pullOf_62 : decode cX10_pullOf 62 = .ok (.ldc 141, 2) := by decide +kernel
theorem dX10_pullOf_64 : decode cX10_pullOf 64 = .ok (.if_icmp .ne 15, 3) := by decide +kernel
theorem dX10_pullOf_67 : decode cX10_pullOf 67 = .ok (.aload_n 0, 1) := by decide +kernel
theorem dX10_pullOf_68 : decode cX10_pullOf 68 = .ok (.getfield 29, 3) := by decide +kernel
theorem dX10_pullOf_71 : decode cX10_pullOf 71 = .ok (.iload_n 3, 1) := by decide +kernel
theorem dX10_pullOf_72 : decode cX10_pullOf 72 = .ok (.aload_n 0, 1) := by decide +kernel
theorem dX10_pullOf_73 : decode cX10_pullOf 73 = .ok (.iload_n 1, 1) := by decide +kernel
theorem dX10_pullOf_74 : decode cX10_pullOf 74 = .ok (.iload_n 2, 1) := by decide +kernel
theorem dX10_pullOf_75 : decode cX10_pullOf 75 = .ok (.invokevirtual 145, 3) := by decide +kernel
theorem dX10_pullOf_78 : decode cX10_pullOf 78 = .ok (.iastore, 1) := by decide +kernel
theorem dX10_pullOf_79 : decode cX10_pullOf 79 = .ok (.aload_n 0, 1) := by decide +kernel
theorem dX10_pullOf_80 : decode cX10_pullOf 80 = .ok (.getfield 29, 3) := by decide +kernel
theorem dX10_pullOf_83 : decode cX10_pullOf 83 = .ok (.iload_n 3, 1) := by decide +kernel
theorem dX10_pullOf_84 : decode cX10_pullOf 84 = .ok (.iaload, 1) := by decide +kernel
theorem dX10_pullOf_85 : decode cX10_pullOf 85 = .ok (.ireturn, 1) := by decide +kernel
theorem dX10_leaderOf_0 : decode cX10_leaderOf 0 = .ok (.bipush (-5), 2) := by decide +kernel
theorem dX10_leaderOf_2 : decode cX10_leaderOf 2 = .ok (.istore_n 2, 1) := by decide +kernel
theorem dX10_leaderOf_3 : decode cX10_leaderOf 3 = .ok (.iconst 0, 1) := by decide +kernel
theorem dX10_leaderOf_4 : decode cX10_leaderOf 4 = .ok (.istore_n 3, 1) := by decide +kernel
theorem dX10_leaderOf_5 : decode cX10_leaderOf 5 = .ok (.iconst 0, 1) := by decide +kernel
theorem dX10_leaderOf_6 : decode cX10_leaderOf 6 = .ok (.istore 4, 2) := by decide +kernel
theorem dX10_leaderOf_8 : decode cX10_leaderOf 8 = .ok (.iload 4, 2) := by decide +kernel
theorem dX10_leaderOf_10 : decode cX10_leaderOf 10 = .ok (.aload_n 0, 1) := by decide +kernel
theorem dX10_leaderOf_11 : decode cX10_leaderOf 11 = .ok (.getfield 9, 3) := by decide +kernel
theorem dX10_leaderOf_14 : decode cX10_leaderOf 14 = .ok (.bipush 19, 2) := by decide +kernel
theorem dX10_leaderOf_16 : decode cX10_leaderOf 16 = .ok (.iaload, 1) := by decide +kernel
theorem dX10_leaderOf_17 : decode cX10_leaderOf 17 = .ok (.if_icmp .ge 110, 3) := by decide +kernel
theorem dX10_leaderOf_20 : decode cX10_leaderOf 20 = .ok (.aload_n 0, 1) := by decide +kernel
theorem dX10_leaderOf_21 : decode cX10_leaderOf 21 = .ok (.getfield 9, 3) := by decide +kernel
theorem dX10_leaderOf_24 : decode cX10_leaderOf 24 = .ok (.bipush 7, 2) := by decide +kernel
theorem dX10_leaderOf_26 : decode cX10_leaderOf 26 = .ok (.iload_n 1, 1) := by decide +kernel
theorem dX10_leaderOf_27 : decode cX10_leaderOf 27 = .ok (.iadd, 1) := by decide +kernel
theorem dX10_leaderOf_28 : decode cX10_leaderOf 28 = .ok (.iaload, 1) := by decide +kernel
theorem dX10_leaderOf_29 : decode cX10_leaderOf 29 = .ok (.ifCond .ne 98, 3) := by decide +kernel
theorem dX10_leaderOf_32 : decode cX10_leaderOf 32 = .ok (.iload 4, 2) := by decide +kernel
theorem dX10_leaderOf_34 : decode cX10_leaderOf 34 = .ok (.iload_n 1, 1) := by decide +kernel
theorem dX10_leaderOf_35 : decode cX10_leaderOf 35 = .ok (.if_icmp .eq 39, 3) := by decide +kernel
theorem dX10_leaderOf_38 : decode cX10_leaderOf 38 = .ok (.aload_n 0, 1) := by decide +kernel
theorem dX10_leaderOf_39 : decode cX10_leaderOf 39 = .ok (.getfield 9, 3) := by decide +kernel
theorem dX10_leaderOf_42 : decode cX10_leaderOf 42 = .ok (.bipush 7, 2) := by decide +kernel
theorem dX10_leaderOf_44 : decode cX10_leaderOf 44 = .ok (.iload 4, 2) := by decide +kernel
theorem dX10_leaderOf_46 : decode cX10_leaderOf 46 = .ok (.iadd, 1) := by decide +kernel
theorem dX10_leaderOf_47 : decode cX10_leaderOf 47 = .ok (.iaload, 1) := by decide +kernel
theorem dX10_leaderOf_48 : decode cX10_leaderOf 48 = .ok (.ifCond .ne 26, 3) := by decide +kernel
theorem dX10_leaderOf_51 : decode cX10_leaderOf 51 = .ok (.aload_n 0, 1) := by decide +kernel
theorem dX10_leaderOf_52 : decode cX10_leaderOf 52 = .ok (.iload_n 1, 1) := by decide +kernel
theorem dX10_leaderOf_53 : decode cX10_leaderOf 53 = .ok (.iload 4, 2) := by decide +kernel
theorem dX10_leaderOf_55 : decode cX10_leaderOf 55 = .ok (.invokevirtual 134, 3) := by decide +kernel
theorem dX10_leaderOf_58 : decode cX10_leaderOf 58 = .ok (.aload_n 0, 1) := by decide +kernel
theorem dX10_leaderOf_59 : decode cX10_leaderOf 59 = .ok (.sipush 212, 3) := by decide +kernel
theorem dX10_leaderOf_62 : decode cX10_leaderOf 62 = .ok (.bipush 9, 2) := by decide +kernel
theorem dX10_leaderOf_64 : decode cX10_leaderOf 64 = .ok (.invokevirtual 138, 3) := by decide +kernel
theorem dX10_leaderOf_67 : decode cX10_leaderOf 67 = .ok (.if_icmp .gt 7, 3) := by decide +kernel
theorem dX10_leaderOf_70 : decode cX10_leaderOf 70 = .ok (.iconst 1, 1) := by decide +kernel
theorem dX10_leaderOf_71 : decode cX10_leaderOf 71 = .ok (.goto 4, 3) := by decide +kernel
theorem dX10_leaderOf_74 : decode cX10_leaderOf 74 = .ok (.iconst 0, 1) := by decide +kernel
theorem dX10_leaderOf_75 : decode cX10_leaderOf 75 = .ok (.istore 5, 2) := by decide +kernel
theorem dX10_leaderOf_77 : decode cX10_leaderOf 77 = .ok (.iload 5, 2) := by decide +kernel
theorem dX10_leaderOf_79 : decode cX10_leaderOf 79 = .ok (.ifCond .eq 13, 3) := by decide +kernel
theorem dX10_leaderOf_82 : decode cX10_leaderOf 82 = .ok (.aload_n 0, 1) := by decide +kernel
theorem dX10_leaderOf_83 : decode cX10_leaderOf 83 = .ok (.iload_n 1, 1) := by decide +kernel
theorem dX10_leaderOf_84 : decode cX10_leaderOf 84 = .ok (.iload 4, 2) := by decide +kernel
theorem dX10_leaderOf_86 : decode cX10_leaderOf 86 = .ok (.invokevirtual 148, 3) := by decide +kernel
theorem dX10_leaderOf_89 : decode cX10_leaderOf 89 = .ok (.goto 4, 3) := by decide +kernel
theorem dX10_leaderOf_92 : decode cX10_leaderOf 92 = .ok (.iconst 0, 1) := by decide +kernel
theorem dX10_leaderOf_93 : decode cX10_leaderOf 93 = .ok (.istore 6, 2) := by decide +kernel
theorem dX10_leaderOf_95 : decode cX10_leaderOf 95 = .ok (.iload 6, 2) := by decide +kernel
theorem dX10_leaderOf_97 : decode cX10_leaderOf 97 = .ok (.iload_n 3, 1) := by decide +kernel
theorem dX10_leaderOf_98 : decode cX10_leaderOf 98 = .ok (.if_icmp .le 8, 3) := by decide +kernel
theorem dX10_leaderOf_101 : decode cX10_leaderOf 101 = .ok (.iload 4, 2) := by decide +kernel
theorem dX10_leaderOf_103 : decode cX10_leaderOf 103 = .ok (.goto 4, 3) := by decide +kernel
theorem dX10_leaderOf_106 : decode cX10_leaderOf 106 = .ok (.iload_n 2, 1) := by decide +kernel
theorem dX10_leaderOf_107 : decode cX10_leaderOf 107 = .ok (.istore_n 2, 1) := by decide +kernel
theorem dX10_leaderOf_108 : decode cX10_leaderOf 108 = .ok (.iload 6, 2) := by decide +kernel
theorem dX10_leaderOf_110 : decode cX10_leaderOf 110 = .ok (.iload_n 3, 1) := by decide +kernel
theorem dX10_leaderOf_111 : decode cX10_leaderOf 111 = .ok (.if_icmp .le 8, 3) := by decide +kernel
theorem dX10_leaderOf_114 : decode cX10_leaderOf 114 = .ok (.iload 6, 2) := by decide +kernel
theorem dX10_leaderOf_116 : decode cX10_leaderOf 116 = .ok (.goto 4, 3) := by decide +kernel
theorem dX10_leaderOf_119 : decode cX10_leaderOf 119 = .ok (.iload_n 3, 1) := by decide +kernel
theorem dX10_leaderOf_120 : decode cX10_leaderOf 120 = .ok (.istore_n 3, 1) := by decide +kernel
theorem dX10_leaderOf_121 : decode cX10_leaderOf 121 = .ok (.iinc 4 1, 3) := by decide +kernel
theorem dX10_leaderOf_124 : decode cX10_leaderOf 124 = .ok (.goto (-116), 3) := by decide +kernel
theorem dX10_leaderOf_127 : decode cX10_leaderOf 127 = .ok (.iload_n 2, 1) := by decide +kernel
theorem dX10_leaderOf_128 : decode cX10_leaderOf 128 = .ok (.ireturn, 1) := by decide +kernel
theorem dX10_nextOf_0 : decode cX10_nextOf 0 = .ok (.aload_n 0, 1) := by decide +kernel
theorem dX10_nextOf_1 : decode cX10_nextOf 1 = .ok (.getfield 9, 3) := by decide +kernel
theorem dX10_nextOf_4 : decode cX10_nextOf 4 = .ok (.iconst 1, 1) := by decide +kernel
theorem dX10_nextOf_5 : decode cX10_nextOf 5 = .ok (.iload_n 1, 1) := by decide +kernel
theorem dX10_nextOf_6 : decode cX10_nextOf 6 = .ok (.iadd, 1) := by decide +kernel
theorem dX10_nextOf_7 : decode cX10_nextOf 7 = .ok (.iaload, 1) := by decide +kernel
theorem dX10_nextOf_8 : decode cX10_nextOf 8 = .ok (.istore_n 2, 1) := by decide +kernel
theorem dX10_nextOf_9 : decode cX10_nextOf 9 = .ok (.aload_n 0, 1) := by decide +kernel
theorem dX10_nextOf_10 : decode cX10_nextOf 10 = .ok (.iload_n 1, 1) := by decide +kernel
theorem dX10_nextOf_11 : decode cX10_nextOf 11 = .ok (.invokevirtual 151, 3) := by decide +kernel
theorem dX10_nextOf_14 : decode cX10_nextOf 14 = .ok (.istore_n 3, 1) := by decide +kernel
theorem dX10_nextOf_15 : decode cX10_nextOf 15 = .ok (.iload_n 3, 1) := by decide +kernel
theorem dX10_nextOf_16 : decode cX10_nextOf 16 = .ok (.bipush (-5), 2) := by decide +kernel
theorem dX10_nextOf_18 : decode cX10_nextOf 18 = .ok (.if_icmp .ne 5, 3) := by decide +kernel
theorem dX10_nextOf_21 : decode cX10_nextOf 21 = .ok (.iload_n 2, 1) := by decide +kernel
theorem dX10_nextOf_22 : decode cX10_nextOf 22 = .ok (.ireturn, 1) := by decide +kernel
theorem dX10_nextOf_23 : decode cX10_nextOf 23 = .ok (.aload_n 0, 1) := by decide +kernel
theorem dX10_nextOf_24 : decode cX10_nextOf 24 = .ok (.getfield 9, 3) := by decide +kernel
theorem dX10_nextOf_27 : decode cX10_nextOf 27 = .ok (.iconst 1, 1) := by decide +kernel
theorem dX10_nextOf_28 : decode cX10_nextOf 28 = .ok (.iload_n 3, 1) := by decide +kernel
theorem dX10_nextOf_29 : decode cX10_nextOf 29 = .ok (.iadd, 1) := by decide +kernel
theorem dX10_nextOf_30 : decode cX10_nextOf 30 = .ok (.iaload, 1) := by decide +kernel
theorem dX10_nextOf_31 : decode cX10_nextOf 31 = .ok (.istore 4, 2) := by decide +kernel
theorem dX10_nextOf_33 : decode cX10_nextOf 33 = .ok (.iload 4, 2) := by decide +kernel
theorem dX10_nextOf_35 : decode cX10_nextOf 35 = .ok (.iload_n 2, 1) := by decide +kernel
theorem dX10_nextOf_36 : decode cX10_nextOf 36 = .ok (.if_icmp .le 8, 3) := by decide +kernel
theorem dX10_nextOf_39 : decode cX10_nextOf 39 = .ok (.iload 4, 2) := by decide +kernel
theorem dX10_nextOf_41 : decode cX10_nextOf 41 = .ok (.goto 4, 3) := by decide +kernel
theorem dX10_nextOf_44 : decode cX10_nextOf 44 = .ok (.iload_n 2, 1) := by decide +kernel
theorem dX10_nextOf_45 : decode cX10_nextOf 45 = .ok (.istore 5, 2) := by decide +kernel
theorem dX10_nextOf_47 : decode cX10_nextOf 47 = .ok (.aload_n 0, 1) := by decide +kernel
theorem dX10_nextOf_48 : decode cX10_nextOf 48 = .ok (.getfield 9, 3) := by decide +kernel
theorem dX10_nextOf_51 : decode cX10_nextOf 51 = .ok (.iconst 0, 1) := by decide +kernel
theorem dX10_nextOf_52 : decode cX10_nextOf 52 = .ok (.iaload, 1) := by decide +kernel
theorem dX10_nextOf_53 : decode cX10_nextOf 53 = .ok (.iconst 2, 1) := by decide +kernel
theorem dX10_nextOf_54 : decode cX10_nextOf 54 = .ok (.irem, 1) := by decide +kernel
theorem dX10_nextOf_55 : decode cX10_nextOf 55 = .ok (.ifCond .ne 8, 3) := by decide +kernel
theorem dX10_nextOf_58 : decode cX10_nextOf 58 = .ok (.iload 4, 2) := by decide +kernel
theorem dX10_nextOf_60 : decode cX10_nextOf 60 = .ok (.goto 4, 3) := by decide +kernel
theorem dX10_nextOf_63 : decode cX10_nextOf 63 = .ok (.iload_n 2, 1) := by decide +kernel
theorem dX10_nextOf_64 : decode cX10_nextOf 64 = .ok (.istore 6, 2) := by decide +kernel
theorem dX10_nextOf_66 : decode cX10_nextOf 66 = .ok (.aload_n 0, 1) := by decide +kernel
theorem dX10_nextOf_67 : decode cX10_nextOf 67 = .ok (.getfield 9, 3) := by decide +kernel
theorem dX10_nextOf_70 : decode cX10_nextOf 70 = .ok (.bipush 26, 2) := by decide +kernel
theorem dX10_nextOf_72 : decode cX10_nextOf 72 = .ok (.iload_n 1, 1) := by decide +kernel
theorem dX10_nextOf_73 : decode cX10_nextOf 73 = .ok (.iadd, 1) := by decide +kernel
theorem dX10_nextOf_74 : decode cX10_nextOf 74 = .ok (.iaload, 1) := by decide +kernel
theorem dX10_nextOf_75 : decode cX10_nextOf 75 = .ok (.tableswitch 134 1 6 #[37, 40, 43, 50, 78, 103], 37) := by decide +kernel
theorem dX10_nextOf_112 : decode cX10_nextOf 112 = .ok (.iload 5, 2) := by decide +kernel
theorem dX10_nextOf_114 : decode cX10_nextOf 114 = .ok (.ireturn, 1) := by decide +kernel
theorem dX10_nextOf_115 : decode cX10_nextOf 115 = .ok (.iload 6, 2) := by decide +kernel
theorem dX10_nextOf_117 : decode cX10_nextOf 117 = .ok (.ireturn, 1) := by decide +kernel
theorem dX10_nextOf_118 : decode cX10_nextOf 118 = .ok (.iload 4, 2) := by decide +kernel
theorem dX10_nextOf_120 : decode cX10_nextOf 120 = .ok (.iload_n 2, 1) := by decide +kernel
theorem dX10_nextOf_121 : decode cX10_nextOf 121 = .ok (.iadd, 1) := by decide +kernel
theorem dX10_nextOf_122 : decode cX10_nextOf 122 = .ok (.iconst 2, 1) := by decide +kernel
theorem dX10_nextOf_123 : decode cX10_nextOf 123 = .ok (.idiv, 1) := by decide +kernel
theorem dX10_nextOf_124 : decode cX10_nextOf 124 = .ok (.ireturn, 1) := by decide +kernel
theorem dX10_nextOf_125 : decode cX10_nextOf 125 = .ok (.aload_n 0, 1) := by decide +kernel
theorem dX10_nextOf_126 : decode cX10_nextOf 126 = .ok (.getfield 9, 3) := by decide +kernel
theorem dX10_nextOf_129 : decode cX10_nextOf 129 = .ok (.iconst 0, 1) := by decide +kernel
theorem dX10_nextOf_130 : decode cX10_nextOf 130 = .ok (.iaload, 1) := by decide +kernel
theorem dX10_nextOf_131 : decode cX10_nextOf 131 = .ok (.iconst 5, 1) := by decide +kernel
theorem dX10_nextOf_132 : decode cX10_nextOf 132 = .ok (.irem, 1) := by decide +kernel
theorem dX10_nextOf_133 : decode cX10_nextOf 133 = .ok (.ifCond .ne 17, 3) := by decide +kernel
theorem dX10_nextOf_136 : decode cX10_nextOf 136 = .ok (.iload 5, 2) := by decide +kernel
theorem dX10_nextOf_138 : decode cX10_nextOf 138 = .ok (.bipush 9, 2) := by decide +kernel
theorem dX10_nextOf_140 : decode cX10_nextOf 140 = .ok (.if_icmp .ge 10, 3) := by decide +kernel
theorem dX10_nextOf_143 : decode cX10_nextOf 143 = .ok (.iload 5, 2) := by decide +kernel
theorem dX10_nextOf_145 : decode cX10_nextOf 145 = .ok (.iconst 1, 1) := by decide +kernel
theorem dX10_nextOf_146 : decode cX10_nextOf 146 = .ok (.iadd, 1) := by decide +kernel
theorem dX10_nextOf_147 : decode cX10_nextOf 147 = .ok (.goto 5, 3) := by decide +kernel
theorem dX10_nextOf_150 : decode cX10_nextOf 150 = .ok (.iload 5, 2) := by decide +kernel
theorem dX10_nextOf_152 : decode cX10_nextOf 152 = .ok (.ireturn, 1) := by decide +kernel
theorem dX10_nextOf_153 : decode cX10_nextOf 153 = .ok (.aload_n 0, 1) := by decide +kernel
theorem dX10_nextOf_154 : decode cX10_nextOf 154 = .ok (.iload_n 1, 1) := by decide +kernel
theorem dX10_nextOf_155 : decode cX10_nextOf 155 = .ok (.iload_n 3, 1) := by decide +kernel
theorem dX10_nextOf_156 : decode cX10_nextOf 156 = .ok (.invokevirtual 134, 3) := by decide +kernel
theorem dX10_nextOf_159 : decode cX10_nextOf 159 = .ok (.aload_n 0, 1) := by decide +kernel
theorem dX10_nextOf_160 : decode cX10_nextOf 160 = .ok (.getfield 9, 3) := by decide +kernel
theorem dX10_nextOf_163 : decode cX10_nextOf 163 = .ok (.bipush 32, 2) := by decide +kernel
theorem dX10_nextOf_165 : decode cX10_nextOf 165 = .ok (.iload_n 1, 1) := by decide +kernel
theorem dX10_nextOf_166 : decode cX10_nextOf 166 = .ok (.iadd, 1) := by decide +kernel
theorem dX10_nextOf_167 : decode cX10_nextOf 167 = .ok (.iaload, 1) := by decide +kernel
theorem dX10_nextOf_168 : decode cX10_nextOf 168 = .ok (.if_icmp .le 7, 3) := by decide +kernel
theorem dX10_nextOf_171 : decode cX10_nextOf 171 = .ok (.iload_n 2, 1) := by decide +kernel
theorem dX10_nextOf_172 : decode cX10_nextOf 172 = .ok (.goto 5, 3) := by decide +kernel
theorem dX10_nextOf_175 : decode cX10_nextOf 175 = .ok (.iload 6, 2) := by decide +kernel
theorem dX10_nextOf_177 : decode cX10_nextOf 177 = .ok (.ireturn, 1) := by decide +kernel
theorem dX10_nextOf_178 : decode cX10_nextOf 178 = .ok (.iload 4, 2) := by decide +kernel
theorem dX10_nextOf_180 : decode cX10_nextOf 180 = .ok (.iload_n 2, 1) := by decide +kernel
theorem dX10_nextOf_181 : decode cX10_nextOf 181 = .ok (.iadd, 1) := by decide +kernel
theorem dX10_nextOf_182 : decode cX10_nextOf 182 = .ok (.iconst 2, 1) := by decide +kernel
theorem dX10_nextOf_183 : decode cX10_nextOf 183 = .ok (.idiv, 1) := by decide +kernel
theorem dX10_nextOf_184 : decode cX10_nextOf 184 = .ok (.aload_n 0, 1) := by decide +kernel
theorem dX10_nextOf_185 : decode cX10_nextOf 185 = .ok (.getfield 9, 3) := by decide +kernel
theorem dX10_nextOf_188 : decode cX10_nextOf 188 = .ok (.bipush 38, 2) := by decide +kernel
theorem dX10_nextOf_190 : decode cX10_nextOf 190 = .ok (.iconst 4, 1) := by decide +kernel
theorem dX10_nextOf_191 : decode cX10_nextOf 191 = .ok (.iload_n 1, 1) := by decide +kernel
theorem dX10_nextOf_192 : decode cX10_nextOf 192 = .ok (.imul, 1) := by decide +kernel
theorem dX10_nextOf_193 : decode cX10_nextOf 193 = .ok (.iadd, 1) := by decide +kernel
theorem dX10_nextOf_194 : decode cX10_nextOf 194 = .ok (.aload_n 0, 1) := by decide +kernel
theorem dX10_nextOf_195 : decode cX10_nextOf 195 = .ok (.getfield 9, 3) := by decide +kernel
theorem dX10_nextOf_198 : decode cX10_nextOf 198 = .ok (.iconst 0, 1) := by decide +kernel
theorem dX10_nextOf_199 : decode cX10_nextOf 199 = .ok (.iaload, 1) := by decide +kernel
theorem dX10_nextOf_200 : decode cX10_nextOf 200 = .ok (.iconst 4, 1) := by decide +kernel
theorem dX10_nextOf_201 : decode cX10_nextOf 201 = .ok (.irem, 1) := by decide +kernel
theorem dX10_nextOf_202 : decode cX10_nextOf 202 = .ok (.iadd, 1) := by decide +kernel
theorem dX10_nextOf_203 : decode cX10_nextOf 203 = .ok (.iaload, 1) := by decide +kernel
theorem dX10_nextOf_204 : decode cX10_nextOf 204 = .ok (.iadd, 1) := by decide +kernel
theorem dX10_nextOf_205 : decode cX10_nextOf 205 = .ok (.bipush 10, 2) := by decide +kernel
theorem dX10_nextOf_207 : decode cX10_nextOf 207 = .ok (.irem, 1) := by decide +kernel
theorem dX10_nextOf_208 : decode cX10_nextOf 208 = .ok (.ireturn, 1) := by decide +kernel
theorem dX10_nextOf_209 : decode cX10_nextOf 209 = .ok (.iload 4, 2) := by decide +kernel
theorem dX10_nextOf_211 : decode cX10_nextOf 211 = .ok (.ireturn, 1) := by decide +kernel
theorem dX10_unlike_0 : decode cX10_unlike 0 = .ok (.iconst 0, 1) := by decide +kernel
theorem dX10_unlike_1 : decode cX10_unlike 1 = .ok (.istore_n 1, 1) := by decide +kernel
theorem dX10_unlike_2 : decode cX10_unlike 2 = .ok (.iconst 0, 1) := by decide +kernel
theorem dX10_unlike_3 : decode cX10_unlike 3 = .ok (.istore_n 2, 1) := by decide +kernel
theorem dX10_unlike_4 : decode cX10_unlike 4 = .ok (.iload_n 2, 1) := by decide +kernel
theorem dX10_unlike_5 : decode cX10_unlike 5 = .ok (.aload_n 0, 1) := by decide +kernel
theorem dX10_unlike_6 : decode cX10_unlike 6 = .ok (.getfield 9, 3) := by decide +kernel
theorem dX10_unlike_9 : decode cX10_unlike 9 = .ok (.bipush 19, 2) := by decide +kernel
theorem dX10_unlike_11 : decode cX10_unlike 11 = .ok (.iaload, 1) := by decide +kernel
theorem dX10_unlike_12 : decode cX10_unlike 12 = .ok (.if_icmp .ge 38, 3) := by decide +kernel
theorem dX10_unlike_15 : decode cX10_unlike 15 = .ok (.iload_n 1, 1) := by decide +kernel
theorem dX10_unlike_16 : decode cX10_unlike 16 = .ok (.aload_n 0, 1) := by decide +kernel
theorem dX10_unlike_17 : decode cX10_unlike 17 = .ok (.getfield 9, 3) := by decide +kernel
theorem dX10_unlike_20 : decode cX10_unlike 20 = .ok (.bipush 7, 2) := by decide +kernel
theorem dX10_unlike_22 : decode cX10_unlike 22 = .ok (.iload_n 2, 1) := by decide +kernel
theorem dX10_unlike_23 : decode cX10_unlike 23 = .ok (.iadd, 1) := by decide +kernel
theorem dX10_unlike_24 : decode cX10_unlike 24 = .ok (.iaload, 1) := by decide +kernel
theorem dX10_unlike_25 : decode cX10_unlike 25 = .ok (.ifCond .ne 16, 3) := by decide +kernel
theorem dX10_unlike_28 : decode cX10_unlike 28 = .ok (.iconst 1, 1) := by decide +kernel
theorem dX10_unlike_29 : decode cX10_unlike 29 = .ok (.aload_n 0, 1) := by decide +kernel
theorem dX10_unlike_30 : decode cX10_unlike 30 = .ok (.getfield 9, 3) := by decide +kernel
theorem dX10_unlike_33 : decode cX10_unlike 33 = .ok (.iconst 1, 1) := by decide +kernel
theorem dX10_unlike_34 : decode cX10_unlike 34 = .ok (.iload_n 2, 1) := by decide +kernel
theorem dX10_unlike_35 : decode cX10_unlike 35 = .ok (.iadd, 1) := by decide +kernel
theorem dX10_unlike_36 : decode cX10_unlike 36 = .ok (.iaload, 1) := by decide +kernel
theorem dX10_unlike_37 : decode cX10_unlike 37 = .ok (.ishl, 1) := by decide +kernel
theorem dX10_unlike_38 : decode cX10_unlike 38 = .ok (.goto 4, 3) := by decide +kernel
theorem dX10_unlike_41 : decode cX10_unlike 41 = .ok (.iconst 0, 1) := by decide +kernel
theorem dX10_unlike_42 : decode cX10_unlike 42 = .ok (.ior, 1) := by decide +kernel
theorem dX10_unlike_43 : decode cX10_unlike 43 = .ok (.istore_n 1, 1) := by decide +kernel
theorem dX10_unlike_44 : decode cX10_unlike 44 = .ok (.iinc 2 1, 3) := by decide +kernel
theorem dX10_unlike_47 : decode cX10_unlike 47 = .ok (.goto (-43), 3) := by decide +kernel
theorem dX10_unlike_50 : decode cX10_unlike 50 = .ok (.iconst 0, 1) := by decide +kernel
theorem dX10_unlike_51 : decode cX10_unlike 51 = .ok (.istore_n 2, 1) := by decide +kernel
theorem dX10_unlike_52 : decode cX10_unlike 52 = .ok (.iconst 0, 1) := by decide +kernel
theorem dX10_unlike_53 : decode cX10_unlike 53 = .ok (.istore_n 3, 1) := by decide +kernel
theorem dX10_unlike_54 : decode cX10_unlike 54 = .ok (.iload_n 3, 1) := by decide +kernel
theorem dX10_unlike_55 : decode cX10_unlike 55 = .ok (.bipush 10, 2) := by decide +kernel
theorem dX10_unlike_57 : decode cX10_unlike 57 = .ok (.if_icmp .ge 17, 3) := by decide +kernel
theorem dX10_unlike_60 : decode cX10_unlike 60 = .ok (.iload_n 2, 1) := by decide +kernel
theorem dX10_unlike_61 : decode cX10_unlike 61 = .ok (.iload_n 1, 1) := by decide +kernel
theorem dX10_unlike_62 : decode cX10_unlike 62 = .ok (.iload_n 3, 1) := by decide +kernel
theorem dX10_unlike_63 : decode cX10_unlike 63 = .ok (.ishr, 1) := by decide +kernel
theorem dX10_unlike_64 : decode cX10_unlike 64 = .ok (.iconst 1, 1) := by decide +kernel
theorem dX10_unlike_65 : decode cX10_unlike 65 = .ok (.iand, 1) := by decide +kernel
theorem dX10_unlike_66 : decode cX10_unlike 66 = .ok (.iadd, 1) := by decide +kernel
theorem dX10_unlike_67 : decode cX10_unlike 67 = .ok (.istore_n 2, 1) := by decide +kernel
theorem dX10_unlike_68 : decode cX10_unlike 68 = .ok (.iinc 3 1, 3) := by decide +kernel
theorem dX10_unlike_71 : decode cX10_unlike 71 = .ok (.goto (-17), 3) := by decide +kernel
theorem dX10_unlike_74 : decode cX10_unlike 74 = .ok (.iload_n 2, 1) := by decide +kernel
theorem dX10_unlike_75 : decode cX10_unlike 75 = .ok (.ireturn, 1) := by decide +kernel
theorem dX10_becomes_0 : decode cX10_becomes 0 = .ok (.aload_n 0, 1) := by decide +kernel
theorem dX10_becomes_1 : decode cX10_becomes 1 = .ok (.getfield 9, 3) := by decide +kernel
theorem dX10_becomes_4 : decode cX10_becomes 4 = .ok (.iload_n 1, 1) := by decide +kernel
theorem dX10_becomes_5 : decode cX10_becomes 5 = .ok (.iaload, 1) := by decide +kernel
theorem dX10_becomes_6 : decode cX10_becomes 6 = .ok (.istore_n 3, 1) := by decide +kernel
theorem dX10_becomes_7 : decode cX10_becomes 7 = .ok (.aload_n 0, 1) := by decide +kernel
theorem dX10_becomes_8 : decode cX10_becomes 8 = .ok (.getfield 9, 3) := by decide +kernel
theorem dX10_becomes_11 : decode cX10_becomes 11 = .ok (.iload_n 1, 1) := by decide +kernel
theorem dX10_becomes_12 : decode cX10_becomes 12 = .ok (.iload_n 2, 1) := by decide +kernel
theorem dX10_becomes_13 : decode cX10_becomes 13 = .ok (.iastore, 1) := by decide +kernel
theorem dX10_becomes_14 : decode cX10_becomes 14 = .ok (.iload_n 3, 1) := by decide +kernel
theorem dX10_becomes_15 : decode cX10_becomes 15 = .ok (.ireturn, 1) := by decide +kernel
theorem dX10_man_0 : decode cX10_man 0 = .ok (.iload_n 1, 1) := by decide +kernel
theorem dX10_man_1 : decode cX10_man 1 = .ok (.iconst 0, 1) := by decide +kernel
theorem dX10_man_2 : decode cX10_man 2 = .ok (.bipush 6, 2) := by decide +kernel
theorem dX10_man_4 : decode cX10_man 4 = .ok (.invokestatic 54, 3) := by decide +kernel
theorem dX10_man_7 : decode cX10_man 7 = .ok (.ifCond .eq 18, 3) := by decide +kernel
theorem dX10_man_10 : decode cX10_man 10 = .ok (.iload_n 3, 1) := by decide +kernel
theorem dX10_man_11 : decode cX10_man 11 = .ok (.invokestatic 155, 3) := by decide +kernel
theorem dX10_man_14 : decode cX10_man 14 = .ok (.ifCond .eq 11, 3) := by decide +kernel
theorem dX10_man_17 : decode cX10_man 17 = .ok (.iload 4, 2) := by decide +kernel
theorem dX10_man_19 : decode cX10_man 19 = .ok (.invokestatic 155, 3) := by decide +kernel
theorem dX10_man_22 : decode cX10_man 22 = .ok (.ifCond .ne 5, 3) := by decide +kernel
theorem dX10_man_25 : decode cX10_man 25 = .ok (.iconst (-1), 1) := by decide +kernel
theorem dX10_man_26 : decode cX10_man 26 = .ok (.ireturn, 1) := by decide +kernel
theorem dX10_man_27 : decode cX10_man 27 = .ok (.iload_n 2, 1) := by decide +kernel
theorem dX10_man_28 : decode cX10_man 28 = .ok (.invokestatic 155, 3) := by decide +kernel
theorem dX10_man_31 : decode cX10_man 31 = .ok (.ifCond .ne 6, 3) := by decide +kernel
theorem dX10_man_34 : decode cX10_man 34 = .ok (.bipush (-2), 2) := by decide +kernel
theorem dX10_man_36 : decode cX10_man 36 = .ok (.ireturn, 1) := by decide +kernel
theorem dX10_man_37 : decode cX10_man 37 = .ok (.aload_n 0, 1) := by decide +kernel
theorem dX10_man_38 : decode cX10_man 38 = .ok (.getfield 9, 3) := by decide +kernel
theorem dX10_man_41 : decode cX10_man 41 = .ok (.bipush 19, 2) := by decide +kernel
theorem dX10_man_43 : decode cX10_man 43 = .ok (.iaload, 1) := by decide +kernel
theorem dX10_man_44 : decode cX10_man 44 = .ok (.bipush 6, 2) := by decide +kernel
theorem dX10_man_46 : decode cX10_man 46 = .ok (.if_icmp .ne 6, 3) := by decide +kernel
theorem dX10_man_49 : decode cX10_man 49 = .ok (.bipush (-4), 2) := by decide +kernel
theorem dX10_man_51 : decode cX10_man 51 = .ok (.ireturn, 1) := by decide +kernel
theorem dX10_man_52 : decode cX10_man 52 = .ok (.aload_n 0, 1) := by decide +kernel
theorem dX10_man_53 : decode cX10_man 53 = .ok (.getfield 9, 3) := by decide +kernel
theorem dX10_man_56 : decode cX10_man 56 = .ok (.bipush 19, 2) := by decide +kernel
theorem dX10_man_58 : decode cX10_man 58 = .ok (.iaload, 1) := by decide +kernel
theorem dX10_man_59 : decode cX10_man 59 = .ok (.istore 5, 2) := by decide +kernel
theorem dX10_man_61 : decode cX10_man 61 = .ok (.aload_n 0, 1) := by decide +kernel
theorem dX10_man_62 : decode cX10_man 62 = .ok (.getfield 9, 3) := by decide +kernel
theorem dX10_man_65 : decode cX10_man 65 = .ok (.bipush 26, 2) := by decide +kernel
theorem dX10_man_67 : decode cX10_man 67 = .ok (.iload 5, 2) := by decide +kernel
theorem dX10_man_69 : decode cX10_man 69 = .ok (.iadd, 1) := by decide +kernel
theorem dX10_man_70 : decode cX10_man 70 = .ok (.iload_n 1, 1) := by decide +kernel
theorem dX10_man_71 : decode cX10_man 71 = .ok (.iastore, 1) := by decide +kernel
theorem dX10_man_72 : decode cX10_man 72 = .ok (.aload_n 0, 1) := by decide +kernel
theorem dX10_man_73 : decode cX10_man 73 = .ok (.getfield 9, 3) := by decide +kernel
theorem dX10_man_76 : decode cX10_man 76 = .ok (.bipush 32, 2) := by decide +kernel
theorem dX10_man_78 : decode cX10_man 78 = .ok (.iload 5, 2) := by decide +kernel
theorem dX10_man_80 : decode cX10_man 80 = .ok (.iadd, 1) := by decide +kernel
theorem dX10_man_81 : decode cX10_man 81 = .ok (.iload_n 2, 1) := by decide +kernel
theorem dX10_man_82 : decode cX10_man 82 = .ok (.iastore, 1) := by decide +kernel
theorem dX10_man_83 : decode cX10_man 83 = .ok (.aload_n 0, 1) := by decide +kernel
theorem dX10_man_84 : decode cX10_man 84 = .ok (.getfield 9, 3) := by decide +kernel
theorem dX10_man_87 : decode cX10_man 87 = .ok (.bipush 13, 2) := by decide +kernel
theorem dX10_man_89 : decode cX10_man 89 = .ok (.iload 5, 2) := by decide +kernel
theorem dX10_man_91 : decode cX10_man 91 = .ok (.iadd, 1) := by decide +kernel
theorem dX10_man_92 : decode cX10_man 92 = .ok (.iload_n 3, 1) := by decide +kernel
theorem dX10_man_93 : decode cX10_man 93 = .ok (.iastore, 1) := by decide +kernel
theorem dX10_man_94 : decode cX10_man 94 = .ok (.aload_n 0, 1) := by decide +kernel
theorem dX10_man_95 : decode cX10_man 95 = .ok (.getfield 9, 3) := by decide +kernel
theorem dX10_man_98 : decode cX10_man 98 = .ok (.iconst 1, 1) := by decide +kernel
theorem dX10_man_99 : decode cX10_man 99 = .ok (.iload 5, 2) := by decide +kernel
theorem dX10_man_101 : decode cX10_man 101 = .ok (.iadd, 1) := by decide +kernel
theorem dX10_man_102 : decode cX10_man 102 = .ok (.iload 4, 2) := by decide +kernel
theorem dX10_man_104 : decode cX10_man 104 = .ok (.iastore, 1) := by decide +kernel
theorem dX10_man_105 : decode cX10_man 105 = .ok (.aload_n 0, 1) := by decide +kernel
theorem dX10_man_106 : decode cX10_man 106 = .ok (.getfield 9, 3) := by decide +kernel
theorem dX10_man_109 : decode cX10_man 109 = .ok (.bipush 7, 2) := by decide +kernel
theorem dX10_man_111 : decode cX10_man 111 = .ok (.iload 5, 2) := by decide +kernel
theorem dX10_man_113 : decode cX10_man 113 = .ok (.iadd, 1) := by decide +kernel
theorem dX10_man_114 : decode cX10_man 114 = .ok (.iconst 0, 1) := by decide +kernel
theorem dX10_man_115 : decode cX10_man 115 = .ok (.iastore, 1) := by decide +kernel
theorem dX10_man_116 : decode cX10_man 116 = .ok (.iconst 0, 1) := by decide +kernel
theorem dX10_man_117 : decode cX10_man 117 = .ok (.istore 6, 2) := by decide +kernel
theorem dX10_man_119 : decode cX10_man 119 = .ok (.iload 6, 2) := by decide +kernel
theorem dX10_man_121 : decode cX10_man 121 = .ok (.iconst 4, 1) := by decide +kernel
theorem dX10_man_122 : decode cX10_man 122 = .ok (.if_icmp .ge 25, 3) := by decide +kernel
theorem dX10_man_125 : decode cX10_man 125 = .ok (.aload_n 0, 1) := by decide +kernel
theorem dX10_man_126 : decode cX10_man 126 = .ok (.getfield 9, 3) := by decide +kernel
theorem dX10_man_129 : decode cX10_man 129 = .ok (.bipush 38, 2) := by decide +kernel
theorem dX10_man_131 : decode cX10_man 131 = .ok (.iconst 4, 1) := by decide +kernel
theorem dX10_man_132 : decode cX10_man 132 = .ok (.iload 5, 2) := by decide +kernel
theorem dX10_man_134 : decode cX10_man 134 = .ok (.imul, 1) := by decide +kernel
theorem dX10_man_135 : decode cX10_man 135 = .ok (.iadd, 1) := by decide +kernel
theorem dX10_man_136 : decode cX10_man 136 = .ok (.iload 6, 2) := by decide +kernel
theorem dX10_man_138 : decode cX10_man 138 = .ok (.iadd, 1) := by decide +kernel
theorem dX10_man_139 : decode cX10_man 139 = .ok (.iconst 0, 1) := by decide +kernel
theorem dX10_man_140 : decode cX10_man 140 = .ok (.iastore, 1) := by decide +kernel
theorem dX10_man_141 : decode cX10_man 141 = .ok (.iinc 6 1, 3) := by decide +kernel
theorem dX10_man_144 : decode cX10_man 144 = .ok (.goto (-25), 3) := by decide +kernel
theorem dX10_man_147 : decode cX10_man 147 = .ok (.aload_n 0, 1) := by decide +kernel
theorem dX10_man_148 : decode cX10_man 148 = .ok (.getfield 9, 3) := by decide +kernel
theorem dX10_man_151 : decode cX10_man 151 = .ok (.bipush 19, 2) := by decide +kernel
theorem dX10_man_153 : decode cX10_man 153 = .ok (.dup2, 1) := by decide +kernel
theorem dX10_man_154 : decode cX10_man 154 = .ok (.iaload, 1) := by decide +kernel
theorem dX10_man_155 : decode cX10_man 155 = .ok (.iconst 1, 1) := by decide +kernel
theorem dX10_man_156 : decode cX10_man 156 = .ok (.iadd, 1) := by decide +kernel
theorem dX10_man_157 : decode cX10_man 157 = .ok (.iastore, 1) := by decide +kernel
theorem dX10_man_158 : decode cX10_man 158 = .ok (.iload 5, 2) := by decide +kernel
theorem dX10_man_160 : decode cX10_man 160 = .ok (.ireturn, 1) := by decide +kernel
theorem dX10_of_0 : decode cX10_of 0 = .ok (.aload_n 0, 1) := by decide +kernel
theorem dX10_of_1 : decode cX10_of 1 = .ok (.iload_n 1, 1) := by decide +kernel
theorem dX10_of_2 : decode cX10_of 2 = .ok (.invokevirtual 159, 3) := by decide +kernel
theorem dX10_of_5 : decode cX10_of 5 = .ok (.ifCond .ne 5, 3) := by decide +kernel
theorem dX10_of_8 : decode cX10_of 8 = .ok (.iconst (-1), 1) := by decide +kernel
theorem dX10_of_9 : decode cX10_of 9 = .ok (.ireturn, 1) := by decide +kernel
theorem dX10_of_10 : decode cX10_of 10 = .ok (.iload_n 2, 1) := by decide +kernel
theorem dX10_of_11 : decode cX10_of 11 = .ok (.tableswitch 102 0 6 #[41, 51, 61, 71, 80, 90, 96], 41) := by decide +kernel
theorem dX10_of_52 : decode cX10_of 52 = .ok (.aload_n 0, 1) := by decide +kernel
theorem dX10_of_53 : decode cX10_of 53 = .ok (.getfield 9, 3) := by decide +kernel
theorem dX10_of_56 : decode cX10_of 56 = .ok (.bipush 26, 2) := by decide +kernel
theorem dX10_of_58 : decode cX10_of 58 = .ok (.iload_n 1, 1) := by decide +kernel
theorem dX10_of_59 : decode cX10_of 59 = .ok (.iadd, 1) := by decide +kernel
theorem dX10_of_60 : decode cX10_of 60 = .ok (.iaload, 1) := by decide +kernel
theorem dX10_of_61 : decode cX10_of 61 = .ok (.ireturn, 1) := by decide +kernel
theorem dX10_of_62 : decode cX10_of 62 = .ok (.aload_n 0, 1) := by decide +kernel
theorem dX10_of_63 : decode cX10_of 63 = .ok (.getfield 9, 3) := by decide +kernel
theorem dX10_of_66 : decode cX10_of 66 = .ok (.bipush 32, 2) := by decide +kernel
theorem dX10_of_68 : decode cX10_of 68 = .ok (.iload_n 1, 1) := by decide +kernel
theorem dX10_of_69 : decode cX10_of 69 = .ok (.iadd, 1) := by decide +kernel
theorem dX10_of_70 : decode cX10_of 70 = .ok (.iaload, 1) := by decide +kernel
theorem dX10_of_71 : decode cX10_of 71 = .ok (.ireturn, 1) := by decide +kernel
theorem dX10_of_72 : decode cX10_of 72 = .ok (.aload_n 0, 1) := by decide +kernel
theorem dX10_of_73 : decode cX10_of 73 = .ok (.getfield 9, 3) := by decide +kernel
theorem dX10_of_76 : decode cX10_of 76 = .ok (.bipush 13, 2) := by decide +kernel
theorem dX10_of_78 : decode cX10_of 78 = .ok (.iload_n 1, 1) := by decide +kernel
theorem dX10_of_79 : decode cX10_of 79 = .ok (.iadd, 1) := by decide +kernel
theorem dX10_of_80 : decode cX10_of 80 = .ok (.iaload, 1) := by decide +kernel
theorem dX10_of_81 : decode cX10_of 81 = .ok (.ireturn, 1) := by decide +kernel
theorem dX10_of_82 : decode cX10_of 82 = .ok (.aload_n 0, 1) := by decide +kernel
theorem dX10_of_83 : decode cX10_of 83 = .ok (.getfield 9, 3) := by decide +kernel
theorem dX10_of_86 : decode cX10_of 86 = .ok (.iconst 1, 1) := by decide +kernel
theorem dX10_of_87 : decode cX10_of 87 = .ok (.iload_n 1, 1) := by decide +kernel
theorem dX10_of_88 : decode cX10_of 88 = .ok (.iadd, 1) := by decide +kernel
theorem dX10_of_89 : decode cX10_of 89 = .ok (.iaload, 1) := by decide +kernel
theorem dX10_of_90 : decode cX10_of 90 = .ok (.ireturn, 1) := by decide +kernel
theorem dX10_of_91 : decode cX10_of 91 = .ok (.aload_n 0, 1) := by decide +kernel
theorem dX10_of_92 : decode cX10_of 92 = .ok (.getfield 9, 3) := by decide +kernel
theorem dX10_of_95 : decode cX10_of 95 = .ok (.bipush 7, 2) := by decide +kernel
theorem dX10_of_97 : decode cX10_of 97 = .ok (.iload_n 1, 1) := by decide +kernel
theorem dX10_of_98 : decode cX10_of 98 = .ok (.iadd, 1) := by decide +kernel
theorem dX10_of_99 : decode cX10_of 99 = .ok (.iaload, 1) := by decide +kernel
theorem dX10_of_100 : decode cX10_of 100 = .ok (.ireturn, 1) := by decide +kernel
theorem dX10_of_101 : decode cX10_of 101 = .ok (.aload_n 0, 1) := by decide +kernel
theorem dX10_of_102 : decode cX10_of 102 = .ok (.iload_n 1, 1) := by decide +kernel
theorem dX10_of_103 : decode cX10_of 103 = .ok (.invokevirtual 151, 3) := by decide +kernel
theorem dX10_of_106 : decode cX10_of 106 = .ok (.ireturn, 1) := by decide +kernel
theorem dX10_of_107 : decode cX10_of 107 = .ok (.aload_n 0, 1) := by decide +kernel
theorem dX10_of_108 : decode cX10_of 108 = .ok (.iload_n 1, 1) := by decide +kernel
theorem dX10_of_109 : decode cX10_of 109 = .ok (.invokevirtual 162, 3) := by decide +kernel
theorem dX10_of_112 : decode cX10_of 112 = .ok (.ireturn, 1) := by decide +kernel
theorem dX10_of_113 : decode cX10_of 113 = .ok (.iconst (-1), 1) := by decide +kernel
theorem dX10_of_114 : decode cX10_of 114 = .ok (.ireturn, 1) := by decide +kernel
theorem dX10_pull_0 : decode cX10_pull 0 = .ok (.aload_n 0, 1) := by decide +kernel
theorem dX10_pull_1 : decode cX10_pull 1 = .ok (.iload_n 1, 1) := by decide +kernel
theorem dX10_pull_2 : decode cX10_pull 2 = .ok (.invokevirtual 159, 3) := by decide +kernel
theorem dX10_pull_5 : decode cX10_pull 5 = .ok (.ifCond .eq 25, 3) := by decide +kernel
theorem dX10_pull_8 : decode cX10_pull 8 = .ok (.aload_n 0, 1) := by decide +kernel
theorem dX10_pull_9 : decode cX10_pull 9 = .ok (.iload_n 2, 1) := by decide +kernel
theorem dX10_pull_10 : decode cX10_pull 10 = .ok (.invokevirtual 159, 3) := by decide +kernel
theorem dX10_pull_13 : decode cX10_pull 13 = .ok (.ifCond .eq 17, 3) := by decide +kernel
theorem dX10_pull_16 : decode cX10_pull 16 = .ok (.iload_n 1, 1) := by decide +kernel
theorem dX10_pull_17 : decode cX10_pull 17 = .ok (.iload_n 2, 1) := by decide +kernel
theorem dX10_pull_18 : decode cX10_pull 18 = .ok (.if_icmp .eq 12, 3) := by decide +kernel
theorem dX10_pull_21 : decode cX10_pull 21 = .ok (.aload_n 0, 1) := by decide +kernel
theorem dX10_pull_22 : decode cX10_pull 22 = .ok (.iload_n 1, 1) := by decide +kernel
theorem dX10_pull_23 : decode cX10_pull 23 = .ok (.iload_n 2, 1) := by decide +kernel
theorem dX10_pull_24 : decode cX10_pull 24 = .ok (.invokevirtual 148, 3) := by decide +kernel
theorem dX10_pull_27 : decode cX10_pull 27 = .ok (.goto 5, 3) := by decide +kernel
theorem dX10_pull_30 : decode cX10_pull 30 = .ok (.ldc 165, 2) := by decide +kernel
theorem dX10_pull_32 : decode cX10_pull 32 = .ok (.ireturn, 1) := by decide +kernel
theorem dX10_row_0 : decode cX10_row 0 = .ok (.aload_n 0, 1) := by decide +kernel
theorem dX10_row_1 : decode cX10_row 1 = .ok (.iload_n 1, 1) := by decide +kernel
theorem dX10_row_2 : decode cX10_row 2 = .ok (.invokevirtual 159, 3) := by decide +kernel
theorem dX10_row_5 : decode cX10_row 5 = .ok (.ifCond .eq 12, 3) := by decide +kernel
theorem dX10_row_8 : decode cX10_row 8 = .ok (.iload_n 2, 1) := by decide +kernel
theorem dX10_row_9 : decode cX10_row 9 = .ok (.iconst 0, 1) := by decide +kernel
theorem dX10_row_10 : decode cX10_row 10 = .ok (.iconst 3, 1) := by decide +kernel
theorem dX10_row_11 : decode cX10_row 11 = .ok (.invokestatic 54, 3) := by decide +kernel
theorem dX10_row_14 : decode cX10_row 14 = .ok (.ifCond .ne 5, 3) := by decide +kernel
theorem dX10_row_17 : decode cX10_row 17 = .ok (.iconst (-1), 1) := by decide +kernel
theorem dX10_row_18 : decode cX10_row 18 = .ok (.ireturn, 1) := by decide +kernel
theorem dX10_row_19 : decode cX10_row 19 = .ok (.iload_n 3, 1) := by decide +kernel
theorem dX10_row_20 : decode cX10_row 20 = .ok (.invokestatic 155, 3) := by decide +kernel
theorem dX10_row_23 : decode cX10_row 23 = .ok (.ifCond .ne 6, 3) := by decide +kernel
theorem dX10_row_26 : decode cX10_row 26 = .ok (.bipush (-2), 2) := by decide +kernel
theorem dX10_row_28 : decode cX10_row 28 = .ok (.ireturn, 1) := by decide +kernel
theorem dX10_row_29 : decode cX10_row 29 = .ok (.aload_n 0, 1) := by decide +kernel
theorem dX10_row_30 : decode cX10_row 30 = .ok (.getfield 9, 3) := by decide +kernel
theorem dX10_row_33 : decode cX10_row 33 = .ok (.bipush 26, 2) := by decide +kernel
theorem dX10_row_35 : decode cX10_row 35 = .ok (.iload_n 1, 1) := by decide +kernel
theorem dX10_row_36 : decode cX10_row 36 = .ok (.iadd, 1) := by decide +kernel
theorem dX10_row_37 : decode cX10_row 37 = .ok (.iaload, 1) := by decide +kernel
theorem dX10_row_38 : decode cX10_row 38 = .ok (.bipush 6, 2) := by decide +kernel
theorem dX10_row_40 : decode cX10_row 40 = .ok (.if_icmp .ne 19, 3) := by decide +kernel
theorem dX10_row_43 : decode cX10_row 43 = .ok (.aload_n 0, 1) := by decide +kernel
theorem dX10_row_44 : decode cX10_row 44 = .ok (.bipush 38, 2) := by decide +kernel
theorem dX10_row_46 : decode cX10_row 46 = .ok (.iconst 4, 1) := by decide +kernel
theorem dX10_row_47 : decode cX10_row 47 = .ok (.iload_n 1, 1) := by decide +kernel
theorem dX10_row_48 : decode cX10_row 48 = .ok (.imul, 1) := by decide +kernel
theorem dX10_row_49 : decode cX10_row 49 = .ok (.iadd, 1) := by decide +kernel
theorem dX10_row_50 : decode cX10_row 50 = .ok (.iload_n 2, 1) := by decide +kernel
theorem dX10_row_51 : decode cX10_row 51 = .ok (.iadd, 1) := by decide +kernel
theorem dX10_row_52 : decode cX10_row 52 = .ok (.iload_n 3, 1) := by decide +kernel
theorem dX10_row_53 : decode cX10_row 53 = .ok (.invokevirtual 166, 3) := by decide +kernel
theorem dX10_row_56 : decode cX10_row 56 = .ok (.goto 5, 3) := by decide +kernel
theorem dX10_row_59 : decode cX10_row 59 = .ok (.bipush (-3), 2) := by decide +kernel
theorem dX10_row_61 : decode cX10_row 61 = .ok (.ireturn, 1) := by decide +kernel
theorem dX10_set_0 : decode cX10_set 0 = .ok (.aload_n 0, 1) := by decide +kernel
theorem dX10_set_1 : decode cX10_set 1 = .ok (.iload_n 1, 1) := by decide +kernel
theorem dX10_set_2 : decode cX10_set 2 = .ok (.invokevirtual 159, 3) := by decide +kernel
theorem dX10_set_5 : decode cX10_set 5 = .ok (.ifCond .eq 19, 3) := by decide +kernel
theorem dX10_set_8 : decode cX10_set 8 = .ok (.iload_n 2, 1) := by decide +kernel
theorem dX10_set_9 : decode cX10_set 9 = .ok (.iconst 0, 1) := by decide +kernel
theorem dX10_set_10 : decode cX10_set 10 = .ok (.iconst 1, 1) := by decide +kernel
theorem dX10_set_11 : decode cX10_set 11 = .ok (.invokestatic 54, 3) := by decide +kernel
theorem dX10_set_14 : decode cX10_set 14 = .ok (.ifCond .eq 10, 3) := by decide +kernel
theorem dX10_set_17 : decode cX10_set 17 = .ok (.iload_n 3, 1) := by decide +kernel
theorem dX10_set_18 : decode cX10_set 18 = .ok (.invokestatic 155, 3) := by decide +kernel
theorem dX10_set_21 : decode cX10_set 21 = .ok (.ifCond .ne 5, 3) := by decide +kernel
theorem dX10_set_24 : decode cX10_set 24 = .ok (.iconst (-1), 1) := by decide +kernel
theorem dX10_set_25 : decode cX10_set 25 = .ok (.ireturn, 1) := by decide +kernel
theorem dX10_set_26 : decode cX10_set 26 = .ok (.aload_n 0, 1) := by decide +kernel
theorem dX10_set_27 : decode cX10_set 27 = .ok (.iload_n 2, 1) := by decide +kernel
theorem dX10_set_28 : decode cX10_set 28 = .ok (.ifCond .ne 8, 3) := by decide +kernel
theorem dX10_set_31 : decode cX10_set 31 = .ok (.bipush 13, 2) := by decide +kernel
theorem dX10_set_33 : decode cX10_set 33 = .ok (.goto 4, 3) := by decide +kernel
theorem dX10_set_36 : decode cX10_set 36 = .ok (.iconst 1, 1) := by decide +kernel
theorem dX10_set_37 : decode cX10_set 37 = .ok (.iload_n 1, 1) := by decide +kernel
theorem dX10_set_38 : decode cX10_set 38 = .ok (.iadd, 1) := by decide +kernel
theorem dX10_set_39 : decode cX10_set 39 = .ok (.iload_n 3, 1) := by decide +kernel
theorem dX10_set_40 : decode cX10_set 40 = .ok (.invokevirtual 166, 3) := by decide +kernel
theorem dX10_set_43 : decode cX10_set 43 = .ok (.ireturn, 1) := by decide +kernel
theorem dX10_away_0 : decode cX10_away 0 = .ok (.aload_n 0, 1) := by decide +kernel
theorem dX10_away_1 : decode cX10_away 1 = .ok (.iload_n 1, 1) := by decide +kernel
theorem dX10_away_2 : decode cX10_away 2 = .ok (.invokevirtual 159, 3) := by decide +kernel
theorem dX10_away_5 : decode cX10_away 5 = .ok (.ifCond .eq 23, 3) := by decide +kernel
theorem dX10_away_8 : decode cX10_away 8 = .ok (.aload_n 0, 1) := by decide +kernel
theorem dX10_away_9 : decode cX10_away 9 = .ok (.bipush 7, 2) := by decide +kernel
theorem dX10_away_11 : decode cX10_away 11 = .ok (.iload_n 1, 1) := by decide +kernel
theorem dX10_away_12 : decode cX10_away 12 = .ok (.iadd, 1) := by decide +kernel
theorem dX10_away_13 : decode cX10_away 13 = .ok (.iload_n 2, 1) := by decide +kernel
theorem dX10_away_14 : decode cX10_away 14 = .ok (.ifCond .eq 7, 3) := by decide +kernel
theorem dX10_away_17 : decode cX10_away 17 = .ok (.iconst 1, 1) := by decide +kernel
theorem dX10_away_18 : decode cX10_away 18 = .ok (.goto 4, 3) := by decide +kernel
theorem dX10_away_21 : decode cX10_away 21 = .ok (.iconst 0, 1) := by decide +kernel
theorem dX10_away_22 : decode cX10_away 22 = .ok (.invokevirtual 166, 3) := by decide +kernel
theorem dX10_away_25 : decode cX10_away 25 = .ok (.goto 4, 3) := by decide +kernel
theorem dX10_away_28 : decode cX10_away 28 = .ok (.iconst (-1), 1) := by decide +kernel
theorem dX10_away_29 : decode cX10_away 29 = .ok (.ireturn, 1) := by decide +kernel
theorem dX10_settles_0 : decode cX10_settles 0 = .ok (.aload_n 0, 1) := by decide +kernel
theorem dX10_settles_1 : decode cX10_settles 1 = .ok (.invokevirtual 169, 3) := by decide +kernel
theorem dX10_settles_4 : decode cX10_settles 4 = .ok (.bipush (-5), 2) := by decide +kernel
theorem dX10_settles_6 : decode cX10_settles 6 = .ok (.istore_n 1, 1) := by decide +kernel
theorem dX10_settles_7 : decode cX10_settles 7 = .ok (.iconst 0, 1) := by decide +kernel
theorem dX10_settles_8 : decode cX10_settles 8 = .ok (.istore_n 2, 1) := by decide +kernel
theorem dX10_settles_9 : decode cX10_settles 9 = .ok (.iload_n 2, 1) := by decide +kernel
theorem dX10_settles_10 : decode cX10_settles 10 = .ok (.bipush 60, 2) := by decide +kernel
theorem dX10_settles_12 : decode cX10_settles 12 = .ok (.if_icmp .gt 34, 3) := by decide +kernel
theorem dX10_settles_15 : decode cX10_settles 15 = .ok (.iload_n 1, 1) := by decide +kernel
theorem dX10_settles_16 : decode cX10_settles 16 = .ok (.bipush (-5), 2) := by decide +kernel
theorem dX10_settles_18 : decode cX10_settles 18 = .ok (.if_icmp .ne 28, 3) := by decide +kernel
theorem dX10_settles_21 : decode cX10_settles 21 = .ok (.aload_n 0, 1) := by decide +kernel
theorem dX10_settles_22 : decode cX10_settles 22 = .ok (.invokevirtual 172, 3) := by decide +kernel
theorem dX10_settles_25 : decode cX10_settles 25 = .ok (.iconst 2, 1) := by decide +kernel
theorem dX10_settles_26 : decode cX10_settles 26 = .ok (.if_icmp .ge 7, 3) := by decide +kernel
theorem dX10_settles_29 : decode cX10_settles 29 = .ok (.iload_n 2, 1) := by decide +kernel
theorem dX10_settles_30 : decode cX10_settles 30 = .ok (.goto 5, 3) := by decide +kernel
theorem dX10_settles_33 : decode cX10_settles 33 = .ok (.bipush (-5), 2) := by decide +kernel
theorem dX10_settles_35 : decode cX10_settles 35 = .ok (.istore_n 1, 1) := by decide +kernel
theorem dX10_settles_36 : decode cX10_settles 36 = .ok (.aload_n 0, 1) := by decide +kernel
theorem dX10_settles_37 : decode cX10_settles 37 = .ok (.invokevirtual 175, 3) := by decide +kernel
theorem dX10_settles_40 : decode cX10_settles 40 = .ok (.iinc 2 1, 3) := by decide +kernel
theorem dX10_settles_43 : decode cX10_settles 43 = .ok (.goto (-34), 3) := by decide +kernel
theorem dX10_settles_46 : decode cX10_settles 46 = .ok (.aload_n 0, 1) := by decide +kernel
theorem dX10_settles_47 : decode cX10_settles 47 = .ok (.invokevirtual 178, 3) := by decide +kernel
theorem dX10_settles_50 : decode cX10_settles 50 = .ok (.iload_n 1, 1) := by decide +kernel
theorem dX10_settles_51 : decode cX10_settles 51 = .ok (.ireturn, 1) := by decide +kernel
theorem dX10_awayOnes_0 : decode cX10_awayOnes 0 = .ok (.iconst 0, 1) := by decide +kernel
theorem dX10_awayOnes_1 : decode cX10_awayOnes 1 = .ok (.istore_n 1, 1) := by decide +kernel
theorem dX10_awayOnes_2 : decode cX10_awayOnes 2 = .ok (.iconst 0, 1) := by decide +kernel
theorem dX10_awayOnes_3 : decode cX10_awayOnes 3 = .ok (.istore_n 2, 1) := by decide +kernel
theorem dX10_awayOnes_4 : decode cX10_awayOnes 4 = .ok (.iload_n 2, 1) := by decide +kernel
theorem dX10_awayOnes_5 : decode cX10_awayOnes 5 = .ok (.aload_n 0, 1) := by decide +kernel
theorem dX10_awayOnes_6 : decode cX10_awayOnes 6 = .ok (.getfield 9, 3) := by decide +kernel
theorem dX10_awayOnes_9 : decode cX10_awayOnes 9 = .ok (.bipush 19, 2) := by decide +kernel
theorem dX10_awayOnes_11 : decode cX10_awayOnes 11 = .ok (.iaload, 1) := by decide +kernel
theorem dX10_awayOnes_12 : decode cX10_awayOnes 12 = .ok (.if_icmp .ge 23, 3) := by decide +kernel
theorem dX10_awayOnes_15 : decode cX10_awayOnes 15 = .ok (.iload_n 1, 1) := by decide +kernel
theorem dX10_awayOnes_16 : decode cX10_awayOnes 16 = .ok (.aload_n 0, 1) := by decide +kernel
theorem dX10_awayOnes_17 : decode cX10_awayOnes 17 = .ok (.getfield 9, 3) := by decide +kernel
theorem dX10_awayOnes_20 : decode cX10_awayOnes 20 = .ok (.bipush 7, 2) := by decide +kernel
theorem dX10_awayOnes_22 : decode cX10_awayOnes 22 = .ok (.iload_n 2, 1) := by decide +kernel
theorem dX10_awayOnes_23 : decode cX10_awayOnes 23 = .ok (.iadd, 1) := by decide +kernel
theorem dX10_awayOnes_24 : decode cX10_awayOnes 24 = .ok (.iaload, 1) := by decide +kernel
theorem dX10_awayOnes_25 : decode cX10_awayOnes 25 = .ok (.iload_n 2, 1) := by decide +kernel
theorem dX10_awayOnes_26 : decode cX10_awayOnes 26 = .ok (.ishl, 1) := by decide +kernel
theorem dX10_awayOnes_27 : decode cX10_awayOnes 27 = .ok (.ior, 1) := by decide +kernel
theorem dX10_awayOnes_28 : decode cX10_awayOnes 28 = .ok (.istore_n 1, 1) := by decide +kernel
theorem dX10_awayOnes_29 : decode cX10_awayOnes 29 = .ok (.iinc 2 1, 3) := by decide +kernel
theorem dX10_awayOnes_32 : decode cX10_awayOnes 32 = .ok (.goto (-28), 3) := by decide +kernel
theorem dX10_awayOnes_35 : decode cX10_awayOnes 35 = .ok (.iload_n 1, 1) := by decide +kernel
theorem dX10_awayOnes_36 : decode cX10_awayOnes 36 = .ok (.ireturn, 1) := by decide +kernel
theorem dX10_told_0 : decode cX10_told 0 = .ok (.iload_n 1, 1) := by decide +kernel
theorem dX10_told_1 : decode cX10_told 1 = .ok (.tableswitch 67 0 4 #[35, 42, 52, 57, 62], 35) := by decide +kernel
theorem dX10_told_36 : decode cX10_told 36 = .ok (.aload_n 0, 1) := by decide +kernel
theorem dX10_told_37 : decode cX10_told 37 = .ok (.getfield 9, 3) := by decide +kernel
theorem dX10_told_40 : decode cX10_told 40 = .ok (.iconst 0, 1) := by decide +kernel
theorem dX10_told_41 : decode cX10_told 41 = .ok (.iaload, 1) := by decide +kernel
theorem dX10_told_42 : decode cX10_told 42 = .ok (.ireturn, 1) := by decide +kernel
theorem dX10_told_43 : decode cX10_told 43 = .ok (.aload_n 0, 1) := by decide +kernel
theorem dX10_told_44 : decode cX10_told 44 = .ok (.sipush 212, 3) := by decide +kernel
theorem dX10_told_47 : decode cX10_told 47 = .ok (.bipush 9, 2) := by decide +kernel
theorem dX10_told_49 : decode cX10_told 49 = .ok (.invokevirtual 138, 3) := by decide +kernel
theorem dX10_told_52 : decode cX10_told 52 = .ok (.ireturn, 1) := by decide +kernel
theorem dX10_told_53 : decode cX10_told 53 = .ok (.aload_n 0, 1) := by decide +kernel
theorem dX10_told_54 : decode cX10_told 54 = .ok (.invokevirtual 172, 3) := by decide +kernel
theorem dX10_told_57 : decode cX10_told 57 = .ok (.ireturn, 1) := by decide +kernel
theorem dX10_told_58 : decode cX10_told 58 = .ok (.aload_n 0, 1) := by decide +kernel
theorem dX10_told_59 : decode cX10_told 59 = .ok (.invokevirtual 181, 3) := by decide +kernel
theorem dX10_told_62 : decode cX10_told 62 = .ok (.ireturn, 1) := by decide +kernel
theorem dX10_told_63 : decode cX10_told 63 = .ok (.aload_n 0, 1) := by decide +kernel
theorem dX10_told_64 : decode cX10_told 64 = .ok (.invokevirtual 184, 3) := by decide +kernel
theorem dX10_told_67 : decode cX10_told 67 = .ok (.ireturn, 1) := by decide +kernel
theorem dX10_told_68 : decode cX10_told 68 = .ok (.iconst (-1), 1) := by decide +kernel
theorem dX10_told_69 : decode cX10_told 69 = .ok (.ireturn, 1) := by decide +kernel
theorem dX10_goes_0 : decode cX10_goes 0 = .ok (.iconst 0, 1) := by decide +kernel
theorem dX10_goes_1 : decode cX10_goes 1 = .ok (.istore_n 1, 1) := by decide +kernel
theorem dX10_goes_2 : decode cX10_goes 2 = .ok (.iload_n 1, 1) := by decide +kernel
theorem dX10_goes_3 : decode cX10_goes 3 = .ok (.aload_n 0, 1) := by decide +kernel
theorem dX10_goes_4 : decode cX10_goes 4 = .ok (.getfield 9, 3) := by decide +kernel
theorem dX10_goes_7 : decode cX10_goes 7 = .ok (.bipush 19, 2) := by decide +kernel
theorem dX10_goes_9 : decode cX10_goes 9 = .ok (.iaload, 1) := by decide +kernel
theorem dX10_goes_10 : decode cX10_goes 10 = .ok (.if_icmp .ge 20, 3) := by decide +kernel
theorem dX10_goes_13 : decode cX10_goes 13 = .ok (.aload_n 0, 1) := by decide +kernel
theorem dX10_goes_14 : decode cX10_goes 14 = .ok (.getfield 32, 3) := by decide +kernel
theorem dX10_goes_17 : decode cX10_goes 17 = .ok (.iload_n 1, 1) := by decide +kernel
theorem dX10_goes_18 : decode cX10_goes 18 = .ok (.aload_n 0, 1) := by decide +kernel
theorem dX10_goes_19 : decode cX10_goes 19 = .ok (.iload_n 1, 1) := by decide +kernel
theorem dX10_goes_20 : decode cX10_goes 20 = .ok (.invokevirtual 162, 3) := by decide +kernel
theorem dX10_goes_23 : decode cX10_goes 23 = .ok (.iastore, 1) := by decide +kernel
theorem dX10_goes_24 : decode cX10_goes 24 = .ok (.iinc 1 1, 3) := by decide +kernel
theorem dX10_goes_27 : decode cX10_goes 27 = .ok (.goto (-25), 3) := by decide +kernel
theorem dX10_goes_30 : decode cX10_goes 30 = .ok (.iconst 0, 1) := by decide +kernel
theorem dX10_goes_31 : decode cX10_goes 31 = .ok (.istore_n 1, 1) := by decide +kernel
theorem dX10_goes_32 : decode cX10_goes 32 = .ok (.iload_n 1, 1) := by decide +kernel
theorem dX10_goes_33 : decode cX10_goes 33 = .ok (.aload_n 0, 1) := by decide +kernel
theorem dX10_goes_34 : decode cX10_goes 34 = .ok (.getfield 9, 3) := by decide +kernel
theorem dX10_goes_37 : decode cX10_goes 37 = .ok (.bipush 19, 2) := by decide +kernel
theorem dX10_goes_39 : decode cX10_goes 39 = .ok (.iaload, 1) := by decide +kernel
theorem dX10_goes_40 : decode cX10_goes 40 = .ok (.if_icmp .ge 23, 3) := by decide +kernel
theorem dX10_goes_43 : decode cX10_goes 43 = .ok (.aload_n 0, 1) := by decide +kernel
theorem dX10_goes_44 : decode cX10_goes 44 = .ok (.getfield 9, 3) := by decide +kernel
theorem dX10_goes_47 : decode cX10_goes 47 = .ok (.iconst 1, 1) := by decide +kernel
theorem dX10_goes_48 : decode cX10_goes 48 = .ok (.iload_n 1, 1) := by decide +kernel
theorem dX10_goes_49 : decode cX10_goes 49 = .ok (.iadd, 1) := by decide +kernel
theorem dX10_goes_50 : decode cX10_goes 50 = .ok (.aload_n 0, 1) := by decide +kernel
theorem dX10_goes_51 : decode cX10_goes 51 = .ok (.getfield 32, 3) := by decide +kernel
theorem dX10_goes_54 : decode cX10_goes 54 = .ok (.iload_n 1, 1) := by decide +kernel
theorem dX10_goes_55 : decode cX10_goes 55 = .ok (.iaload, 1) := by decide +kernel
theorem dX10_goes_56 : decode cX10_goes 56 = .ok (.iastore, 1) := by decide +kernel
theorem dX10_goes_57 : decode cX10_goes 57 = .ok (.iinc 1 1, 3) := by decide +kernel
theorem dX10_goes_60 : decode cX10_goes 60 = .ok (.goto (-28), 3) := by decide +kernel
theorem dX10_goes_63 : decode cX10_goes 63 = .ok (.aload_n 0, 1) := by decide +kernel
theorem dX10_goes_64 : decode cX10_goes 64 = .ok (.getfield 9, 3) := by decide +kernel
theorem dX10_goes_67 : decode cX10_goes 67 = .ok (.iconst 0, 1) := by decide +kernel
theorem dX10_goes_68 : decode cX10_goes 68 = .ok (.dup2, 1) := by decide +kernel
theorem dX10_goes_69 : decode cX10_goes 69 = .ok (.iaload, 1) := by decide +kernel
theorem dX10_goes_70 : decode cX10_goes 70 = .ok (.iconst 1, 1) := by decide +kernel
theorem dX10_goes_71 : decode cX10_goes 71 = .ok (.iadd, 1) := by decide +kernel
theorem dX10_goes_72 : decode cX10_goes 72 = .ok (.iastore, 1) := by decide +kernel
theorem dX10_goes_73 : decode cX10_goes 73 = .ok (.return_, 1) := by decide +kernel
theorem dX10_goesOn_0 : decode cX10_goesOn 0 = .ok (.iconst 0, 1) := by decide +kernel
theorem dX10_goesOn_1 : decode cX10_goesOn 1 = .ok (.istore_n 2, 1) := by decide +kernel
theorem dX10_goesOn_2 : decode cX10_goesOn 2 = .ok (.iload_n 2, 1) := by decide +kernel
theorem dX10_goesOn_3 : decode cX10_goesOn 3 = .ok (.iload_n 1, 1) := by decide +kernel
theorem dX10_goesOn_4 : decode cX10_goesOn 4 = .ok (.if_icmp .ge 13, 3) := by decide +kernel
theorem dX10_goesOn_7 : decode cX10_goesOn 7 = .ok (.aload_n 0, 1) := by decide +kernel
theorem dX10_goesOn_8 : decode cX10_goesOn 8 = .ok (.invokevirtual 175, 3) := by decide +kernel
theorem dX10_goesOn_11 : decode cX10_goesOn 11 = .ok (.iinc 2 1, 3) := by decide +kernel
theorem dX10_goesOn_14 : decode cX10_goesOn 14 = .ok (.goto (-12), 3) := by decide +kernel
theorem dX10_goesOn_17 : decode cX10_goesOn 17 = .ok (.return_, 1) := by decide +kernel
theorem dX10_pass_0 : decode cX10_pass 0 = .ok (.iload_n 1, 1) := by decide +kernel
theorem dX10_pass_1 : decode cX10_pass 1 = .ok (.iconst 0, 1) := by decide +kernel
theorem dX10_pass_2 : decode cX10_pass 2 = .ok (.bipush 60, 2) := by decide +kernel
theorem dX10_pass_4 : decode cX10_pass 4 = .ok (.invokestatic 54, 3) := by decide +kernel
theorem dX10_pass_7 : decode cX10_pass 7 = .ok (.ifCond .ne 6, 3) := by decide +kernel
theorem dX10_pass_10 : decode cX10_pass 10 = .ok (.bipush (-2), 2) := by decide +kernel
theorem dX10_pass_12 : decode cX10_pass 12 = .ok (.ireturn, 1) := by decide +kernel
theorem dX10_pass_13 : decode cX10_pass 13 = .ok (.aload_n 0, 1) := by decide +kernel
theorem dX10_pass_14 : decode cX10_pass 14 = .ok (.getfield 9, 3) := by decide +kernel
theorem dX10_pass_17 : decode cX10_pass 17 = .ok (.iconst 0, 1) := by decide +kernel
theorem dX10_pass_18 : decode cX10_pass 18 = .ok (.iaload, 1) := by decide +kernel
theorem dX10_pass_19 : decode cX10_pass 19 = .ok (.iload_n 1, 1) := by decide +kernel
theorem dX10_pass_20 : decode cX10_pass 20 = .ok (.iadd, 1) := by decide +kernel
theorem dX10_pass_21 : decode cX10_pass 21 = .ok (.sipush 9999, 3) := by decide +kernel
theorem dX10_pass_24 : decode cX10_pass 24 = .ok (.if_icmp .le 6, 3) := by decide +kernel
theorem dX10_pass_27 : decode cX10_pass 27 = .ok (.bipush (-3), 2) := by decide +kernel
theorem dX10_pass_29 : decode cX10_pass 29 = .ok (.ireturn, 1) := by decide +kernel
theorem dX10_pass_30 : decode cX10_pass 30 = .ok (.aload_n 0, 1) := by decide +kernel
theorem dX10_pass_31 : decode cX10_pass 31 = .ok (.iload_n 1, 1) := by decide +kernel
theorem dX10_pass_32 : decode cX10_pass 32 = .ok (.invokevirtual 187, 3) := by decide +kernel
theorem dX10_pass_35 : decode cX10_pass 35 = .ok (.aload_n 0, 1) := by decide +kernel
theorem dX10_pass_36 : decode cX10_pass 36 = .ok (.getfield 9, 3) := by decide +kernel
theorem dX10_pass_39 : decode cX10_pass 39 = .ok (.iconst 0, 1) := by decide +kernel
theorem dX10_pass_40 : decode cX10_pass 40 = .ok (.iaload, 1) := by decide +kernel
theorem dX10_pass_41 : decode cX10_pass 41 = .ok (.ireturn, 1) := by decide +kernel
theorem dX10_on_0 : decode cX10_on 0 = .ok (.iload_n 2, 1) := by decide +kernel
theorem dX10_on_1 : decode cX10_on 1 = .ok (.ifCond .eq 16, 3) := by decide +kernel
theorem dX10_on_4 : decode cX10_on 4 = .ok (.aload_n 0, 1) := by decide +kernel
theorem dX10_on_5 : decode cX10_on 5 = .ok (.iload_n 2, 1) := by decide +kernel
theorem dX10_on_6 : decode cX10_on 6 = .ok (.bipush 10, 2) := by decide +kernel
theorem dX10_on_8 : decode cX10_on 8 = .ok (.isub, 1) := by decide +kernel
theorem dX10_on_9 : decode cX10_on 9 = .ok (.invokevirtual 159, 3) := by decide +kernel
theorem dX10_on_12 : decode cX10_on 12 = .ok (.ifCond .ne 5, 3) := by decide +kernel
theorem dX10_on_15 : decode cX10_on 15 = .ok (.iconst (-1), 1) := by decide +kernel
theorem dX10_on_16 : decode cX10_on 16 = .ok (.ireturn, 1) := by decide +kernel
theorem dX10_on_17 : decode cX10_on 17 = .ok (.iload_n 1, 1) := by decide +kernel
theorem dX10_on_18 : decode cX10_on 18 = .ok (.iconst 0, 1) := by decide +kernel
theorem dX10_on_19 : decode cX10_on 19 = .ok (.bipush 60, 2) := by decide +kernel
theorem dX10_on_21 : decode cX10_on 21 = .ok (.invokestatic 54, 3) := by decide +kernel
theorem dX10_on_24 : decode cX10_on 24 = .ok (.ifCond .ne 6, 3) := by decide +kernel
theorem dX10_on_27 : decode cX10_on 27 = .ok (.bipush (-2), 2) := by decide +kernel
theorem dX10_on_29 : decode cX10_on 29 = .ok (.ireturn, 1) := by decide +kernel
theorem dX10_on_30 : decode cX10_on 30 = .ok (.aload_n 0, 1) := by decide +kernel
theorem dX10_on_31 : decode cX10_on 31 = .ok (.invokevirtual 169, 3) := by decide +kernel
theorem dX10_on_34 : decode cX10_on 34 = .ok (.aload_n 0, 1) := by decide +kernel
theorem dX10_on_35 : decode cX10_on 35 = .ok (.iload_n 1, 1) := by decide +kernel
theorem dX10_on_36 : decode cX10_on 36 = .ok (.invokevirtual 187, 3) := by decide +kernel
theorem dX10_on_39 : decode cX10_on 39 = .ok (.iload_n 2, 1) := by decide +kernel
theorem dX10_on_40 : decode cX10_on 40 = .ok (.ifCond .ne 10, 3) := by decide +kernel
theorem dX10_on_43 : decode cX10_on 43 = .ok (.aload_n 0, 1) := by decide +kernel
theorem dX10_on_44 : decode cX10_on 44 = .ok (.invokevirtual 172, 3) := by decide +kernel
theorem dX10_on_47 : decode cX10_on 47 = .ok (.goto 14, 3) := by decide +kernel
theorem dX10_on_50 : decode cX10_on 50 = .ok (.aload_n 0, 1) := by decide +kernel
theorem dX10_on_51 : decode cX10_on 51 = .ok (.getfield 9, 3) := by decide +kernel
theorem dX10_on_54 : decode cX10_on 54 = .ok (.iconst 1, 1) := by decide +kernel
theorem dX10_on_55 : decode cX10_on 55 = .ok (.iload_n 2, 1) := by decide +kernel
theorem dX10_on_56 : decode cX10_on 56 = .ok (.iadd, 1) := by decide +kernel
theorem dX10_on_57 : decode cX10_on 57 = .ok (.bipush 10, 2) := by decide +kernel
theorem dX10_on_59 : decode cX10_on 59 = .ok (.isub, 1) := by decide +kernel
theorem dX10_on_60 : decode cX10_on 60 = .ok (.iaload, 1) := by decide +kernel
theorem dX10_on_61 : decode cX10_on 61 = .ok (.istore_n 3, 1) := by decide +kernel
theorem dX10_on_62 : decode cX10_on 62 = .ok (.aload_n 0, 1) := by decide +kernel
theorem dX10_on_63 : decode cX10_on 63 = .ok (.invokevirtual 178, 3) := by decide +kernel
theorem dX10_on_66 : decode cX10_on 66 = .ok (.iload_n 3, 1) := by decide +kernel
theorem dX10_on_67 : decode cX10_on 67 = .ok (.ireturn, 1) := by decide +kernel
theorem dX10_stepsTo_0 : decode cX10_stepsTo 0 = .ok (.iload_n 3, 1) := by decide +kernel
theorem dX10_stepsTo_1 : decode cX10_stepsTo 1 = .ok (.istore 4, 2) := by decide +kernel
theorem dX10_stepsTo_3 : decode cX10_stepsTo 3 = .ok (.iconst 0, 1) := by decide +kernel
theorem dX10_stepsTo_4 : decode cX10_stepsTo 4 = .ok (.istore 5, 2) := by decide +kernel
theorem dX10_stepsTo_6 : decode cX10_stepsTo 6 = .ok (.iload 5, 2) := by decide +kernel
theorem dX10_stepsTo_8 : decode cX10_stepsTo 8 = .ok (.bipush 20, 2) := by decide +kernel
theorem dX10_stepsTo_10 : decode cX10_stepsTo 10 = .ok (.if_icmp .gt 45, 3) := by decide +kernel
theorem dX10_stepsTo_13 : decode cX10_stepsTo 13 = .ok (.iload 5, 2) := by decide +kernel
theorem dX10_stepsTo_15 : decode cX10_stepsTo 15 = .ok (.iload_n 3, 1) := by decide +kernel
theorem dX10_stepsTo_16 : decode cX10_stepsTo 16 = .ok (.if_icmp .ge 39, 3) := by decide +kernel
theorem dX10_stepsTo_19 : decode cX10_stepsTo 19 = .ok (.iload 4, 2) := by decide +kernel
theorem dX10_stepsTo_21 : decode cX10_stepsTo 21 = .ok (.iload_n 3, 1) := by decide +kernel
theorem dX10_stepsTo_22 : decode cX10_stepsTo 22 = .ok (.if_icmp .ne 33, 3) := by decide +kernel
theorem dX10_stepsTo_25 : decode cX10_stepsTo 25 = .ok (.aload_n 0, 1) := by decide +kernel
theorem dX10_stepsTo_26 : decode cX10_stepsTo 26 = .ok (.getfield 9, 3) := by decide +kernel
theorem dX10_stepsTo_29 : decode cX10_stepsTo 29 = .ok (.iconst 1, 1) := by decide +kernel
theorem dX10_stepsTo_30 : decode cX10_stepsTo 30 = .ok (.iload_n 1, 1) := by decide +kernel
theorem dX10_stepsTo_31 : decode cX10_stepsTo 31 = .ok (.iadd, 1) := by decide +kernel
theorem dX10_stepsTo_32 : decode cX10_stepsTo 32 = .ok (.iaload, 1) := by decide +kernel
theorem dX10_stepsTo_33 : decode cX10_stepsTo 33 = .ok (.iload_n 2, 1) := by decide +kernel
theorem dX10_stepsTo_34 : decode cX10_stepsTo 34 = .ok (.if_icmp .ne 8, 3) := by decide +kernel
theorem dX10_stepsTo_37 : decode cX10_stepsTo 37 = .ok (.iload 5, 2) := by decide +kernel
theorem dX10_stepsTo_39 : decode cX10_stepsTo 39 = .ok (.goto 4, 3) := by decide +kernel
theorem dX10_stepsTo_42 : decode cX10_stepsTo 42 = .ok (.iload_n 3, 1) := by decide +kernel
theorem dX10_stepsTo_43 : decode cX10_stepsTo 43 = .ok (.istore 4, 2) := by decide +kernel
theorem dX10_stepsTo_45 : decode cX10_stepsTo 45 = .ok (.aload_n 0, 1) := by decide +kernel
theorem dX10_stepsTo_46 : decode cX10_stepsTo 46 = .ok (.invokevirtual 175, 3) := by decide +kernel
theorem dX10_stepsTo_49 : decode cX10_stepsTo 49 = .ok (.iinc 5 1, 3) := by decide +kernel
theorem dX10_stepsTo_52 : decode cX10_stepsTo 52 = .ok (.goto (-46), 3) := by decide +kernel
theorem dX10_stepsTo_55 : decode cX10_stepsTo 55 = .ok (.aload_n 0, 1) := by decide +kernel
theorem dX10_stepsTo_56 : decode cX10_stepsTo 56 = .ok (.invokevirtual 178, 3) := by decide +kernel
theorem dX10_stepsTo_59 : decode cX10_stepsTo 59 = .ok (.iload 4, 2) := by decide +kernel
theorem dX10_stepsTo_61 : decode cX10_stepsTo 61 = .ok (.ireturn, 1) := by decide +kernel
theorem dX10_steer_0 : decode cX10_steer 0 = .ok (.aload_n 0, 1) := by decide +kernel
theorem dX10_steer_1 : decode cX10_steer 1 = .ok (.iload_n 1, 1) := by decide +kernel
theorem dX10_steer_2 : decode cX10_steer 2 = .ok (.invokevirtual 159, 3) := by decide +kernel
theorem dX10_steer_5 : decode cX10_steer 5 = .ok (.ifCond .eq 10, 3) := by decide +kernel
theorem dX10_steer_8 : decode cX10_steer 8 = .ok (.iload_n 2, 1) := by decide +kernel
theorem dX10_steer_9 : decode cX10_steer 9 = .ok (.invokestatic 155, 3) := by decide +kernel
theorem dX10_steer_12 : decode cX10_steer 12 = .ok (.ifCond .ne 5, 3) := by decide +kernel
theorem dX10_steer_15 : decode cX10_steer 15 = .ok (.iconst (-1), 1) := by decide +kernel
theorem dX10_steer_16 : decode cX10_steer 16 = .ok (.ireturn, 1) := by decide +kernel
theorem dX10_steer_17 : decode cX10_steer 17 = .ok (.aload_n 0, 1) := by decide +kernel
theorem dX10_steer_18 : decode cX10_steer 18 = .ok (.invokevirtual 190, 3) := by decide +kernel
theorem dX10_steer_21 : decode cX10_steer 21 = .ok (.aload_n 0, 1) := by decide +kernel
theorem dX10_steer_22 : decode cX10_steer 22 = .ok (.invokevirtual 169, 3) := by decide +kernel
theorem dX10_steer_25 : decode cX10_steer 25 = .ok (.aload_n 0, 1) := by decide +kernel
theorem dX10_steer_26 : decode cX10_steer 26 = .ok (.iload_n 1, 1) := by decide +kernel
theorem dX10_steer_27 : decode cX10_steer 27 = .ok (.iload_n 2, 1) := by decide +kernel
theorem dX10_steer_28 : decode cX10_steer 28 = .ok (.ldc 141, 2) := by decide +kernel
theorem dX10_steer_30 : decode cX10_steer 30 = .ok (.invokevirtual 193, 3) := by decide +kernel
theorem dX10_steer_33 : decode cX10_steer 33 = .ok (.istore_n 3, 1) := by decide +kernel
theorem dX10_steer_34 : decode cX10_steer 34 = .ok (.bipush (-5), 2) := by decide +kernel
theorem dX10_steer_36 : decode cX10_steer 36 = .ok (.istore 4, 2) := by decide +kernel
theorem dX10_steer_38 : decode cX10_steer 38 = .ok (.iconst 0, 1) := by decide +kernel
theorem dX10_steer_39 : decode cX10_steer 39 = .ok (.istore 5, 2) := by decide +kernel
theorem dX10_steer_41 : decode cX10_steer 41 = .ok (.iload 5, 2) := by decide +kernel
theorem dX10_steer_43 : decode cX10_steer 43 = .ok (.bipush 10, 2) := by decide +kernel
theorem dX10_steer_45 : decode cX10_steer 45 = .ok (.aload_n 0, 1) := by decide +kernel
theorem dX10_steer_46 : decode cX10_steer 46 = .ok (.getfield 9, 3) := by decide +kernel
theorem dX10_steer_49 : decode cX10_steer 49 = .ok (.bipush 19, 2) := by decide +kernel
theorem dX10_steer_51 : decode cX10_steer 51 = .ok (.iaload, 1) := by decide +kernel
theorem dX10_steer_52 : decode cX10_steer 52 = .ok (.imul, 1) := by decide +kernel
theorem dX10_steer_53 : decode cX10_steer 53 = .ok (.if_icmp .ge 73, 3) := by decide +kernel
theorem dX10_steer_56 : decode cX10_steer 56 = .ok (.aload_n 0, 1) := by decide +kernel
theorem dX10_steer_57 : decode cX10_steer 57 = .ok (.getfield 9, 3) := by decide +kernel
theorem dX10_steer_60 : decode cX10_steer 60 = .ok (.bipush 7, 2) := by decide +kernel
theorem dX10_steer_62 : decode cX10_steer 62 = .ok (.iload 5, 2) := by decide +kernel
theorem dX10_steer_64 : decode cX10_steer 64 = .ok (.bipush 10, 2) := by decide +kernel
theorem dX10_steer_66 : decode cX10_steer 66 = .ok (.idiv, 1) := by decide +kernel
theorem dX10_steer_67 : decode cX10_steer 67 = .ok (.iadd, 1) := by decide +kernel
theorem dX10_steer_68 : decode cX10_steer 68 = .ok (.iaload, 1) := by decide +kernel
theorem dX10_steer_69 : decode cX10_steer 69 = .ok (.ifCond .ne 51, 3) := by decide +kernel
theorem dX10_steer_72 : decode cX10_steer 72 = .ok (.aload_n 0, 1) := by decide +kernel
theorem dX10_steer_73 : decode cX10_steer 73 = .ok (.invokevirtual 169, 3) := by decide +kernel
theorem dX10_steer_76 : decode cX10_steer 76 = .ok (.aload_n 0, 1) := by decide +kernel
theorem dX10_steer_77 : decode cX10_steer 77 = .ok (.getfield 9, 3) := by decide +kernel
theorem dX10_steer_80 : decode cX10_steer 80 = .ok (.iconst 1, 1) := by decide +kernel
theorem dX10_steer_81 : decode cX10_steer 81 = .ok (.iload 5, 2) := by decide +kernel
theorem dX10_steer_83 : decode cX10_steer 83 = .ok (.bipush 10, 2) := by decide +kernel
theorem dX10_steer_85 : decode cX10_steer 85 = .ok (.idiv, 1) := by decide +kernel
theorem dX10_steer_86 : decode cX10_steer 86 = .ok (.iadd, 1) := by decide +kernel
theorem dX10_steer_87 : decode cX10_steer 87 = .ok (.iload 5, 2) := by decide +kernel
theorem dX10_steer_89 : decode cX10_steer 89 = .ok (.bipush 10, 2) := by decide +kernel
theorem dX10_steer_91 : decode cX10_steer 91 = .ok (.irem, 1) := by decide +kernel
theorem dX10_steer_92 : decode cX10_steer 92 = .ok (.iastore, 1) := by decide +kernel
theorem dX10_steer_93 : decode cX10_steer 93 = .ok (.aload_n 0, 1) := by decide +kernel
theorem dX10_steer_94 : decode cX10_steer 94 = .ok (.iload_n 1, 1) := by decide +kernel
theorem dX10_steer_95 : decode cX10_steer 95 = .ok (.iload_n 2, 1) := by decide +kernel
theorem dX10_steer_96 : decode cX10_steer 96 = .ok (.iload_n 3, 1) := by decide +kernel
theorem dX10_steer_97 : decode cX10_steer 97 = .ok (.invokevirtual 193, 3) := by decide +kernel
theorem dX10_steer_100 : decode cX10_steer 100 = .ok (.istore 6, 2) := by decide +kernel
theorem dX10_steer_102 : decode cX10_steer 102 = .ok (.iload 6, 2) := by decide +kernel
theorem dX10_steer_104 : decode cX10_steer 104 = .ok (.iload_n 3, 1) := by decide +kernel
theorem dX10_steer_105 : decode cX10_steer 105 = .ok (.if_icmp .ge 8, 3) := by decide +kernel
theorem dX10_steer_108 : decode cX10_steer 108 = .ok (.iload 5, 2) := by decide +kernel
theorem dX10_steer_110 : decode cX10_steer 110 = .ok (.goto 5, 3) := by decide +kernel
theorem dX10_steer_113 : decode cX10_steer 113 = .ok (.iload 4, 2) := by decide +kernel
theorem dX10_steer_115 : decode cX10_steer 115 = .ok (.istore 4, 2) := by decide +kernel
theorem dX10_steer_117 : decode cX10_steer 117 = .ok (.iload 6, 2) := by decide +kernel
theorem dX10_steer_119 : decode cX10_steer 119 = .ok (.istore_n 3, 1) := by decide +kernel
theorem dX10_steer_120 : decode cX10_steer 120 = .ok (.iinc 5 1, 3) := by decide +kernel
theorem dX10_steer_123 : decode cX10_steer 123 = .ok (.goto (-82), 3) := by decide +kernel
theorem dX10_steer_126 : decode cX10_steer 126 = .ok (.aload_n 0, 1) := by decide +kernel
theorem dX10_steer_127 : decode cX10_steer 127 = .ok (.iload 4, 2) := by decide +kernel
theorem dX10_steer_129 : decode cX10_steer 129 = .ok (.invokevirtual 197, 3) := by decide +kernel
theorem dX10_steer_132 : decode cX10_steer 132 = .ok (.ireturn, 1) := by decide +kernel
theorem dX10_tells_0 : decode cX10_tells 0 = .ok (.aload_n 0, 1) := by decide +kernel
theorem dX10_tells_1 : decode cX10_tells 1 = .ok (.iload_n 1, 1) := by decide +kernel
theorem dX10_tells_2 : decode cX10_tells 2 = .ok (.invokevirtual 159, 3) := by decide +kernel
theorem dX10_tells_5 : decode cX10_tells 5 = .ok (.ifCond .ne 5, 3) := by decide +kernel
theorem dX10_tells_8 : decode cX10_tells 8 = .ok (.iconst (-1), 1) := by decide +kernel
theorem dX10_tells_9 : decode cX10_tells 9 = .ok (.ireturn, 1) := by decide +kernel
theorem dX10_tells_10 : decode cX10_tells 10 = .ok (.iload_n 2, 1) := by decide +kernel
theorem dX10_tells_11 : decode cX10_tells 11 = .ok (.iconst 0, 1) := by decide +kernel
theorem dX10_tells_12 : decode cX10_tells 12 = .ok (.bipush 20, 2) := by decide +kernel
theorem dX10_tells_14 : decode cX10_tells 14 = .ok (.invokestatic 54, 3) := by decide +kernel
theorem dX10_tells_17 : decode cX10_tells 17 = .ok (.ifCond .ne 6, 3) := by decide +kernel
theorem dX10_tells_20 : decode cX10_tells 20 = .ok (.bipush (-2), 2) := by decide +kernel
theorem dX10_tells_22 : decode cX10_tells 22 = .ok (.ireturn, 1) := by decide +kernel
theorem dX10_tells_23 : decode cX10_tells 23 = .ok (.aload_n 0, 1) := by decide +kernel
theorem dX10_tells_24 : decode cX10_tells 24 = .ok (.invokevirtual 190, 3) := by decide +kernel
theorem dX10_tells_27 : decode cX10_tells 27 = .ok (.iconst 0, 1) := by decide +kernel
theorem dX10_tells_28 : decode cX10_tells 28 = .ok (.istore_n 3, 1) := by decide +kernel
theorem dX10_tells_29 : decode cX10_tells 29 = .ok (.iconst 0, 1) := by decide +kernel
theorem dX10_tells_30 : decode cX10_tells 30 = .ok (.istore 4, 2) := by decide +kernel
theorem dX10_tells_32 : decode cX10_tells 32 = .ok (.iload 4, 2) := by decide +kernel
theorem dX10_tells_34 : decode cX10_tells 34 = .ok (.bipush 10, 2) := by decide +kernel
theorem dX10_tells_36 : decode cX10_tells 36 = .ok (.if_icmp .ge 119, 3) := by decide +kernel
theorem dX10_tells_39 : decode cX10_tells 39 = .ok (.aload_n 0, 1) := by decide +kernel
theorem dX10_tells_40 : decode cX10_tells 40 = .ok (.invokevirtual 169, 3) := by decide +kernel
theorem dX10_tells_43 : decode cX10_tells 43 = .ok (.aload_n 0, 1) := by decide +kernel
theorem dX10_tells_44 : decode cX10_tells 44 = .ok (.getfield 9, 3) := by decide +kernel
theorem dX10_tells_47 : decode cX10_tells 47 = .ok (.iconst 1, 1) := by decide +kernel
theorem dX10_tells_48 : decode cX10_tells 48 = .ok (.iload_n 1, 1) := by decide +kernel
theorem dX10_tells_49 : decode cX10_tells 49 = .ok (.iadd, 1) := by decide +kernel
theorem dX10_tells_50 : decode cX10_tells 50 = .ok (.iload 4, 2) := by decide +kernel
theorem dX10_tells_52 : decode cX10_tells 52 = .ok (.iastore, 1) := by decide +kernel
theorem dX10_tells_53 : decode cX10_tells 53 = .ok (.aload_n 0, 1) := by decide +kernel
theorem dX10_tells_54 : decode cX10_tells 54 = .ok (.iload_n 2, 1) := by decide +kernel
theorem dX10_tells_55 : decode cX10_tells 55 = .ok (.invokevirtual 187, 3) := by decide +kernel
theorem dX10_tells_58 : decode cX10_tells 58 = .ok (.iconst 0, 1) := by decide +kernel
theorem dX10_tells_59 : decode cX10_tells 59 = .ok (.istore 5, 2) := by decide +kernel
theorem dX10_tells_61 : decode cX10_tells 61 = .ok (.iload 5, 2) := by decide +kernel
theorem dX10_tells_63 : decode cX10_tells 63 = .ok (.aload_n 0, 1) := by decide +kernel
theorem dX10_tells_64 : decode cX10_tells 64 = .ok (.getfield 9, 3) := by decide +kernel
theorem dX10_tells_67 : decode cX10_tells 67 = .ok (.bipush 19, 2) := by decide +kernel
theorem dX10_tells_69 : decode cX10_tells 69 = .ok (.iaload, 1) := by decide +kernel
theorem dX10_tells_70 : decode cX10_tells 70 = .ok (.if_icmp .ge 75, 3) := by decide +kernel
theorem dX10_tells_73 : decode cX10_tells 73 = .ok (.iload_n 3, 1) := by decide +kernel
theorem dX10_tells_74 : decode cX10_tells 74 = .ok (.iload 4, 2) := by decide +kernel
theorem dX10_tells_76 : decode cX10_tells 76 = .ok (.ifCond .le 29, 3) := by decide +kernel
theorem dX10_tells_79 : decode cX10_tells 79 = .ok (.aload_n 0, 1) := by decide +kernel
theorem dX10_tells_80 : decode cX10_tells 80 = .ok (.getfield 9, 3) := by decide +kernel
theorem dX10_tells_83 : decode cX10_tells 83 = .ok (.iconst 1, 1) := by decide +kernel
theorem dX10_tells_84 : decode cX10_tells 84 = .ok (.iload 5, 2) := by decide +kernel
theorem dX10_tells_86 : decode cX10_tells 86 = .ok (.iadd, 1) := by decide +kernel
theorem dX10_tells_87 : decode cX10_tells 87 = .ok (.iaload, 1) := by decide +kernel
theorem dX10_tells_88 : decode cX10_tells 88 = .ok (.aload_n 0, 1) := by decide +kernel
theorem dX10_tells_89 : decode cX10_tells 89 = .ok (.getfield 35, 3) := by decide +kernel
theorem dX10_tells_92 : decode cX10_tells 92 = .ok (.iload 5, 2) := by decide +kernel
theorem dX10_tells_94 : decode cX10_tells 94 = .ok (.iaload, 1) := by decide +kernel
theorem dX10_tells_95 : decode cX10_tells 95 = .ok (.if_icmp .eq 10, 3) := by decide +kernel
theorem dX10_tells_98 : decode cX10_tells 98 = .ok (.iconst 1, 1) := by decide +kernel
theorem dX10_tells_99 : decode cX10_tells 99 = .ok (.iload 5, 2) := by decide +kernel
theorem dX10_tells_101 : decode cX10_tells 101 = .ok (.ishl, 1) := by decide +kernel
theorem dX10_tells_102 : decode cX10_tells 102 = .ok (.goto 4, 3) := by decide +kernel
theorem dX10_tells_105 : decode cX10_tells 105 = .ok (.iconst 0, 1) := by decide +kernel
theorem dX10_tells_106 : decode cX10_tells 106 = .ok (.ior, 1) := by decide +kernel
theorem dX10_tells_107 : decode cX10_tells 107 = .ok (.istore_n 3, 1) := by decide +kernel
theorem dX10_tells_108 : decode cX10_tells 108 = .ok (.aload_n 0, 1) := by decide +kernel
theorem dX10_tells_109 : decode cX10_tells 109 = .ok (.getfield 35, 3) := by decide +kernel
theorem dX10_tells_112 : decode cX10_tells 112 = .ok (.iload 5, 2) := by decide +kernel
theorem dX10_tells_114 : decode cX10_tells 114 = .ok (.iload 4, 2) := by decide +kernel
theorem dX10_tells_116 : decode cX10_tells 116 = .ok (.ifCond .ne 15, 3) := by decide +kernel
theorem dX10_tells_119 : decode cX10_tells 119 = .ok (.aload_n 0, 1) := by decide +kernel
theorem dX10_tells_120 : decode cX10_tells 120 = .ok (.getfield 9, 3) := by decide +kernel
theorem dX10_tells_123 : decode cX10_tells 123 = .ok (.iconst 1, 1) := by decide +kernel
theorem dX10_tells_124 : decode cX10_tells 124 = .ok (.iload 5, 2) := by decide +kernel
theorem dX10_tells_126 : decode cX10_tells 126 = .ok (.iadd, 1) := by decide +kernel
theorem dX10_tells_127 : decode cX10_tells 127 = .ok (.iaload, 1) := by decide +kernel
theorem dX10_tells_128 : decode cX10_tells 128 = .ok (.goto 10, 3) := by decide +kernel
theorem dX10_tells_131 : decode cX10_tells 131 = .ok (.aload_n 0, 1) := by decide +kernel
theorem dX10_tells_132 : decode cX10_tells 132 = .ok (.getfield 35, 3) := by decide +kernel
theorem dX10_tells_135 : decode cX10_tells 135 = .ok (.iload 5, 2) := by decide +kernel
theorem dX10_tells_137 : decode cX10_tells 137 = .ok (.iaload, 1) := by decide +kernel
theorem dX10_tells_138 : decode cX10_tells 138 = .ok (.iastore, 1) := by decide +kernel
theorem dX10_tells_139 : decode cX10_tells 139 = .ok (.iinc 5 1, 3) := by decide +kernel
theorem dX10_tells_142 : decode cX10_tells 142 = .ok (.goto (-81), 3) := by decide +kernel
theorem dX10_tells_145 : decode cX10_tells 145 = .ok (.aload_n 0, 1) := by decide +kernel
theorem dX10_tells_146 : decode cX10_tells 146 = .ok (.invokevirtual 178, 3) := by decide +kernel
theorem dX10_tells_149 : decode cX10_tells 149 = .ok (.iinc 4 1, 3) := by decide +kernel
theorem dX10_tells_152 : decode cX10_tells 152 = .ok (.goto (-120), 3) := by decide +kernel
theorem dX10_tells_155 : decode cX10_tells 155 = .ok (.aload_n 0, 1) := by decide +kernel
theorem dX10_tells_156 : decode cX10_tells 156 = .ok (.iload_n 3, 1) := by decide +kernel
theorem dX10_tells_157 : decode cX10_tells 157 = .ok (.invokevirtual 197, 3) := by decide +kernel
theorem dX10_tells_160 : decode cX10_tells 160 = .ok (.ireturn, 1) := by decide +kernel
theorem dX10_triesOrder_0 : decode cX10_triesOrder 0 = .ok (.aload_n 0, 1) := by decide +kernel
theorem dX10_triesOrder_1 : decode cX10_triesOrder 1 = .ok (.invokevirtual 169, 3) := by decide +kernel
theorem dX10_triesOrder_4 : decode cX10_triesOrder 4 = .ok (.iconst 0, 1) := by decide +kernel
theorem dX10_triesOrder_5 : decode cX10_triesOrder 5 = .ok (.istore_n 1, 1) := by decide +kernel
theorem dX10_triesOrder_6 : decode cX10_triesOrder 6 = .ok (.iload_n 1, 1) := by decide +kernel
theorem dX10_triesOrder_7 : decode cX10_triesOrder 7 = .ok (.aload_n 0, 1) := by decide +kernel
theorem dX10_triesOrder_8 : decode cX10_triesOrder 8 = .ok (.getfield 9, 3) := by decide +kernel
theorem dX10_triesOrder_11 : decode cX10_triesOrder 11 = .ok (.bipush 19, 2) := by decide +kernel
theorem dX10_triesOrder_13 : decode cX10_triesOrder 13 = .ok (.iaload, 1) := by decide +kernel
theorem dX10_triesOrder_14 : decode cX10_triesOrder 14 = .ok (.if_icmp .ge 29, 3) := by decide +kernel
theorem dX10_triesOrder_17 : decode cX10_triesOrder 17 = .ok (.aload_n 0, 1) := by decide +kernel
theorem dX10_triesOrder_18 : decode cX10_triesOrder 18 = .ok (.getfield 9, 3) := by decide +kernel
theorem dX10_triesOrder_21 : decode cX10_triesOrder 21 = .ok (.bipush 13, 2) := by decide +kernel
theorem dX10_triesOrder_23 : decode cX10_triesOrder 23 = .ok (.iload_n 1, 1) := by decide +kernel
theorem dX10_triesOrder_24 : decode cX10_triesOrder 24 = .ok (.iadd, 1) := by decide +kernel
theorem dX10_triesOrder_25 : decode cX10_triesOrder 25 = .ok (.aload_n 0, 1) := by decide +kernel
theorem dX10_triesOrder_26 : decode cX10_triesOrder 26 = .ok (.getfield 44, 3) := by decide +kernel
theorem dX10_triesOrder_29 : decode cX10_triesOrder 29 = .ok (.aload_n 0, 1) := by decide +kernel
theorem dX10_triesOrder_30 : decode cX10_triesOrder 30 = .ok (.getfield 38, 3) := by decide +kernel
theorem dX10_triesOrder_33 : decode cX10_triesOrder 33 = .ok (.iload_n 1, 1) := by decide +kernel
theorem dX10_triesOrder_34 : decode cX10_triesOrder 34 = .ok (.iaload, 1) := by decide +kernel
theorem dX10_triesOrder_35 : decode cX10_triesOrder 35 = .ok (.iaload, 1) := by decide +kernel
theorem dX10_triesOrder_36 : decode cX10_triesOrder 36 = .ok (.iastore, 1) := by decide +kernel
theorem dX10_triesOrder_37 : decode cX10_triesOrder 37 = .ok (.iinc 1 1, 3) := by decide +kernel
theorem dX10_triesOrder_40 : decode cX10_triesOrder 40 = .ok (.goto (-34), 3) := by decide +kernel
theorem dX10_triesOrder_43 : decode cX10_triesOrder 43 = .ok (.aload_n 0, 1) := by decide +kernel
theorem dX10_triesOrder_44 : decode cX10_triesOrder 44 = .ok (.iconst 3, 1) := by decide +kernel
theorem dX10_triesOrder_45 : decode cX10_triesOrder 45 = .ok (.invokevirtual 187, 3) := by decide +kernel
theorem dX10_triesOrder_48 : decode cX10_triesOrder 48 = .ok (.aload_n 0, 1) := by decide +kernel
theorem dX10_triesOrder_49 : decode cX10_triesOrder 49 = .ok (.invokevirtual 172, 3) := by decide +kernel
theorem dX10_triesOrder_52 : decode cX10_triesOrder 52 = .ok (.istore_n 1, 1) := by decide +kernel
theorem dX10_triesOrder_53 : decode cX10_triesOrder 53 = .ok (.aload_n 0, 1) := by decide +kernel
theorem dX10_triesOrder_54 : decode cX10_triesOrder 54 = .ok (.invokevirtual 178, 3) := by decide +kernel
theorem dX10_triesOrder_57 : decode cX10_triesOrder 57 = .ok (.iload_n 1, 1) := by decide +kernel
theorem dX10_triesOrder_58 : decode cX10_triesOrder 58 = .ok (.aload_n 0, 1) := by decide +kernel
theorem dX10_triesOrder_59 : decode cX10_triesOrder 59 = .ok (.getfield 200, 3) := by decide +kernel
theorem dX10_triesOrder_62 : decode cX10_triesOrder 62 = .ok (.if_icmp .ge 34, 3) := by decide +kernel
theorem dX10_triesOrder_65 : decode cX10_triesOrder 65 = .ok (.aload_n 0, 1) := by decide +kernel
theorem dX10_triesOrder_66 : decode cX10_triesOrder 66 = .ok (.iload_n 1, 1) := by decide +kernel
theorem dX10_triesOrder_67 : decode cX10_triesOrder 67 = .ok (.putfield 200, 3) := by decide +kernel
theorem dX10_triesOrder_70 : decode cX10_triesOrder 70 = .ok (.iconst 0, 1) := by decide +kernel
theorem dX10_triesOrder_71 : decode cX10_triesOrder 71 = .ok (.istore_n 2, 1) := by decide +kernel
theorem dX10_triesOrder_72 : decode cX10_triesOrder 72 = .ok (.iload_n 2, 1) := by decide +kernel
theorem dX10_triesOrder_73 : decode cX10_triesOrder 73 = .ok (.bipush 6, 2) := by decide +kernel
theorem dX10_triesOrder_75 : decode cX10_triesOrder 75 = .ok (.if_icmp .ge 21, 3) := by decide +kernel
theorem dX10_triesOrder_78 : decode cX10_triesOrder 78 = .ok (.aload_n 0, 1) := by decide +kernel
theorem dX10_triesOrder_79 : decode cX10_triesOrder 79 = .ok (.getfield 41, 3) := by decide +kernel
theorem dX10_triesOrder_82 : decode cX10_triesOrder 82 = .ok (.iload_n 2, 1) := by decide +kernel
theorem dX10_triesOrder_83 : decode cX10_triesOrder 83 = .ok (.aload_n 0, 1) := by decide +kernel
theorem dX10_triesOrder_84 : decode cX10_triesOrder 84 = .ok (.getfield 38, 3) := by decide +kernel
theorem dX10_triesOrder_87 : decode cX10_triesOrder 87 = .ok (.iload_n 2, 1) := by decide +kernel
theorem dX10_triesOrder_88 : decode cX10_triesOrder 88 = .ok (.iaload, 1) := by decide +kernel
theorem dX10_triesOrder_89 : decode cX10_triesOrder 89 = .ok (.iastore, 1) := by decide +kernel
theorem dX10_triesOrder_90 : decode cX10_triesOrder 90 = .ok (.iinc 2 1, 3) := by decide +kernel
theorem dX10_triesOrder_93 : decode cX10_triesOrder 93 = .ok (.goto (-21), 3) := by decide +kernel
theorem dX10_triesOrder_96 : decode cX10_triesOrder 96 = .ok (.return_, 1) := by decide +kernel
theorem dX10_ordersFrom_0 : decode cX10_ordersFrom 0 = .ok (.iload_n 2, 1) := by decide +kernel
theorem dX10_ordersFrom_1 : decode cX10_ordersFrom 1 = .ok (.ifCond .ne 7, 3) := by decide +kernel
theorem dX10_ordersFrom_4 : decode cX10_ordersFrom 4 = .ok (.aload_n 0, 1) := by decide +kernel
theorem dX10_ordersFrom_5 : decode cX10_ordersFrom 5 = .ok (.invokevirtual 203, 3) := by decide +kernel
theorem dX10_ordersFrom_8 : decode cX10_ordersFrom 8 = .ok (.iconst 0, 1) := by decide +kernel
theorem dX10_ordersFrom_9 : decode cX10_ordersFrom 9 = .ok (.istore_n 3, 1) := by decide +kernel
theorem dX10_ordersFrom_10 : decode cX10_ordersFrom 10 = .ok (.iload_n 3, 1) := by decide +kernel
theorem dX10_ordersFrom_11 : decode cX10_ordersFrom 11 = .ok (.aload_n 0, 1) := by decide +kernel
theorem dX10_ordersFrom_12 : decode cX10_ordersFrom 12 = .ok (.getfield 9, 3) := by decide +kernel
theorem dX10_ordersFrom_15 : decode cX10_ordersFrom 15 = .ok (.bipush 19, 2) := by decide +kernel
theorem dX10_ordersFrom_17 : decode cX10_ordersFrom 17 = .ok (.iaload, 1) := by decide +kernel
theorem dX10_ordersFrom_18 : decode cX10_ordersFrom 18 = .ok (.if_icmp .ge 39, 3) := by decide +kernel
theorem dX10_ordersFrom_21 : decode cX10_ordersFrom 21 = .ok (.iload_n 2, 1) := by decide +kernel
theorem dX10_ordersFrom_22 : decode cX10_ordersFrom 22 = .ok (.iload_n 3, 1) := by decide +kernel
theorem dX10_ordersFrom_23 : decode cX10_ordersFrom 23 = .ok (.ishr, 1) := by decide +kernel
theorem dX10_ordersFrom_24 : decode cX10_ordersFrom 24 = .ok (.iconst 1, 1) := by decide +kernel
theorem dX10_ordersFrom_25 : decode cX10_ordersFrom 25 = .ok (.iand, 1) := by decide +kernel
theorem dX10_ordersFrom_26 : decode cX10_ordersFrom 26 = .ok (.iconst 1, 1) := by decide +kernel
theorem dX10_ordersFrom_27 : decode cX10_ordersFrom 27 = .ok (.if_icmp .ne 24, 3) := by decide +kernel
theorem dX10_ordersFrom_30 : decode cX10_ordersFrom 30 = .ok (.aload_n 0, 1) := by decide +kernel
theorem dX10_ordersFrom_31 : decode cX10_ordersFrom 31 = .ok (.getfield 38, 3) := by decide +kernel
theorem dX10_ordersFrom_34 : decode cX10_ordersFrom 34 = .ok (.iload_n 1, 1) := by decide +kernel
theorem dX10_ordersFrom_35 : decode cX10_ordersFrom 35 = .ok (.iload_n 3, 1) := by decide +kernel
theorem dX10_ordersFrom_36 : decode cX10_ordersFrom 36 = .ok (.iastore, 1) := by decide +kernel
theorem dX10_ordersFrom_37 : decode cX10_ordersFrom 37 = .ok (.aload_n 0, 1) := by decide +kernel
theorem dX10_ordersFrom_38 : decode cX10_ordersFrom 38 = .ok (.iload_n 1, 1) := by decide +kernel
theorem dX10_ordersFrom_39 : decode cX10_ordersFrom 39 = .ok (.iconst 1, 1) := by decide +kernel
theorem dX10_ordersFrom_40 : decode cX10_ordersFrom 40 = .ok (.iadd, 1) := by decide +kernel
theorem dX10_ordersFrom_41 : decode cX10_ordersFrom 41 = .ok (.iload_n 2, 1) := by decide +kernel
theorem dX10_ordersFrom_42 : decode cX10_ordersFrom 42 = .ok (.iconst 1, 1) := by decide +kernel
theorem dX10_ordersFrom_43 : decode cX10_ordersFrom 43 = .ok (.iload_n 3, 1) := by decide +kernel
theorem dX10_ordersFrom_44 : decode cX10_ordersFrom 44 = .ok (.ishl, 1) := by decide +kernel
theorem dX10_ordersFrom_45 : decode cX10_ordersFrom 45 = .ok (.iconst (-1), 1) := by decide +kernel
theorem dX10_ordersFrom_46 : decode cX10_ordersFrom 46 = .ok (.ixor, 1) := by decide +kernel
theorem dX10_ordersFrom_47 : decode cX10_ordersFrom 47 = .ok (.iand, 1) := by decide +kernel
theorem dX10_ordersFrom_48 : decode cX10_ordersFrom 48 = .ok (.invokevirtual 206, 3) := by decide +kernel
theorem dX10_ordersFrom_51 : decode cX10_ordersFrom 51 = .ok (.iinc 3 1, 3) := by decide +kernel
theorem dX10_ordersFrom_54 : decode cX10_ordersFrom 54 = .ok (.goto (-44), 3) := by decide +kernel
theorem dX10_ordersFrom_57 : decode cX10_ordersFrom 57 = .ok (.return_, 1) := by decide +kernel
theorem dX10_roomed_0 : decode cX10_roomed 0 = .ok (.iload_n 1, 1) := by decide +kernel
theorem dX10_roomed_1 : decode cX10_roomed 1 = .ok (.iconst (-1), 1) := by decide +kernel
theorem dX10_roomed_2 : decode cX10_roomed 2 = .ok (.iconst 5, 1) := by decide +kernel
theorem dX10_roomed_3 : decode cX10_roomed 3 = .ok (.invokestatic 54, 3) := by decide +kernel
theorem dX10_roomed_6 : decode cX10_roomed 6 = .ok (.ifCond .ne 5, 3) := by decide +kernel
theorem dX10_roomed_9 : decode cX10_roomed 9 = .ok (.iconst (-1), 1) := by decide +kernel
theorem dX10_roomed_10 : decode cX10_roomed 10 = .ok (.ireturn, 1) := by decide +kernel
theorem dX10_roomed_11 : decode cX10_roomed 11 = .ok (.iconst 0, 1) := by decide +kernel
theorem dX10_roomed_12 : decode cX10_roomed 12 = .ok (.istore_n 2, 1) := by decide +kernel
theorem dX10_roomed_13 : decode cX10_roomed 13 = .ok (.iload_n 2, 1) := by decide +kernel
theorem dX10_roomed_14 : decode cX10_roomed 14 = .ok (.bipush 6, 2) := by decide +kernel
theorem dX10_roomed_16 : decode cX10_roomed 16 = .ok (.if_icmp .ge 24, 3) := by decide +kernel
theorem dX10_roomed_19 : decode cX10_roomed 19 = .ok (.aload_n 0, 1) := by decide +kernel
theorem dX10_roomed_20 : decode cX10_roomed 20 = .ok (.getfield 44, 3) := by decide +kernel
theorem dX10_roomed_23 : decode cX10_roomed 23 = .ok (.iload_n 2, 1) := by decide +kernel
theorem dX10_roomed_24 : decode cX10_roomed 24 = .ok (.aload_n 0, 1) := by decide +kernel
theorem dX10_roomed_25 : decode cX10_roomed 25 = .ok (.getfield 9, 3) := by decide +kernel
theorem dX10_roomed_28 : decode cX10_roomed 28 = .ok (.bipush 13, 2) := by decide +kernel
theorem dX10_roomed_30 : decode cX10_roomed 30 = .ok (.iload_n 2, 1) := by decide +kernel
theorem dX10_roomed_31 : decode cX10_roomed 31 = .ok (.iadd, 1) := by decide +kernel
theorem dX10_roomed_32 : decode cX10_roomed 32 = .ok (.iaload, 1) := by decide +kernel
theorem dX10_roomed_33 : decode cX10_roomed 33 = .ok (.iastore, 1) := by decide +kernel
theorem dX10_roomed_34 : decode cX10_roomed 34 = .ok (.iinc 2 1, 3) := by decide +kernel
theorem dX10_roomed_37 : decode cX10_roomed 37 = .ok (.goto (-24), 3) := by decide +kernel
theorem dX10_roomed_40 : decode cX10_roomed 40 = .ok (.aload_n 0, 1) := by decide +kernel
theorem dX10_roomed_41 : decode cX10_roomed 41 = .ok (.ldc 141, 2) := by decide +kernel
theorem dX10_roomed_43 : decode cX10_roomed 43 = .ok (.putfield 200, 3) := by decide +kernel
theorem dX10_roomed_46 : decode cX10_roomed 46 = .ok (.aload_n 0, 1) := by decide +kernel
theorem dX10_roomed_47 : decode cX10_roomed 47 = .ok (.invokevirtual 190, 3) := by decide +kernel
theorem dX10_roomed_50 : decode cX10_roomed 50 = .ok (.aload_n 0, 1) := by decide +kernel
theorem dX10_roomed_51 : decode cX10_roomed 51 = .ok (.iconst 0, 1) := by decide +kernel
theorem dX10_roomed_52 : decode cX10_roomed 52 = .ok (.iconst 1, 1) := by decide +kernel
theorem dX10_roomed_53 : decode cX10_roomed 53 = .ok (.aload_n 0, 1) := by decide +kernel
theorem dX10_roomed_54 : decode cX10_roomed 54 = .ok (.getfield 9, 3) := by decide +kernel
theorem dX10_roomed_57 : decode cX10_roomed 57 = .ok (.bipush 19, 2) := by decide +kernel
theorem dX10_roomed_59 : decode cX10_roomed 59 = .ok (.iaload, 1) := by decide +kernel
theorem dX10_roomed_60 : decode cX10_roomed 60 = .ok (.ishl, 1) := by decide +kernel
theorem dX10_roomed_61 : decode cX10_roomed 61 = .ok (.iconst 1, 1) := by decide +kernel
theorem dX10_roomed_62 : decode cX10_roomed 62 = .ok (.isub, 1) := by decide +kernel
theorem dX10_roomed_63 : decode cX10_roomed 63 = .ok (.invokevirtual 206, 3) := by decide +kernel
theorem dX10_roomed_66 : decode cX10_roomed 66 = .ok (.aload_n 0, 1) := by decide +kernel
theorem dX10_roomed_67 : decode cX10_roomed 67 = .ok (.iload_n 1, 1) := by decide +kernel
theorem dX10_roomed_68 : decode cX10_roomed 68 = .ok (.iconst (-1), 1) := by decide +kernel
theorem dX10_roomed_69 : decode cX10_roomed 69 = .ok (.if_icmp .ne 10, 3) := by decide +kernel
theorem dX10_roomed_72 : decode cX10_roomed 72 = .ok (.aload_n 0, 1) := by decide +kernel
theorem dX10_roomed_73 : decode cX10_roomed 73 = .ok (.getfield 200, 3) := by decide +kernel
theorem dX10_roomed_76 : decode cX10_roomed 76 = .ok (.goto 25, 3) := by decide +kernel
theorem dX10_roomed_79 : decode cX10_roomed 79 = .ok (.iload_n 1, 1) := by decide +kernel
theorem dX10_roomed_80 : decode cX10_roomed 80 = .ok (.aload_n 0, 1) := by decide +kernel
theorem dX10_roomed_81 : decode cX10_roomed 81 = .ok (.getfield 9, 3) := by decide +kernel
theorem dX10_roomed_84 : decode cX10_roomed 84 = .ok (.bipush 19, 2) := by decide +kernel
theorem dX10_roomed_86 : decode cX10_roomed 86 = .ok (.iaload, 1) := by decide +kernel
theorem dX10_roomed_87 : decode cX10_roomed 87 = .ok (.if_icmp .ge 12, 3) := by decide +kernel
theorem dX10_roomed_90 : decode cX10_roomed 90 = .ok (.aload_n 0, 1) := by decide +kernel
theorem dX10_roomed_91 : decode cX10_roomed 91 = .ok (.getfield 41, 3) := by decide +kernel
theorem dX10_roomed_94 : decode cX10_roomed 94 = .ok (.iload_n 1, 1) := by decide +kernel
theorem dX10_roomed_95 : decode cX10_roomed 95 = .ok (.iaload, 1) := by decide +kernel
theorem dX10_roomed_96 : decode cX10_roomed 96 = .ok (.goto 5, 3) := by decide +kernel
theorem dX10_roomed_99 : decode cX10_roomed 99 = .ok (.bipush (-5), 2) := by decide +kernel
theorem dX10_roomed_101 : decode cX10_roomed 101 = .ok (.invokevirtual 197, 3) := by decide +kernel
theorem dX10_roomed_104 : decode cX10_roomed 104 = .ok (.ireturn, 1) := by decide +kernel
theorem dX10_see_0 : decode cX10_see 0 = .ok (.iload_n 1, 1) := by decide +kernel
theorem dX10_see_1 : decode cX10_see 1 = .ok (.iconst (-1), 1) := by decide +kernel
theorem dX10_see_2 : decode cX10_see 2 = .ok (.if_icmp .ne 13, 3) := by decide +kernel
theorem dX10_see_5 : decode cX10_see 5 = .ok (.aload_n 0, 1) := by decide +kernel
theorem dX10_see_6 : decode cX10_see 6 = .ok (.getfield 9, 3) := by decide +kernel
theorem dX10_see_9 : decode cX10_see 9 = .ok (.bipush 21, 2) := by decide +kernel
theorem dX10_see_11 : decode cX10_see 11 = .ok (.iconst 0, 1) := by decide +kernel
theorem dX10_see_12 : decode cX10_see 12 = .ok (.iastore, 1) := by decide +kernel
theorem dX10_see_13 : decode cX10_see 13 = .ok (.iconst 0, 1) := by decide +kernel
theorem dX10_see_14 : decode cX10_see 14 = .ok (.ireturn, 1) := by decide +kernel
theorem dX10_see_15 : decode cX10_see 15 = .ok (.aload_n 0, 1) := by decide +kernel
theorem dX10_see_16 : decode cX10_see 16 = .ok (.iload_n 1, 1) := by decide +kernel
theorem dX10_see_17 : decode cX10_see 17 = .ok (.invokevirtual 159, 3) := by decide +kernel
theorem dX10_see_20 : decode cX10_see 20 = .ok (.ifCond .eq 10, 3) := by decide +kernel
theorem dX10_see_23 : decode cX10_see 23 = .ok (.iload_n 3, 1) := by decide +kernel
theorem dX10_see_24 : decode cX10_see 24 = .ok (.invokestatic 155, 3) := by decide +kernel
theorem dX10_see_27 : decode cX10_see 27 = .ok (.ifCond .ne 5, 3) := by decide +kernel
theorem dX10_see_30 : decode cX10_see 30 = .ok (.iconst (-1), 1) := by decide +kernel
theorem dX10_see_31 : decode cX10_see 31 = .ok (.ireturn, 1) := by decide +kernel
theorem dX10_see_32 : decode cX10_see 32 = .ok (.iload_n 2, 1) := by decide +kernel
theorem dX10_see_33 : decode cX10_see 33 = .ok (.iconst 0, 1) := by decide +kernel
theorem dX10_see_34 : decode cX10_see 34 = .ok (.bipush 20, 2) := by decide +kernel
theorem dX10_see_36 : decode cX10_see 36 = .ok (.invokestatic 54, 3) := by decide +kernel
theorem dX10_see_39 : decode cX10_see 39 = .ok (.ifCond .ne 6, 3) := by decide +kernel
theorem dX10_see_42 : decode cX10_see 42 = .ok (.bipush (-2), 2) := by decide +kernel
theorem dX10_see_44 : decode cX10_see 44 = .ok (.ireturn, 1) := by decide +kernel
theorem dX10_see_45 : decode cX10_see 45 = .ok (.aload_n 0, 1) := by decide +kernel
theorem dX10_see_46 : decode cX10_see 46 = .ok (.getfield 9, 3) := by decide +kernel
theorem dX10_see_49 : decode cX10_see 49 = .ok (.bipush 21, 2) := by decide +kernel
theorem dX10_see_51 : decode cX10_see 51 = .ok (.iaload, 1) := by decide +kernel
theorem dX10_see_52 : decode cX10_see 52 = .ok (.bipush 6, 2) := by decide +kernel
theorem dX10_see_54 : decode cX10_see 54 = .ok (.if_icmp .ne 6, 3) := by decide +kernel
theorem dX10_see_57 : decode cX10_see 57 = .ok (.bipush (-4), 2) := by decide +kernel
theorem dX10_see_59 : decode cX10_see 59 = .ok (.ireturn, 1) := by decide +kernel
theorem dX10_see_60 : decode cX10_see 60 = .ok (.aload_n 0, 1) := by decide +kernel
theorem dX10_see_61 : decode cX10_see 61 = .ok (.getfield 9, 3) := by decide +kernel
theorem dX10_see_64 : decode cX10_see 64 = .ok (.bipush 62, 2) := by decide +kernel
theorem dX10_see_66 : decode cX10_see 66 = .ok (.aload_n 0, 1) := by decide +kernel
theorem dX10_see_67 : decode cX10_see 67 = .ok (.getfield 9, 3) := by decide +kernel
theorem dX10_see_70 : decode cX10_see 70 = .ok (.bipush 21, 2) := by decide +kernel
theorem dX10_see_72 : decode cX10_see 72 = .ok (.iaload, 1) := by decide +kernel
theorem dX10_see_73 : decode cX10_see 73 = .ok (.iadd, 1) := by decide +kernel
theorem dX10_see_74 : decode cX10_see 74 = .ok (.iload_n 1, 1) := by decide +kernel
theorem dX10_see_75 : decode cX10_see 75 = .ok (.iastore, 1) := by decide +kernel
theorem dX10_see_76 : decode cX10_see 76 = .ok (.aload_n 0, 1) := by decide +kernel
theorem dX10_see_77 : decode cX10_see 77 = .ok (.getfield 9, 3) := by decide +kernel
theorem dX10_see_80 : decode cX10_see 80 = .ok (.bipush 68, 2) := by decide +kernel
theorem dX10_see_82 : decode cX10_see 82 = .ok (.aload_n 0, 1) := by decide +kernel
theorem dX10_see_83 : decode cX10_see 83 = .ok (.getfield 9, 3) := by decide +kernel
theorem dX10_see_86 : decode cX10_see 86 = .ok (.bipush 21, 2) := by decide +kernel
theorem dX10_see_88 : decode cX10_see 88 = .ok (.iaload, 1) := by decide +kernel
theorem dX10_see_89 : decode cX10_see 89 = .ok (.iadd, 1) := by decide +kernel
theorem dX10_see_90 : decode cX10_see 90 = .ok (.iload_n 2, 1) := by decide +kernel
theorem dX10_see_91 : decode cX10_see 91 = .ok (.iastore, 1) := by decide +kernel
theorem dX10_see_92 : decode cX10_see 92 = .ok (.aload_n 0, 1) := by decide +kernel
theorem dX10_see_93 : decode cX10_see 93 = .ok (.getfield 9, 3) := by decide +kernel
theorem dX10_see_96 : decode cX10_see 96 = .ok (.bipush 74, 2) := by decide +kernel
theorem dX10_see_98 : decode cX10_see 98 = .ok (.aload_n 0, 1) := by decide +kernel
theorem dX10_see_99 : decode cX10_see 99 = .ok (.getfield 9, 3) := by decide +kernel
theorem dX10_see_102 : decode cX10_see 102 = .ok (.bipush 21, 2) := by decide +kernel
theorem dX10_see_104 : decode cX10_see 104 = .ok (.iaload, 1) := by decide +kernel
theorem dX10_see_105 : decode cX10_see 105 = .ok (.iadd, 1) := by decide +kernel
theorem dX10_see_106 : decode cX10_see 106 = .ok (.iload_n 3, 1) := by decide +kernel
theorem dX10_see_107 : decode cX10_see 107 = .ok (.iastore, 1) := by decide +kernel
theorem dX10_see_108 : decode cX10_see 108 = .ok (.aload_n 0, 1) := by decide +kernel
theorem dX10_see_109 : decode cX10_see 109 = .ok (.getfield 9, 3) := by decide +kernel
theorem dX10_see_112 : decode cX10_see 112 = .ok (.bipush 21, 2) := by decide +kernel
theorem dX10_see_114 : decode cX10_see 114 = .ok (.dup2, 1) := by decide +kernel
theorem dX10_see_115 : decode cX10_see 115 = .ok (.iaload, 1) := by decide +kernel
theorem dX10_see_116 : decode cX10_see 116 = .ok (.iconst 1, 1) := by decide +kernel
theorem dX10_see_117 : decode cX10_see 117 = .ok (.iadd, 1) := by decide +kernel
theorem dX10_see_118 : decode cX10_see 118 = .ok (.iastore, 1) := by decide +kernel
theorem dX10_see_119 : decode cX10_see 119 = .ok (.aload_n 0, 1) := by decide +kernel
theorem dX10_see_120 : decode cX10_see 120 = .ok (.getfield 9, 3) := by decide +kernel
theorem dX10_see_123 : decode cX10_see 123 = .ok (.bipush 21, 2) := by decide +kernel
theorem dX10_see_125 : decode cX10_see 125 = .ok (.iaload, 1) := by decide +kernel
theorem dX10_see_126 : decode cX10_see 126 = .ok (.ireturn, 1) := by decide +kernel
theorem dX10_isAsSeen_0 : decode cX10_isAsSeen 0 = .ok (.iconst 1, 1) := by decide +kernel
theorem dX10_isAsSeen_1 : decode cX10_isAsSeen 1 = .ok (.istore_n 2, 1) := by decide +kernel
theorem dX10_isAsSeen_2 : decode cX10_isAsSeen 2 = .ok (.iconst 0, 1) := by decide +kernel
theorem dX10_isAsSeen_3 : decode cX10_isAsSeen 3 = .ok (.istore_n 3, 1) := by decide +kernel
theorem dX10_isAsSeen_4 : decode cX10_isAsSeen 4 = .ok (.iload_n 3, 1) := by decide +kernel
theorem dX10_isAsSeen_5 : decode cX10_isAsSeen 5 = .ok (.aload_n 0, 1) := by decide +kernel
theorem dX10_isAsSeen_6 : decode cX10_isAsSeen 6 = .ok (.getfield 9, 3) := by decide +kernel
theorem dX10_isAsSeen_9 : decode cX10_isAsSeen 9 = .ok (.bipush 21, 2) := by decide +kernel
theorem dX10_isAsSeen_11 : decode cX10_isAsSeen 11 = .ok (.iaload, 1) := by decide +kernel
theorem dX10_isAsSeen_12 : decode cX10_isAsSeen 12 = .ok (.if_icmp .ge 60, 3) := by decide +kernel
theorem dX10_isAsSeen_15 : decode cX10_isAsSeen 15 = .ok (.iload_n 2, 1) := by decide +kernel
theorem dX10_isAsSeen_16 : decode cX10_isAsSeen 16 = .ok (.ifCond .eq 48, 3) := by decide +kernel
theorem dX10_isAsSeen_19 : decode cX10_isAsSeen 19 = .ok (.aload_n 0, 1) := by decide +kernel
theorem dX10_isAsSeen_20 : decode cX10_isAsSeen 20 = .ok (.getfield 9, 3) := by decide +kernel
theorem dX10_isAsSeen_23 : decode cX10_isAsSeen 23 = .ok (.bipush 68, 2) := by decide +kernel
theorem dX10_isAsSeen_25 : decode cX10_isAsSeen 25 = .ok (.iload_n 3, 1) := by decide +kernel
theorem dX10_isAsSeen_26 : decode cX10_isAsSeen 26 = .ok (.iadd, 1) := by decide +kernel
theorem dX10_isAsSeen_27 : decode cX10_isAsSeen 27 = .ok (.iaload, 1) := by decide +kernel
theorem dX10_isAsSeen_28 : decode cX10_isAsSeen 28 = .ok (.iload_n 1, 1) := by decide +kernel
theorem dX10_isAsSeen_29 : decode cX10_isAsSeen 29 = .ok (.if_icmp .ne 31, 3) := by decide +kernel
theorem dX10_isAsSeen_32 : decode cX10_isAsSeen 32 = .ok (.aload_n 0, 1) := by decide +kernel
theorem dX10_isAsSeen_33 : decode cX10_isAsSeen 33 = .ok (.getfield 9, 3) := by decide +kernel
theorem dX10_isAsSeen_36 : decode cX10_isAsSeen 36 = .ok (.iconst 1, 1) := by decide +kernel
theorem dX10_isAsSeen_37 : decode cX10_isAsSeen 37 = .ok (.aload_n 0, 1) := by decide +kernel
theorem dX10_isAsSeen_38 : decode cX10_isAsSeen 38 = .ok (.getfield 9, 3) := by decide +kernel
theorem dX10_isAsSeen_41 : decode cX10_isAsSeen 41 = .ok (.bipush 62, 2) := by decide +kernel
theorem dX10_isAsSeen_43 : decode cX10_isAsSeen 43 = .ok (.iload_n 3, 1) := by decide +kernel
theorem dX10_isAsSeen_44 : decode cX10_isAsSeen 44 = .ok (.iadd, 1) := by decide +kernel
theorem dX10_isAsSeen_45 : decode cX10_isAsSeen 45 = .ok (.iaload, 1) := by decide +kernel
theorem dX10_isAsSeen_46 : decode cX10_isAsSeen 46 = .ok (.iadd, 1) := by decide +kernel
theorem dX10_isAsSeen_47 : decode cX10_isAsSeen 47 = .ok (.iaload, 1) := by decide +kernel
theorem dX10_isAsSeen_48 : decode cX10_isAsSeen 48 = .ok (.aload_n 0, 1) := by decide +kernel
theorem dX10_isAsSeen_49 : decode cX10_isAsSeen 49 = .ok (.getfield 9, 3) := by decide +kernel
theorem dX10_isAsSeen_52 : decode cX10_isAsSeen 52 = .ok (.bipush 74, 2) := by decide +kernel
theorem dX10_isAsSeen_54 : decode cX10_isAsSeen 54 = .ok (.iload_n 3, 1) := by decide +kernel
theorem dX10_isAsSeen_55 : decode cX10_isAsSeen 55 = .ok (.iadd, 1) := by decide +kernel
theorem dX10_isAsSeen_56 : decode cX10_isAsSeen 56 = .ok (.iaload, 1) := by decide +kernel
theorem dX10_isAsSeen_57 : decode cX10_isAsSeen 57 = .ok (.if_icmp .ne 7, 3) := by decide +kernel
theorem dX10_isAsSeen_60 : decode cX10_isAsSeen 60 = .ok (.iconst 1, 1) := by decide +kernel
theorem dX10_isAsSeen_61 : decode cX10_isAsSeen 61 = .ok (.goto 4, 3) := by decide +kernel
theorem dX10_isAsSeen_64 : decode cX10_isAsSeen 64 = .ok (.iconst 0, 1) := by decide +kernel
theorem dX10_isAsSeen_65 : decode cX10_isAsSeen 65 = .ok (.istore_n 2, 1) := by decide +kernel
theorem dX10_isAsSeen_66 : decode cX10_isAsSeen 66 = .ok (.iinc 3 1, 3) := by decide +kernel
theorem dX10_isAsSeen_69 : decode cX10_isAsSeen 69 = .ok (.goto (-65), 3) := by decide +kernel
theorem dX10_isAsSeen_72 : decode cX10_isAsSeen 72 = .ok (.iload_n 2, 1) := by decide +kernel
theorem dX10_isAsSeen_73 : decode cX10_isAsSeen 73 = .ok (.ireturn, 1) := by decide +kernel
theorem dX10_areAsSeen_0 : decode cX10_areAsSeen 0 = .ok (.iconst 1, 1) := by decide +kernel
theorem dX10_areAsSeen_1 : decode cX10_areAsSeen 1 = .ok (.istore_n 1, 1) := by decide +kernel
theorem dX10_areAsSeen_2 : decode cX10_areAsSeen 2 = .ok (.iconst 0, 1) := by decide +kernel
theorem dX10_areAsSeen_3 : decode cX10_areAsSeen 3 = .ok (.istore_n 2, 1) := by decide +kernel
theorem dX10_areAsSeen_4 : decode cX10_areAsSeen 4 = .ok (.iload_n 2, 1) := by decide +kernel
theorem dX10_areAsSeen_5 : decode cX10_areAsSeen 5 = .ok (.bipush 20, 2) := by decide +kernel
theorem dX10_areAsSeen_7 : decode cX10_areAsSeen 7 = .ok (.if_icmp .gt 23, 3) := by decide +kernel
theorem dX10_areAsSeen_10 : decode cX10_areAsSeen 10 = .ok (.iload_n 1, 1) := by decide +kernel
theorem dX10_areAsSeen_11 : decode cX10_areAsSeen 11 = .ok (.ifCond .eq 19, 3) := by decide +kernel
theorem dX10_areAsSeen_14 : decode cX10_areAsSeen 14 = .ok (.aload_n 0, 1) := by decide +kernel
theorem dX10_areAsSeen_15 : decode cX10_areAsSeen 15 = .ok (.iload_n 2, 1) := by decide +kernel
theorem dX10_areAsSeen_16 : decode cX10_areAsSeen 16 = .ok (.invokevirtual 210, 3) := by decide +kernel
theorem dX10_areAsSeen_19 : decode cX10_areAsSeen 19 = .ok (.istore_n 1, 1) := by decide +kernel
theorem dX10_areAsSeen_20 : decode cX10_areAsSeen 20 = .ok (.aload_n 0, 1) := by decide +kernel
theorem dX10_areAsSeen_21 : decode cX10_areAsSeen 21 = .ok (.invokevirtual 175, 3) := by decide +kernel
theorem dX10_areAsSeen_24 : decode cX10_areAsSeen 24 = .ok (.iinc 2 1, 3) := by decide +kernel
theorem dX10_areAsSeen_27 : decode cX10_areAsSeen 27 = .ok (.goto (-23), 3) := by decide +kernel
theorem dX10_areAsSeen_30 : decode cX10_areAsSeen 30 = .ok (.aload_n 0, 1) := by decide +kernel
theorem dX10_areAsSeen_31 : decode cX10_areAsSeen 31 = .ok (.invokevirtual 178, 3) := by decide +kernel
theorem dX10_areAsSeen_34 : decode cX10_areAsSeen 34 = .ok (.iload_n 1, 1) := by decide +kernel
theorem dX10_areAsSeen_35 : decode cX10_areAsSeen 35 = .ok (.ireturn, 1) := by decide +kernel
theorem dX10_fitting_0 : decode cX10_fitting 0 = .ok (.aload_n 0, 1) := by decide +kernel
theorem dX10_fitting_1 : decode cX10_fitting 1 = .ok (.invokevirtual 190, 3) := by decide +kernel
theorem dX10_fitting_4 : decode cX10_fitting 4 = .ok (.iconst 0, 1) := by decide +kernel
theorem dX10_fitting_5 : decode cX10_fitting 5 = .ok (.istore_n 2, 1) := by decide +kernel
theorem dX10_fitting_6 : decode cX10_fitting 6 = .ok (.iconst 0, 1) := by decide +kernel
theorem dX10_fitting_7 : decode cX10_fitting 7 = .ok (.istore_n 3, 1) := by decide +kernel
theorem dX10_fitting_8 : decode cX10_fitting 8 = .ok (.iload_n 3, 1) := by decide +kernel
theorem dX10_fitting_9 : decode cX10_fitting 9 = .ok (.bipush 10, 2) := by decide +kernel
theorem dX10_fitting_11 : decode cX10_fitting 11 = .ok (.if_icmp .ge 37, 3) := by decide +kernel
theorem dX10_fitting_14 : decode cX10_fitting 14 = .ok (.aload_n 0, 1) := by decide +kernel
theorem dX10_fitting_15 : decode cX10_fitting 15 = .ok (.invokevirtual 169, 3) := by decide +kernel
theorem dX10_fitting_18 : decode cX10_fitting 18 = .ok (.aload_n 0, 1) := by decide +kernel
theorem dX10_fitting_19 : decode cX10_fitting 19 = .ok (.getfield 9, 3) := by decide +kernel
theorem dX10_fitting_22 : decode cX10_fitting 22 = .ok (.iload_n 1, 1) := by decide +kernel
theorem dX10_fitting_23 : decode cX10_fitting 23 = .ok (.iload_n 3, 1) := by decide +kernel
theorem dX10_fitting_24 : decode cX10_fitting 24 = .ok (.iastore, 1) := by decide +kernel
theorem dX10_fitting_25 : decode cX10_fitting 25 = .ok (.iload_n 2, 1) := by decide +kernel
theorem dX10_fitting_26 : decode cX10_fitting 26 = .ok (.aload_n 0, 1) := by decide +kernel
theorem dX10_fitting_27 : decode cX10_fitting 27 = .ok (.invokevirtual 213, 3) := by decide +kernel
theorem dX10_fitting_30 : decode cX10_fitting 30 = .ok (.ifCond .eq 9, 3) := by decide +kernel
theorem dX10_fitting_33 : decode cX10_fitting 33 = .ok (.iconst 1, 1) := by decide +kernel
theorem dX10_fitting_34 : decode cX10_fitting 34 = .ok (.iload_n 3, 1) := by decide +kernel
theorem dX10_fitting_35 : decode cX10_fitting 35 = .ok (.ishl, 1) := by decide +kernel
theorem dX10_fitting_36 : decode cX10_fitting 36 = .ok (.goto 4, 3) := by decide +kernel
theorem dX10_fitting_39 : decode cX10_fitting 39 = .ok (.iconst 0, 1) := by decide +kernel
theorem dX10_fitting_40 : decode cX10_fitting 40 = .ok (.ior, 1) := by decide +kernel
theorem dX10_fitting_41 : decode cX10_fitting 41 = .ok (.istore_n 2, 1) := by decide +kernel
theorem dX10_fitting_42 : decode cX10_fitting 42 = .ok (.iinc 3 1, 3) := by decide +kernel
theorem dX10_fitting_45 : decode cX10_fitting 45 = .ok (.goto (-37), 3) := by decide +kernel
theorem dX10_fitting_48 : decode cX10_fitting 48 = .ok (.aload_n 0, 1) := by decide +kernel
theorem dX10_fitting_49 : decode cX10_fitting 49 = .ok (.iload_n 2, 1) := by decide +kernel
theorem dX10_fitting_50 : decode cX10_fitting 50 = .ok (.invokevirtual 197, 3) := by decide +kernel
theorem dX10_fitting_53 : decode cX10_fitting 53 = .ok (.ireturn, 1) := by decide +kernel
theorem dX10_states_0 : decode cX10_states 0 = .ok (.aload_n 0, 1) := by decide +kernel
theorem dX10_states_1 : decode cX10_states 1 = .ok (.iload_n 1, 1) := by decide +kernel
theorem dX10_states_2 : decode cX10_states 2 = .ok (.invokevirtual 159, 3) := by decide +kernel
theorem dX10_states_5 : decode cX10_states 5 = .ok (.ifCond .eq 13, 3) := by decide +kernel
theorem dX10_states_8 : decode cX10_states 8 = .ok (.aload_n 0, 1) := by decide +kernel
theorem dX10_states_9 : decode cX10_states 9 = .ok (.iconst 1, 1) := by decide +kernel
theorem dX10_states_10 : decode cX10_states 10 = .ok (.iload_n 1, 1) := by decide +kernel
theorem dX10_states_11 : decode cX10_states 11 = .ok (.iadd, 1) := by decide +kernel
theorem dX10_states_12 : decode cX10_states 12 = .ok (.invokevirtual 217, 3) := by decide +kernel
theorem dX10_states_15 : decode cX10_states 15 = .ok (.goto 4, 3) := by decide +kernel
theorem dX10_states_18 : decode cX10_states 18 = .ok (.iconst (-1), 1) := by decide +kernel
theorem dX10_states_19 : decode cX10_states 19 = .ok (.ireturn, 1) := by decide +kernel
theorem dX10_where_0 : decode cX10_where 0 = .ok (.aload_n 0, 1) := by decide +kernel
theorem dX10_where_1 : decode cX10_where 1 = .ok (.iload_n 1, 1) := by decide +kernel
theorem dX10_where_2 : decode cX10_where 2 = .ok (.invokevirtual 159, 3) := by decide +kernel
theorem dX10_where_5 : decode cX10_where 5 = .ok (.ifCond .eq 14, 3) := by decide +kernel
theorem dX10_where_8 : decode cX10_where 8 = .ok (.aload_n 0, 1) := by decide +kernel
theorem dX10_where_9 : decode cX10_where 9 = .ok (.bipush 13, 2) := by decide +kernel
theorem dX10_where_11 : decode cX10_where 11 = .ok (.iload_n 1, 1) := by decide +kernel
theorem dX10_where_12 : decode cX10_where 12 = .ok (.iadd, 1) := by decide +kernel
theorem dX10_where_13 : decode cX10_where 13 = .ok (.invokevirtual 217, 3) := by decide +kernel
theorem dX10_where_16 : decode cX10_where 16 = .ok (.goto 4, 3) := by decide +kernel
theorem dX10_where_19 : decode cX10_where 19 = .ok (.iconst (-1), 1) := by decide +kernel
theorem dX10_where_20 : decode cX10_where 20 = .ok (.ireturn, 1) := by decide +kernel
theorem dX10_firm_0 : decode cX10_firm 0 = .ok (.aload_n 0, 1) := by decide +kernel
theorem dX10_firm_1 : decode cX10_firm 1 = .ok (.iload_n 1, 1) := by decide +kernel
theorem dX10_firm_2 : decode cX10_firm 2 = .ok (.invokevirtual 159, 3) := by decide +kernel
theorem dX10_firm_5 : decode cX10_firm 5 = .ok (.ifCond .eq 12, 3) := by decide +kernel
theorem dX10_firm_8 : decode cX10_firm 8 = .ok (.iload_n 2, 1) := by decide +kernel
theorem dX10_firm_9 : decode cX10_firm 9 = .ok (.iconst 0, 1) := by decide +kernel
theorem dX10_firm_10 : decode cX10_firm 10 = .ok (.iconst 1, 1) := by decide +kernel
theorem dX10_firm_11 : decode cX10_firm 11 = .ok (.invokestatic 54, 3) := by decide +kernel
theorem dX10_firm_14 : decode cX10_firm 14 = .ok (.ifCond .ne 5, 3) := by decide +kernel
theorem dX10_firm_17 : decode cX10_firm 17 = .ok (.iconst (-1), 1) := by decide +kernel
theorem dX10_firm_18 : decode cX10_firm 18 = .ok (.ireturn, 1) := by decide +kernel
theorem dX10_firm_19 : decode cX10_firm 19 = .ok (.aload_n 0, 1) := by decide +kernel
theorem dX10_firm_20 : decode cX10_firm 20 = .ok (.getfield 9, 3) := by decide +kernel
theorem dX10_firm_23 : decode cX10_firm 23 = .ok (.bipush 32, 2) := by decide +kernel
theorem dX10_firm_25 : decode cX10_firm 25 = .ok (.iload_n 1, 1) := by decide +kernel
theorem dX10_firm_26 : decode cX10_firm 26 = .ok (.iadd, 1) := by decide +kernel
theorem dX10_firm_27 : decode cX10_firm 27 = .ok (.iaload, 1) := by decide +kernel
theorem dX10_firm_28 : decode cX10_firm 28 = .ok (.istore_n 3, 1) := by decide +kernel
theorem dX10_firm_29 : decode cX10_firm 29 = .ok (.aload_n 0, 1) := by decide +kernel
theorem dX10_firm_30 : decode cX10_firm 30 = .ok (.invokevirtual 190, 3) := by decide +kernel
theorem dX10_firm_33 : decode cX10_firm 33 = .ok (.iconst 0, 1) := by decide +kernel
theorem dX10_firm_34 : decode cX10_firm 34 = .ok (.istore 4, 2) := by decide +kernel
theorem dX10_firm_36 : decode cX10_firm 36 = .ok (.bipush (-5), 2) := by decide +kernel
theorem dX10_firm_38 : decode cX10_firm 38 = .ok (.istore 5, 2) := by decide +kernel
theorem dX10_firm_40 : decode cX10_firm 40 = .ok (.bipush 9, 2) := by decide +kernel
theorem dX10_firm_42 : decode cX10_firm 42 = .ok (.istore 6, 2) := by decide +kernel
theorem dX10_firm_44 : decode cX10_firm 44 = .ok (.iload 6, 2) := by decide +kernel
theorem dX10_firm_46 : decode cX10_firm 46 = .ok (.ifCond .lt 59, 3) := by decide +kernel
theorem dX10_firm_49 : decode cX10_firm 49 = .ok (.aload_n 0, 1) := by decide +kernel
theorem dX10_firm_50 : decode cX10_firm 50 = .ok (.invokevirtual 169, 3) := by decide +kernel
theorem dX10_firm_53 : decode cX10_firm 53 = .ok (.aload_n 0, 1) := by decide +kernel
theorem dX10_firm_54 : decode cX10_firm 54 = .ok (.getfield 9, 3) := by decide +kernel
theorem dX10_firm_57 : decode cX10_firm 57 = .ok (.bipush 32, 2) := by decide +kernel
theorem dX10_firm_59 : decode cX10_firm 59 = .ok (.iload_n 1, 1) := by decide +kernel
theorem dX10_firm_60 : decode cX10_firm 60 = .ok (.iadd, 1) := by decide +kernel
theorem dX10_firm_61 : decode cX10_firm 61 = .ok (.iload 6, 2) := by decide +kernel
theorem dX10_firm_63 : decode cX10_firm 63 = .ok (.iastore, 1) := by decide +kernel
theorem dX10_firm_64 : decode cX10_firm 64 = .ok (.aload_n 0, 1) := by decide +kernel
theorem dX10_firm_65 : decode cX10_firm 65 = .ok (.invokevirtual 213, 3) := by decide +kernel
theorem dX10_firm_68 : decode cX10_firm 68 = .ok (.istore 7, 2) := by decide +kernel
theorem dX10_firm_70 : decode cX10_firm 70 = .ok (.iload 4, 2) := by decide +kernel
theorem dX10_firm_72 : decode cX10_firm 72 = .ok (.iload 7, 2) := by decide +kernel
theorem dX10_firm_74 : decode cX10_firm 74 = .ok (.ifCond .eq 7, 3) := by decide +kernel
theorem dX10_firm_77 : decode cX10_firm 77 = .ok (.iconst 1, 1) := by decide +kernel
theorem dX10_firm_78 : decode cX10_firm 78 = .ok (.goto 4, 3) := by decide +kernel
theorem dX10_firm_81 : decode cX10_firm 81 = .ok (.iconst 0, 1) := by decide +kernel
theorem dX10_firm_82 : decode cX10_firm 82 = .ok (.iadd, 1) := by decide +kernel
theorem dX10_firm_83 : decode cX10_firm 83 = .ok (.istore 4, 2) := by decide +kernel
theorem dX10_firm_85 : decode cX10_firm 85 = .ok (.iload 7, 2) := by decide +kernel
theorem dX10_firm_87 : decode cX10_firm 87 = .ok (.ifCond .eq 8, 3) := by decide +kernel
theorem dX10_firm_90 : decode cX10_firm 90 = .ok (.iload 6, 2) := by decide +kernel
theorem dX10_firm_92 : decode cX10_firm 92 = .ok (.goto 5, 3) := by decide +kernel
theorem dX10_firm_95 : decode cX10_firm 95 = .ok (.iload 5, 2) := by decide +kernel
theorem dX10_firm_97 : decode cX10_firm 97 = .ok (.istore 5, 2) := by decide +kernel
theorem dX10_firm_99 : decode cX10_firm 99 = .ok (.iinc 6 (-1), 3) := by decide +kernel
theorem dX10_firm_102 : decode cX10_firm 102 = .ok (.goto (-58), 3) := by decide +kernel
theorem dX10_firm_105 : decode cX10_firm 105 = .ok (.aload_n 0, 1) := by decide +kernel
theorem dX10_firm_106 : decode cX10_firm 106 = .ok (.getfield 9, 3) := by decide +kernel
theorem dX10_firm_109 : decode cX10_firm 109 = .ok (.bipush 32, 2) := by decide +kernel
theorem dX10_firm_111 : decode cX10_firm 111 = .ok (.iload_n 1, 1) := by decide +kernel
theorem dX10_firm_112 : decode cX10_firm 112 = .ok (.iadd, 1) := by decide +kernel
theorem dX10_firm_113 : decode cX10_firm 113 = .ok (.iload_n 3, 1) := by decide +kernel
theorem dX10_firm_114 : decode cX10_firm 114 = .ok (.iastore, 1) := by decide +kernel
theorem dX10_firm_115 : decode cX10_firm 115 = .ok (.aload_n 0, 1) := by decide +kernel
theorem dX10_firm_116 : decode cX10_firm 116 = .ok (.iload_n 2, 1) := by decide +kernel
theorem dX10_firm_117 : decode cX10_firm 117 = .ok (.ifCond .ne 8, 3) := by decide +kernel
theorem dX10_firm_120 : decode cX10_firm 120 = .ok (.iload 4, 2) := by decide +kernel
theorem dX10_firm_122 : decode cX10_firm 122 = .ok (.goto 5, 3) := by decide +kernel
theorem dX10_firm_125 : decode cX10_firm 125 = .ok (.iload 5, 2) := by decide +kernel
theorem dX10_firm_127 : decode cX10_firm 127 = .ok (.invokevirtual 197, 3) := by decide +kernel
theorem dX10_firm_130 : decode cX10_firm 130 = .ok (.ireturn, 1) := by decide +kernel
theorem dX10_lowest_0 : decode cX10_lowest 0 = .ok (.lload_n 0, 1) := by decide +kernel
theorem dX10_lowest_1 : decode cX10_lowest 1 = .ok (.lconst 0, 1) := by decide +kernel
theorem dX10_lowest_2 : decode cX10_lowest 2 = .ok (.lcmp, 1) := by decide +kernel
theorem dX10_lowest_3 : decode cX10_lowest 3 = .ok (.ifCond .ge 8, 3) := by decide +kernel
theorem dX10_lowest_6 : decode cX10_lowest 6 = .ok (.lload_n 0, 1) := by decide +kernel
theorem dX10_lowest_7 : decode cX10_lowest 7 = .ok (.lneg, 1) := by decide +kernel
theorem dX10_lowest_8 : decode cX10_lowest 8 = .ok (.goto 4, 3) := by decide +kernel
theorem dX10_lowest_11 : decode cX10_lowest 11 = .ok (.lload_n 0, 1) := by decide +kernel
theorem dX10_lowest_12 : decode cX10_lowest 12 = .ok (.lstore 5, 2) := by decide +kernel
theorem dX10_lowest_14 : decode cX10_lowest 14 = .ok (.lload_n 2, 1) := by decide +kernel
theorem dX10_lowest_15 : decode cX10_lowest 15 = .ok (.lstore 7, 2) := by decide +kernel
theorem dX10_lowest_17 : decode cX10_lowest 17 = .ok (.lload 7, 2) := by decide +kernel
theorem dX10_lowest_19 : decode cX10_lowest 19 = .ok (.lconst 0, 1) := by decide +kernel
theorem dX10_lowest_20 : decode cX10_lowest 20 = .ok (.lcmp, 1) := by decide +kernel
theorem dX10_lowest_21 : decode cX10_lowest 21 = .ok (.ifCond .eq 21, 3) := by decide +kernel
theorem dX10_lowest_24 : decode cX10_lowest 24 = .ok (.lload 5, 2) := by decide +kernel
theorem dX10_lowest_26 : decode cX10_lowest 26 = .ok (.lload 7, 2) := by decide +kernel
theorem dX10_lowest_28 : decode cX10_lowest 28 = .ok (.lrem, 1) := by decide +kernel
theorem dX10_lowest_29 : decode cX10_lowest 29 = .ok (.lstore 9, 2) := by decide +kernel
theorem dX10_lowest_31 : decode cX10_lowest 31 = .ok (.lload 7, 2) := by decide +kernel
theorem dX10_lowest_33 : decode cX10_lowest 33 = .ok (.lstore 5, 2) := by decide +kernel
theorem dX10_lowest_35 : decode cX10_lowest 35 = .ok (.lload 9, 2) := by decide +kernel
theorem dX10_lowest_37 : decode cX10_lowest 37 = .ok (.lstore 7, 2) := by decide +kernel
theorem dX10_lowest_39 : decode cX10_lowest 39 = .ok (.goto (-22), 3) := by decide +kernel
theorem dX10_lowest_42 : decode cX10_lowest 42 = .ok (.iload 4, 2) := by decide +kernel
theorem dX10_lowest_44 : decode cX10_lowest 44 = .ok (.ifCond .ne 7, 3) := by decide +kernel
theorem dX10_lowest_47 : decode cX10_lowest 47 = .ok (.lload_n 0, 1) := by decide +kernel
theorem dX10_lowest_48 : decode cX10_lowest 48 = .ok (.goto 4, 3) := by decide +kernel
theorem dX10_lowest_51 : decode cX10_lowest 51 = .ok (.lload_n 2, 1) := by decide +kernel
theorem dX10_lowest_52 : decode cX10_lowest 52 = .ok (.lload 5, 2) := by decide +kernel
theorem dX10_lowest_54 : decode cX10_lowest 54 = .ok (.ldiv, 1) := by decide +kernel
theorem dX10_lowest_55 : decode cX10_lowest 55 = .ok (.lreturn, 1) := by decide +kernel
theorem dX10_odds_0 : decode cX10_odds 0 = .ok (.aload_n 0, 1) := by decide +kernel
theorem dX10_odds_1 : decode cX10_odds 1 = .ok (.iload_n 1, 1) := by decide +kernel
theorem dX10_odds_2 : decode cX10_odds 2 = .ok (.invokevirtual 159, 3) := by decide +kernel
theorem dX10_odds_5 : decode cX10_odds 5 = .ok (.ifCond .eq 39, 3) := by decide +kernel
theorem dX10_odds_8 : decode cX10_odds 8 = .ok (.aload_n 0, 1) := by decide +kernel
theorem dX10_odds_9 : decode cX10_odds 9 = .ok (.iload_n 2, 1) := by decide +kernel
theorem dX10_odds_10 : decode cX10_odds 10 = .ok (.invokevirtual 159, 3) := by decide +kernel
theorem dX10_odds_13 : decode cX10_odds 13 = .ok (.ifCond .eq 31, 3) := by decide +kernel
theorem dX10_odds_16 : decode cX10_odds 16 = .ok (.iload_n 3, 1) := by decide +kernel
theorem dX10_odds_17 : decode cX10_odds 17 = .ok (.invokestatic 155, 3) := by decide +kernel
theorem dX10_odds_20 : decode cX10_odds 20 = .ok (.ifCond .eq 24, 3) := by decide +kernel
theorem dX10_odds_23 : decode cX10_odds 23 = .ok (.iload 4, 2) := by decide +kernel
theorem dX10_odds_25 : decode cX10_odds 25 = .ok (.iconst 0, 1) := by decide +kernel
theorem dX10_odds_26 : decode cX10_odds 26 = .ok (.bipush 60, 2) := by decide +kernel
theorem dX10_odds_28 : decode cX10_odds 28 = .ok (.invokestatic 54, 3) := by decide +kernel
theorem dX10_odds_31 : decode cX10_odds 31 = .ok (.ifCond .eq 13, 3) := by decide +kernel
theorem dX10_odds_34 : decode cX10_odds 34 = .ok (.iload 5, 2) := by decide +kernel
theorem dX10_odds_36 : decode cX10_odds 36 = .ok (.iconst 0, 1) := by decide +kernel
theorem dX10_odds_37 : decode cX10_odds 37 = .ok (.iconst 1, 1) := by decide +kernel
theorem dX10_odds_38 : decode cX10_odds 38 = .ok (.invokestatic 54, 3) := by decide +kernel
theorem dX10_odds_41 : decode cX10_odds 41 = .ok (.ifCond .ne 7, 3) := by decide +kernel
theorem dX10_odds_44 : decode cX10_odds 44 = .ok (.ldc2_w 220, 3) := by decide +kernel
theorem dX10_odds_47 : decode cX10_odds 47 = .ok (.lreturn, 1) := by decide +kernel
theorem dX10_odds_48 : decode cX10_odds 48 = .ok (.aload_n 0, 1) := by decide +kernel
theorem dX10_odds_49 : decode cX10_odds 49 = .ok (.invokevirtual 190, 3) := by decide +kernel
theorem dX10_odds_52 : decode cX10_odds 52 = .ok (.iconst 0, 1) := by decide +kernel
theorem dX10_odds_53 : decode cX10_odds 53 = .ok (.istore 6, 2) := by decide +kernel
theorem dX10_odds_55 : decode cX10_odds 55 = .ok (.iconst 0, 1) := by decide +kernel
theorem dX10_odds_56 : decode cX10_odds 56 = .ok (.istore 7, 2) := by decide +kernel
theorem dX10_odds_58 : decode cX10_odds 58 = .ok (.iload 7, 2) := by decide +kernel
theorem dX10_odds_60 : decode cX10_odds 60 = .ok (.bipush 10, 2) := by decide +kernel
theorem dX10_odds_62 : decode cX10_odds 62 = .ok (.if_icmp .ge 55, 3) := by decide +kernel
theorem dX10_odds_65 : decode cX10_odds 65 = .ok (.aload_n 0, 1) := by decide +kernel
theorem dX10_odds_66 : decode cX10_odds 66 = .ok (.invokevirtual 169, 3) := by decide +kernel
theorem dX10_odds_69 : decode cX10_odds 69 = .ok (.aload_n 0, 1) := by decide +kernel
theorem dX10_odds_70 : decode cX10_odds 70 = .ok (.getfield 9, 3) := by decide +kernel
theorem dX10_odds_73 : decode cX10_odds 73 = .ok (.iconst 1, 1) := by decide +kernel
theorem dX10_odds_74 : decode cX10_odds 74 = .ok (.iload_n 1, 1) := by decide +kernel
theorem dX10_odds_75 : decode cX10_odds 75 = .ok (.iadd, 1) := by decide +kernel
theorem dX10_odds_76 : decode cX10_odds 76 = .ok (.iload 7, 2) := by decide +kernel
theorem dX10_odds_78 : decode cX10_odds 78 = .ok (.iastore, 1) := by decide +kernel
theorem dX10_odds_79 : decode cX10_odds 79 = .ok (.aload_n 0, 1) := by decide +kernel
theorem dX10_odds_80 : decode cX10_odds 80 = .ok (.iload 4, 2) := by decide +kernel
theorem dX10_odds_82 : decode cX10_odds 82 = .ok (.invokevirtual 187, 3) := by decide +kernel
theorem dX10_odds_85 : decode cX10_odds 85 = .ok (.iload 6, 2) := by decide +kernel
theorem dX10_odds_87 : decode cX10_odds 87 = .ok (.aload_n 0, 1) := by decide +kernel
theorem dX10_odds_88 : decode cX10_odds 88 = .ok (.getfield 9, 3) := by decide +kernel
theorem dX10_odds_91 : decode cX10_odds 91 = .ok (.iconst 1, 1) := by decide +kernel
theorem dX10_odds_92 : decode cX10_odds 92 = .ok (.iload_n 2, 1) := by decide +kernel
theorem dX10_odds_93 : decode cX10_odds 93 = .ok (.iadd, 1) := by decide +kernel
theorem dX10_odds_94 : decode cX10_odds 94 = .ok (.iaload, 1) := by decide +kernel
theorem dX10_odds_95 : decode cX10_odds 95 = .ok (.iload_n 3, 1) := by decide +kernel
theorem dX10_odds_96 : decode cX10_odds 96 = .ok (.if_icmp .ne 7, 3) := by decide +kernel
theorem dX10_odds_99 : decode cX10_odds 99 = .ok (.iconst 1, 1) := by decide +kernel
theorem dX10_odds_100 : decode cX10_odds 100 = .ok (.goto 4, 3) := by decide +kernel
theorem dX10_odds_103 : decode cX10_odds 103 = .ok (.iconst 0, 1) := by decide +kernel
theorem dX10_odds_104 : decode cX10_odds 104 = .ok (.iadd, 1) := by decide +kernel
theorem dX10_odds_105 : decode cX10_odds 105 = .ok (.istore 6, 2) := by decide +kernel
theorem dX10_odds_107 : decode cX10_odds 107 = .ok (.aload_n 0, 1) := by decide +kernel
theorem dX10_odds_108 : decode cX10_odds 108 = .ok (.invokevirtual 178, 3) := by decide +kernel
theorem dX10_odds_111 : decode cX10_odds 111 = .ok (.iinc 7 1, 3) := by decide +kernel
theorem dX10_odds_114 : decode cX10_odds 114 = .ok (.goto (-56), 3) := by decide +kernel
theorem dX10_odds_117 : decode cX10_odds 117 = .ok (.aload_n 0, 1) := by decide +kernel
theorem dX10_odds_118 : decode cX10_odds 118 = .ok (.iload 6, 2) := by decide +kernel
theorem dX10_odds_120 : decode cX10_odds 120 = .ok (.invokevirtual 197, 3) := by decide +kernel
theorem dX10_odds_123 : decode cX10_odds 123 = .ok (.i2l, 1) := by decide +kernel
theorem dX10_odds_124 : decode cX10_odds 124 = .ok (.ldc2_w 222, 3) := by decide +kernel
theorem dX10_odds_127 : decode cX10_odds 127 = .ok (.iload 5, 2) := by decide +kernel
theorem dX10_odds_129 : decode cX10_odds 129 = .ok (.invokestatic 224, 3) := by decide +kernel
theorem dX10_odds_132 : decode cX10_odds 132 = .ok (.lreturn, 1) := by decide +kernel
theorem dX10_mean_0 : decode cX10_mean 0 = .ok (.lconst 0, 1) := by decide +kernel
theorem dX10_mean_1 : decode cX10_mean 1 = .ok (.lstore_n 2, 1) := by decide +kernel
theorem dX10_mean_2 : decode cX10_mean 2 = .ok (.lconst 0, 1) := by decide +kernel
theorem dX10_mean_3 : decode cX10_mean 3 = .ok (.lstore 4, 2) := by decide +kernel
theorem dX10_mean_5 : decode cX10_mean 5 = .ok (.iconst 0, 1) := by decide +kernel
theorem dX10_mean_6 : decode cX10_mean 6 = .ok (.istore 6, 2) := by decide +kernel
theorem dX10_mean_8 : decode cX10_mean 8 = .ok (.iload 6, 2) := by decide +kernel
theorem dX10_mean_10 : decode cX10_mean 10 = .ok (.aload_n 0, 1) := by decide +kernel
theorem dX10_mean_11 : decode cX10_mean 11 = .ok (.getfield 9, 3) := by decide +kernel
theorem dX10_mean_14 : decode cX10_mean 14 = .ok (.bipush 19, 2) := by decide +kernel
theorem dX10_mean_16 : decode cX10_mean 16 = .ok (.iaload, 1) := by decide +kernel
theorem dX10_mean_17 : decode cX10_mean 17 = .ok (.if_icmp .ge 62, 3) := by decide +kernel
theorem dX10_mean_20 : decode cX10_mean 20 = .ok (.lload_n 2, 1) := by decide +kernel
theorem dX10_mean_21 : decode cX10_mean 21 = .ok (.aload_n 0, 1) := by decide +kernel
theorem dX10_mean_22 : decode cX10_mean 22 = .ok (.getfield 9, 3) := by decide +kernel
theorem dX10_mean_25 : decode cX10_mean 25 = .ok (.bipush 7, 2) := by decide +kernel
theorem dX10_mean_27 : decode cX10_mean 27 = .ok (.iload 6, 2) := by decide +kernel
theorem dX10_mean_29 : decode cX10_mean 29 = .ok (.iadd, 1) := by decide +kernel
theorem dX10_mean_30 : decode cX10_mean 30 = .ok (.iaload, 1) := by decide +kernel
theorem dX10_mean_31 : decode cX10_mean 31 = .ok (.ifCond .ne 16, 3) := by decide +kernel
theorem dX10_mean_34 : decode cX10_mean 34 = .ok (.aload_n 0, 1) := by decide +kernel
theorem dX10_mean_35 : decode cX10_mean 35 = .ok (.getfield 9, 3) := by decide +kernel
theorem dX10_mean_38 : decode cX10_mean 38 = .ok (.iconst 1, 1) := by decide +kernel
theorem dX10_mean_39 : decode cX10_mean 39 = .ok (.iload 6, 2) := by decide +kernel
theorem dX10_mean_41 : decode cX10_mean 41 = .ok (.iadd, 1) := by decide +kernel
theorem dX10_mean_42 : decode cX10_mean 42 = .ok (.iaload, 1) := by decide +kernel
theorem dX10_mean_43 : decode cX10_mean 43 = .ok (.i2l, 1) := by decide +kernel
theorem dX10_mean_44 : decode cX10_mean 44 = .ok (.goto 4, 3) := by decide +kernel
theorem dX10_mean_47 : decode cX10_mean 47 = .ok (.lconst 0, 1) := by decide +kernel
theorem dX10_mean_48 : decode cX10_mean 48 = .ok (.ladd, 1) := by decide +kernel
theorem dX10_mean_49 : decode cX10_mean 49 = .ok (.lstore_n 2, 1) := by decide +kernel
theorem dX10_mean_50 : decode cX10_mean 50 = .ok (.lload 4, 2) := by decide +kernel
theorem dX10_mean_52 : decode cX10_mean 52 = .ok (.aload_n 0, 1) := by decide +kernel
theorem dX10_mean_53 : decode cX10_mean 53 = .ok (.getfield 9, 3) := by decide +kernel
theorem dX10_mean_56 : decode cX10_mean 56 = .ok (.bipush 7, 2) := by decide +kernel
theorem dX10_mean_58 : decode cX10_mean 58 = .ok (.iload 6, 2) := by decide +kernel
theorem dX10_mean_60 : decode cX10_mean 60 = .ok (.iadd, 1) := by decide +kernel
theorem dX10_mean_61 : decode cX10_mean 61 = .ok (.iaload, 1) := by decide +kernel
theorem dX10_mean_62 : decode cX10_mean 62 = .ok (.ifCond .ne 7, 3) := by decide +kernel
theorem dX10_mean_65 : decode cX10_mean 65 = .ok (.lconst 1, 1) := by decide +kernel
theorem dX10_mean_66 : decode cX10_mean 66 = .ok (.goto 4, 3) := by decide +kernel
theorem dX10_mean_69 : decode cX10_mean 69 = .ok (.lconst 0, 1) := by decide +kernel
theorem dX10_mean_70 : decode cX10_mean 70 = .ok (.ladd, 1) := by decide +kernel
theorem dX10_mean_71 : decode cX10_mean 71 = .ok (.lstore 4, 2) := by decide +kernel
theorem dX10_mean_73 : decode cX10_mean 73 = .ok (.iinc 6 1, 3) := by decide +kernel
theorem dX10_mean_76 : decode cX10_mean 76 = .ok (.goto (-68), 3) := by decide +kernel
theorem dX10_mean_79 : decode cX10_mean 79 = .ok (.iload_n 1, 1) := by decide +kernel
theorem dX10_mean_80 : decode cX10_mean 80 = .ok (.iconst 0, 1) := by decide +kernel
theorem dX10_mean_81 : decode cX10_mean 81 = .ok (.iconst 1, 1) := by decide +kernel
theorem dX10_mean_82 : decode cX10_mean 82 = .ok (.invokestatic 54, 3) := by decide +kernel
theorem dX10_mean_85 : decode cX10_mean 85 = .ok (.ifCond .eq 10, 3) := by decide +kernel
theorem dX10_mean_88 : decode cX10_mean 88 = .ok (.lload 4, 2) := by decide +kernel
theorem dX10_mean_90 : decode cX10_mean 90 = .ok (.lconst 0, 1) := by decide +kernel
theorem dX10_mean_91 : decode cX10_mean 91 = .ok (.lcmp, 1) := by decide +kernel
theorem dX10_mean_92 : decode cX10_mean 92 = .ok (.ifCond .ne 9, 3) := by decide +kernel
theorem dX10_mean_95 : decode cX10_mean 95 = .ok (.ldc2_w 220, 3) := by decide +kernel
theorem dX10_mean_98 : decode cX10_mean 98 = .ok (.goto 10, 3) := by decide +kernel
theorem dX10_mean_101 : decode cX10_mean 101 = .ok (.lload_n 2, 1) := by decide +kernel
theorem dX10_mean_102 : decode cX10_mean 102 = .ok (.lload 4, 2) := by decide +kernel
theorem dX10_mean_104 : decode cX10_mean 104 = .ok (.iload_n 1, 1) := by decide +kernel
theorem dX10_mean_105 : decode cX10_mean 105 = .ok (.invokestatic 224, 3) := by decide +kernel
theorem dX10_mean_108 : decode cX10_mean 108 = .ok (.lreturn, 1) := by decide +kernel
theorem dX10_isPlan_0 : decode cX10_isPlan 0 = .ok (.iload_n 1, 1) := by decide +kernel
theorem dX10_isPlan_1 : decode cX10_isPlan 1 = .ok (.ifCond .eq 40, 3) := by decide +kernel
theorem dX10_isPlan_4 : decode cX10_isPlan 4 = .ok (.iload_n 1, 1) := by decide +kernel
theorem dX10_isPlan_5 : decode cX10_isPlan 5 = .ok (.iconst 1, 1) := by decide +kernel
theorem dX10_isPlan_6 : decode cX10_isPlan 6 = .ok (.iconst 2, 1) := by decide +kernel
theorem dX10_isPlan_7 : decode cX10_isPlan 7 = .ok (.invokestatic 54, 3) := by decide +kernel
theorem dX10_isPlan_10 : decode cX10_isPlan 10 = .ok (.ifCond .eq 11, 3) := by decide +kernel
theorem dX10_isPlan_13 : decode cX10_isPlan 13 = .ok (.aload_n 0, 1) := by decide +kernel
theorem dX10_isPlan_14 : decode cX10_isPlan 14 = .ok (.iload_n 2, 1) := by decide +kernel
theorem dX10_isPlan_15 : decode cX10_isPlan 15 = .ok (.invokevirtual 159, 3) := by decide +kernel
theorem dX10_isPlan_18 : decode cX10_isPlan 18 = .ok (.ifCond .ne 23, 3) := by decide +kernel
theorem dX10_isPlan_21 : decode cX10_isPlan 21 = .ok (.iload_n 1, 1) := by decide +kernel
theorem dX10_isPlan_22 : decode cX10_isPlan 22 = .ok (.iconst 3, 1) := by decide +kernel
theorem dX10_isPlan_23 : decode cX10_isPlan 23 = .ok (.if_icmp .ne 22, 3) := by decide +kernel
theorem dX10_isPlan_26 : decode cX10_isPlan 26 = .ok (.iload_n 2, 1) := by decide +kernel
theorem dX10_isPlan_27 : decode cX10_isPlan 27 = .ok (.ifCond .lt 18, 3) := by decide +kernel
theorem dX10_isPlan_30 : decode cX10_isPlan 30 = .ok (.aload_n 0, 1) := by decide +kernel
theorem dX10_isPlan_31 : decode cX10_isPlan 31 = .ok (.iload_n 2, 1) := by decide +kernel
theorem dX10_isPlan_32 : decode cX10_isPlan 32 = .ok (.bipush 10, 2) := by decide +kernel
theorem dX10_isPlan_34 : decode cX10_isPlan 34 = .ok (.idiv, 1) := by decide +kernel
theorem dX10_isPlan_35 : decode cX10_isPlan 35 = .ok (.invokevirtual 159, 3) := by decide +kernel
theorem dX10_isPlan_38 : decode cX10_isPlan 38 = .ok (.ifCond .eq 7, 3) := by decide +kernel
theorem dX10_isPlan_41 : decode cX10_isPlan 41 = .ok (.iconst 1, 1) := by decide +kernel
theorem dX10_isPlan_42 : decode cX10_isPlan 42 = .ok (.goto 4, 3) := by decide +kernel
theorem dX10_isPlan_45 : decode cX10_isPlan 45 = .ok (.iconst 0, 1) := by decide +kernel
theorem dX10_isPlan_46 : decode cX10_isPlan 46 = .ok (.ireturn, 1) := by decide +kernel
theorem dX10_plan_0 : decode cX10_plan 0 = .ok (.iload_n 1, 1) := by decide +kernel
theorem dX10_plan_1 : decode cX10_plan 1 = .ok (.iconst (-1), 1) := by decide +kernel
theorem dX10_plan_2 : decode cX10_plan 2 = .ok (.if_icmp .ne 13, 3) := by decide +kernel
theorem dX10_plan_5 : decode cX10_plan 5 = .ok (.aload_n 0, 1) := by decide +kernel
theorem dX10_plan_6 : decode cX10_plan 6 = .ok (.getfield 9, 3) := by decide +kernel
theorem dX10_plan_9 : decode cX10_plan 9 = .ok (.bipush 22, 2) := by decide +kernel
theorem dX10_plan_11 : decode cX10_plan 11 = .ok (.iconst 0, 1) := by decide +kernel
theorem dX10_plan_12 : decode cX10_plan 12 = .ok (.iastore, 1) := by decide +kernel
theorem dX10_plan_13 : decode cX10_plan 13 = .ok (.iconst 0, 1) := by decide +kernel
theorem dX10_plan_14 : decode cX10_plan 14 = .ok (.ireturn, 1) := by decide +kernel
theorem dX10_plan_15 : decode cX10_plan 15 = .ok (.aload_n 0, 1) := by decide +kernel
theorem dX10_plan_16 : decode cX10_plan 16 = .ok (.iload_n 1, 1) := by decide +kernel
theorem dX10_plan_17 : decode cX10_plan 17 = .ok (.iload_n 2, 1) := by decide +kernel
theorem dX10_plan_18 : decode cX10_plan 18 = .ok (.invokevirtual 228, 3) := by decide +kernel
theorem dX10_plan_21 : decode cX10_plan 21 = .ok (.ifCond .ne 5, 3) := by decide +kernel
theorem dX10_plan_24 : decode cX10_plan 24 = .ok (.iconst (-1), 1) := by decide +kernel
theorem dX10_plan_25 : decode cX10_plan 25 = .ok (.ireturn, 1) := by decide +kernel
theorem dX10_plan_26 : decode cX10_plan 26 = .ok (.aload_n 0, 1) := by decide +kernel
theorem dX10_plan_27 : decode cX10_plan 27 = .ok (.getfield 9, 3) := by decide +kernel
theorem dX10_plan_30 : decode cX10_plan 30 = .ok (.bipush 22, 2) := by decide +kernel
theorem dX10_plan_32 : decode cX10_plan 32 = .ok (.iaload, 1) := by decide +kernel
theorem dX10_plan_33 : decode cX10_plan 33 = .ok (.bipush 8, 2) := by decide +kernel
theorem dX10_plan_35 : decode cX10_plan 35 = .ok (.if_icmp .ne 6, 3) := by decide +kernel
theorem dX10_plan_38 : decode cX10_plan 38 = .ok (.bipush (-4), 2) := by decide +kernel
theorem dX10_plan_40 : decode cX10_plan 40 = .ok (.ireturn, 1) := by decide +kernel
theorem dX10_plan_41 : decode cX10_plan 41 = .ok (.aload_n 0, 1) := by decide +kernel
theorem dX10_plan_42 : decode cX10_plan 42 = .ok (.getfield 9, 3) := by decide +kernel
theorem dX10_plan_45 : decode cX10_plan 45 = .ok (.bipush 80, 2) := by decide +kernel
theorem dX10_plan_47 : decode cX10_plan 47 = .ok (.aload_n 0, 1) := by decide +kernel
theorem dX10_plan_48 : decode cX10_plan 48 = .ok (.getfield 9, 3) := by decide +kernel
theorem dX10_plan_51 : decode cX10_plan 51 = .ok (.bipush 22, 2) := by decide +kernel
theorem dX10_plan_53 : decode cX10_plan 53 = .ok (.iaload, 1) := by decide +kernel
theorem dX10_plan_54 : decode cX10_plan 54 = .ok (.iadd, 1) := by decide +kernel
theorem dX10_plan_55 : decode cX10_plan 55 = .ok (.iload_n 1, 1) := by decide +kernel
theorem dX10_plan_56 : decode cX10_plan 56 = .ok (.iastore, 1) := by decide +kernel
theorem dX10_plan_57 : decode cX10_plan 57 = .ok (.aload_n 0, 1) := by decide +kernel
theorem dX10_plan_58 : decode cX10_plan 58 = .ok (.getfield 9, 3) := by decide +kernel
theorem dX10_plan_61 : decode cX10_plan 61 = .ok (.bipush 88, 2) := by decide +kernel
theorem dX10_plan_63 : decode cX10_plan 63 = .ok (.aload_n 0, 1) := by decide +kernel
theorem dX10_plan_64 : decode cX10_plan 64 = .ok (.getfield 9, 3) := by decide +kernel
theorem dX10_plan_67 : decode cX10_plan 67 = .ok (.bipush 22, 2) := by decide +kernel
theorem dX10_plan_69 : decode cX10_plan 69 = .ok (.iaload, 1) := by decide +kernel
theorem dX10_plan_70 : decode cX10_plan 70 = .ok (.iadd, 1) := by decide +kernel
theorem dX10_plan_71 : decode cX10_plan 71 = .ok (.iload_n 2, 1) := by decide +kernel
theorem dX10_plan_72 : decode cX10_plan 72 = .ok (.iastore, 1) := by decide +kernel
theorem dX10_plan_73 : decode cX10_plan 73 = .ok (.aload_n 0, 1) := by decide +kernel
theorem dX10_plan_74 : decode cX10_plan 74 = .ok (.getfield 9, 3) := by decide +kernel
theorem dX10_plan_77 : decode cX10_plan 77 = .ok (.bipush 22, 2) := by decide +kernel
theorem dX10_plan_79 : decode cX10_plan 79 = .ok (.dup2, 1) := by decide +kernel
theorem dX10_plan_80 : decode cX10_plan 80 = .ok (.iaload, 1) := by decide +kernel
theorem dX10_plan_81 : decode cX10_plan 81 = .ok (.iconst 1, 1) := by decide +kernel
theorem dX10_plan_82 : decode cX10_plan 82 = .ok (.iadd, 1) := by decide +kernel
theorem dX10_plan_83 : decode cX10_plan 83 = .ok (.iastore, 1) := by decide +kernel
theorem dX10_plan_84 : decode cX10_plan 84 = .ok (.aload_n 0, 1) := by decide +kernel
theorem dX10_plan_85 : decode cX10_plan 85 = .ok (.getfield 9, 3) := by decide +kernel
theorem dX10_plan_88 : decode cX10_plan 88 = .ok (.bipush 22, 2) := by decide +kernel
theorem dX10_plan_90 : decode cX10_plan 90 = .ok (.iaload, 1) := by decide +kernel
theorem dX10_plan_91 : decode cX10_plan 91 = .ok (.ireturn, 1) := by decide +kernel
theorem dX10_goesBy_0 : decode cX10_goesBy 0 = .ok (.iload_n 1, 1) := by decide +kernel
theorem dX10_goesBy_1 : decode cX10_goesBy 1 = .ok (.ifCond .ne 10, 3) := by decide +kernel
theorem dX10_goesBy_4 : decode cX10_goesBy 4 = .ok (.aload_n 0, 1) := by decide +kernel
theorem dX10_goesBy_5 : decode cX10_goesBy 5 = .ok (.invokevirtual 175, 3) := by decide +kernel
theorem dX10_goesBy_8 : decode cX10_goesBy 8 = .ok (.goto 46, 3) := by decide +kernel
theorem dX10_goesBy_11 : decode cX10_goesBy 11 = .ok (.iload_n 1, 1) := by decide +kernel
theorem dX10_goesBy_12 : decode cX10_goesBy 12 = .ok (.iconst 3, 1) := by decide +kernel
theorem dX10_goesBy_13 : decode cX10_goesBy 13 = .ok (.if_icmp .ne 22, 3) := by decide +kernel
theorem dX10_goesBy_16 : decode cX10_goesBy 16 = .ok (.aload_n 0, 1) := by decide +kernel
theorem dX10_goesBy_17 : decode cX10_goesBy 17 = .ok (.getfield 9, 3) := by decide +kernel
theorem dX10_goesBy_20 : decode cX10_goesBy 20 = .ok (.bipush 13, 2) := by decide +kernel
theorem dX10_goesBy_22 : decode cX10_goesBy 22 = .ok (.iload_n 2, 1) := by decide +kernel
theorem dX10_goesBy_23 : decode cX10_goesBy 23 = .ok (.bipush 10, 2) := by decide +kernel
theorem dX10_goesBy_25 : decode cX10_goesBy 25 = .ok (.idiv, 1) := by decide +kernel
theorem dX10_goesBy_26 : decode cX10_goesBy 26 = .ok (.iadd, 1) := by decide +kernel
theorem dX10_goesBy_27 : decode cX10_goesBy 27 = .ok (.iload_n 2, 1) := by decide +kernel
theorem dX10_goesBy_28 : decode cX10_goesBy 28 = .ok (.bipush 10, 2) := by decide +kernel
theorem dX10_goesBy_30 : decode cX10_goesBy 30 = .ok (.irem, 1) := by decide +kernel
theorem dX10_goesBy_31 : decode cX10_goesBy 31 = .ok (.iastore, 1) := by decide +kernel
theorem dX10_goesBy_32 : decode cX10_goesBy 32 = .ok (.goto 22, 3) := by decide +kernel
theorem dX10_goesBy_35 : decode cX10_goesBy 35 = .ok (.aload_n 0, 1) := by decide +kernel
theorem dX10_goesBy_36 : decode cX10_goesBy 36 = .ok (.getfield 9, 3) := by decide +kernel
theorem dX10_goesBy_39 : decode cX10_goesBy 39 = .ok (.bipush 7, 2) := by decide +kernel
theorem dX10_goesBy_41 : decode cX10_goesBy 41 = .ok (.iload_n 2, 1) := by decide +kernel
theorem dX10_goesBy_42 : decode cX10_goesBy 42 = .ok (.iadd, 1) := by decide +kernel
theorem dX10_goesBy_43 : decode cX10_goesBy 43 = .ok (.iload_n 1, 1) := by decide +kernel
theorem dX10_goesBy_44 : decode cX10_goesBy 44 = .ok (.iconst 1, 1) := by decide +kernel
theorem dX10_goesBy_45 : decode cX10_goesBy 45 = .ok (.if_icmp .ne 7, 3) := by decide +kernel
theorem dX10_goesBy_48 : decode cX10_goesBy 48 = .ok (.iconst 1, 1) := by decide +kernel
theorem dX10_goesBy_49 : decode cX10_goesBy 49 = .ok (.goto 4, 3) := by decide +kernel
theorem dX10_goesBy_52 : decode cX10_goesBy 52 = .ok (.iconst 0, 1) := by decide +kernel
theorem dX10_goesBy_53 : decode cX10_goesBy 53 = .ok (.iastore, 1) := by decide +kernel
theorem dX10_goesBy_54 : decode cX10_goesBy 54 = .ok (.return_, 1) := by decide +kernel
theorem dX10_done_0 : decode cX10_done 0 = .ok (.iload_n 1, 1) := by decide +kernel
theorem dX10_done_1 : decode cX10_done 1 = .ok (.iconst 0, 1) := by decide +kernel
theorem dX10_done_2 : decode cX10_done 2 = .ok (.iconst 1, 1) := by decide +kernel
theorem dX10_done_3 : decode cX10_done 3 = .ok (.invokestatic 54, 3) := by decide +kernel
theorem dX10_done_6 : decode cX10_done 6 = .ok (.ifCond .ne 5, 3) := by decide +kernel
theorem dX10_done_9 : decode cX10_done 9 = .ok (.iconst (-1), 1) := by decide +kernel
theorem dX10_done_10 : decode cX10_done 10 = .ok (.ireturn, 1) := by decide +kernel
theorem dX10_done_11 : decode cX10_done 11 = .ok (.aload_n 0, 1) := by decide +kernel
theorem dX10_done_12 : decode cX10_done 12 = .ok (.invokevirtual 169, 3) := by decide +kernel
theorem dX10_done_15 : decode cX10_done 15 = .ok (.iconst 0, 1) := by decide +kernel
theorem dX10_done_16 : decode cX10_done 16 = .ok (.istore_n 2, 1) := by decide +kernel
theorem dX10_done_17 : decode cX10_done 17 = .ok (.iload_n 2, 1) := by decide +kernel
theorem dX10_done_18 : decode cX10_done 18 = .ok (.aload_n 0, 1) := by decide +kernel
theorem dX10_done_19 : decode cX10_done 19 = .ok (.getfield 9, 3) := by decide +kernel
theorem dX10_done_22 : decode cX10_done 22 = .ok (.bipush 22, 2) := by decide +kernel
theorem dX10_done_24 : decode cX10_done 24 = .ok (.iaload, 1) := by decide +kernel
theorem dX10_done_25 : decode cX10_done 25 = .ok (.if_icmp .ge 31, 3) := by decide +kernel
theorem dX10_done_28 : decode cX10_done 28 = .ok (.aload_n 0, 1) := by decide +kernel
theorem dX10_done_29 : decode cX10_done 29 = .ok (.aload_n 0, 1) := by decide +kernel
theorem dX10_done_30 : decode cX10_done 30 = .ok (.getfield 9, 3) := by decide +kernel
theorem dX10_done_33 : decode cX10_done 33 = .ok (.bipush 80, 2) := by decide +kernel
theorem dX10_done_35 : decode cX10_done 35 = .ok (.iload_n 2, 1) := by decide +kernel
theorem dX10_done_36 : decode cX10_done 36 = .ok (.iadd, 1) := by decide +kernel
theorem dX10_done_37 : decode cX10_done 37 = .ok (.iaload, 1) := by decide +kernel
theorem dX10_done_38 : decode cX10_done 38 = .ok (.aload_n 0, 1) := by decide +kernel
theorem dX10_done_39 : decode cX10_done 39 = .ok (.getfield 9, 3) := by decide +kernel
theorem dX10_done_42 : decode cX10_done 42 = .ok (.bipush 88, 2) := by decide +kernel
theorem dX10_done_44 : decode cX10_done 44 = .ok (.iload_n 2, 1) := by decide +kernel
theorem dX10_done_45 : decode cX10_done 45 = .ok (.iadd, 1) := by decide +kernel
theorem dX10_done_46 : decode cX10_done 46 = .ok (.iaload, 1) := by decide +kernel
theorem dX10_done_47 : decode cX10_done 47 = .ok (.invokevirtual 232, 3) := by decide +kernel
theorem dX10_done_50 : decode cX10_done 50 = .ok (.iinc 2 1, 3) := by decide +kernel
theorem dX10_done_53 : decode cX10_done 53 = .ok (.goto (-36), 3) := by decide +kernel
theorem dX10_done_56 : decode cX10_done 56 = .ok (.iconst 0, 1) := by decide +kernel
theorem dX10_done_57 : decode cX10_done 57 = .ok (.istore_n 2, 1) := by decide +kernel
theorem dX10_done_58 : decode cX10_done 58 = .ok (.iconst 0, 1) := by decide +kernel
theorem dX10_done_59 : decode cX10_done 59 = .ok (.istore_n 3, 1) := by decide +kernel
theorem dX10_done_60 : decode cX10_done 60 = .ok (.iload_n 3, 1) := by decide +kernel
theorem dX10_done_61 : decode cX10_done 61 = .ok (.aload_n 0, 1) := by decide +kernel
theorem dX10_done_62 : decode cX10_done 62 = .ok (.getfield 9, 3) := by decide +kernel
theorem dX10_done_65 : decode cX10_done 65 = .ok (.bipush 19, 2) := by decide +kernel
theorem dX10_done_67 : decode cX10_done 67 = .ok (.iaload, 1) := by decide +kernel
theorem dX10_done_68 : decode cX10_done 68 = .ok (.if_icmp .ge 20, 3) := by decide +kernel
theorem dX10_done_71 : decode cX10_done 71 = .ok (.iload_n 2, 1) := by decide +kernel
theorem dX10_done_72 : decode cX10_done 72 = .ok (.aload_n 0, 1) := by decide +kernel
theorem dX10_done_73 : decode cX10_done 73 = .ok (.getfield 9, 3) := by decide +kernel
theorem dX10_done_76 : decode cX10_done 76 = .ok (.iconst 1, 1) := by decide +kernel
theorem dX10_done_77 : decode cX10_done 77 = .ok (.iload_n 3, 1) := by decide +kernel
theorem dX10_done_78 : decode cX10_done 78 = .ok (.iadd, 1) := by decide +kernel
theorem dX10_done_79 : decode cX10_done 79 = .ok (.iaload, 1) := by decide +kernel
theorem dX10_done_80 : decode cX10_done 80 = .ok (.iadd, 1) := by decide +kernel
theorem dX10_done_81 : decode cX10_done 81 = .ok (.istore_n 2, 1) := by decide +kernel
theorem dX10_done_82 : decode cX10_done 82 = .ok (.iinc 3 1, 3) := by decide +kernel
theorem dX10_done_85 : decode cX10_done 85 = .ok (.goto (-25), 3) := by decide +kernel
theorem dX10_done_88 : decode cX10_done 88 = .ok (.iload_n 1, 1) := by decide +kernel
theorem dX10_done_89 : decode cX10_done 89 = .ok (.ifCond .ne 10, 3) := by decide +kernel
theorem dX10_done_92 : decode cX10_done 92 = .ok (.aload_n 0, 1) := by decide +kernel
theorem dX10_done_93 : decode cX10_done 93 = .ok (.invokevirtual 172, 3) := by decide +kernel
theorem dX10_done_96 : decode cX10_done 96 = .ok (.goto 4, 3) := by decide +kernel
theorem dX10_done_99 : decode cX10_done 99 = .ok (.iload_n 2, 1) := by decide +kernel
theorem dX10_done_100 : decode cX10_done 100 = .ok (.istore_n 3, 1) := by decide +kernel
theorem dX10_done_101 : decode cX10_done 101 = .ok (.aload_n 0, 1) := by decide +kernel
theorem dX10_done_102 : decode cX10_done 102 = .ok (.invokevirtual 178, 3) := by decide +kernel
theorem dX10_done_105 : decode cX10_done 105 = .ok (.iload_n 3, 1) := by decide +kernel
theorem dX10_done_106 : decode cX10_done 106 = .ok (.ireturn, 1) := by decide +kernel
theorem dX10_book_0 : decode cX10_book 0 = .ok (.iload_n 1, 1) := by decide +kernel
theorem dX10_book_1 : decode cX10_book 1 = .ok (.iconst (-1), 1) := by decide +kernel
theorem dX10_book_2 : decode cX10_book 2 = .ok (.if_icmp .ne 13, 3) := by decide +kernel
theorem dX10_book_5 : decode cX10_book 5 = .ok (.aload_n 0, 1) := by decide +kernel
theorem dX10_book_6 : decode cX10_book 6 = .ok (.getfield 9, 3) := by decide +kernel
theorem dX10_book_9 : decode cX10_book 9 = .ok (.bipush 23, 2) := by decide +kernel
theorem dX10_book_11 : decode cX10_book 11 = .ok (.iconst 0, 1) := by decide +kernel
theorem dX10_book_12 : decode cX10_book 12 = .ok (.iastore, 1) := by decide +kernel
theorem dX10_book_13 : decode cX10_book 13 = .ok (.iconst 0, 1) := by decide +kernel
theorem dX10_book_14 : decode cX10_book 14 = .ok (.ireturn, 1) := by decide +kernel
theorem dX10_book_15 : decode cX10_book 15 = .ok (.aload_n 0, 1) := by decide +kernel
theorem dX10_book_16 : decode cX10_book 16 = .ok (.iload_n 1, 1) := by decide +kernel
theorem dX10_book_17 : decode cX10_book 17 = .ok (.invokevirtual 159, 3) := by decide +kernel
theorem dX10_book_20 : decode cX10_book 20 = .ok (.ifCond .eq 10, 3) := by decide +kernel
theorem dX10_book_23 : decode cX10_book 23 = .ok (.iload_n 2, 1) := by decide +kernel
theorem dX10_book_24 : decode cX10_book 24 = .ok (.invokestatic 155, 3) := by decide +kernel
theorem dX10_book_27 : decode cX10_book 27 = .ok (.ifCond .ne 5, 3) := by decide +kernel
theorem dX10_book_30 : decode cX10_book 30 = .ok (.iconst (-1), 1) := by decide +kernel
theorem dX10_book_31 : decode cX10_book 31 = .ok (.ireturn, 1) := by decide +kernel
theorem dX10_book_32 : decode cX10_book 32 = .ok (.aload_n 0, 1) := by decide +kernel
theorem dX10_book_33 : decode cX10_book 33 = .ok (.getfield 9, 3) := by decide +kernel
theorem dX10_book_36 : decode cX10_book 36 = .ok (.bipush 23, 2) := by decide +kernel
theorem dX10_book_38 : decode cX10_book 38 = .ok (.iaload, 1) := by decide +kernel
theorem dX10_book_39 : decode cX10_book 39 = .ok (.bipush 8, 2) := by decide +kernel
theorem dX10_book_41 : decode cX10_book 41 = .ok (.if_icmp .ne 6, 3) := by decide +kernel
theorem dX10_book_44 : decode cX10_book 44 = .ok (.bipush (-4), 2) := by decide +kernel
theorem dX10_book_46 : decode cX10_book 46 = .ok (.ireturn, 1) := by decide +kernel
theorem dX10_book_47 : decode cX10_book 47 = .ok (.aload_n 0, 1) := by decide +kernel
theorem dX10_book_48 : decode cX10_book 48 = .ok (.getfield 9, 3) := by decide +kernel
theorem dX10_book_51 : decode cX10_book 51 = .ok (.bipush 96, 2) := by decide +kernel
theorem dX10_book_53 : decode cX10_book 53 = .ok (.aload_n 0, 1) := by decide +kernel
theorem dX10_book_54 : decode cX10_book 54 = .ok (.getfield 9, 3) := by decide +kernel
theorem dX10_book_57 : decode cX10_book 57 = .ok (.bipush 23, 2) := by decide +kernel
theorem dX10_book_59 : decode cX10_book 59 = .ok (.iaload, 1) := by decide +kernel
theorem dX10_book_60 : decode cX10_book 60 = .ok (.iadd, 1) := by decide +kernel
theorem dX10_book_61 : decode cX10_book 61 = .ok (.iload_n 1, 1) := by decide +kernel
theorem dX10_book_62 : decode cX10_book 62 = .ok (.iastore, 1) := by decide +kernel
theorem dX10_book_63 : decode cX10_book 63 = .ok (.aload_n 0, 1) := by decide +kernel
theorem dX10_book_64 : decode cX10_book 64 = .ok (.getfield 9, 3) := by decide +kernel
theorem dX10_book_67 : decode cX10_book 67 = .ok (.bipush 104, 2) := by decide +kernel
theorem dX10_book_69 : decode cX10_book 69 = .ok (.aload_n 0, 1) := by decide +kernel
theorem dX10_book_70 : decode cX10_book 70 = .ok (.getfield 9, 3) := by decide +kernel
theorem dX10_book_73 : decode cX10_book 73 = .ok (.bipush 23, 2) := by decide +kernel
theorem dX10_book_75 : decode cX10_book 75 = .ok (.iaload, 1) := by decide +kernel
theorem dX10_book_76 : decode cX10_book 76 = .ok (.iadd, 1) := by decide +kernel
theorem dX10_book_77 : decode cX10_book 77 = .ok (.iload_n 2, 1) := by decide +kernel
theorem dX10_book_78 : decode cX10_book 78 = .ok (.iastore, 1) := by decide +kernel
theorem dX10_book_79 : decode cX10_book 79 = .ok (.aload_n 0, 1) := by decide +kernel
theorem dX10_book_80 : decode cX10_book 80 = .ok (.getfield 9, 3) := by decide +kernel
theorem dX10_book_83 : decode cX10_book 83 = .ok (.bipush 23, 2) := by decide +kernel
theorem dX10_book_85 : decode cX10_book 85 = .ok (.dup2, 1) := by decide +kernel
theorem dX10_book_86 : decode cX10_book 86 = .ok (.iaload, 1) := by decide +kernel
theorem dX10_book_87 : decode cX10_book 87 = .ok (.iconst 1, 1) := by decide +kernel
theorem dX10_book_88 : decode cX10_book 88 = .ok (.iadd, 1) := by decide +kernel
theorem dX10_book_89 : decode cX10_book 89 = .ok (.iastore, 1) := by decide +kernel
theorem dX10_book_90 : decode cX10_book 90 = .ok (.aload_n 0, 1) := by decide +kernel
theorem dX10_book_91 : decode cX10_book 91 = .ok (.getfield 9, 3) := by decide +kernel
theorem dX10_book_94 : decode cX10_book 94 = .ok (.bipush 23, 2) := by decide +kernel
theorem dX10_book_96 : decode cX10_book 96 = .ok (.iaload, 1) := by decide +kernel
theorem dX10_book_97 : decode cX10_book 97 = .ok (.ireturn, 1) := by decide +kernel
theorem dX10_looked_0 : decode cX10_looked 0 = .ok (.iconst 0, 1) := by decide +kernel
theorem dX10_looked_1 : decode cX10_looked 1 = .ok (.istore_n 1, 1) := by decide +kernel
theorem dX10_looked_2 : decode cX10_looked 2 = .ok (.iload_n 1, 1) := by decide +kernel
theorem dX10_looked_3 : decode cX10_looked 3 = .ok (.aload_n 0, 1) := by decide +kernel
theorem dX10_looked_4 : decode cX10_looked 4 = .ok (.getfield 9, 3) := by decide +kernel
theorem dX10_looked_7 : decode cX10_looked 7 = .ok (.bipush 23, 2) := by decide +kernel
theorem dX10_looked_9 : decode cX10_looked 9 = .ok (.iaload, 1) := by decide +kernel
theorem dX10_looked_10 : decode cX10_looked 10 = .ok (.if_icmp .ge 39, 3) := by decide +kernel
theorem dX10_looked_13 : decode cX10_looked 13 = .ok (.aload_n 0, 1) := by decide +kernel
theorem dX10_looked_14 : decode cX10_looked 14 = .ok (.getfield 9, 3) := by decide +kernel
theorem dX10_looked_17 : decode cX10_looked 17 = .ok (.iconst 1, 1) := by decide +kernel
theorem dX10_looked_18 : decode cX10_looked 18 = .ok (.aload_n 0, 1) := by decide +kernel
theorem dX10_looked_19 : decode cX10_looked 19 = .ok (.getfield 9, 3) := by decide +kernel
theorem dX10_looked_22 : decode cX10_looked 22 = .ok (.bipush 96, 2) := by decide +kernel
theorem dX10_looked_24 : decode cX10_looked 24 = .ok (.iload_n 1, 1) := by decide +kernel
theorem dX10_looked_25 : decode cX10_looked 25 = .ok (.iadd, 1) := by decide +kernel
theorem dX10_looked_26 : decode cX10_looked 26 = .ok (.iaload, 1) := by decide +kernel
theorem dX10_looked_27 : decode cX10_looked 27 = .ok (.iadd, 1) := by decide +kernel
theorem dX10_looked_28 : decode cX10_looked 28 = .ok (.iaload, 1) := by decide +kernel
theorem dX10_looked_29 : decode cX10_looked 29 = .ok (.aload_n 0, 1) := by decide +kernel
theorem dX10_looked_30 : decode cX10_looked 30 = .ok (.getfield 9, 3) := by decide +kernel
theorem dX10_looked_33 : decode cX10_looked 33 = .ok (.bipush 104, 2) := by decide +kernel
theorem dX10_looked_35 : decode cX10_looked 35 = .ok (.iload_n 1, 1) := by decide +kernel
theorem dX10_looked_36 : decode cX10_looked 36 = .ok (.iadd, 1) := by decide +kernel
theorem dX10_looked_37 : decode cX10_looked 37 = .ok (.iaload, 1) := by decide +kernel
theorem dX10_looked_38 : decode cX10_looked 38 = .ok (.if_icmp .eq 5, 3) := by decide +kernel
theorem dX10_looked_41 : decode cX10_looked 41 = .ok (.iload_n 1, 1) := by decide +kernel
theorem dX10_looked_42 : decode cX10_looked 42 = .ok (.ireturn, 1) := by decide +kernel
theorem dX10_looked_43 : decode cX10_looked 43 = .ok (.iinc 1 1, 3) := by decide +kernel
theorem dX10_looked_46 : decode cX10_looked 46 = .ok (.goto (-44), 3) := by decide +kernel
theorem dX10_looked_49 : decode cX10_looked 49 = .ok (.bipush (-5), 2) := by decide +kernel
theorem dX10_looked_51 : decode cX10_looked 51 = .ok (.ireturn, 1) := by decide +kernel
theorem dX10_ranBody_0 : decode cX10_ranBody 0 = .ok (.aload_n 0, 1) := by decide +kernel
theorem dX10_ranBody_1 : decode cX10_ranBody 1 = .ok (.getfield 235, 3) := by decide +kernel
theorem dX10_ranBody_4 : decode cX10_ranBody 4 = .ok (.bipush 20, 2) := by decide +kernel
theorem dX10_ranBody_6 : decode cX10_ranBody 6 = .ok (.if_icmp .ge 13, 3) := by decide +kernel
theorem dX10_ranBody_9 : decode cX10_ranBody 9 = .ok (.aload_n 0, 1) := by decide +kernel
theorem dX10_ranBody_10 : decode cX10_ranBody 10 = .ok (.getfield 47, 3) := by decide +kernel
theorem dX10_ranBody_13 : decode cX10_ranBody 13 = .ok (.aload_n 0, 1) := by decide +kernel
theorem dX10_ranBody_14 : decode cX10_ranBody 14 = .ok (.getfield 235, 3) := by decide +kernel
theorem dX10_ranBody_17 : decode cX10_ranBody 17 = .ok (.iload_n 1, 1) := by decide +kernel
theorem dX10_ranBody_18 : decode cX10_ranBody 18 = .ok (.iastore, 1) := by decide +kernel
theorem dX10_ranBody_19 : decode cX10_ranBody 19 = .ok (.aload_n 0, 1) := by decide +kernel
theorem dX10_ranBody_20 : decode cX10_ranBody 20 = .ok (.dup, 1) := by decide +kernel
theorem dX10_ranBody_21 : decode cX10_ranBody 21 = .ok (.getfield 235, 3) := by decide +kernel
theorem dX10_ranBody_24 : decode cX10_ranBody 24 = .ok (.iconst 1, 1) := by decide +kernel
theorem dX10_ranBody_25 : decode cX10_ranBody 25 = .ok (.iadd, 1) := by decide +kernel
theorem dX10_ranBody_26 : decode cX10_ranBody 26 = .ok (.putfield 235, 3) := by decide +kernel
theorem dX10_ranBody_29 : decode cX10_ranBody 29 = .ok (.return_, 1) := by decide +kernel
theorem dX10_isUnder_0 : decode cX10_isUnder 0 = .ok (.iload_n 1, 1) := by decide +kernel
theorem dX10_isUnder_1 : decode cX10_isUnder 1 = .ok (.ifCond .eq 24, 3) := by decide +kernel
theorem dX10_isUnder_4 : decode cX10_isUnder 4 = .ok (.iload_n 1, 1) := by decide +kernel
theorem dX10_isUnder_5 : decode cX10_isUnder 5 = .ok (.iload_n 0, 1) := by decide +kernel
theorem dX10_isUnder_6 : decode cX10_isUnder 6 = .ok (.if_icmp .eq 19, 3) := by decide +kernel
theorem dX10_isUnder_9 : decode cX10_isUnder 9 = .ok (.iload_n 1, 1) := by decide +kernel
theorem dX10_isUnder_10 : decode cX10_isUnder 10 = .ok (.ifCond .le 19, 3) := by decide +kernel
theorem dX10_isUnder_13 : decode cX10_isUnder 13 = .ok (.iload_n 1, 1) := by decide +kernel
theorem dX10_isUnder_14 : decode cX10_isUnder 14 = .ok (.iconst 4, 1) := by decide +kernel
theorem dX10_isUnder_15 : decode cX10_isUnder 15 = .ok (.if_icmp .ge 14, 3) := by decide +kernel
theorem dX10_isUnder_18 : decode cX10_isUnder 18 = .ok (.iload_n 0, 1) := by decide +kernel
theorem dX10_isUnder_19 : decode cX10_isUnder 19 = .ok (.iload_n 1, 1) := by decide +kernel
theorem dX10_isUnder_20 : decode cX10_isUnder 20 = .ok (.iconst 3, 1) := by decide +kernel
theorem dX10_isUnder_21 : decode cX10_isUnder 21 = .ok (.iadd, 1) := by decide +kernel
theorem dX10_isUnder_22 : decode cX10_isUnder 22 = .ok (.if_icmp .ne 7, 3) := by decide +kernel
theorem dX10_isUnder_25 : decode cX10_isUnder 25 = .ok (.iconst 1, 1) := by decide +kernel
theorem dX10_isUnder_26 : decode cX10_isUnder 26 = .ok (.goto 4, 3) := by decide +kernel
theorem dX10_isUnder_29 : decode cX10_isUnder 29 = .ok (.iconst 0, 1) := by decide +kernel
theorem dX10_isUnder_30 : decode cX10_isUnder 30 = .ok (.ireturn, 1) := by decide +kernel
theorem dX10_plainBows_0 : decode cX10_plainBows 0 = .ok (.aload_n 0, 1) := by decide +kernel
theorem dX10_plainBows_1 : decode cX10_plainBows 1 = .ok (.iconst 1, 1) := by decide +kernel
theorem dX10_plainBows_2 : decode cX10_plainBows 2 = .ok (.invokevirtual 238, 3) := by decide +kernel
theorem dX10_plainBows_5 : decode cX10_plainBows 5 = .ok (.iload_n 1, 1) := by decide +kernel
theorem dX10_plainBows_6 : decode cX10_plainBows 6 = .ok (.aload_n 0, 1) := by decide +kernel
theorem dX10_plainBows_7 : decode cX10_plainBows 7 = .ok (.getfield 241, 3) := by decide +kernel
theorem dX10_plainBows_10 : decode cX10_plainBows 10 = .ok (.iadd, 1) := by decide +kernel
theorem dX10_plainBows_11 : decode cX10_plainBows 11 = .ok (.ireturn, 1) := by decide +kernel
theorem dX10_bowsActs_0 : decode cX10_bowsActs 0 = .ok (.aload_n 0, 1) := by decide +kernel
theorem dX10_bowsActs_1 : decode cX10_bowsActs 1 = .ok (.getfield 244, 3) := by decide +kernel
theorem dX10_bowsActs_4 : decode cX10_bowsActs 4 = .ok (.iconst 1, 1) := by decide +kernel
theorem dX10_bowsActs_5 : decode cX10_bowsActs 5 = .ok (.invokestatic 247, 3) := by decide +kernel
theorem dX10_bowsActs_8 : decode cX10_bowsActs 8 = .ok (.ifCond .eq 17, 3) := by decide +kernel
theorem dX10_bowsActs_11 : decode cX10_bowsActs 11 = .ok (.aload_n 0, 1) := by decide +kernel
theorem dX10_bowsActs_12 : decode cX10_bowsActs 12 = .ok (.bipush 11, 2) := by decide +kernel
theorem dX10_bowsActs_14 : decode cX10_bowsActs 14 = .ok (.invokevirtual 238, 3) := by decide +kernel
theorem dX10_bowsActs_17 : decode cX10_bowsActs 17 = .ok (.aload_n 0, 1) := by decide +kernel
theorem dX10_bowsActs_18 : decode cX10_bowsActs 18 = .ok (.iload_n 1, 1) := by decide +kernel
theorem dX10_bowsActs_19 : decode cX10_bowsActs 19 = .ok (.iconst 3, 1) := by decide +kernel
theorem dX10_bowsActs_20 : decode cX10_bowsActs 20 = .ok (.imul, 1) := by decide +kernel
theorem dX10_bowsActs_21 : decode cX10_bowsActs 21 = .ok (.invokevirtual 250, 3) := by decide +kernel
theorem dX10_bowsActs_24 : decode cX10_bowsActs 24 = .ok (.ireturn, 1) := by decide +kernel
theorem dX10_bowsActs_25 : decode cX10_bowsActs 25 = .ok (.aload_n 0, 1) := by decide +kernel
theorem dX10_bowsActs_26 : decode cX10_bowsActs 26 = .ok (.getfield 244, 3) := by decide +kernel
theorem dX10_bowsActs_29 : decode cX10_bowsActs 29 = .ok (.iconst 5, 1) := by decide +kernel
theorem dX10_bowsActs_30 : decode cX10_bowsActs 30 = .ok (.if_icmp .ne 20, 3) := by decide +kernel
theorem dX10_bowsActs_33 : decode cX10_bowsActs 33 = .ok (.aload_n 0, 1) := by decide +kernel
theorem dX10_bowsActs_34 : decode cX10_bowsActs 34 = .ok (.bipush 51, 2) := by decide +kernel
theorem dX10_bowsActs_36 : decode cX10_bowsActs 36 = .ok (.invokevirtual 238, 3) := by decide +kernel
theorem dX10_bowsActs_39 : decode cX10_bowsActs 39 = .ok (.aload_n 0, 1) := by decide +kernel
theorem dX10_bowsActs_40 : decode cX10_bowsActs 40 = .ok (.iload_n 1, 1) := by decide +kernel
theorem dX10_bowsActs_41 : decode cX10_bowsActs 41 = .ok (.invokevirtual 250, 3) := by decide +kernel
theorem dX10_bowsActs_44 : decode cX10_bowsActs 44 = .ok (.aload_n 0, 1) := by decide +kernel
theorem dX10_bowsActs_45 : decode cX10_bowsActs 45 = .ok (.getfield 241, 3) := by decide +kernel
theorem dX10_bowsActs_48 : decode cX10_bowsActs 48 = .ok (.ixor, 1) := by decide +kernel
theorem dX10_bowsActs_49 : decode cX10_bowsActs 49 = .ok (.ireturn, 1) := by decide +kernel
theorem dX10_bowsActs_50 : decode cX10_bowsActs 50 = .ok (.aload_n 0, 1) := by decide +kernel
theorem dX10_bowsActs_51 : decode cX10_bowsActs 51 = .ok (.iload_n 1, 1) := by decide +kernel
theorem dX10_bowsActs_52 : decode cX10_bowsActs 52 = .ok (.invokevirtual 250, 3) := by decide +kernel
theorem dX10_bowsActs_55 : decode cX10_bowsActs 55 = .ok (.ireturn, 1) := by decide +kernel
theorem dX10_plainServes_0 : decode cX10_plainServes 0 = .ok (.aload_n 0, 1) := by decide +kernel
theorem dX10_plainServes_1 : decode cX10_plainServes 1 = .ok (.iconst 2, 1) := by decide +kernel
theorem dX10_plainServes_2 : decode cX10_plainServes 2 = .ok (.invokevirtual 238, 3) := by decide +kernel
theorem dX10_plainServes_5 : decode cX10_plainServes 5 = .ok (.aload_n 0, 1) := by decide +kernel
theorem dX10_plainServes_6 : decode cX10_plainServes 6 = .ok (.iload_n 1, 1) := by decide +kernel
theorem dX10_plainServes_7 : decode cX10_plainServes 7 = .ok (.invokevirtual 253, 3) := by decide +kernel
theorem dX10_plainServes_10 : decode cX10_plainServes 10 = .ok (.aload_n 0, 1) := by decide +kernel
theorem dX10_plainServes_11 : decode cX10_plainServes 11 = .ok (.getfield 256, 3) := by decide +kernel
theorem dX10_plainServes_14 : decode cX10_plainServes 14 = .ok (.isub, 1) := by decide +kernel
theorem dX10_plainServes_15 : decode cX10_plainServes 15 = .ok (.ireturn, 1) := by decide +kernel
theorem dX10_servesActs_0 : decode cX10_servesActs 0 = .ok (.aload_n 0, 1) := by decide +kernel
theorem dX10_servesActs_1 : decode cX10_servesActs 1 = .ok (.getfield 244, 3) := by decide +kernel
theorem dX10_servesActs_4 : decode cX10_servesActs 4 = .ok (.iconst 2, 1) := by decide +kernel
theorem dX10_servesActs_5 : decode cX10_servesActs 5 = .ok (.invokestatic 247, 3) := by decide +kernel
theorem dX10_servesActs_8 : decode cX10_servesActs 8 = .ok (.ifCond .eq 16, 3) := by decide +kernel
theorem dX10_servesActs_11 : decode cX10_servesActs 11 = .ok (.aload_n 0, 1) := by decide +kernel
theorem dX10_servesActs_12 : decode cX10_servesActs 12 = .ok (.bipush 21, 2) := by decide +kernel
theorem dX10_servesActs_14 : decode cX10_servesActs 14 = .ok (.invokevirtual 238, 3) := by decide +kernel
theorem dX10_servesActs_17 : decode cX10_servesActs 17 = .ok (.aload_n 0, 1) := by decide +kernel
theorem dX10_servesActs_18 : decode cX10_servesActs 18 = .ok (.iload_n 1, 1) := by decide +kernel
theorem dX10_servesActs_19 : decode cX10_servesActs 19 = .ok (.invokevirtual 259, 3) := by decide +kernel
theorem dX10_servesActs_22 : decode cX10_servesActs 22 = .ok (.ineg, 1) := by decide +kernel
theorem dX10_servesActs_23 : decode cX10_servesActs 23 = .ok (.ireturn, 1) := by decide +kernel
theorem dX10_servesActs_24 : decode cX10_servesActs 24 = .ok (.aload_n 0, 1) := by decide +kernel
theorem dX10_servesActs_25 : decode cX10_servesActs 25 = .ok (.getfield 244, 3) := by decide +kernel
theorem dX10_servesActs_28 : decode cX10_servesActs 28 = .ok (.bipush 6, 2) := by decide +kernel
theorem dX10_servesActs_30 : decode cX10_servesActs 30 = .ok (.if_icmp .ne 20, 3) := by decide +kernel
theorem dX10_servesActs_33 : decode cX10_servesActs 33 = .ok (.aload_n 0, 1) := by decide +kernel
theorem dX10_servesActs_34 : decode cX10_servesActs 34 = .ok (.bipush 61, 2) := by decide +kernel
theorem dX10_servesActs_36 : decode cX10_servesActs 36 = .ok (.invokevirtual 238, 3) := by decide +kernel
theorem dX10_servesActs_39 : decode cX10_servesActs 39 = .ok (.aload_n 0, 1) := by decide +kernel
theorem dX10_servesActs_40 : decode cX10_servesActs 40 = .ok (.iload_n 1, 1) := by decide +kernel
theorem dX10_servesActs_41 : decode cX10_servesActs 41 = .ok (.invokevirtual 259, 3) := by decide +kernel
theorem dX10_servesActs_44 : decode cX10_servesActs 44 = .ok (.aload_n 0, 1) := by decide +kernel
theorem dX10_servesActs_45 : decode cX10_servesActs 45 = .ok (.getfield 256, 3) := by decide +kernel
theorem dX10_servesActs_48 : decode cX10_servesActs 48 = .ok (.iadd, 1) := by decide +kernel
theorem dX10_servesActs_49 : decode cX10_servesActs 49 = .ok (.ireturn, 1) := by decide +kernel
theorem dX10_servesActs_50 : decode cX10_servesActs 50 = .ok (.aload_n 0, 1) := by decide +kernel
theorem dX10_servesActs_51 : decode cX10_servesActs 51 = .ok (.iload_n 1, 1) := by decide +kernel
theorem dX10_servesActs_52 : decode cX10_servesActs 52 = .ok (.invokevirtual 259, 3) := by decide +kernel
theorem dX10_servesActs_55 : decode cX10_servesActs 55 = .ok (.ireturn, 1) := by decide +kernel
theorem dX10_plainTelling_0 : decode cX10_plainTelling 0 = .ok (.aload_n 0, 1) := by decide +kernel
theorem dX10_plainTelling_1 : decode cX10_plainTelling 1 = .ok (.iconst 3, 1) := by decide +kernel
theorem dX10_plainTelling_2 : decode cX10_plainTelling 2 = .ok (.invokevirtual 238, 3) := by decide +kernel
theorem dX10_plainTelling_5 : decode cX10_plainTelling 5 = .ok (.aload_n 0, 1) := by decide +kernel
theorem dX10_plainTelling_6 : decode cX10_plainTelling 6 = .ok (.iload_n 1, 1) := by decide +kernel
theorem dX10_plainTelling_7 : decode cX10_plainTelling 7 = .ok (.invokevirtual 262, 3) := by decide +kernel
theorem dX10_plainTelling_10 : decode cX10_plainTelling 10 = .ok (.iconst 2, 1) := by decide +kernel
theorem dX10_plainTelling_11 : decode cX10_plainTelling 11 = .ok (.imul, 1) := by decide +kernel
theorem dX10_plainTelling_12 : decode cX10_plainTelling 12 = .ok (.ireturn, 1) := by decide +kernel
theorem dX10_weepsActs_0 : decode cX10_weepsActs 0 = .ok (.aload_n 0, 1) := by decide +kernel
theorem dX10_weepsActs_1 : decode cX10_weepsActs 1 = .ok (.getfield 244, 3) := by decide +kernel
theorem dX10_weepsActs_4 : decode cX10_weepsActs 4 = .ok (.iconst 3, 1) := by decide +kernel
theorem dX10_weepsActs_5 : decode cX10_weepsActs 5 = .ok (.invokestatic 247, 3) := by decide +kernel
theorem dX10_weepsActs_8 : decode cX10_weepsActs 8 = .ok (.ifCond .eq 18, 3) := by decide +kernel
theorem dX10_weepsActs_11 : decode cX10_weepsActs 11 = .ok (.aload_n 0, 1) := by decide +kernel
theorem dX10_weepsActs_12 : decode cX10_weepsActs 12 = .ok (.bipush 31, 2) := by decide +kernel
theorem dX10_weepsActs_14 : decode cX10_weepsActs 14 = .ok (.invokevirtual 238, 3) := by decide +kernel
theorem dX10_weepsActs_17 : decode cX10_weepsActs 17 = .ok (.aload_n 0, 1) := by decide +kernel
theorem dX10_weepsActs_18 : decode cX10_weepsActs 18 = .ok (.iload_n 1, 1) := by decide +kernel
theorem dX10_weepsActs_19 : decode cX10_weepsActs 19 = .ok (.invokevirtual 265, 3) := by decide +kernel
theorem dX10_weepsActs_22 : decode cX10_weepsActs 22 = .ok (.bipush 7, 2) := by decide +kernel
theorem dX10_weepsActs_24 : decode cX10_weepsActs 24 = .ok (.ixor, 1) := by decide +kernel
theorem dX10_weepsActs_25 : decode cX10_weepsActs 25 = .ok (.ireturn, 1) := by decide +kernel
theorem dX10_weepsActs_26 : decode cX10_weepsActs 26 = .ok (.aload_n 0, 1) := by decide +kernel
theorem dX10_weepsActs_27 : decode cX10_weepsActs 27 = .ok (.getfield 244, 3) := by decide +kernel
theorem dX10_weepsActs_30 : decode cX10_weepsActs 30 = .ok (.iconst 4, 1) := by decide +kernel
theorem dX10_weepsActs_31 : decode cX10_weepsActs 31 = .ok (.if_icmp .ne 25, 3) := by decide +kernel
theorem dX10_weepsActs_34 : decode cX10_weepsActs 34 = .ok (.aload_n 0, 1) := by decide +kernel
theorem dX10_weepsActs_35 : decode cX10_weepsActs 35 = .ok (.bipush 41, 2) := by decide +kernel
theorem dX10_weepsActs_37 : decode cX10_weepsActs 37 = .ok (.invokevirtual 238, 3) := by decide +kernel
theorem dX10_weepsActs_40 : decode cX10_weepsActs 40 = .ok (.aload_n 0, 1) := by decide +kernel
theorem dX10_weepsActs_41 : decode cX10_weepsActs 41 = .ok (.iload_n 1, 1) := by decide +kernel
theorem dX10_weepsActs_42 : decode cX10_weepsActs 42 = .ok (.iconst 1, 1) := by decide +kernel
theorem dX10_weepsActs_43 : decode cX10_weepsActs 43 = .ok (.isub, 1) := by decide +kernel
theorem dX10_weepsActs_44 : decode cX10_weepsActs 44 = .ok (.invokevirtual 265, 3) := by decide +kernel
theorem dX10_weepsActs_47 : decode cX10_weepsActs 47 = .ok (.istore_n 2, 1) := by decide +kernel
theorem dX10_weepsActs_48 : decode cX10_weepsActs 48 = .ok (.iload_n 2, 1) := by decide +kernel
theorem dX10_weepsActs_49 : decode cX10_weepsActs 49 = .ok (.aload_n 0, 1) := by decide +kernel
theorem dX10_weepsActs_50 : decode cX10_weepsActs 50 = .ok (.iconst 2, 1) := by decide +kernel
theorem dX10_weepsActs_51 : decode cX10_weepsActs 51 = .ok (.invokevirtual 253, 3) := by decide +kernel
theorem dX10_weepsActs_54 : decode cX10_weepsActs 54 = .ok (.iadd, 1) := by decide +kernel
theorem dX10_weepsActs_55 : decode cX10_weepsActs 55 = .ok (.ireturn, 1) := by decide +kernel
theorem dX10_weepsActs_56 : decode cX10_weepsActs 56 = .ok (.aload_n 0, 1) := by decide +kernel
theorem dX10_weepsActs_57 : decode cX10_weepsActs 57 = .ok (.iload_n 1, 1) := by decide +kernel
theorem dX10_weepsActs_58 : decode cX10_weepsActs 58 = .ok (.invokevirtual 265, 3) := by decide +kernel
theorem dX10_weepsActs_61 : decode cX10_weepsActs 61 = .ok (.ireturn, 1) := by decide +kernel
theorem dX10_act_0 : decode cX10_act 0 = .ok (.aload_n 0, 1) := by decide +kernel
theorem dX10_act_1 : decode cX10_act 1 = .ok (.iconst 0, 1) := by decide +kernel
theorem dX10_act_2 : decode cX10_act 2 = .ok (.putfield 235, 3) := by decide +kernel
theorem dX10_act_5 : decode cX10_act 5 = .ok (.aload_n 0, 1) := by decide +kernel
theorem dX10_act_6 : decode cX10_act 6 = .ok (.iload_n 1, 1) := by decide +kernel
theorem dX10_act_7 : decode cX10_act 7 = .ok (.invokevirtual 159, 3) := by decide +kernel
theorem dX10_act_10 : decode cX10_act 10 = .ok (.ifCond .eq 12, 3) := by decide +kernel
theorem dX10_act_13 : decode cX10_act 13 = .ok (.iload_n 2, 1) := by decide +kernel
theorem dX10_act_14 : decode cX10_act 14 = .ok (.iconst 0, 1) := by decide +kernel
theorem dX10_act_15 : decode cX10_act 15 = .ok (.iconst 2, 1) := by decide +kernel
theorem dX10_act_16 : decode cX10_act 16 = .ok (.invokestatic 54, 3) := by decide +kernel
theorem dX10_act_19 : decode cX10_act 19 = .ok (.ifCond .ne 5, 3) := by decide +kernel
theorem dX10_act_22 : decode cX10_act 22 = .ok (.iconst 0, 1) := by decide +kernel
theorem dX10_act_23 : decode cX10_act 23 = .ok (.ireturn, 1) := by decide +kernel
theorem dX10_act_24 : decode cX10_act 24 = .ok (.aload_n 0, 1) := by decide +kernel
theorem dX10_act_25 : decode cX10_act 25 = .ok (.aload_n 0, 1) := by decide +kernel
theorem dX10_act_26 : decode cX10_act 26 = .ok (.getfield 9, 3) := by decide +kernel
theorem dX10_act_29 : decode cX10_act 29 = .ok (.bipush 26, 2) := by decide +kernel
theorem dX10_act_31 : decode cX10_act 31 = .ok (.iload_n 1, 1) := by decide +kernel
theorem dX10_act_32 : decode cX10_act 32 = .ok (.iadd, 1) := by decide +kernel
theorem dX10_act_33 : decode cX10_act 33 = .ok (.iaload, 1) := by decide +kernel
theorem dX10_act_34 : decode cX10_act 34 = .ok (.putfield 244, 3) := by decide +kernel
theorem dX10_act_37 : decode cX10_act 37 = .ok (.aload_n 0, 1) := by decide +kernel
theorem dX10_act_38 : decode cX10_act 38 = .ok (.iload_n 1, 1) := by decide +kernel
theorem dX10_act_39 : decode cX10_act 39 = .ok (.putfield 241, 3) := by decide +kernel
theorem dX10_act_42 : decode cX10_act 42 = .ok (.aload_n 0, 1) := by decide +kernel
theorem dX10_act_43 : decode cX10_act 43 = .ok (.aload_n 0, 1) := by decide +kernel
theorem dX10_act_44 : decode cX10_act 44 = .ok (.getfield 9, 3) := by decide +kernel
theorem dX10_act_47 : decode cX10_act 47 = .ok (.bipush 32, 2) := by decide +kernel
theorem dX10_act_49 : decode cX10_act 49 = .ok (.iload_n 1, 1) := by decide +kernel
theorem dX10_act_50 : decode cX10_act 50 = .ok (.iadd, 1) := by decide +kernel
theorem dX10_act_51 : decode cX10_act 51 = .ok (.iaload, 1) := by decide +kernel
theorem dX10_act_52 : decode cX10_act 52 = .ok (.putfield 256, 3) := by decide +kernel
theorem dX10_act_55 : decode cX10_act 55 = .ok (.iload_n 2, 1) := by decide +kernel
theorem dX10_act_56 : decode cX10_act 56 = .ok (.ifCond .ne 11, 3) := by decide +kernel
theorem dX10_act_59 : decode cX10_act 59 = .ok (.aload_n 0, 1) := by decide +kernel
theorem dX10_act_60 : decode cX10_act 60 = .ok (.iload_n 3, 1) := by decide +kernel
theorem dX10_act_61 : decode cX10_act 61 = .ok (.invokevirtual 253, 3) := by decide +kernel
theorem dX10_act_64 : decode cX10_act 64 = .ok (.goto 21, 3) := by decide +kernel
theorem dX10_act_67 : decode cX10_act 67 = .ok (.iload_n 2, 1) := by decide +kernel
theorem dX10_act_68 : decode cX10_act 68 = .ok (.iconst 1, 1) := by decide +kernel
theorem dX10_act_69 : decode cX10_act 69 = .ok (.if_icmp .ne 11, 3) := by decide +kernel
theorem dX10_act_72 : decode cX10_act 72 = .ok (.aload_n 0, 1) := by decide +kernel
theorem dX10_act_73 : decode cX10_act 73 = .ok (.iload_n 3, 1) := by decide +kernel
theorem dX10_act_74 : decode cX10_act 74 = .ok (.invokevirtual 262, 3) := by decide +kernel
theorem dX10_act_77 : decode cX10_act 77 = .ok (.goto 8, 3) := by decide +kernel
theorem dX10_act_80 : decode cX10_act 80 = .ok (.aload_n 0, 1) := by decide +kernel
theorem dX10_act_81 : decode cX10_act 81 = .ok (.iload_n 3, 1) := by decide +kernel
theorem dX10_act_82 : decode cX10_act 82 = .ok (.invokevirtual 268, 3) := by decide +kernel
theorem dX10_act_85 : decode cX10_act 85 = .ok (.ireturn, 1) := by decide +kernel
theorem dX10_trace_0 : decode cX10_trace 0 = .ok (.iload_n 1, 1) := by decide +kernel
theorem dX10_trace_1 : decode cX10_trace 1 = .ok (.iconst 0, 1) := by decide +kernel
theorem dX10_trace_2 : decode cX10_trace 2 = .ok (.aload_n 0, 1) := by decide +kernel
theorem dX10_trace_3 : decode cX10_trace 3 = .ok (.getfield 235, 3) := by decide +kernel
theorem dX10_trace_6 : decode cX10_trace 6 = .ok (.bipush 20, 2) := by decide +kernel
theorem dX10_trace_8 : decode cX10_trace 8 = .ok (.if_icmp .ge 10, 3) := by decide +kernel
theorem dX10_trace_11 : decode cX10_trace 11 = .ok (.aload_n 0, 1) := by decide +kernel
theorem dX10_trace_12 : decode cX10_trace 12 = .ok (.getfield 235, 3) := by decide +kernel
theorem dX10_trace_15 : decode cX10_trace 15 = .ok (.goto 5, 3) := by decide +kernel
theorem dX10_trace_18 : decode cX10_trace 18 = .ok (.bipush 20, 2) := by decide +kernel
theorem dX10_trace_20 : decode cX10_trace 20 = .ok (.iconst 1, 1) := by decide +kernel
theorem dX10_trace_21 : decode cX10_trace 21 = .ok (.isub, 1) := by decide +kernel
theorem dX10_trace_22 : decode cX10_trace 22 = .ok (.invokestatic 54, 3) := by decide +kernel
theorem dX10_trace_25 : decode cX10_trace 25 = .ok (.ifCond .eq 12, 3) := by decide +kernel
theorem dX10_trace_28 : decode cX10_trace 28 = .ok (.aload_n 0, 1) := by decide +kernel
theorem dX10_trace_29 : decode cX10_trace 29 = .ok (.getfield 47, 3) := by decide +kernel
theorem dX10_trace_32 : decode cX10_trace 32 = .ok (.iload_n 1, 1) := by decide +kernel
theorem dX10_trace_33 : decode cX10_trace 33 = .ok (.iaload, 1) := by decide +kernel
theorem dX10_trace_34 : decode cX10_trace 34 = .ok (.goto 4, 3) := by decide +kernel
theorem dX10_trace_37 : decode cX10_trace 37 = .ok (.iconst (-1), 1) := by decide +kernel
theorem dX10_trace_38 : decode cX10_trace 38 = .ok (.ireturn, 1) := by decide +kernel
theorem dX10_as_0 : decode cX10_as 0 = .ok (.aload_n 0, 1) := by decide +kernel
theorem dX10_as_1 : decode cX10_as 1 = .ok (.iload_n 1, 1) := by decide +kernel
theorem dX10_as_2 : decode cX10_as 2 = .ok (.invokevirtual 159, 3) := by decide +kernel
theorem dX10_as_5 : decode cX10_as 5 = .ok (.ifCond .eq 13, 3) := by decide +kernel
theorem dX10_as_8 : decode cX10_as 8 = .ok (.iload_n 2, 1) := by decide +kernel
theorem dX10_as_9 : decode cX10_as 9 = .ok (.iconst 0, 1) := by decide +kernel
theorem dX10_as_10 : decode cX10_as 10 = .ok (.bipush 6, 2) := by decide +kernel
theorem dX10_as_12 : decode cX10_as 12 = .ok (.invokestatic 54, 3) := by decide +kernel
theorem dX10_as_15 : decode cX10_as 15 = .ok (.ifCond .ne 5, 3) := by decide +kernel
theorem dX10_as_18 : decode cX10_as 18 = .ok (.iconst (-1), 1) := by decide +kernel
theorem dX10_as_19 : decode cX10_as 19 = .ok (.ireturn, 1) := by decide +kernel
theorem dX10_as_20 : decode cX10_as 20 = .ok (.aload_n 0, 1) := by decide +kernel
theorem dX10_as_21 : decode cX10_as 21 = .ok (.getfield 9, 3) := by decide +kernel
theorem dX10_as_24 : decode cX10_as 24 = .ok (.bipush 26, 2) := by decide +kernel
theorem dX10_as_26 : decode cX10_as 26 = .ok (.iload_n 1, 1) := by decide +kernel
theorem dX10_as_27 : decode cX10_as 27 = .ok (.iadd, 1) := by decide +kernel
theorem dX10_as_28 : decode cX10_as 28 = .ok (.iaload, 1) := by decide +kernel
theorem dX10_as_29 : decode cX10_as 29 = .ok (.iload_n 2, 1) := by decide +kernel
theorem dX10_as_30 : decode cX10_as 30 = .ok (.invokestatic 247, 3) := by decide +kernel
theorem dX10_as_33 : decode cX10_as 33 = .ok (.ifCond .eq 15, 3) := by decide +kernel
theorem dX10_as_36 : decode cX10_as 36 = .ok (.aload_n 0, 1) := by decide +kernel
theorem dX10_as_37 : decode cX10_as 37 = .ok (.getfield 9, 3) := by decide +kernel
theorem dX10_as_40 : decode cX10_as 40 = .ok (.bipush 32, 2) := by decide +kernel
theorem dX10_as_42 : decode cX10_as 42 = .ok (.iload_n 1, 1) := by decide +kernel
theorem dX10_as_43 : decode cX10_as 43 = .ok (.iadd, 1) := by decide +kernel
theorem dX10_as_44 : decode cX10_as 44 = .ok (.iaload, 1) := by decide +kernel
theorem dX10_as_45 : decode cX10_as 45 = .ok (.goto 5, 3) := by decide +kernel
theorem dX10_as_48 : decode cX10_as 48 = .ok (.bipush (-6), 2) := by decide +kernel
theorem dX10_as_50 : decode cX10_as 50 = .ok (.ireturn, 1) := by decide +kernel
theorem dX10_image_0 : decode cX10_image 0 = .ok (.iconst 0, 1) := by decide +kernel
theorem dX10_image_1 : decode cX10_image 1 = .ok (.istore_n 1, 1) := by decide +kernel
theorem dX10_image_2 : decode cX10_image 2 = .ok (.iload_n 1, 1) := by decide +kernel
theorem dX10_image_3 : decode cX10_image 3 = .ok (.sipush 922, 3) := by decide +kernel
theorem dX10_image_6 : decode cX10_image 6 = .ok (.if_icmp .ge 21, 3) := by decide +kernel
theorem dX10_image_9 : decode cX10_image 9 = .ok (.aload_n 0, 1) := by decide +kernel
theorem dX10_image_10 : decode cX10_image 10 = .ok (.getfield 15, 3) := by decide +kernel
theorem dX10_image_13 : decode cX10_image 13 = .ok (.iload_n 1, 1) := by decide +kernel
theorem dX10_image_14 : decode cX10_image 14 = .ok (.aload_n 0, 1) := by decide +kernel
theorem dX10_image_15 : decode cX10_image 15 = .ok (.getfield 9, 3) := by decide +kernel
theorem dX10_image_18 : decode cX10_image 18 = .ok (.iload_n 1, 1) := by decide +kernel
theorem dX10_image_19 : decode cX10_image 19 = .ok (.iaload, 1) := by decide +kernel
theorem dX10_image_20 : decode cX10_image 20 = .ok (.iastore, 1) := by decide +kernel
theorem dX10_image_21 : decode cX10_image 21 = .ok (.iinc 1 1, 3) := by decide +kernel
theorem dX10_image_24 : decode cX10_image 24 = .ok (.goto (-22), 3) := by decide +kernel
theorem dX10_image_27 : decode cX10_image 27 = .ok (.aload_n 0, 1) := by decide +kernel
theorem dX10_image_28 : decode cX10_image 28 = .ok (.iconst 1, 1) := by decide +kernel
theorem dX10_image_29 : decode cX10_image 29 = .ok (.putfield 271, 3) := by decide +kernel
theorem dX10_image_32 : decode cX10_image 32 = .ok (.aload_n 0, 1) := by decide +kernel
theorem dX10_image_33 : decode cX10_image 33 = .ok (.getfield 9, 3) := by decide +kernel
theorem dX10_image_36 : decode cX10_image 36 = .ok (.bipush 19, 2) := by decide +kernel
theorem dX10_image_38 : decode cX10_image 38 = .ok (.iaload, 1) := by decide +kernel
theorem dX10_image_39 : decode cX10_image 39 = .ok (.ireturn, 1) := by decide +kernel
theorem dX10_undo_0 : decode cX10_undo 0 = .ok (.aload_n 0, 1) := by decide +kernel
theorem dX10_undo_1 : decode cX10_undo 1 = .ok (.getfield 271, 3) := by decide +kernel
theorem dX10_undo_4 : decode cX10_undo 4 = .ok (.ifCond .ne 6, 3) := by decide +kernel
theorem dX10_undo_7 : decode cX10_undo 7 = .ok (.bipush (-3), 2) := by decide +kernel
theorem dX10_undo_9 : decode cX10_undo 9 = .ok (.ireturn, 1) := by decide +kernel
theorem dX10_undo_10 : decode cX10_undo 10 = .ok (.iconst 0, 1) := by decide +kernel
theorem dX10_undo_11 : decode cX10_undo 11 = .ok (.istore_n 1, 1) := by decide +kernel
theorem dX10_undo_12 : decode cX10_undo 12 = .ok (.iload_n 1, 1) := by decide +kernel
theorem dX10_undo_13 : decode cX10_undo 13 = .ok (.sipush 922, 3) := by decide +kernel
theorem dX10_undo_16 : decode cX10_undo 16 = .ok (.if_icmp .ge 21, 3) := by decide +kernel
theorem dX10_undo_19 : decode cX10_undo 19 = .ok (.aload_n 0, 1) := by decide +kernel
theorem dX10_undo_20 : decode cX10_undo 20 = .ok (.getfield 9, 3) := by decide +kernel
theorem dX10_undo_23 : decode cX10_undo 23 = .ok (.iload_n 1, 1) := by decide +kernel
theorem dX10_undo_24 : decode cX10_undo 24 = .ok (.aload_n 0, 1) := by decide +kernel
theorem dX10_undo_25 : decode cX10_undo 25 = .ok (.getfield 15, 3) := by decide +kernel
theorem dX10_undo_28 : decode cX10_undo 28 = .ok (.iload_n 1, 1) := by decide +kernel
theorem dX10_undo_29 : decode cX10_undo 29 = .ok (.iaload, 1) := by decide +kernel
theorem dX10_undo_30 : decode cX10_undo 30 = .ok (.iastore, 1) := by decide +kernel
theorem dX10_undo_31 : decode cX10_undo 31 = .ok (.iinc 1 1, 3) := by decide +kernel
theorem dX10_undo_34 : decode cX10_undo 34 = .ok (.goto (-22), 3) := by decide +kernel
theorem dX10_undo_37 : decode cX10_undo 37 = .ok (.aload_n 0, 1) := by decide +kernel
theorem dX10_undo_38 : decode cX10_undo 38 = .ok (.getfield 9, 3) := by decide +kernel
theorem dX10_undo_41 : decode cX10_undo 41 = .ok (.bipush 19, 2) := by decide +kernel
theorem dX10_undo_43 : decode cX10_undo 43 = .ok (.iaload, 1) := by decide +kernel
theorem dX10_undo_44 : decode cX10_undo 44 = .ok (.ireturn, 1) := by decide +kernel
theorem dX10_count_0 : decode cX10_count 0 = .ok (.iload_n 1, 1) := by decide +kernel
theorem dX10_count_1 : decode cX10_count 1 = .ok (.bipush 6, 2) := by decide +kernel
theorem dX10_count_3 : decode cX10_count 3 = .ok (.if_icmp .ne 10, 3) := by decide +kernel
theorem dX10_count_6 : decode cX10_count 6 = .ok (.aload_n 0, 1) := by decide +kernel
theorem dX10_count_7 : decode cX10_count 7 = .ok (.getfield 235, 3) := by decide +kernel
theorem dX10_count_10 : decode cX10_count 10 = .ok (.goto 25, 3) := by decide +kernel
theorem dX10_count_13 : decode cX10_count 13 = .ok (.iload_n 1, 1) := by decide +kernel
theorem dX10_count_14 : decode cX10_count 14 = .ok (.iconst 0, 1) := by decide +kernel
theorem dX10_count_15 : decode cX10_count 15 = .ok (.iconst 5, 1) := by decide +kernel
theorem dX10_count_16 : decode cX10_count 16 = .ok (.invokestatic 54, 3) := by decide +kernel
theorem dX10_count_19 : decode cX10_count 19 = .ok (.ifCond .eq 15, 3) := by decide +kernel
theorem dX10_count_22 : decode cX10_count 22 = .ok (.aload_n 0, 1) := by decide +kernel
theorem dX10_count_23 : decode cX10_count 23 = .ok (.getfield 9, 3) := by decide +kernel
theorem dX10_count_26 : decode cX10_count 26 = .ok (.bipush 19, 2) := by decide +kernel
theorem dX10_count_28 : decode cX10_count 28 = .ok (.iload_n 1, 1) := by decide +kernel
theorem dX10_count_29 : decode cX10_count 29 = .ok (.iadd, 1) := by decide +kernel
theorem dX10_count_30 : decode cX10_count 30 = .ok (.iaload, 1) := by decide +kernel
theorem dX10_count_31 : decode cX10_count 31 = .ok (.goto 4, 3) := by decide +kernel
theorem dX10_count_34 : decode cX10_count 34 = .ok (.iconst (-1), 1) := by decide +kernel
theorem dX10_count_35 : decode cX10_count 35 = .ok (.ireturn, 1) := by decide +kernel
theorem dJ6_bitCount_0f7a4_0 : decode cJ6_bitCount_0f7a4 0 = .ok (.iload_n 0, 1) := by decide +kernel
theorem dJ6_bitCount_0f7a4_1 : decode cJ6_bitCount_0f7a4 1 = .ok (.iload_n 0, 1) := by decide +kernel
theorem dJ6_bitCount_0f7a4_2 : decode cJ6_bitCount_0f7a4 2 = .ok (.iconst 1, 1) := by decide +kernel
theorem dJ6_bitCount_0f7a4_3 : decode cJ6_bitCount_0f7a4 3 = .ok (.iushr, 1) := by decide +kernel
theorem dJ6_bitCount_0f7a4_4 : decode cJ6_bitCount_0f7a4 4 = .ok (.ldc_w 265, 3) := by decide +kernel
theorem dJ6_bitCount_0f7a4_7 : decode cJ6_bitCount_0f7a4 7 = .ok (.iand, 1) := by decide +kernel
theorem dJ6_bitCount_0f7a4_8 : decode cJ6_bitCount_0f7a4 8 = .ok (.isub, 1) := by decide +kernel
theorem dJ6_bitCount_0f7a4_9 : decode cJ6_bitCount_0f7a4 9 = .ok (.istore_n 0, 1) := by decide +kernel
theorem dJ6_bitCount_0f7a4_10 : decode cJ6_bitCount_0f7a4 10 = .ok (.iload_n 0, 1) := by decide +kernel
theorem dJ6_bitCount_0f7a4_11 : decode cJ6_bitCount_0f7a4 11 = .ok (.ldc_w 266, 3) := by decide +kernel
theorem dJ6_bitCount_0f7a4_14 : decode cJ6_bitCount_0f7a4 14 = .ok (.iand, 1) := by decide +kernel
theorem dJ6_bitCount_0f7a4_15 : decode cJ6_bitCount_0f7a4 15 = .ok (.iload_n 0, 1) := by decide +kernel
theorem dJ6_bitCount_0f7a4_16 : decode cJ6_bitCount_0f7a4 16 = .ok (.iconst 2, 1) := by decide +kernel
theorem dJ6_bitCount_0f7a4_17 : decode cJ6_bitCount_0f7a4 17 = .ok (.iushr, 1) := by decide +kernel
theorem dJ6_bitCount_0f7a4_18 : decode cJ6_bitCount_0f7a4 18 = .ok (.ldc_w 266, 3) := by decide +kernel
theorem dJ6_bitCount_0f7a4_21 : decode cJ6_bitCount_0f7a4 21 = .ok (.iand, 1) := by decide +kernel
theorem dJ6_bitCount_0f7a4_22 : decode cJ6_bitCount_0f7a4 22 = .ok (.iadd, 1) := by decide +kernel
theorem dJ6_bitCount_0f7a4_23 : decode cJ6_bitCount_0f7a4 23 = .ok (.istore_n 0, 1) := by decide +kernel
theorem dJ6_bitCount_0f7a4_24 : decode cJ6_bitCount_0f7a4 24 = .ok (.iload_n 0, 1) := by decide +kernel
theorem dJ6_bitCount_0f7a4_25 : decode cJ6_bitCount_0f7a4 25 = .ok (.iload_n 0, 1) := by decide +kernel
theorem dJ6_bitCount_0f7a4_26 : decode cJ6_bitCount_0f7a4 26 = .ok (.iconst 4, 1) := by decide +kernel
theorem dJ6_bitCount_0f7a4_27 : decode cJ6_bitCount_0f7a4 27 = .ok (.iushr, 1) := by decide +kernel
theorem dJ6_bitCount_0f7a4_28 : decode cJ6_bitCount_0f7a4 28 = .ok (.iadd, 1) := by decide +kernel
theorem dJ6_bitCount_0f7a4_29 : decode cJ6_bitCount_0f7a4 29 = .ok (.ldc_w 267, 3) := by decide +kernel
theorem dJ6_bitCount_0f7a4_32 : decode cJ6_bitCount_0f7a4 32 = .ok (.iand, 1) := by decide +kernel
theorem dJ6_bitCount_0f7a4_33 : decode cJ6_bitCount_0f7a4 33 = .ok (.istore_n 0, 1) := by decide +kernel
theorem dJ6_bitCount_0f7a4_34 : decode cJ6_bitCount_0f7a4 34 = .ok (.iload_n 0, 1) := by decide +kernel
theorem dJ6_bitCount_0f7a4_35 : decode cJ6_bitCount_0f7a4 35 = .ok (.iload_n 0, 1) := by decide +kernel
theorem dJ6_bitCount_0f7a4_36 : decode cJ6_bitCount_0f7a4 36 = .ok (.bipush 8, 2) := by decide +kernel
theorem dJ6_bitCount_0f7a4_38 : decode cJ6_bitCount_0f7a4 38 = .ok (.iushr, 1) := by decide +kernel
theorem dJ6_bitCount_0f7a4_39 : decode cJ6_bitCount_0f7a4 39 = .ok (.iadd, 1) := by decide +kernel
theorem dJ6_bitCount_0f7a4_40 : decode cJ6_bitCount_0f7a4 40 = .ok (.istore_n 0, 1) := by decide +kernel
theorem dJ6_bitCount_0f7a4_41 : decode cJ6_bitCount_0f7a4 41 = .ok (.iload_n 0, 1) := by decide +kernel
theorem dJ6_bitCount_0f7a4_42 : decode cJ6_bitCount_0f7a4 42 = .ok (.iload_n 0, 1) := by decide +kernel
theorem dJ6_bitCount_0f7a4_43 : decode cJ6_bitCount_0f7a4 43 = .ok (.bipush 16, 2) := by decide +kernel
theorem dJ6_bitCount_0f7a4_45 : decode cJ6_bitCount_0f7a4 45 = .ok (.iushr, 1) := by decide +kernel
theorem dJ6_bitCount_0f7a4_46 : decode cJ6_bitCount_0f7a4 46 = .ok (.iadd, 1) := by decide +kernel
theorem dJ6_bitCount_0f7a4_47 : decode cJ6_bitCount_0f7a4 47 = .ok (.istore_n 0, 1) := by decide +kernel
theorem dJ6_bitCount_0f7a4_48 : decode cJ6_bitCount_0f7a4 48 = .ok (.iload_n 0, 1) := by decide +kernel
theorem dJ6_bitCount_0f7a4_49 : decode cJ6_bitCount_0f7a4 49 = .ok (.bipush 63, 2) := by decide +kernel
theorem dJ6_bitCount_0f7a4_51 : decode cJ6_bitCount_0f7a4 51 = .ok (.iand, 1) := by decide +kernel
theorem dJ6_bitCount_0f7a4_52 : decode cJ6_bitCount_0f7a4 52 = .ok (.ireturn, 1) := by decide +kernel
theorem dJ0_length_8abf5_0 : decode cJ0_length_8abf5 0 = .ok (.aload_n 0, 1) := by decide +kernel
theorem dJ0_length_8abf5_1 : decode cJ0_length_8abf5 1 = .ok (.getfield 9, 3) := by decide +kernel
theorem dJ0_length_8abf5_4 : decode cJ0_length_8abf5 4 = .ok (.arraylength, 1) := by decide +kernel
theorem dJ0_length_8abf5_5 : decode cJ0_length_8abf5 5 = .ok (.aload_n 0, 1) := by decide +kernel
theorem dJ0_length_8abf5_6 : decode cJ0_length_8abf5 6 = .ok (.invokevirtual 335, 3) := by decide +kernel
theorem dJ0_length_8abf5_9 : decode cJ0_length_8abf5 9 = .ok (.ishr, 1) := by decide +kernel
theorem dJ0_length_8abf5_10 : decode cJ0_length_8abf5 10 = .ok (.ireturn, 1) := by decide +kernel
theorem dJ0_charAt_5068e_0 : decode cJ0_charAt_5068e 0 = .ok (.aload_n 0, 1) := by decide +kernel
theorem dJ0_charAt_5068e_1 : decode cJ0_charAt_5068e 1 = .ok (.invokevirtual 492, 3) := by decide +kernel
theorem dJ0_charAt_5068e_4 : decode cJ0_charAt_5068e 4 = .ok (.ifCond .eq 12, 3) := by decide +kernel
theorem dJ0_charAt_5068e_7 : decode cJ0_charAt_5068e 7 = .ok (.aload_n 0, 1) := by decide +kernel
theorem dJ0_charAt_5068e_8 : decode cJ0_charAt_5068e 8 = .ok (.getfield 9, 3) := by decide +kernel
theorem dJ0_charAt_5068e_11 : decode cJ0_charAt_5068e 11 = .ok (.iload_n 1, 1) := by decide +kernel
theorem dJ0_charAt_5068e_12 : decode cJ0_charAt_5068e 12 = .ok (.invokestatic 495, 3) := by decide +kernel
theorem dJ0_charAt_5068e_15 : decode cJ0_charAt_5068e 15 = .ok (.ireturn, 1) := by decide +kernel
theorem dJ0_charAt_5068e_16 : decode cJ0_charAt_5068e 16 = .ok (.aload_n 0, 1) := by decide +kernel
theorem dJ0_charAt_5068e_17 : decode cJ0_charAt_5068e 17 = .ok (.getfield 9, 3) := by decide +kernel
theorem dJ0_charAt_5068e_20 : decode cJ0_charAt_5068e 20 = .ok (.iload_n 1, 1) := by decide +kernel
theorem dJ0_charAt_5068e_21 : decode cJ0_charAt_5068e 21 = .ok (.invokestatic 498, 3) := by decide +kernel
theorem dJ0_charAt_5068e_24 : decode cJ0_charAt_5068e 24 = .ok (.ireturn, 1) := by decide +kernel
theorem dJ0_coder_7d493_0 : decode cJ0_coder_7d493 0 = .ok (.getstatic 38, 3) := by decide +kernel
theorem dJ0_coder_7d493_3 : decode cJ0_coder_7d493 3 = .ok (.ifCond .eq 10, 3) := by decide +kernel
theorem dJ0_coder_7d493_6 : decode cJ0_coder_7d493 6 = .ok (.aload_n 0, 1) := by decide +kernel
theorem dJ0_coder_7d493_7 : decode cJ0_coder_7d493 7 = .ok (.getfield 15, 3) := by decide +kernel
theorem dJ0_coder_7d493_10 : decode cJ0_coder_7d493 10 = .ok (.goto 4, 3) := by decide +kernel
theorem dJ0_coder_7d493_13 : decode cJ0_coder_7d493 13 = .ok (.iconst 1, 1) := by decide +kernel
theorem dJ0_coder_7d493_14 : decode cJ0_coder_7d493 14 = .ok (.ireturn, 1) := by decide +kernel
theorem dJ0_isLatin1_aae02_0 : decode cJ0_isLatin1_aae02 0 = .ok (.getstatic 38, 3) := by decide +kernel
theorem dJ0_isLatin1_aae02_3 : decode cJ0_isLatin1_aae02 3 = .ok (.ifCond .eq 14, 3) := by decide +kernel
theorem dJ0_isLatin1_aae02_6 : decode cJ0_isLatin1_aae02 6 = .ok (.aload_n 0, 1) := by decide +kernel
theorem dJ0_isLatin1_aae02_7 : decode cJ0_isLatin1_aae02 7 = .ok (.getfield 15, 3) := by decide +kernel
theorem dJ0_isLatin1_aae02_10 : decode cJ0_isLatin1_aae02 10 = .ok (.ifCond .ne 7, 3) := by decide +kernel
theorem dJ0_isLatin1_aae02_13 : decode cJ0_isLatin1_aae02 13 = .ok (.iconst 1, 1) := by decide +kernel
theorem dJ0_isLatin1_aae02_14 : decode cJ0_isLatin1_aae02 14 = .ok (.goto 4, 3) := by decide +kernel
theorem dJ0_isLatin1_aae02_17 : decode cJ0_isLatin1_aae02 17 = .ok (.iconst 0, 1) := by decide +kernel
theorem dJ0_isLatin1_aae02_18 : decode cJ0_isLatin1_aae02 18 = .ok (.ireturn, 1) := by decide +kernel
theorem dJ0_checkIndex_df160_0 : decode cJ0_checkIndex_df160 0 = .ok (.iload_n 0, 1) := by decide +kernel
theorem dJ0_checkIndex_df160_1 : decode cJ0_checkIndex_df160 1 = .ok (.iload_n 1, 1) := by decide +kernel
theorem dJ0_checkIndex_df160_2 : decode cJ0_checkIndex_df160 2 = .ok (.getstatic 1053, 3) := by decide +kernel
theorem dJ0_checkIndex_df160_5 : decode cJ0_checkIndex_df160 5 = .ok (.invokestatic 1059, 3) := by decide +kernel
theorem dJ0_checkIndex_df160_8 : decode cJ0_checkIndex_df160 8 = .ok (.pop, 1) := by decide +kernel
theorem dJ0_checkIndex_df160_9 : decode cJ0_checkIndex_df160 9 = .ok (.return_, 1) := by decide +kernel
theorem dJ1_charAt_3b067_0 : decode cJ1_charAt_3b067 0 = .ok (.iload_n 1, 1) := by decide +kernel
theorem dJ1_charAt_3b067_1 : decode cJ1_charAt_3b067 1 = .ok (.aload_n 0, 1) := by decide +kernel
theorem dJ1_charAt_3b067_2 : decode cJ1_charAt_3b067 2 = .ok (.arraylength, 1) := by decide +kernel
theorem dJ1_charAt_3b067_3 : decode cJ1_charAt_3b067 3 = .ok (.invokestatic 9, 3) := by decide +kernel
theorem dJ1_charAt_3b067_6 : decode cJ1_charAt_3b067 6 = .ok (.aload_n 0, 1) := by decide +kernel
theorem dJ1_charAt_3b067_7 : decode cJ1_charAt_3b067 7 = .ok (.iload_n 1, 1) := by decide +kernel
theorem dJ1_charAt_3b067_8 : decode cJ1_charAt_3b067 8 = .ok (.baload, 1) := by decide +kernel
theorem dJ1_charAt_3b067_9 : decode cJ1_charAt_3b067 9 = .ok (.sipush 255, 3) := by decide +kernel
theorem dJ1_charAt_3b067_12 : decode cJ1_charAt_3b067 12 = .ok (.iand, 1) := by decide +kernel
theorem dJ1_charAt_3b067_13 : decode cJ1_charAt_3b067 13 = .ok (.i2c, 1) := by decide +kernel
theorem dJ1_charAt_3b067_14 : decode cJ1_charAt_3b067 14 = .ok (.ireturn, 1) := by decide +kernel
theorem dJ2_getChar_3b067_0 : decode cJ2_getChar_3b067 0 = .ok (.getstatic 44, 3) := by decide +kernel
theorem dJ2_getChar_3b067_3 : decode cJ2_getChar_3b067 3 = .ok (.ifCond .ne 25, 3) := by decide +kernel
theorem dJ2_getChar_3b067_6 : decode cJ2_getChar_3b067 6 = .ok (.iload_n 1, 1) := by decide +kernel
theorem dJ2_getChar_3b067_7 : decode cJ2_getChar_3b067 7 = .ok (.ifCond .lt 11, 3) := by decide +kernel
theorem dJ2_getChar_3b067_10 : decode cJ2_getChar_3b067 10 = .ok (.iload_n 1, 1) := by decide +kernel
theorem dJ2_getChar_3b067_11 : decode cJ2_getChar_3b067 11 = .ok (.aload_n 0, 1) := by decide +kernel
theorem dJ2_getChar_3b067_12 : decode cJ2_getChar_3b067 12 = .ok (.invokestatic 48, 3) := by decide +kernel
theorem dJ2_getChar_3b067_15 : decode cJ2_getChar_3b067 15 = .ok (.if_icmp .lt 13, 3) := by decide +kernel
theorem dJ2_getChar_3b067_18 : decode cJ2_getChar_3b067 18 = .ok (.new 52, 3) := by decide +kernel
theorem dJ2_getChar_3b067_21 : decode cJ2_getChar_3b067 21 = .ok (.dup, 1) := by decide +kernel
theorem dJ2_getChar_3b067_22 : decode cJ2_getChar_3b067 22 = .ok (.ldc 54, 2) := by decide +kernel
theorem dJ2_getChar_3b067_24 : decode cJ2_getChar_3b067 24 = .ok (.invokespecial 56, 3) := by decide +kernel
theorem dJ2_getChar_3b067_27 : decode cJ2_getChar_3b067 27 = .ok (.athrow, 1) := by decide +kernel
theorem dJ2_getChar_3b067_28 : decode cJ2_getChar_3b067 28 = .ok (.iload_n 1, 1) := by decide +kernel
theorem dJ2_getChar_3b067_29 : decode cJ2_getChar_3b067 29 = .ok (.iconst 1, 1) := by decide +kernel
theorem dJ2_getChar_3b067_30 : decode cJ2_getChar_3b067 30 = .ok (.ishl, 1) := by decide +kernel
theorem dJ2_getChar_3b067_31 : decode cJ2_getChar_3b067 31 = .ok (.istore_n 1, 1) := by decide +kernel
theorem dJ2_getChar_3b067_32 : decode cJ2_getChar_3b067 32 = .ok (.aload_n 0, 1) := by decide +kernel
theorem dJ2_getChar_3b067_33 : decode cJ2_getChar_3b067 33 = .ok (.iload_n 1, 1) := by decide +kernel
theorem dJ2_getChar_3b067_34 : decode cJ2_getChar_3b067 34 = .ok (.iinc 1 1, 3) := by decide +kernel
theorem dJ2_getChar_3b067_37 : decode cJ2_getChar_3b067 37 = .ok (.baload, 1) := by decide +kernel
theorem dJ2_getChar_3b067_38 : decode cJ2_getChar_3b067 38 = .ok (.sipush 255, 3) := by decide +kernel
theorem dJ2_getChar_3b067_41 : decode cJ2_getChar_3b067 41 = .ok (.iand, 1) := by decide +kernel
theorem dJ2_getChar_3b067_42 : decode cJ2_getChar_3b067 42 = .ok (.getstatic 59, 3) := by decide +kernel
theorem dJ2_getChar_3b067_45 : decode cJ2_getChar_3b067 45 = .ok (.ishl, 1) := by decide +kernel
theorem dJ2_getChar_3b067_46 : decode cJ2_getChar_3b067 46 = .ok (.aload_n 0, 1) := by decide +kernel
theorem dJ2_getChar_3b067_47 : decode cJ2_getChar_3b067 47 = .ok (.iload_n 1, 1) := by decide +kernel
theorem dJ2_getChar_3b067_48 : decode cJ2_getChar_3b067 48 = .ok (.baload, 1) := by decide +kernel
theorem dJ2_getChar_3b067_49 : decode cJ2_getChar_3b067 49 = .ok (.sipush 255, 3) := by decide +kernel
theorem dJ2_getChar_3b067_52 : decode cJ2_getChar_3b067 52 = .ok (.iand, 1) := by decide +kernel
theorem dJ2_getChar_3b067_53 : decode cJ2_getChar_3b067 53 = .ok (.getstatic 63, 3) := by decide +kernel
theorem dJ2_getChar_3b067_56 : decode cJ2_getChar_3b067 56 = .ok (.ishl, 1) := by decide +kernel
theorem dJ2_getChar_3b067_57 : decode cJ2_getChar_3b067 57 = .ok (.ior, 1) := by decide +kernel
theorem dJ2_getChar_3b067_58 : decode cJ2_getChar_3b067 58 = .ok (.i2c, 1) := by decide +kernel
theorem dJ2_getChar_3b067_59 : decode cJ2_getChar_3b067 59 = .ok (.ireturn, 1) := by decide +kernel
theorem dJ2_length_9d52b_0 : decode cJ2_length_9d52b 0 = .ok (.aload_n 0, 1) := by decide +kernel
theorem dJ2_length_9d52b_1 : decode cJ2_length_9d52b 1 = .ok (.arraylength, 1) := by decide +kernel
theorem dJ2_length_9d52b_2 : decode cJ2_length_9d52b 2 = .ok (.iconst 1, 1) := by decide +kernel
theorem dJ2_length_9d52b_3 : decode cJ2_length_9d52b 3 = .ok (.ishr, 1) := by decide +kernel
theorem dJ2_length_9d52b_4 : decode cJ2_length_9d52b 4 = .ok (.ireturn, 1) := by decide +kernel
theorem dJ2_charAt_3b067_0 : decode cJ2_charAt_3b067 0 = .ok (.iload_n 1, 1) := by decide +kernel
theorem dJ2_charAt_3b067_1 : decode cJ2_charAt_3b067 1 = .ok (.aload_n 0, 1) := by decide +kernel
theorem dJ2_charAt_3b067_2 : decode cJ2_charAt_3b067 2 = .ok (.invokestatic 67, 3) := by decide +kernel
theorem dJ2_charAt_3b067_5 : decode cJ2_charAt_3b067 5 = .ok (.aload_n 0, 1) := by decide +kernel
theorem dJ2_charAt_3b067_6 : decode cJ2_charAt_3b067 6 = .ok (.iload_n 1, 1) := by decide +kernel
theorem dJ2_charAt_3b067_7 : decode cJ2_charAt_3b067 7 = .ok (.invokestatic 71, 3) := by decide +kernel
theorem dJ2_charAt_3b067_10 : decode cJ2_charAt_3b067 10 = .ok (.ireturn, 1) := by decide +kernel
theorem dJ2_checkIndex_2214a_0 : decode cJ2_checkIndex_2214a 0 = .ok (.iload_n 0, 1) := by decide +kernel
theorem dJ2_checkIndex_2214a_1 : decode cJ2_checkIndex_2214a 1 = .ok (.aload_n 1, 1) := by decide +kernel
theorem dJ2_checkIndex_2214a_2 : decode cJ2_checkIndex_2214a 2 = .ok (.invokestatic 48, 3) := by decide +kernel
theorem dJ2_checkIndex_2214a_5 : decode cJ2_checkIndex_2214a 5 = .ok (.invokestatic 414, 3) := by decide +kernel
theorem dJ2_checkIndex_2214a_8 : decode cJ2_checkIndex_2214a 8 = .ok (.return_, 1) := by decide +kernel
theorem dJ3_checkIndex_8e157_0 : decode cJ3_checkIndex_8e157 0 = .ok (.iload_n 0, 1) := by decide +kernel
theorem dJ3_checkIndex_8e157_1 : decode cJ3_checkIndex_8e157 1 = .ok (.ifCond .lt 8, 3) := by decide +kernel
theorem dJ3_checkIndex_8e157_4 : decode cJ3_checkIndex_8e157 4 = .ok (.iload_n 0, 1) := by decide +kernel
theorem dJ3_checkIndex_8e157_5 : decode cJ3_checkIndex_8e157 5 = .ok (.iload_n 1, 1) := by decide +kernel
theorem dJ3_checkIndex_8e157_6 : decode cJ3_checkIndex_8e157 6 = .ok (.if_icmp .lt 10, 3) := by decide +kernel
theorem dJ3_checkIndex_8e157_9 : decode cJ3_checkIndex_8e157 9 = .ok (.aload_n 2, 1) := by decide +kernel
theorem dJ3_checkIndex_8e157_10 : decode cJ3_checkIndex_8e157 10 = .ok (.iload_n 0, 1) := by decide +kernel
theorem dJ3_checkIndex_8e157_11 : decode cJ3_checkIndex_8e157 11 = .ok (.iload_n 1, 1) := by decide +kernel
theorem dJ3_checkIndex_8e157_12 : decode cJ3_checkIndex_8e157 12 = .ok (.invokestatic 95, 3) := by decide +kernel
theorem dJ3_checkIndex_8e157_15 : decode cJ3_checkIndex_8e157 15 = .ok (.athrow, 1) := by decide +kernel
theorem dJ3_checkIndex_8e157_16 : decode cJ3_checkIndex_8e157 16 = .ok (.iload_n 0, 1) := by decide +kernel
theorem dJ3_checkIndex_8e157_17 : decode cJ3_checkIndex_8e157 17 = .ok (.ireturn, 1) := by decide +kernel
theorem dL_law_0 : decode cL_law 0 = .ok (.new 7, 3) := by decide +kernel
theorem dL_law_3 : decode cL_law 3 = .ok (.dup, 1) := by decide +kernel
theorem dL_law_4 : decode cL_law 4 = .ok (.invokespecial 9, 3) := by decide +kernel
theorem dL_law_7 : decode cL_law 7 = .ok (.astore_n 1, 1) := by decide +kernel
theorem dL_law_8 : decode cL_law 8 = .ok (.new 10, 3) := by decide +kernel
theorem dL_law_11 : decode cL_law 11 = .ok (.dup, 1) := by decide +kernel
theorem dL_law_12 : decode cL_law 12 = .ok (.invokespecial 12, 3) := by decide +kernel
theorem dL_law_15 : decode cL_law 15 = .ok (.astore_n 2, 1) := by decide +kernel
theorem dL_law_16 : decode cL_law 16 = .ok (.iconst 0, 1) := by decide +kernel
theorem dL_law_17 : decode cL_law 17 = .ok (.istore_n 3, 1) := by decide +kernel
theorem dL_law_18 : decode cL_law 18 = .ok (.iload_n 3, 1) := by decide +kernel
theorem dL_law_19 : decode cL_law 19 = .ok (.aload_n 0, 1) := by decide +kernel
theorem dL_law_20 : decode cL_law 20 = .ok (.arraylength, 1) := by decide +kernel
theorem dL_law_21 : decode cL_law 21 = .ok (.bipush 6, 2) := by decide +kernel
theorem dL_law_23 : decode cL_law 23 = .ok (.isub, 1) := by decide +kernel
theorem dL_law_24 : decode cL_law 24 = .ok (.if_icmp .gt 1068, 3) := by decide +kernel
theorem dL_law_27 : decode cL_law 27 = .ok (.aload_n 0, 1) := by decide +kernel
theorem dL_law_28 : decode cL_law 28 = .ok (.iload_n 3, 1) := by decide +kernel
theorem dL_law_29 : decode cL_law 29 = .ok (.iaload, 1) := by decide +kernel
theorem dL_law_30 : decode cL_law 30 = .ok (.bipush 31, 2) := by decide +kernel
theorem dL_law_32 : decode cL_law 32 = .ok (.iand, 1) := by decide +kernel
theorem dL_law_33 : decode cL_law 33 = .ok (.tableswitch 1053 0 29 #[135, 158, 171, 224, 257, 290, 333, 376, 425, 448, 471, 504, 537, 570, 593, 636, 659, 682, 715, 779, 803, 836, 859, 892, 905, 948, 971, 1004, 1017, 1030], 135) := by decide +kernel
theorem dL_law_168 : decode cL_law 168 = .ok (.aload_n 1, 1) := by decide +kernel
theorem dL_law_169 : decode cL_law 169 = .ok (.aload_n 0, 1) := by decide +kernel
theorem dL_law_170 : decode cL_law 170 = .ok (.iload_n 3, 1) := by decide +kernel
theorem dL_law_171 : decode cL_law 171 = .ok (.iconst 1, 1) := by decide +kernel
theorem dL_law_172 : decode cL_law 172 = .ok (.iadd, 1) := by decide +kernel
theorem dL_law_173 : decode cL_law 173 = .ok (.iaload, 1) := by decide +kernel
theorem dL_law_174 : decode cL_law 174 = .ok (.invokevirtual 13, 3) := by decide +kernel
theorem dL_law_177 : decode cL_law 177 = .ok (.aload_n 2, 1) := by decide +kernel
theorem dL_law_178 : decode cL_law 178 = .ok (.aload_n 0, 1) := by decide +kernel
theorem dL_law_179 : decode cL_law 179 = .ok (.iload_n 3, 1) := by decide +kernel
theorem dL_law_180 : decode cL_law 180 = .ok (.iconst 1, 1) := by decide +kernel
theorem dL_law_181 : decode cL_law 181 = .ok (.iadd, 1) := by decide +kernel
theorem dL_law_182 : decode cL_law 182 = .ok (.iaload, 1) := by decide +kernel
theorem dL_law_183 : decode cL_law 183 = .ok (.invokevirtual 17, 3) := by decide +kernel
theorem dL_law_186 : decode cL_law 186 = .ok (.if_icmp .eq 900, 3) := by decide +kernel
theorem dL_law_189 : decode cL_law 189 = .ok (.iconst 0, 1) := by decide +kernel
theorem dL_law_190 : decode cL_law 190 = .ok (.ireturn, 1) := by decide +kernel
theorem dL_law_191 : decode cL_law 191 = .ok (.aload_n 1, 1) := by decide +kernel
theorem dL_law_192 : decode cL_law 192 = .ok (.invokevirtual 18, 3) := by decide +kernel
theorem dL_law_195 : decode cL_law 195 = .ok (.aload_n 2, 1) := by decide +kernel
theorem dL_law_196 : decode cL_law 196 = .ok (.invokevirtual 22, 3) := by decide +kernel
theorem dL_law_199 : decode cL_law 199 = .ok (.if_icmp .eq 887, 3) := by decide +kernel
theorem dL_law_202 : decode cL_law 202 = .ok (.iconst 0, 1) := by decide +kernel
theorem dL_law_203 : decode cL_law 203 = .ok (.ireturn, 1) := by decide +kernel
theorem dL_law_204 : decode cL_law 204 = .ok (.aload_n 1, 1) := by decide +kernel
theorem dL_law_205 : decode cL_law 205 = .ok (.aload_n 0, 1) := by decide +kernel
theorem dL_law_206 : decode cL_law 206 = .ok (.iload_n 3, 1) := by decide +kernel
theorem dL_law_207 : decode cL_law 207 = .ok (.iconst 1, 1) := by decide +kernel
theorem dL_law_208 : decode cL_law 208 = .ok (.iadd, 1) := by decide +kernel
theorem dL_law_209 : decode cL_law 209 = .ok (.iaload, 1) := by decide +kernel
theorem dL_law_210 : decode cL_law 210 = .ok (.aload_n 0, 1) := by decide +kernel
theorem dL_law_211 : decode cL_law 211 = .ok (.iload_n 3, 1) := by decide +kernel
theorem dL_law_212 : decode cL_law 212 = .ok (.iconst 2, 1) := by decide +kernel
theorem dL_law_213 : decode cL_law 213 = .ok (.iadd, 1) := by decide +kernel
theorem dL_law_214 : decode cL_law 214 = .ok (.iaload, 1) := by decide +kernel
theorem dL_law_215 : decode cL_law 215 = .ok (.aload_n 0, 1) := by decide +kernel
theorem dL_law_216 : decode cL_law 216 = .ok (.iload_n 3, 1) := by decide +kernel
theorem dL_law_217 : decode cL_law 217 = .ok (.iconst 3, 1) := by decide +kernel
theorem dL_law_218 : decode cL_law 218 = .ok (.iadd, 1) := by decide +kernel
theorem dL_law_219 : decode cL_law 219 = .ok (.iaload, 1) := by decide +kernel
theorem dL_law_220 : decode cL_law 220 = .ok (.aload_n 0, 1) := by decide +kernel
theorem dL_law_221 : decode cL_law 221 = .ok (.iload_n 3, 1) := by decide +kernel
theorem dL_law_222 : decode cL_law 222 = .ok (.iconst 4, 1) := by decide +kernel
theorem dL_law_223 : decode cL_law 223 = .ok (.iadd, 1) := by decide +kernel
theorem dL_law_224 : decode cL_law 224 = .ok (.iaload, 1) := by decide +kernel
theorem dL_law_225 : decode cL_law 225 = .ok (.invokevirtual 23, 3) := by decide +kernel
theorem dL_law_228 : decode cL_law 228 = .ok (.aload_n 2, 1) := by decide +kernel
theorem dL_law_229 : decode cL_law 229 = .ok (.aload_n 0, 1) := by decide +kernel
theorem dL_law_230 : decode cL_law 230 = .ok (.iload_n 3, 1) := by decide +kernel
theorem dL_law_231 : decode cL_law 231 = .ok (.iconst 1, 1) := by decide +kernel
theorem dL_law_232 : decode cL_law 232 = .ok (.iadd, 1) := by decide +kernel
theorem dL_law_233 : decode cL_law 233 = .ok (.iaload, 1) := by decide +kernel
theorem dL_law_234 : decode cL_law 234 = .ok (.aload_n 0, 1) := by decide +kernel
theorem dL_law_235 : decode cL_law 235 = .ok (.iload_n 3, 1) := by decide +kernel
theorem dL_law_236 : decode cL_law 236 = .ok (.iconst 2, 1) := by decide +kernel
theorem dL_law_237 : decode cL_law 237 = .ok (.iadd, 1) := by decide +kernel
theorem dL_law_238 : decode cL_law 238 = .ok (.iaload, 1) := by decide +kernel
theorem dL_law_239 : decode cL_law 239 = .ok (.aload_n 0, 1) := by decide +kernel
theorem dL_law_240 : decode cL_law 240 = .ok (.iload_n 3, 1) := by decide +kernel
theorem dL_law_241 : decode cL_law 241 = .ok (.iconst 3, 1) := by decide +kernel
theorem dL_law_242 : decode cL_law 242 = .ok (.iadd, 1) := by decide +kernel
theorem dL_law_243 : decode cL_law 243 = .ok (.iaload, 1) := by decide +kernel
theorem dL_law_244 : decode cL_law 244 = .ok (.aload_n 0, 1) := by decide +kernel
theorem dL_law_245 : decode cL_law 245 = .ok (.iload_n 3, 1) := by decide +kernel
theorem dL_law_246 : decode cL_law 246 = .ok (.iconst 4, 1) := by decide +kernel
theorem dL_law_247 : decode cL_law 247 = .ok (.iadd, 1) := by decide +kernel
theorem dL_law_248 : decode cL_law 248 = .ok (.iaload, 1) := by decide +kernel
theorem dL_law_249 : decode cL_law 249 = .ok (.invokevirtual 27, 3) := by decide +kernel
theorem dL_law_252 : decode cL_law 252 = .ok (.if_icmp .eq 834, 3) := by decide +kernel
theorem dL_law_255 : decode cL_law 255 = .ok (.iconst 0, 1) := by decide +kernel
theorem dL_law_256 : decode cL_law 256 = .ok (.ireturn, 1) := by decide +kernel
theorem dL_law_257 : decode cL_law 257 = .ok (.aload_n 1, 1) := by decide +kernel
theorem dL_law_258 : decode cL_law 258 = .ok (.aload_n 0, 1) := by decide +kernel
theorem dL_law_259 : decode cL_law 259 = .ok (.iload_n 3, 1) := by decide +kernel
theorem dL_law_260 : decode cL_law 260 = .ok (.iconst 1, 1) := by decide +kernel
theorem dL_law_261 : decode cL_law 261 = .ok (.iadd, 1) := by decide +kernel
theorem dL_law_262 : decode cL_law 262 = .ok (.iaload, 1) := by decide +kernel
theorem dL_law_263 : decode cL_law 263 = .ok (.aload_n 0, 1) := by decide +kernel
theorem dL_law_264 : decode cL_law 264 = .ok (.iload_n 3, 1) := by decide +kernel
theorem dL_law_265 : decode cL_law 265 = .ok (.iconst 2, 1) := by decide +kernel
theorem dL_law_266 : decode cL_law 266 = .ok (.iadd, 1) := by decide +kernel
theorem dL_law_267 : decode cL_law 267 = .ok (.iaload, 1) := by decide +kernel
theorem dL_law_268 : decode cL_law 268 = .ok (.invokevirtual 28, 3) := by decide +kernel
theorem dL_law_271 : decode cL_law 271 = .ok (.aload_n 2, 1) := by decide +kernel
theorem dL_law_272 : decode cL_law 272 = .ok (.aload_n 0, 1) := by decide +kernel
theorem dL_law_273 : decode cL_law 273 = .ok (.iload_n 3, 1) := by decide +kernel
theorem dL_law_274 : decode cL_law 274 = .ok (.iconst 1, 1) := by decide +kernel
theorem dL_law_275 : decode cL_law 275 = .ok (.iadd, 1) := by decide +kernel
theorem dL_law_276 : decode cL_law 276 = .ok (.iaload, 1) := by decide +kernel
theorem dL_law_277 : decode cL_law 277 = .ok (.aload_n 0, 1) := by decide +kernel
theorem dL_law_278 : decode cL_law 278 = .ok (.iload_n 3, 1) := by decide +kernel
theorem dL_law_279 : decode cL_law 279 = .ok (.iconst 2, 1) := by decide +kernel
theorem dL_law_280 : decode cL_law 280 = .ok (.iadd, 1) := by decide +kernel
theorem dL_law_281 : decode cL_law 281 = .ok (.iaload, 1) := by decide +kernel
theorem dL_law_282 : decode cL_law 282 = .ok (.invokevirtual 32, 3) := by decide +kernel
theorem dL_law_285 : decode cL_law 285 = .ok (.if_icmp .eq 801, 3) := by decide +kernel
theorem dL_law_288 : decode cL_law 288 = .ok (.iconst 0, 1) := by decide +kernel
theorem dL_law_289 : decode cL_law 289 = .ok (.ireturn, 1) := by decide +kernel
theorem dL_law_290 : decode cL_law 290 = .ok (.aload_n 1, 1) := by decide +kernel
theorem dL_law_291 : decode cL_law 291 = .ok (.aload_n 0, 1) := by decide +kernel
theorem dL_law_292 : decode cL_law 292 = .ok (.iload_n 3, 1) := by decide +kernel
theorem dL_law_293 : decode cL_law 293 = .ok (.iconst 1, 1) := by decide +kernel
theorem dL_law_294 : decode cL_law 294 = .ok (.iadd, 1) := by decide +kernel
theorem dL_law_295 : decode cL_law 295 = .ok (.iaload, 1) := by decide +kernel
theorem dL_law_296 : decode cL_law 296 = .ok (.aload_n 0, 1) := by decide +kernel
theorem dL_law_297 : decode cL_law 297 = .ok (.iload_n 3, 1) := by decide +kernel
theorem dL_law_298 : decode cL_law 298 = .ok (.iconst 2, 1) := by decide +kernel
theorem dL_law_299 : decode cL_law 299 = .ok (.iadd, 1) := by decide +kernel
theorem dL_law_300 : decode cL_law 300 = .ok (.iaload, 1) := by decide +kernel
theorem dL_law_301 : decode cL_law 301 = .ok (.invokevirtual 33, 3) := by decide +kernel
theorem dL_law_304 : decode cL_law 304 = .ok (.aload_n 2, 1) := by decide +kernel
theorem dL_law_305 : decode cL_law 305 = .ok (.aload_n 0, 1) := by decide +kernel
theorem dL_law_306 : decode cL_law 306 = .ok (.iload_n 3, 1) := by decide +kernel
theorem dL_law_307 : decode cL_law 307 = .ok (.iconst 1, 1) := by decide +kernel
theorem dL_law_308 : decode cL_law 308 = .ok (.iadd, 1) := by decide +kernel
theorem dL_law_309 : decode cL_law 309 = .ok (.iaload, 1) := by decide +kernel
theorem dL_law_310 : decode cL_law 310 = .ok (.aload_n 0, 1) := by decide +kernel
theorem dL_law_311 : decode cL_law 311 = .ok (.iload_n 3, 1) := by decide +kernel
theorem dL_law_312 : decode cL_law 312 = .ok (.iconst 2, 1) := by decide +kernel
theorem dL_law_313 : decode cL_law 313 = .ok (.iadd, 1) := by decide +kernel
theorem dL_law_314 : decode cL_law 314 = .ok (.iaload, 1) := by decide +kernel
theorem dL_law_315 : decode cL_law 315 = .ok (.invokevirtual 36, 3) := by decide +kernel
theorem dL_law_318 : decode cL_law 318 = .ok (.if_icmp .eq 768, 3) := by decide +kernel
theorem dL_law_321 : decode cL_law 321 = .ok (.iconst 0, 1) := by decide +kernel
theorem dL_law_322 : decode cL_law 322 = .ok (.ireturn, 1) := by decide +kernel
theorem dL_law_323 : decode cL_law 323 = .ok (.aload_n 1, 1) := by decide +kernel
theorem dL_law_324 : decode cL_law 324 = .ok (.aload_n 0, 1) := by decide +kernel
theorem dL_law_325 : decode cL_law 325 = .ok (.iload_n 3, 1) := by decide +kernel
theorem dL_law_326 : decode cL_law 326 = .ok (.iconst 1, 1) := by decide +kernel
theorem dL_law_327 : decode cL_law 327 = .ok (.iadd, 1) := by decide +kernel
theorem dL_law_328 : decode cL_law 328 = .ok (.iaload, 1) := by decide +kernel
theorem dL_law_329 : decode cL_law 329 = .ok (.aload_n 0, 1) := by decide +kernel
theorem dL_law_330 : decode cL_law 330 = .ok (.iload_n 3, 1) := by decide +kernel
theorem dL_law_331 : decode cL_law 331 = .ok (.iconst 2, 1) := by decide +kernel
theorem dL_law_332 : decode cL_law 332 = .ok (.iadd, 1) := by decide +kernel
theorem dL_law_333 : decode cL_law 333 = .ok (.iaload, 1) := by decide +kernel
theorem dL_law_334 : decode cL_law 334 = .ok (.aload_n 0, 1) := by decide +kernel
theorem dL_law_335 : decode cL_law 335 = .ok (.iload_n 3, 1) := by decide +kernel
theorem dL_law_336 : decode cL_law 336 = .ok (.iconst 3, 1) := by decide +kernel
theorem dL_law_337 : decode cL_law 337 = .ok (.iadd, 1) := by decide +kernel
theorem dL_law_338 : decode cL_law 338 = .ok (.iaload, 1) := by decide +kernel
theorem dL_law_339 : decode cL_law 339 = .ok (.invokevirtual 37, 3) := by decide +kernel
theorem dL_law_342 : decode cL_law 342 = .ok (.aload_n 2, 1) := by decide +kernel
theorem dL_law_343 : decode cL_law 343 = .ok (.aload_n 0, 1) := by decide +kernel
theorem dL_law_344 : decode cL_law 344 = .ok (.iload_n 3, 1) := by decide +kernel
theorem dL_law_345 : decode cL_law 345 = .ok (.iconst 1, 1) := by decide +kernel
theorem dL_law_346 : decode cL_law 346 = .ok (.iadd, 1) := by decide +kernel
theorem dL_law_347 : decode cL_law 347 = .ok (.iaload, 1) := by decide +kernel
theorem dL_law_348 : decode cL_law 348 = .ok (.aload_n 0, 1) := by decide +kernel
theorem dL_law_349 : decode cL_law 349 = .ok (.iload_n 3, 1) := by decide +kernel
theorem dL_law_350 : decode cL_law 350 = .ok (.iconst 2, 1) := by decide +kernel
theorem dL_law_351 : decode cL_law 351 = .ok (.iadd, 1) := by decide +kernel
theorem dL_law_352 : decode cL_law 352 = .ok (.iaload, 1) := by decide +kernel
theorem dL_law_353 : decode cL_law 353 = .ok (.aload_n 0, 1) := by decide +kernel
theorem dL_law_354 : decode cL_law 354 = .ok (.iload_n 3, 1) := by decide +kernel
theorem dL_law_355 : decode cL_law 355 = .ok (.iconst 3, 1) := by decide +kernel
theorem dL_law_356 : decode cL_law 356 = .ok (.iadd, 1) := by decide +kernel
theorem dL_law_357 : decode cL_law 357 = .ok (.iaload, 1) := by decide +kernel
theorem dL_law_358 : decode cL_law 358 = .ok (.invokevirtual 41, 3) := by decide +kernel
theorem dL_law_361 : decode cL_law 361 = .ok (.if_icmp .eq 725, 3) := by decide +kernel
theorem dL_law_364 : decode cL_law 364 = .ok (.iconst 0, 1) := by decide +kernel
theorem dL_law_365 : decode cL_law 365 = .ok (.ireturn, 1) := by decide +kernel
theorem dL_law_366 : decode cL_law 366 = .ok (.aload_n 1, 1) := by decide +kernel
theorem dL_law_367 : decode cL_law 367 = .ok (.aload_n 0, 1) := by decide +kernel
theorem dL_law_368 : decode cL_law 368 = .ok (.iload_n 3, 1) := by decide +kernel
theorem dL_law_369 : decode cL_law 369 = .ok (.iconst 1, 1) := by decide +kernel
theorem dL_law_370 : decode cL_law 370 = .ok (.iadd, 1) := by decide +kernel
theorem dL_law_371 : decode cL_law 371 = .ok (.iaload, 1) := by decide +kernel
theorem dL_law_372 : decode cL_law 372 = .ok (.aload_n 0, 1) := by decide +kernel
theorem dL_law_373 : decode cL_law 373 = .ok (.iload_n 3, 1) := by decide +kernel
theorem dL_law_374 : decode cL_law 374 = .ok (.iconst 2, 1) := by decide +kernel
theorem dL_law_375 : decode cL_law 375 = .ok (.iadd, 1) := by decide +kernel
theorem dL_law_376 : decode cL_law 376 = .ok (.iaload, 1) := by decide +kernel
theorem dL_law_377 : decode cL_law 377 = .ok (.aload_n 0, 1) := by decide +kernel
theorem dL_law_378 : decode cL_law 378 = .ok (.iload_n 3, 1) := by decide +kernel
theorem dL_law_379 : decode cL_law 379 = .ok (.iconst 3, 1) := by decide +kernel
theorem dL_law_380 : decode cL_law 380 = .ok (.iadd, 1) := by decide +kernel
theorem dL_law_381 : decode cL_law 381 = .ok (.iaload, 1) := by decide +kernel
theorem dL_law_382 : decode cL_law 382 = .ok (.invokevirtual 42, 3) := by decide +kernel
theorem dL_law_385 : decode cL_law 385 = .ok (.aload_n 2, 1) := by decide +kernel
theorem dL_law_386 : decode cL_law 386 = .ok (.aload_n 0, 1) := by decide +kernel
theorem dL_law_387 : decode cL_law 387 = .ok (.iload_n 3, 1) := by decide +kernel
theorem dL_law_388 : decode cL_law 388 = .ok (.iconst 1, 1) := by decide +kernel
theorem dL_law_389 : decode cL_law 389 = .ok (.iadd, 1) := by decide +kernel
theorem dL_law_390 : decode cL_law 390 = .ok (.iaload, 1) := by decide +kernel
theorem dL_law_391 : decode cL_law 391 = .ok (.aload_n 0, 1) := by decide +kernel
theorem dL_law_392 : decode cL_law 392 = .ok (.iload_n 3, 1) := by decide +kernel
theorem dL_law_393 : decode cL_law 393 = .ok (.iconst 2, 1) := by decide +kernel
theorem dL_law_394 : decode cL_law 394 = .ok (.iadd, 1) := by decide +kernel
theorem dL_law_395 : decode cL_law 395 = .ok (.iaload, 1) := by decide +kernel
theorem dL_law_396 : decode cL_law 396 = .ok (.aload_n 0, 1) := by decide +kernel
theorem dL_law_397 : decode cL_law 397 = .ok (.iload_n 3, 1) := by decide +kernel
theorem dL_law_398 : decode cL_law 398 = .ok (.iconst 3, 1) := by decide +kernel
theorem dL_law_399 : decode cL_law 399 = .ok (.iadd, 1) := by decide +kernel
theorem dL_law_400 : decode cL_law 400 = .ok (.iaload, 1) := by decide +kernel
theorem dL_law_401 : decode cL_law 401 = .ok (.invokevirtual 45, 3) := by decide +kernel
theorem dL_law_404 : decode cL_law 404 = .ok (.if_icmp .eq 682, 3) := by decide +kernel
theorem dL_law_407 : decode cL_law 407 = .ok (.iconst 0, 1) := by decide +kernel
theorem dL_law_408 : decode cL_law 408 = .ok (.ireturn, 1) := by decide +kernel
theorem dL_law_409 : decode cL_law 409 = .ok (.aload_n 1, 1) := by decide +kernel
theorem dL_law_410 : decode cL_law 410 = .ok (.aload_n 0, 1) := by decide +kernel
theorem dL_law_411 : decode cL_law 411 = .ok (.iload_n 3, 1) := by decide +kernel
theorem dL_law_412 : decode cL_law 412 = .ok (.iconst 1, 1) := by decide +kernel
theorem dL_law_413 : decode cL_law 413 = .ok (.iadd, 1) := by decide +kernel
theorem dL_law_414 : decode cL_law 414 = .ok (.iaload, 1) := by decide +kernel
theorem dL_law_415 : decode cL_law 415 = .ok (.aload_n 0, 1) := by decide +kernel
theorem dL_law_416 : decode cL_law 416 = .ok (.iload_n 3, 1) := by decide +kernel
theorem dL_law_417 : decode cL_law 417 = .ok (.iconst 2, 1) := by decide +kernel
theorem dL_law_418 : decode cL_law 418 = .ok (.iadd, 1) := by decide +kernel
theorem dL_law_419 : decode cL_law 419 = .ok (.iaload, 1) := by decide +kernel
theorem dL_law_420 : decode cL_law 420 = .ok (.ifCond .eq 7, 3) := by decide +kernel
theorem dL_law_423 : decode cL_law 423 = .ok (.iconst 1, 1) := by decide +kernel
theorem dL_law_424 : decode cL_law 424 = .ok (.goto 4, 3) := by decide +kernel
theorem dL_law_427 : decode cL_law 427 = .ok (.iconst 0, 1) := by decide +kernel
theorem dL_law_428 : decode cL_law 428 = .ok (.invokevirtual 46, 3) := by decide +kernel
theorem dL_law_431 : decode cL_law 431 = .ok (.aload_n 2, 1) := by decide +kernel
theorem dL_law_432 : decode cL_law 432 = .ok (.aload_n 0, 1) := by decide +kernel
theorem dL_law_433 : decode cL_law 433 = .ok (.iload_n 3, 1) := by decide +kernel
theorem dL_law_434 : decode cL_law 434 = .ok (.iconst 1, 1) := by decide +kernel
theorem dL_law_435 : decode cL_law 435 = .ok (.iadd, 1) := by decide +kernel
theorem dL_law_436 : decode cL_law 436 = .ok (.iaload, 1) := by decide +kernel
theorem dL_law_437 : decode cL_law 437 = .ok (.aload_n 0, 1) := by decide +kernel
theorem dL_law_438 : decode cL_law 438 = .ok (.iload_n 3, 1) := by decide +kernel
theorem dL_law_439 : decode cL_law 439 = .ok (.iconst 2, 1) := by decide +kernel
theorem dL_law_440 : decode cL_law 440 = .ok (.iadd, 1) := by decide +kernel
theorem dL_law_441 : decode cL_law 441 = .ok (.iaload, 1) := by decide +kernel
theorem dL_law_442 : decode cL_law 442 = .ok (.ifCond .eq 7, 3) := by decide +kernel
theorem dL_law_445 : decode cL_law 445 = .ok (.iconst 1, 1) := by decide +kernel
theorem dL_law_446 : decode cL_law 446 = .ok (.goto 4, 3) := by decide +kernel
theorem dL_law_449 : decode cL_law 449 = .ok (.iconst 0, 1) := by decide +kernel
theorem dL_law_450 : decode cL_law 450 = .ok (.invokevirtual 50, 3) := by decide +kernel
theorem dL_law_453 : decode cL_law 453 = .ok (.if_icmp .eq 633, 3) := by decide +kernel
theorem dL_law_456 : decode cL_law 456 = .ok (.iconst 0, 1) := by decide +kernel
theorem dL_law_457 : decode cL_law 457 = .ok (.ireturn, 1) := by decide +kernel
theorem dL_law_458 : decode cL_law 458 = .ok (.aload_n 1, 1) := by decide +kernel
theorem dL_law_459 : decode cL_law 459 = .ok (.aload_n 0, 1) := by decide +kernel
theorem dL_law_460 : decode cL_law 460 = .ok (.iload_n 3, 1) := by decide +kernel
theorem dL_law_461 : decode cL_law 461 = .ok (.iconst 1, 1) := by decide +kernel
theorem dL_law_462 : decode cL_law 462 = .ok (.iadd, 1) := by decide +kernel
theorem dL_law_463 : decode cL_law 463 = .ok (.iaload, 1) := by decide +kernel
theorem dL_law_464 : decode cL_law 464 = .ok (.invokevirtual 51, 3) := by decide +kernel
theorem dL_law_467 : decode cL_law 467 = .ok (.aload_n 2, 1) := by decide +kernel
theorem dL_law_468 : decode cL_law 468 = .ok (.aload_n 0, 1) := by decide +kernel
theorem dL_law_469 : decode cL_law 469 = .ok (.iload_n 3, 1) := by decide +kernel
theorem dL_law_470 : decode cL_law 470 = .ok (.iconst 1, 1) := by decide +kernel
theorem dL_law_471 : decode cL_law 471 = .ok (.iadd, 1) := by decide +kernel
theorem dL_law_472 : decode cL_law 472 = .ok (.iaload, 1) := by decide +kernel
theorem dL_law_473 : decode cL_law 473 = .ok (.invokevirtual 54, 3) := by decide +kernel
theorem dL_law_476 : decode cL_law 476 = .ok (.if_icmp .eq 610, 3) := by decide +kernel
theorem dL_law_479 : decode cL_law 479 = .ok (.iconst 0, 1) := by decide +kernel
theorem dL_law_480 : decode cL_law 480 = .ok (.ireturn, 1) := by decide +kernel
theorem dL_law_481 : decode cL_law 481 = .ok (.aload_n 1, 1) := by decide +kernel
theorem dL_law_482 : decode cL_law 482 = .ok (.aload_n 0, 1) := by decide +kernel
theorem dL_law_483 : decode cL_law 483 = .ok (.iload_n 3, 1) := by decide +kernel
theorem dL_law_484 : decode cL_law 484 = .ok (.iconst 1, 1) := by decide +kernel
theorem dL_law_485 : decode cL_law 485 = .ok (.iadd, 1) := by decide +kernel
theorem dL_law_486 : decode cL_law 486 = .ok (.iaload, 1) := by decide +kernel
theorem dL_law_487 : decode cL_law 487 = .ok (.invokevirtual 55, 3) := by decide +kernel
theorem dL_law_490 : decode cL_law 490 = .ok (.aload_n 2, 1) := by decide +kernel
theorem dL_law_491 : decode cL_law 491 = .ok (.aload_n 0, 1) := by decide +kernel
theorem dL_law_492 : decode cL_law 492 = .ok (.iload_n 3, 1) := by decide +kernel
theorem dL_law_493 : decode cL_law 493 = .ok (.iconst 1, 1) := by decide +kernel
theorem dL_law_494 : decode cL_law 494 = .ok (.iadd, 1) := by decide +kernel
theorem dL_law_495 : decode cL_law 495 = .ok (.iaload, 1) := by decide +kernel
theorem dL_law_496 : decode cL_law 496 = .ok (.invokevirtual 58, 3) := by decide +kernel
theorem dL_law_499 : decode cL_law 499 = .ok (.if_icmp .eq 587, 3) := by decide +kernel
theorem dL_law_502 : decode cL_law 502 = .ok (.iconst 0, 1) := by decide +kernel
theorem dL_law_503 : decode cL_law 503 = .ok (.ireturn, 1) := by decide +kernel
theorem dL_law_504 : decode cL_law 504 = .ok (.aload_n 1, 1) := by decide +kernel
theorem dL_law_505 : decode cL_law 505 = .ok (.aload_n 0, 1) := by decide +kernel
theorem dL_law_506 : decode cL_law 506 = .ok (.iload_n 3, 1) := by decide +kernel
theorem dL_law_507 : decode cL_law 507 = .ok (.iconst 1, 1) := by decide +kernel
theorem dL_law_508 : decode cL_law 508 = .ok (.iadd, 1) := by decide +kernel
theorem dL_law_509 : decode cL_law 509 = .ok (.iaload, 1) := by decide +kernel
theorem dL_law_510 : decode cL_law 510 = .ok (.aload_n 0, 1) := by decide +kernel
theorem dL_law_511 : decode cL_law 511 = .ok (.iload_n 3, 1) := by decide +kernel
theorem dL_law_512 : decode cL_law 512 = .ok (.iconst 2, 1) := by decide +kernel
theorem dL_law_513 : decode cL_law 513 = .ok (.iadd, 1) := by decide +kernel
theorem dL_law_514 : decode cL_law 514 = .ok (.iaload, 1) := by decide +kernel
theorem dL_law_515 : decode cL_law 515 = .ok (.invokevirtual 59, 3) := by decide +kernel
theorem dL_law_518 : decode cL_law 518 = .ok (.aload_n 2, 1) := by decide +kernel
theorem dL_law_519 : decode cL_law 519 = .ok (.aload_n 0, 1) := by decide +kernel
theorem dL_law_520 : decode cL_law 520 = .ok (.iload_n 3, 1) := by decide +kernel
theorem dL_law_521 : decode cL_law 521 = .ok (.iconst 1, 1) := by decide +kernel
theorem dL_law_522 : decode cL_law 522 = .ok (.iadd, 1) := by decide +kernel
theorem dL_law_523 : decode cL_law 523 = .ok (.iaload, 1) := by decide +kernel
theorem dL_law_524 : decode cL_law 524 = .ok (.aload_n 0, 1) := by decide +kernel
theorem dL_law_525 : decode cL_law 525 = .ok (.iload_n 3, 1) := by decide +kernel
theorem dL_law_526 : decode cL_law 526 = .ok (.iconst 2, 1) := by decide +kernel
theorem dL_law_527 : decode cL_law 527 = .ok (.iadd, 1) := by decide +kernel
theorem dL_law_528 : decode cL_law 528 = .ok (.iaload, 1) := by decide +kernel
theorem dL_law_529 : decode cL_law 529 = .ok (.invokevirtual 62, 3) := by decide +kernel
theorem dL_law_532 : decode cL_law 532 = .ok (.if_icmp .eq 554, 3) := by decide +kernel
theorem dL_law_535 : decode cL_law 535 = .ok (.iconst 0, 1) := by decide +kernel
theorem dL_law_536 : decode cL_law 536 = .ok (.ireturn, 1) := by decide +kernel
theorem dL_law_537 : decode cL_law 537 = .ok (.aload_n 1, 1) := by decide +kernel
theorem dL_law_538 : decode cL_law 538 = .ok (.aload_n 0, 1) := by decide +kernel
theorem dL_law_539 : decode cL_law 539 = .ok (.iload_n 3, 1) := by decide +kernel
theorem dL_law_540 : decode cL_law 540 = .ok (.iconst 1, 1) := by decide +kernel
theorem dL_law_541 : decode cL_law 541 = .ok (.iadd, 1) := by decide +kernel
theorem dL_law_542 : decode cL_law 542 = .ok (.iaload, 1) := by decide +kernel
theorem dL_law_543 : decode cL_law 543 = .ok (.aload_n 0, 1) := by decide +kernel
theorem dL_law_544 : decode cL_law 544 = .ok (.iload_n 3, 1) := by decide +kernel
theorem dL_law_545 : decode cL_law 545 = .ok (.iconst 2, 1) := by decide +kernel
theorem dL_law_546 : decode cL_law 546 = .ok (.iadd, 1) := by decide +kernel
theorem dL_law_547 : decode cL_law 547 = .ok (.iaload, 1) := by decide +kernel
theorem dL_law_548 : decode cL_law 548 = .ok (.invokevirtual 63, 3) := by decide +kernel
theorem dL_law_551 : decode cL_law 551 = .ok (.aload_n 2, 1) := by decide +kernel
theorem dL_law_552 : decode cL_law 552 = .ok (.aload_n 0, 1) := by decide +kernel
theorem dL_law_553 : decode cL_law 553 = .ok (.iload_n 3, 1) := by decide +kernel
theorem dL_law_554 : decode cL_law 554 = .ok (.iconst 1, 1) := by decide +kernel
theorem dL_law_555 : decode cL_law 555 = .ok (.iadd, 1) := by decide +kernel
theorem dL_law_556 : decode cL_law 556 = .ok (.iaload, 1) := by decide +kernel
theorem dL_law_557 : decode cL_law 557 = .ok (.aload_n 0, 1) := by decide +kernel
theorem dL_law_558 : decode cL_law 558 = .ok (.iload_n 3, 1) := by decide +kernel
theorem dL_law_559 : decode cL_law 559 = .ok (.iconst 2, 1) := by decide +kernel
theorem dL_law_560 : decode cL_law 560 = .ok (.iadd, 1) := by decide +kernel
theorem dL_law_561 : decode cL_law 561 = .ok (.iaload, 1) := by decide +kernel
theorem dL_law_562 : decode cL_law 562 = .ok (.invokevirtual 66, 3) := by decide +kernel
theorem dL_law_565 : decode cL_law 565 = .ok (.if_icmp .eq 521, 3) := by decide +kernel
theorem dL_law_568 : decode cL_law 568 = .ok (.iconst 0, 1) := by decide +kernel
theorem dL_law_569 : decode cL_law 569 = .ok (.ireturn, 1) := by decide +kernel
theorem dL_law_570 : decode cL_law 570 = .ok (.aload_n 1, 1) := by decide +kernel
theorem dL_law_571 : decode cL_law 571 = .ok (.aload_n 0, 1) := by decide +kernel
theorem dL_law_572 : decode cL_law 572 = .ok (.iload_n 3, 1) := by decide +kernel
theorem dL_law_573 : decode cL_law 573 = .ok (.iconst 1, 1) := by decide +kernel
theorem dL_law_574 : decode cL_law 574 = .ok (.iadd, 1) := by decide +kernel
theorem dL_law_575 : decode cL_law 575 = .ok (.iaload, 1) := by decide +kernel
theorem dL_law_576 : decode cL_law 576 = .ok (.aload_n 0, 1) := by decide +kernel
theorem dL_law_577 : decode cL_law 577 = .ok (.iload_n 3, 1) := by decide +kernel
theorem dL_law_578 : decode cL_law 578 = .ok (.iconst 2, 1) := by decide +kernel
theorem dL_law_579 : decode cL_law 579 = .ok (.iadd, 1) := by decide +kernel
theorem dL_law_580 : decode cL_law 580 = .ok (.iaload, 1) := by decide +kernel
theorem dL_law_581 : decode cL_law 581 = .ok (.invokevirtual 67, 3) := by decide +kernel
theorem dL_law_584 : decode cL_law 584 = .ok (.aload_n 2, 1) := by decide +kernel
theorem dL_law_585 : decode cL_law 585 = .ok (.aload_n 0, 1) := by decide +kernel
theorem dL_law_586 : decode cL_law 586 = .ok (.iload_n 3, 1) := by decide +kernel
theorem dL_law_587 : decode cL_law 587 = .ok (.iconst 1, 1) := by decide +kernel
theorem dL_law_588 : decode cL_law 588 = .ok (.iadd, 1) := by decide +kernel
theorem dL_law_589 : decode cL_law 589 = .ok (.iaload, 1) := by decide +kernel
theorem dL_law_590 : decode cL_law 590 = .ok (.aload_n 0, 1) := by decide +kernel
theorem dL_law_591 : decode cL_law 591 = .ok (.iload_n 3, 1) := by decide +kernel
theorem dL_law_592 : decode cL_law 592 = .ok (.iconst 2, 1) := by decide +kernel
theorem dL_law_593 : decode cL_law 593 = .ok (.iadd, 1) := by decide +kernel
theorem dL_law_594 : decode cL_law 594 = .ok (.iaload, 1) := by decide +kernel
theorem dL_law_595 : decode cL_law 595 = .ok (.invokevirtual 70, 3) := by decide +kernel
theorem dL_law_598 : decode cL_law 598 = .ok (.if_icmp .eq 488, 3) := by decide +kernel
theorem dL_law_601 : decode cL_law 601 = .ok (.iconst 0, 1) := by decide +kernel
theorem dL_law_602 : decode cL_law 602 = .ok (.ireturn, 1) := by decide +kernel
theorem dL_law_603 : decode cL_law 603 = .ok (.aload_n 1, 1) := by decide +kernel
theorem dL_law_604 : decode cL_law 604 = .ok (.aload_n 0, 1) := by decide +kernel
theorem dL_law_605 : decode cL_law 605 = .ok (.iload_n 3, 1) := by decide +kernel
theorem dL_law_606 : decode cL_law 606 = .ok (.iconst 1, 1) := by decide +kernel
theorem dL_law_607 : decode cL_law 607 = .ok (.iadd, 1) := by decide +kernel
theorem dL_law_608 : decode cL_law 608 = .ok (.iaload, 1) := by decide +kernel
theorem dL_law_609 : decode cL_law 609 = .ok (.invokevirtual 71, 3) := by decide +kernel
theorem dL_law_612 : decode cL_law 612 = .ok (.aload_n 2, 1) := by decide +kernel
theorem dL_law_613 : decode cL_law 613 = .ok (.aload_n 0, 1) := by decide +kernel
theorem dL_law_614 : decode cL_law 614 = .ok (.iload_n 3, 1) := by decide +kernel
theorem dL_law_615 : decode cL_law 615 = .ok (.iconst 1, 1) := by decide +kernel
theorem dL_law_616 : decode cL_law 616 = .ok (.iadd, 1) := by decide +kernel
theorem dL_law_617 : decode cL_law 617 = .ok (.iaload, 1) := by decide +kernel
theorem dL_law_618 : decode cL_law 618 = .ok (.invokevirtual 74, 3) := by decide +kernel
theorem dL_law_621 : decode cL_law 621 = .ok (.if_icmp .eq 465, 3) := by decide +kernel
theorem dL_law_624 : decode cL_law 624 = .ok (.iconst 0, 1) := by decide +kernel
theorem dL_law_625 : decode cL_law 625 = .ok (.ireturn, 1) := by decide +kernel
theorem dL_law_626 : decode cL_law 626 = .ok (.aload_n 1, 1) := by decide +kernel
theorem dL_law_627 : decode cL_law 627 = .ok (.aload_n 0, 1) := by decide +kernel
theorem dL_law_628 : decode cL_law 628 = .ok (.iload_n 3, 1) := by decide +kernel
theorem dL_law_629 : decode cL_law 629 = .ok (.iconst 1, 1) := by decide +kernel
theorem dL_law_630 : decode cL_law 630 = .ok (.iadd, 1) := by decide +kernel
theorem dL_law_631 : decode cL_law 631 = .ok (.iaload, 1) := by decide +kernel
theorem dL_law_632 : decode cL_law 632 = .ok (.aload_n 0, 1) := by decide +kernel
theorem dL_law_633 : decode cL_law 633 = .ok (.iload_n 3, 1) := by decide +kernel
theorem dL_law_634 : decode cL_law 634 = .ok (.iconst 2, 1) := by decide +kernel
theorem dL_law_635 : decode cL_law 635 = .ok (.iadd, 1) := by decide +kernel
theorem dL_law_636 : decode cL_law 636 = .ok (.iaload, 1) := by decide +kernel
theorem dL_law_637 : decode cL_law 637 = .ok (.aload_n 0, 1) := by decide +kernel
theorem dL_law_638 : decode cL_law 638 = .ok (.iload_n 3, 1) := by decide +kernel
theorem dL_law_639 : decode cL_law 639 = .ok (.iconst 3, 1) := by decide +kernel
theorem dL_law_640 : decode cL_law 640 = .ok (.iadd, 1) := by decide +kernel
theorem dL_law_641 : decode cL_law 641 = .ok (.iaload, 1) := by decide +kernel
theorem dL_law_642 : decode cL_law 642 = .ok (.invokevirtual 75, 3) := by decide +kernel
theorem dL_law_645 : decode cL_law 645 = .ok (.aload_n 2, 1) := by decide +kernel
theorem dL_law_646 : decode cL_law 646 = .ok (.aload_n 0, 1) := by decide +kernel
theorem dL_law_647 : decode cL_law 647 = .ok (.iload_n 3, 1) := by decide +kernel
theorem dL_law_648 : decode cL_law 648 = .ok (.iconst 1, 1) := by decide +kernel
theorem dL_law_649 : decode cL_law 649 = .ok (.iadd, 1) := by decide +kernel
theorem dL_law_650 : decode cL_law 650 = .ok (.iaload, 1) := by decide +kernel
theorem dL_law_651 : decode cL_law 651 = .ok (.aload_n 0, 1) := by decide +kernel
theorem dL_law_652 : decode cL_law 652 = .ok (.iload_n 3, 1) := by decide +kernel
theorem dL_law_653 : decode cL_law 653 = .ok (.iconst 2, 1) := by decide +kernel
theorem dL_law_654 : decode cL_law 654 = .ok (.iadd, 1) := by decide +kernel
theorem dL_law_655 : decode cL_law 655 = .ok (.iaload, 1) := by decide +kernel
theorem dL_law_656 : decode cL_law 656 = .ok (.aload_n 0, 1) := by decide +kernel
theorem dL_law_657 : decode cL_law 657 = .ok (.iload_n 3, 1) := by decide +kernel
theorem dL_law_658 : decode cL_law 658 = .ok (.iconst 3, 1) := by decide +kernel
theorem dL_law_659 : decode cL_law 659 = .ok (.iadd, 1) := by decide +kernel
theorem dL_law_660 : decode cL_law 660 = .ok (.iaload, 1) := by decide +kernel
theorem dL_law_661 : decode cL_law 661 = .ok (.invokevirtual 78, 3) := by decide +kernel
theorem dL_law_664 : decode cL_law 664 = .ok (.if_icmp .eq 422, 3) := by decide +kernel
theorem dL_law_667 : decode cL_law 667 = .ok (.iconst 0, 1) := by decide +kernel
theorem dL_law_668 : decode cL_law 668 = .ok (.ireturn, 1) := by decide +kernel
theorem dL_law_669 : decode cL_law 669 = .ok (.aload_n 1, 1) := by decide +kernel
theorem dL_law_670 : decode cL_law 670 = .ok (.aload_n 0, 1) := by decide +kernel
theorem dL_law_671 : decode cL_law 671 = .ok (.iload_n 3, 1) := by decide +kernel
theorem dL_law_672 : decode cL_law 672 = .ok (.iconst 1, 1) := by decide +kernel
theorem dL_law_673 : decode cL_law 673 = .ok (.iadd, 1) := by decide +kernel
theorem dL_law_674 : decode cL_law 674 = .ok (.iaload, 1) := by decide +kernel
theorem dL_law_675 : decode cL_law 675 = .ok (.invokevirtual 79, 3) := by decide +kernel
theorem dL_law_678 : decode cL_law 678 = .ok (.aload_n 2, 1) := by decide +kernel
theorem dL_law_679 : decode cL_law 679 = .ok (.aload_n 0, 1) := by decide +kernel
theorem dL_law_680 : decode cL_law 680 = .ok (.iload_n 3, 1) := by decide +kernel
theorem dL_law_681 : decode cL_law 681 = .ok (.iconst 1, 1) := by decide +kernel
theorem dL_law_682 : decode cL_law 682 = .ok (.iadd, 1) := by decide +kernel
theorem dL_law_683 : decode cL_law 683 = .ok (.iaload, 1) := by decide +kernel
theorem dL_law_684 : decode cL_law 684 = .ok (.invokevirtual 82, 3) := by decide +kernel
theorem dL_law_687 : decode cL_law 687 = .ok (.if_icmp .eq 399, 3) := by decide +kernel
theorem dL_law_690 : decode cL_law 690 = .ok (.iconst 0, 1) := by decide +kernel
theorem dL_law_691 : decode cL_law 691 = .ok (.ireturn, 1) := by decide +kernel
theorem dL_law_692 : decode cL_law 692 = .ok (.aload_n 1, 1) := by decide +kernel
theorem dL_law_693 : decode cL_law 693 = .ok (.aload_n 0, 1) := by decide +kernel
theorem dL_law_694 : decode cL_law 694 = .ok (.iload_n 3, 1) := by decide +kernel
theorem dL_law_695 : decode cL_law 695 = .ok (.iconst 1, 1) := by decide +kernel
theorem dL_law_696 : decode cL_law 696 = .ok (.iadd, 1) := by decide +kernel
theorem dL_law_697 : decode cL_law 697 = .ok (.iaload, 1) := by decide +kernel
theorem dL_law_698 : decode cL_law 698 = .ok (.invokevirtual 83, 3) := by decide +kernel
theorem dL_law_701 : decode cL_law 701 = .ok (.aload_n 2, 1) := by decide +kernel
theorem dL_law_702 : decode cL_law 702 = .ok (.aload_n 0, 1) := by decide +kernel
theorem dL_law_703 : decode cL_law 703 = .ok (.iload_n 3, 1) := by decide +kernel
theorem dL_law_704 : decode cL_law 704 = .ok (.iconst 1, 1) := by decide +kernel
theorem dL_law_705 : decode cL_law 705 = .ok (.iadd, 1) := by decide +kernel
theorem dL_law_706 : decode cL_law 706 = .ok (.iaload, 1) := by decide +kernel
theorem dL_law_707 : decode cL_law 707 = .ok (.invokevirtual 86, 3) := by decide +kernel
theorem dL_law_710 : decode cL_law 710 = .ok (.if_icmp .eq 376, 3) := by decide +kernel
theorem dL_law_713 : decode cL_law 713 = .ok (.iconst 0, 1) := by decide +kernel
theorem dL_law_714 : decode cL_law 714 = .ok (.ireturn, 1) := by decide +kernel
theorem dL_law_715 : decode cL_law 715 = .ok (.aload_n 1, 1) := by decide +kernel
theorem dL_law_716 : decode cL_law 716 = .ok (.aload_n 0, 1) := by decide +kernel
theorem dL_law_717 : decode cL_law 717 = .ok (.iload_n 3, 1) := by decide +kernel
theorem dL_law_718 : decode cL_law 718 = .ok (.iconst 1, 1) := by decide +kernel
theorem dL_law_719 : decode cL_law 719 = .ok (.iadd, 1) := by decide +kernel
theorem dL_law_720 : decode cL_law 720 = .ok (.iaload, 1) := by decide +kernel
theorem dL_law_721 : decode cL_law 721 = .ok (.aload_n 0, 1) := by decide +kernel
theorem dL_law_722 : decode cL_law 722 = .ok (.iload_n 3, 1) := by decide +kernel
theorem dL_law_723 : decode cL_law 723 = .ok (.iconst 2, 1) := by decide +kernel
theorem dL_law_724 : decode cL_law 724 = .ok (.iadd, 1) := by decide +kernel
theorem dL_law_725 : decode cL_law 725 = .ok (.iaload, 1) := by decide +kernel
theorem dL_law_726 : decode cL_law 726 = .ok (.invokevirtual 87, 3) := by decide +kernel
theorem dL_law_729 : decode cL_law 729 = .ok (.aload_n 2, 1) := by decide +kernel
theorem dL_law_730 : decode cL_law 730 = .ok (.aload_n 0, 1) := by decide +kernel
theorem dL_law_731 : decode cL_law 731 = .ok (.iload_n 3, 1) := by decide +kernel
theorem dL_law_732 : decode cL_law 732 = .ok (.iconst 1, 1) := by decide +kernel
theorem dL_law_733 : decode cL_law 733 = .ok (.iadd, 1) := by decide +kernel
theorem dL_law_734 : decode cL_law 734 = .ok (.iaload, 1) := by decide +kernel
theorem dL_law_735 : decode cL_law 735 = .ok (.aload_n 0, 1) := by decide +kernel
theorem dL_law_736 : decode cL_law 736 = .ok (.iload_n 3, 1) := by decide +kernel
theorem dL_law_737 : decode cL_law 737 = .ok (.iconst 2, 1) := by decide +kernel
theorem dL_law_738 : decode cL_law 738 = .ok (.iadd, 1) := by decide +kernel
theorem dL_law_739 : decode cL_law 739 = .ok (.iaload, 1) := by decide +kernel
theorem dL_law_740 : decode cL_law 740 = .ok (.invokevirtual 90, 3) := by decide +kernel
theorem dL_law_743 : decode cL_law 743 = .ok (.if_icmp .eq 343, 3) := by decide +kernel
theorem dL_law_746 : decode cL_law 746 = .ok (.iconst 0, 1) := by decide +kernel
theorem dL_law_747 : decode cL_law 747 = .ok (.ireturn, 1) := by decide +kernel
theorem dL_law_748 : decode cL_law 748 = .ok (.aload_n 1, 1) := by decide +kernel
theorem dL_law_749 : decode cL_law 749 = .ok (.aload_n 0, 1) := by decide +kernel
theorem dL_law_750 : decode cL_law 750 = .ok (.iload_n 3, 1) := by decide +kernel
theorem dL_law_751 : decode cL_law 751 = .ok (.iconst 1, 1) := by decide +kernel
theorem dL_law_752 : decode cL_law 752 = .ok (.iadd, 1) := by decide +kernel
theorem dL_law_753 : decode cL_law 753 = .ok (.iaload, 1) := by decide +kernel
theorem dL_law_754 : decode cL_law 754 = .ok (.aload_n 0, 1) := by decide +kernel
theorem dL_law_755 : decode cL_law 755 = .ok (.iload_n 3, 1) := by decide +kernel
theorem dL_law_756 : decode cL_law 756 = .ok (.iconst 2, 1) := by decide +kernel
theorem dL_law_757 : decode cL_law 757 = .ok (.iadd, 1) := by decide +kernel
theorem dL_law_758 : decode cL_law 758 = .ok (.iaload, 1) := by decide +kernel
theorem dL_law_759 : decode cL_law 759 = .ok (.aload_n 0, 1) := by decide +kernel
theorem dL_law_760 : decode cL_law 760 = .ok (.iload_n 3, 1) := by decide +kernel
theorem dL_law_761 : decode cL_law 761 = .ok (.iconst 3, 1) := by decide +kernel
theorem dL_law_762 : decode cL_law 762 = .ok (.iadd, 1) := by decide +kernel
theorem dL_law_763 : decode cL_law 763 = .ok (.iaload, 1) := by decide +kernel
theorem dL_law_764 : decode cL_law 764 = .ok (.aload_n 0, 1) := by decide +kernel
theorem dL_law_765 : decode cL_law 765 = .ok (.iload_n 3, 1) := by decide +kernel
theorem dL_law_766 : decode cL_law 766 = .ok (.iconst 4, 1) := by decide +kernel
theorem dL_law_767 : decode cL_law 767 = .ok (.iadd, 1) := by decide +kernel
theorem dL_law_768 : decode cL_law 768 = .ok (.iaload, 1) := by decide +kernel
theorem dL_law_769 : decode cL_law 769 = .ok (.aload_n 0, 1) := by decide +kernel
theorem dL_law_770 : decode cL_law 770 = .ok (.iload_n 3, 1) := by decide +kernel
theorem dL_law_771 : decode cL_law 771 = .ok (.iconst 5, 1) := by decide +kernel
theorem dL_law_772 : decode cL_law 772 = .ok (.iadd, 1) := by decide +kernel
theorem dL_law_773 : decode cL_law 773 = .ok (.iaload, 1) := by decide +kernel
theorem dL_law_774 : decode cL_law 774 = .ok (.invokevirtual 91, 3) := by decide +kernel
theorem dL_law_777 : decode cL_law 777 = .ok (.aload_n 2, 1) := by decide +kernel
theorem dL_law_778 : decode cL_law 778 = .ok (.aload_n 0, 1) := by decide +kernel
theorem dL_law_779 : decode cL_law 779 = .ok (.iload_n 3, 1) := by decide +kernel
theorem dL_law_780 : decode cL_law 780 = .ok (.iconst 1, 1) := by decide +kernel
theorem dL_law_781 : decode cL_law 781 = .ok (.iadd, 1) := by decide +kernel
theorem dL_law_782 : decode cL_law 782 = .ok (.iaload, 1) := by decide +kernel
theorem dL_law_783 : decode cL_law 783 = .ok (.aload_n 0, 1) := by decide +kernel
theorem dL_law_784 : decode cL_law 784 = .ok (.iload_n 3, 1) := by decide +kernel
theorem dL_law_785 : decode cL_law 785 = .ok (.iconst 2, 1) := by decide +kernel
theorem dL_law_786 : decode cL_law 786 = .ok (.iadd, 1) := by decide +kernel
theorem dL_law_787 : decode cL_law 787 = .ok (.iaload, 1) := by decide +kernel
theorem dL_law_788 : decode cL_law 788 = .ok (.aload_n 0, 1) := by decide +kernel
theorem dL_law_789 : decode cL_law 789 = .ok (.iload_n 3, 1) := by decide +kernel
theorem dL_law_790 : decode cL_law 790 = .ok (.iconst 3, 1) := by decide +kernel
theorem dL_law_791 : decode cL_law 791 = .ok (.iadd, 1) := by decide +kernel
theorem dL_law_792 : decode cL_law 792 = .ok (.iaload, 1) := by decide +kernel
theorem dL_law_793 : decode cL_law 793 = .ok (.aload_n 0, 1) := by decide +kernel
theorem dL_law_794 : decode cL_law 794 = .ok (.iload_n 3, 1) := by decide +kernel
theorem dL_law_795 : decode cL_law 795 = .ok (.iconst 4, 1) := by decide +kernel
theorem dL_law_796 : decode cL_law 796 = .ok (.iadd, 1) := by decide +kernel
theorem dL_law_797 : decode cL_law 797 = .ok (.iaload, 1) := by decide +kernel
theorem dL_law_798 : decode cL_law 798 = .ok (.aload_n 0, 1) := by decide +kernel
theorem dL_law_799 : decode cL_law 799 = .ok (.iload_n 3, 1) := by decide +kernel
theorem dL_law_800 : decode cL_law 800 = .ok (.iconst 5, 1) := by decide +kernel
theorem dL_law_801 : decode cL_law 801 = .ok (.iadd, 1) := by decide +kernel
theorem dL_law_802 : decode cL_law 802 = .ok (.iaload, 1) := by decide +kernel
theorem dL_law_803 : decode cL_law 803 = .ok (.invokevirtual 95, 3) := by decide +kernel
theorem dL_law_806 : decode cL_law 806 = .ok (.lcmp, 1) := by decide +kernel
theorem dL_law_807 : decode cL_law 807 = .ok (.ifCond .eq 279, 3) := by decide +kernel
theorem dL_law_810 : decode cL_law 810 = .ok (.iconst 0, 1) := by decide +kernel
theorem dL_law_811 : decode cL_law 811 = .ok (.ireturn, 1) := by decide +kernel
theorem dL_law_812 : decode cL_law 812 = .ok (.aload_n 1, 1) := by decide +kernel
theorem dL_law_813 : decode cL_law 813 = .ok (.aload_n 0, 1) := by decide +kernel
theorem dL_law_814 : decode cL_law 814 = .ok (.iload_n 3, 1) := by decide +kernel
theorem dL_law_815 : decode cL_law 815 = .ok (.iconst 1, 1) := by decide +kernel
theorem dL_law_816 : decode cL_law 816 = .ok (.iadd, 1) := by decide +kernel
theorem dL_law_817 : decode cL_law 817 = .ok (.iaload, 1) := by decide +kernel
theorem dL_law_818 : decode cL_law 818 = .ok (.invokevirtual 96, 3) := by decide +kernel
theorem dL_law_821 : decode cL_law 821 = .ok (.aload_n 2, 1) := by decide +kernel
theorem dL_law_822 : decode cL_law 822 = .ok (.aload_n 0, 1) := by decide +kernel
theorem dL_law_823 : decode cL_law 823 = .ok (.iload_n 3, 1) := by decide +kernel
theorem dL_law_824 : decode cL_law 824 = .ok (.iconst 1, 1) := by decide +kernel
theorem dL_law_825 : decode cL_law 825 = .ok (.iadd, 1) := by decide +kernel
theorem dL_law_826 : decode cL_law 826 = .ok (.iaload, 1) := by decide +kernel
theorem dL_law_827 : decode cL_law 827 = .ok (.invokevirtual 100, 3) := by decide +kernel
theorem dL_law_830 : decode cL_law 830 = .ok (.lcmp, 1) := by decide +kernel
theorem dL_law_831 : decode cL_law 831 = .ok (.ifCond .eq 255, 3) := by decide +kernel
theorem dL_law_834 : decode cL_law 834 = .ok (.iconst 0, 1) := by decide +kernel
theorem dL_law_835 : decode cL_law 835 = .ok (.ireturn, 1) := by decide +kernel
theorem dL_law_836 : decode cL_law 836 = .ok (.aload_n 1, 1) := by decide +kernel
theorem dL_law_837 : decode cL_law 837 = .ok (.aload_n 0, 1) := by decide +kernel
theorem dL_law_838 : decode cL_law 838 = .ok (.iload_n 3, 1) := by decide +kernel
theorem dL_law_839 : decode cL_law 839 = .ok (.iconst 1, 1) := by decide +kernel
theorem dL_law_840 : decode cL_law 840 = .ok (.iadd, 1) := by decide +kernel
theorem dL_law_841 : decode cL_law 841 = .ok (.iaload, 1) := by decide +kernel
theorem dL_law_842 : decode cL_law 842 = .ok (.aload_n 0, 1) := by decide +kernel
theorem dL_law_843 : decode cL_law 843 = .ok (.iload_n 3, 1) := by decide +kernel
theorem dL_law_844 : decode cL_law 844 = .ok (.iconst 2, 1) := by decide +kernel
theorem dL_law_845 : decode cL_law 845 = .ok (.iadd, 1) := by decide +kernel
theorem dL_law_846 : decode cL_law 846 = .ok (.iaload, 1) := by decide +kernel
theorem dL_law_847 : decode cL_law 847 = .ok (.invokevirtual 101, 3) := by decide +kernel
theorem dL_law_850 : decode cL_law 850 = .ok (.aload_n 2, 1) := by decide +kernel
theorem dL_law_851 : decode cL_law 851 = .ok (.aload_n 0, 1) := by decide +kernel
theorem dL_law_852 : decode cL_law 852 = .ok (.iload_n 3, 1) := by decide +kernel
theorem dL_law_853 : decode cL_law 853 = .ok (.iconst 1, 1) := by decide +kernel
theorem dL_law_854 : decode cL_law 854 = .ok (.iadd, 1) := by decide +kernel
theorem dL_law_855 : decode cL_law 855 = .ok (.iaload, 1) := by decide +kernel
theorem dL_law_856 : decode cL_law 856 = .ok (.aload_n 0, 1) := by decide +kernel
theorem dL_law_857 : decode cL_law 857 = .ok (.iload_n 3, 1) := by decide +kernel
theorem dL_law_858 : decode cL_law 858 = .ok (.iconst 2, 1) := by decide +kernel
theorem dL_law_859 : decode cL_law 859 = .ok (.iadd, 1) := by decide +kernel
theorem dL_law_860 : decode cL_law 860 = .ok (.iaload, 1) := by decide +kernel
theorem dL_law_861 : decode cL_law 861 = .ok (.invokevirtual 104, 3) := by decide +kernel
theorem dL_law_864 : decode cL_law 864 = .ok (.if_icmp .eq 222, 3) := by decide +kernel
theorem dL_law_867 : decode cL_law 867 = .ok (.iconst 0, 1) := by decide +kernel
theorem dL_law_868 : decode cL_law 868 = .ok (.ireturn, 1) := by decide +kernel
theorem dL_law_869 : decode cL_law 869 = .ok (.aload_n 1, 1) := by decide +kernel
theorem dL_law_870 : decode cL_law 870 = .ok (.aload_n 0, 1) := by decide +kernel
theorem dL_law_871 : decode cL_law 871 = .ok (.iload_n 3, 1) := by decide +kernel
theorem dL_law_872 : decode cL_law 872 = .ok (.iconst 1, 1) := by decide +kernel
theorem dL_law_873 : decode cL_law 873 = .ok (.iadd, 1) := by decide +kernel
theorem dL_law_874 : decode cL_law 874 = .ok (.iaload, 1) := by decide +kernel
theorem dL_law_875 : decode cL_law 875 = .ok (.invokevirtual 105, 3) := by decide +kernel
theorem dL_law_878 : decode cL_law 878 = .ok (.aload_n 2, 1) := by decide +kernel
theorem dL_law_879 : decode cL_law 879 = .ok (.aload_n 0, 1) := by decide +kernel
theorem dL_law_880 : decode cL_law 880 = .ok (.iload_n 3, 1) := by decide +kernel
theorem dL_law_881 : decode cL_law 881 = .ok (.iconst 1, 1) := by decide +kernel
theorem dL_law_882 : decode cL_law 882 = .ok (.iadd, 1) := by decide +kernel
theorem dL_law_883 : decode cL_law 883 = .ok (.iaload, 1) := by decide +kernel
theorem dL_law_884 : decode cL_law 884 = .ok (.invokevirtual 108, 3) := by decide +kernel
theorem dL_law_887 : decode cL_law 887 = .ok (.if_icmp .eq 199, 3) := by decide +kernel
theorem dL_law_890 : decode cL_law 890 = .ok (.iconst 0, 1) := by decide +kernel
theorem dL_law_891 : decode cL_law 891 = .ok (.ireturn, 1) := by decide +kernel
theorem dL_law_892 : decode cL_law 892 = .ok (.aload_n 1, 1) := by decide +kernel
theorem dL_law_893 : decode cL_law 893 = .ok (.aload_n 0, 1) := by decide +kernel
theorem dL_law_894 : decode cL_law 894 = .ok (.iload_n 3, 1) := by decide +kernel
theorem dL_law_895 : decode cL_law 895 = .ok (.iconst 1, 1) := by decide +kernel
theorem dL_law_896 : decode cL_law 896 = .ok (.iadd, 1) := by decide +kernel
theorem dL_law_897 : decode cL_law 897 = .ok (.iaload, 1) := by decide +kernel
theorem dL_law_898 : decode cL_law 898 = .ok (.aload_n 0, 1) := by decide +kernel
theorem dL_law_899 : decode cL_law 899 = .ok (.iload_n 3, 1) := by decide +kernel
theorem dL_law_900 : decode cL_law 900 = .ok (.iconst 2, 1) := by decide +kernel
theorem dL_law_901 : decode cL_law 901 = .ok (.iadd, 1) := by decide +kernel
theorem dL_law_902 : decode cL_law 902 = .ok (.iaload, 1) := by decide +kernel
theorem dL_law_903 : decode cL_law 903 = .ok (.invokevirtual 109, 3) := by decide +kernel
theorem dL_law_906 : decode cL_law 906 = .ok (.aload_n 2, 1) := by decide +kernel
theorem dL_law_907 : decode cL_law 907 = .ok (.aload_n 0, 1) := by decide +kernel
theorem dL_law_908 : decode cL_law 908 = .ok (.iload_n 3, 1) := by decide +kernel
theorem dL_law_909 : decode cL_law 909 = .ok (.iconst 1, 1) := by decide +kernel
theorem dL_law_910 : decode cL_law 910 = .ok (.iadd, 1) := by decide +kernel
theorem dL_law_911 : decode cL_law 911 = .ok (.iaload, 1) := by decide +kernel
theorem dL_law_912 : decode cL_law 912 = .ok (.aload_n 0, 1) := by decide +kernel
theorem dL_law_913 : decode cL_law 913 = .ok (.iload_n 3, 1) := by decide +kernel
theorem dL_law_914 : decode cL_law 914 = .ok (.iconst 2, 1) := by decide +kernel
theorem dL_law_915 : decode cL_law 915 = .ok (.iadd, 1) := by decide +kernel
theorem dL_law_916 : decode cL_law 916 = .ok (.iaload, 1) := by decide +kernel
theorem dL_law_917 : decode cL_law 917 = .ok (.invokevirtual 112, 3) := by decide +kernel
theorem dL_law_920 : decode cL_law 920 = .ok (.if_icmp .eq 166, 3) := by decide +kernel
theorem dL_law_923 : decode cL_law 923 = .ok (.iconst 0, 1) := by decide +kernel
theorem dL_law_924 : decode cL_law 924 = .ok (.ireturn, 1) := by decide +kernel
theorem dL_law_925 : decode cL_law 925 = .ok (.aload_n 1, 1) := by decide +kernel
theorem dL_law_926 : decode cL_law 926 = .ok (.invokevirtual 113, 3) := by decide +kernel
theorem dL_law_929 : decode cL_law 929 = .ok (.aload_n 2, 1) := by decide +kernel
theorem dL_law_930 : decode cL_law 930 = .ok (.invokevirtual 116, 3) := by decide +kernel
theorem dL_law_933 : decode cL_law 933 = .ok (.if_icmp .eq 153, 3) := by decide +kernel
theorem dL_law_936 : decode cL_law 936 = .ok (.iconst 0, 1) := by decide +kernel
theorem dL_law_937 : decode cL_law 937 = .ok (.ireturn, 1) := by decide +kernel
theorem dL_law_938 : decode cL_law 938 = .ok (.aload_n 1, 1) := by decide +kernel
theorem dL_law_939 : decode cL_law 939 = .ok (.aload_n 0, 1) := by decide +kernel
theorem dL_law_940 : decode cL_law 940 = .ok (.iload_n 3, 1) := by decide +kernel
theorem dL_law_941 : decode cL_law 941 = .ok (.iconst 1, 1) := by decide +kernel
theorem dL_law_942 : decode cL_law 942 = .ok (.iadd, 1) := by decide +kernel
theorem dL_law_943 : decode cL_law 943 = .ok (.iaload, 1) := by decide +kernel
theorem dL_law_944 : decode cL_law 944 = .ok (.aload_n 0, 1) := by decide +kernel
theorem dL_law_945 : decode cL_law 945 = .ok (.iload_n 3, 1) := by decide +kernel
theorem dL_law_946 : decode cL_law 946 = .ok (.iconst 2, 1) := by decide +kernel
theorem dL_law_947 : decode cL_law 947 = .ok (.iadd, 1) := by decide +kernel
theorem dL_law_948 : decode cL_law 948 = .ok (.iaload, 1) := by decide +kernel
theorem dL_law_949 : decode cL_law 949 = .ok (.aload_n 0, 1) := by decide +kernel
theorem dL_law_950 : decode cL_law 950 = .ok (.iload_n 3, 1) := by decide +kernel
theorem dL_law_951 : decode cL_law 951 = .ok (.iconst 3, 1) := by decide +kernel
theorem dL_law_952 : decode cL_law 952 = .ok (.iadd, 1) := by decide +kernel
theorem dL_law_953 : decode cL_law 953 = .ok (.iaload, 1) := by decide +kernel
theorem dL_law_954 : decode cL_law 954 = .ok (.invokevirtual 117, 3) := by decide +kernel
theorem dL_law_957 : decode cL_law 957 = .ok (.aload_n 2, 1) := by decide +kernel
theorem dL_law_958 : decode cL_law 958 = .ok (.aload_n 0, 1) := by decide +kernel
theorem dL_law_959 : decode cL_law 959 = .ok (.iload_n 3, 1) := by decide +kernel
theorem dL_law_960 : decode cL_law 960 = .ok (.iconst 1, 1) := by decide +kernel
theorem dL_law_961 : decode cL_law 961 = .ok (.iadd, 1) := by decide +kernel
theorem dL_law_962 : decode cL_law 962 = .ok (.iaload, 1) := by decide +kernel
theorem dL_law_963 : decode cL_law 963 = .ok (.aload_n 0, 1) := by decide +kernel
theorem dL_law_964 : decode cL_law 964 = .ok (.iload_n 3, 1) := by decide +kernel
theorem dL_law_965 : decode cL_law 965 = .ok (.iconst 2, 1) := by decide +kernel
theorem dL_law_966 : decode cL_law 966 = .ok (.iadd, 1) := by decide +kernel
theorem dL_law_967 : decode cL_law 967 = .ok (.iaload, 1) := by decide +kernel
theorem dL_law_968 : decode cL_law 968 = .ok (.aload_n 0, 1) := by decide +kernel
theorem dL_law_969 : decode cL_law 969 = .ok (.iload_n 3, 1) := by decide +kernel
theorem dL_law_970 : decode cL_law 970 = .ok (.iconst 3, 1) := by decide +kernel
theorem dL_law_971 : decode cL_law 971 = .ok (.iadd, 1) := by decide +kernel
theorem dL_law_972 : decode cL_law 972 = .ok (.iaload, 1) := by decide +kernel
theorem dL_law_973 : decode cL_law 973 = .ok (.invokevirtual 120, 3) := by decide +kernel
theorem dL_law_976 : decode cL_law 976 = .ok (.if_icmp .eq 110, 3) := by decide +kernel
theorem dL_law_979 : decode cL_law 979 = .ok (.iconst 0, 1) := by decide +kernel
theorem dL_law_980 : decode cL_law 980 = .ok (.ireturn, 1) := by decide +kernel
theorem dL_law_981 : decode cL_law 981 = .ok (.aload_n 1, 1) := by decide +kernel
theorem dL_law_982 : decode cL_law 982 = .ok (.aload_n 0, 1) := by decide +kernel
theorem dL_law_983 : decode cL_law 983 = .ok (.iload_n 3, 1) := by decide +kernel
theorem dL_law_984 : decode cL_law 984 = .ok (.iconst 1, 1) := by decide +kernel
theorem dL_law_985 : decode cL_law 985 = .ok (.iadd, 1) := by decide +kernel
theorem dL_law_986 : decode cL_law 986 = .ok (.iaload, 1) := by decide +kernel
theorem dL_law_987 : decode cL_law 987 = .ok (.invokevirtual 121, 3) := by decide +kernel
theorem dL_law_990 : decode cL_law 990 = .ok (.aload_n 2, 1) := by decide +kernel
theorem dL_law_991 : decode cL_law 991 = .ok (.aload_n 0, 1) := by decide +kernel
theorem dL_law_992 : decode cL_law 992 = .ok (.iload_n 3, 1) := by decide +kernel
theorem dL_law_993 : decode cL_law 993 = .ok (.iconst 1, 1) := by decide +kernel
theorem dL_law_994 : decode cL_law 994 = .ok (.iadd, 1) := by decide +kernel
theorem dL_law_995 : decode cL_law 995 = .ok (.iaload, 1) := by decide +kernel
theorem dL_law_996 : decode cL_law 996 = .ok (.invokevirtual 124, 3) := by decide +kernel
theorem dL_law_999 : decode cL_law 999 = .ok (.if_icmp .eq 87, 3) := by decide +kernel
theorem dL_law_1002 : decode cL_law 1002 = .ok (.iconst 0, 1) := by decide +kernel
theorem dL_law_1003 : decode cL_law 1003 = .ok (.ireturn, 1) := by decide +kernel
theorem dL_law_1004 : decode cL_law 1004 = .ok (.aload_n 1, 1) := by decide +kernel
theorem dL_law_1005 : decode cL_law 1005 = .ok (.aload_n 0, 1) := by decide +kernel
theorem dL_law_1006 : decode cL_law 1006 = .ok (.iload_n 3, 1) := by decide +kernel
theorem dL_law_1007 : decode cL_law 1007 = .ok (.iconst 1, 1) := by decide +kernel
theorem dL_law_1008 : decode cL_law 1008 = .ok (.iadd, 1) := by decide +kernel
theorem dL_law_1009 : decode cL_law 1009 = .ok (.iaload, 1) := by decide +kernel
theorem dL_law_1010 : decode cL_law 1010 = .ok (.aload_n 0, 1) := by decide +kernel
theorem dL_law_1011 : decode cL_law 1011 = .ok (.iload_n 3, 1) := by decide +kernel
theorem dL_law_1012 : decode cL_law 1012 = .ok (.iconst 2, 1) := by decide +kernel
theorem dL_law_1013 : decode cL_law 1013 = .ok (.iadd, 1) := by decide +kernel
theorem dL_law_1014 : decode cL_law 1014 = .ok (.iaload, 1) := by decide +kernel
theorem dL_law_1015 : decode cL_law 1015 = .ok (.invokevirtual 125, 3) := by decide +kernel
theorem dL_law_1018 : decode cL_law 1018 = .ok (.aload_n 2, 1) := by decide +kernel
theorem dL_law_1019 : decode cL_law 1019 = .ok (.aload_n 0, 1) := by decide +kernel
theorem dL_law_1020 : decode cL_law 1020 = .ok (.iload_n 3, 1) := by decide +kernel
theorem dL_law_1021 : decode cL_law 1021 = .ok (.iconst 1, 1) := by decide +kernel
theorem dL_law_1022 : decode cL_law 1022 = .ok (.iadd, 1) := by decide +kernel
theorem dL_law_1023 : decode cL_law 1023 = .ok (.iaload, 1) := by decide +kernel
theorem dL_law_1024 : decode cL_law 1024 = .ok (.aload_n 0, 1) := by decide +kernel
theorem dL_law_1025 : decode cL_law 1025 = .ok (.iload_n 3, 1) := by decide +kernel
theorem dL_law_1026 : decode cL_law 1026 = .ok (.iconst 2, 1) := by decide +kernel
theorem dL_law_1027 : decode cL_law 1027 = .ok (.iadd, 1) := by decide +kernel
theorem dL_law_1028 : decode cL_law 1028 = .ok (.iaload, 1) := by decide +kernel
theorem dL_law_1029 : decode cL_law 1029 = .ok (.invokevirtual 128, 3) := by decide +kernel
theorem dL_law_1032 : decode cL_law 1032 = .ok (.if_icmp .eq 54, 3) := by decide +kernel
theorem dL_law_1035 : decode cL_law 1035 = .ok (.iconst 0, 1) := by decide +kernel
theorem dL_law_1036 : decode cL_law 1036 = .ok (.ireturn, 1) := by decide +kernel
theorem dL_law_1037 : decode cL_law 1037 = .ok (.aload_n 1, 1) := by decide +kernel
theorem dL_law_1038 : decode cL_law 1038 = .ok (.invokevirtual 129, 3) := by decide +kernel
theorem dL_law_1041 : decode cL_law 1041 = .ok (.aload_n 2, 1) := by decide +kernel
theorem dL_law_1042 : decode cL_law 1042 = .ok (.invokevirtual 132, 3) := by decide +kernel
theorem dL_law_1045 : decode cL_law 1045 = .ok (.if_icmp .eq 41, 3) := by decide +kernel
theorem dL_law_1048 : decode cL_law 1048 = .ok (.iconst 0, 1) := by decide +kernel
theorem dL_law_1049 : decode cL_law 1049 = .ok (.ireturn, 1) := by decide +kernel
theorem dL_law_1050 : decode cL_law 1050 = .ok (.aload_n 1, 1) := by decide +kernel
theorem dL_law_1051 : decode cL_law 1051 = .ok (.invokevirtual 133, 3) := by decide +kernel
theorem dL_law_1054 : decode cL_law 1054 = .ok (.aload_n 2, 1) := by decide +kernel
theorem dL_law_1055 : decode cL_law 1055 = .ok (.invokevirtual 136, 3) := by decide +kernel
theorem dL_law_1058 : decode cL_law 1058 = .ok (.if_icmp .eq 28, 3) := by decide +kernel
theorem dL_law_1061 : decode cL_law 1061 = .ok (.iconst 0, 1) := by decide +kernel
theorem dL_law_1062 : decode cL_law 1062 = .ok (.ireturn, 1) := by decide +kernel
theorem dL_law_1063 : decode cL_law 1063 = .ok (.aload_n 1, 1) := by decide +kernel
theorem dL_law_1064 : decode cL_law 1064 = .ok (.aload_n 0, 1) := by decide +kernel
theorem dL_law_1065 : decode cL_law 1065 = .ok (.iload_n 3, 1) := by decide +kernel
theorem dL_law_1066 : decode cL_law 1066 = .ok (.iconst 1, 1) := by decide +kernel
theorem dL_law_1067 : decode cL_law 1067 = .ok (.iadd, 1) := by decide +kernel
theorem dL_law_1068 : decode cL_law 1068 = .ok (.iaload, 1) := by decide +kernel
theorem dL_law_1069 : decode cL_law 1069 = .ok (.invokevirtual 137, 3) := by decide +kernel
theorem dL_law_1072 : decode cL_law 1072 = .ok (.aload_n 2, 1) := by decide +kernel
theorem dL_law_1073 : decode cL_law 1073 = .ok (.aload_n 0, 1) := by decide +kernel
theorem dL_law_1074 : decode cL_law 1074 = .ok (.iload_n 3, 1) := by decide +kernel
theorem dL_law_1075 : decode cL_law 1075 = .ok (.iconst 1, 1) := by decide +kernel
theorem dL_law_1076 : decode cL_law 1076 = .ok (.iadd, 1) := by decide +kernel
theorem dL_law_1077 : decode cL_law 1077 = .ok (.iaload, 1) := by decide +kernel
theorem dL_law_1078 : decode cL_law 1078 = .ok (.invokevirtual 140, 3) := by decide +kernel
theorem dL_law_1081 : decode cL_law 1081 = .ok (.if_icmp .eq 5, 3) := by decide +kernel
theorem dL_law_1084 : decode cL_law 1084 = .ok (.iconst 0, 1) := by decide +kernel
theorem dL_law_1085 : decode cL_law 1085 = .ok (.ireturn, 1) := by decide +kernel
theorem dL_law_1086 : decode cL_law 1086 = .ok (.iinc 3 6, 3) := by decide +kernel
theorem dL_law_1089 : decode cL_law 1089 = .ok (.goto (-1071), 3) := by decide +kernel
theorem dL_law_1092 : decode cL_law 1092 = .ok (.iconst 1, 1) := by decide +kernel
theorem dL_law_1093 : decode cL_law 1093 = .ok (.ireturn, 1) := by decide +kernel
